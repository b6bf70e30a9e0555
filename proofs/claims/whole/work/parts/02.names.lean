/-! ===== BEGIN printed: names, fields, word lists, decode rows ===== -/
def RX0 : String := "FileRules$Body"
def TX0 : u_T := fun k => match k with
  | 0 => ("FileRules$Body", "attribute", "I", false)
  | 1 => ("FileRules$Body", "stack", "I", false)
  | 2 => ("FileRules$Body", "locals", "I", false)
  | 3 => ("FileRules$Body", "parameters", "I", false)
  | 4 => ("FileRules$Body", "start", "I", false)
  | 5 => ("FileRules$Body", "length", "I", false)
  | 6 => ("FileRules$Body", "catches", "I", false)
  | 7 => ("FileRules$Body", "catchCount", "I", false)
  | 8 => ("FileRules$Body", "firstRow", "I", false)
  | _ => ("FileRules$Body", "rowCount", "I", false)
def tyX0 : Nat → FieldType := fun k => match k with
  | 0 => .int
  | 1 => .int
  | 2 => .int
  | 3 => .int
  | 4 => .int
  | 5 => .int
  | 6 => .int
  | 7 => .int
  | 8 => .int
  | _ => .int
abbrev wsX00 : List Cond := u_ws RX0 TX0 10
theorem nmX0 : ∀ a, a < 10 → ∀ b, b < 10 → a ≠ b → (TX0 a).2.1 ≠ (TX0 b).2.1 := by decide +kernel
theorem tyX0_ok : ∀ k, k < 10 → parseFieldDescriptor (TX0 k).2.2.1 = some (tyX0 k) := by decide +kernel
abbrev cX0_init : ByteArray := prog_2_method_1_code
def yX0_init : MethodName := ⟨RX0, "<init>", "()V"⟩
def RX1 : String := "FileRules$Bytes"
def TX1 : u_T := fun k => match k with
  | 0 => ("FileRules$Bytes", "row", "[B", true)
  | _ => ("FileRules$Bytes", "count", "I", false)
def tyX1 : Nat → FieldType := fun k => match k with
  | 0 => .array .byte
  | _ => .int
abbrev wsX10 : List Cond := u_ws RX1 TX1 2
theorem nmX1 : ∀ a, a < 2 → ∀ b, b < 2 → a ≠ b → (TX1 a).2.1 ≠ (TX1 b).2.1 := by decide +kernel
theorem tyX1_ok : ∀ k, k < 2 → parseFieldDescriptor (TX1 k).2.2.1 = some (tyX1 k) := by decide +kernel
abbrev cX1_init : ByteArray := prog_3_method_1_code
def yX1_init : MethodName := ⟨RX1, "<init>", "(I)V"⟩
abbrev cX1_append : ByteArray := prog_3_method_2_code
def yX1_append : MethodName := ⟨RX1, "append", "(I)V"⟩
abbrev cX1_u1 : ByteArray := prog_3_method_3_code
def yX1_u1 : MethodName := ⟨RX1, "u1", "(I)I"⟩
abbrev cX1_s1 : ByteArray := prog_3_method_4_code
def yX1_s1 : MethodName := ⟨RX1, "s1", "(I)I"⟩
abbrev cX1_u2 : ByteArray := prog_3_method_5_code
def yX1_u2 : MethodName := ⟨RX1, "u2", "(I)I"⟩
abbrev cX1_s2 : ByteArray := prog_3_method_6_code
def yX1_s2 : MethodName := ⟨RX1, "s2", "(I)I"⟩
abbrev cX1_s4 : ByteArray := prog_3_method_7_code
def yX1_s4 : MethodName := ⟨RX1, "s4", "(I)I"⟩
def RX2 : String := "FileRules$Image"
def TX2 : u_T := fun k => match k with
  | 0 => ("FileRules$Image", "bytes", "LFileRules$Bytes;", true)
  | 1 => ("FileRules$Image", "pool", "LFileRules$Pool;", true)
  | 2 => ("FileRules$Image", "fields", "[I", true)
  | 3 => ("FileRules$Image", "methods", "[I", true)
  | 4 => ("FileRules$Image", "bodies", "[LFileRules$Body;", true)
  | 5 => ("FileRules$Image", "instructions", "[I", true)
  | 6 => ("FileRules$Image", "fieldCount", "I", false)
  | 7 => ("FileRules$Image", "methodCount", "I", false)
  | 8 => ("FileRules$Image", "classPlace", "I", false)
  | 9 => ("FileRules$Image", "attributes", "I", false)
  | _ => ("FileRules$Image", "last", "I", false)
def tyX2 : Nat → FieldType := fun k => match k with
  | 0 => .object "FileRules$Bytes"
  | 1 => .object "FileRules$Pool"
  | 2 => .array .int
  | 3 => .array .int
  | 4 => .array (.object "FileRules$Body")
  | 5 => .array .int
  | 6 => .int
  | 7 => .int
  | 8 => .int
  | 9 => .int
  | _ => .int
abbrev wsX20 : List Cond := u_ws RX2 TX2 11
theorem nmX2 : ∀ a, a < 11 → ∀ b, b < 11 → a ≠ b → (TX2 a).2.1 ≠ (TX2 b).2.1 := by decide +kernel
theorem tyX2_ok : ∀ k, k < 11 → parseFieldDescriptor (TX2 k).2.2.1 = some (tyX2 k) := by decide +kernel
abbrev cX2_init : ByteArray := prog_4_method_1_code
def yX2_init : MethodName := ⟨RX2, "<init>", "()V"⟩
abbrev cX2_nameOf : ByteArray := prog_4_method_2_code
def yX2_nameOf : MethodName := ⟨RX2, "nameOf", "(I)I"⟩
abbrev cX2_typeOf : ByteArray := prog_4_method_3_code
def yX2_typeOf : MethodName := ⟨RX2, "typeOf", "(I)I"⟩
abbrev cX2_bodyOf : ByteArray := prog_4_method_4_code
def yX2_bodyOf : MethodName := ⟨RX2, "bodyOf", "(I)LFileRules$Body;"⟩
abbrev cX2_instructionPlace : ByteArray := prog_4_method_5_code
def yX2_instructionPlace : MethodName := ⟨RX2, "instructionPlace", "(II)I"⟩
abbrev cX2_numberAt : ByteArray := prog_4_method_6_code
def yX2_numberAt : MethodName := ⟨RX2, "numberAt", "(LFileRules$Body;I)I"⟩
def RX3 : String := "FileRules$Instructions"
def TX3 : u_T := fun k => match k with
  | _ => ("", "", "", false)
def tyX3 : Nat → FieldType := fun k => match k with
  | _ => .int
abbrev wsX30 : List Cond := u_ws RX3 TX3 0
theorem nmX3 : ∀ a, a < 0 → ∀ b, b < 0 → a ≠ b → (TX3 a).2.1 ≠ (TX3 b).2.1 := by decide +kernel
theorem tyX3_ok : ∀ k, k < 0 → parseFieldDescriptor (TX3 k).2.2.1 = some (tyX3 k) := by decide +kernel
abbrev cX3_lengthAt : ByteArray := prog_5_method_2_code
def yX3_lengthAt : MethodName := ⟨RX3, "lengthAt", "(LFileRules$Bytes;II)I"⟩
abbrev cX3_wideLength : ByteArray := prog_5_method_3_code
def yX3_wideLength : MethodName := ⟨RX3, "wideLength", "(I)I"⟩
abbrev cX3_tableLength : ByteArray := prog_5_method_4_code
def yX3_tableLength : MethodName := ⟨RX3, "tableLength", "(LFileRules$Bytes;II)I"⟩
abbrev cX3_lookupLength : ByteArray := prog_5_method_5_code
def yX3_lookupLength : MethodName := ⟨RX3, "lookupLength", "(LFileRules$Bytes;II)I"⟩
abbrev cX3_switchHead : ByteArray := prog_5_method_6_code
def yX3_switchHead : MethodName := ⟨RX3, "switchHead", "(II)I"⟩
abbrev cX3_targetCount : ByteArray := prog_5_method_7_code
def yX3_targetCount : MethodName := ⟨RX3, "targetCount", "(LFileRules$Bytes;II)I"⟩
abbrev cX3_targetPlace : ByteArray := prog_5_method_8_code
def yX3_targetPlace : MethodName := ⟨RX3, "targetPlace", "(LFileRules$Bytes;III)I"⟩
abbrev cX3_jumpPlace : ByteArray := prog_5_method_9_code
def yX3_jumpPlace : MethodName := ⟨RX3, "jumpPlace", "(LFileRules$Bytes;I)I"⟩
abbrev cX3_kindAt : ByteArray := prog_5_method_10_code
def yX3_kindAt : MethodName := ⟨RX3, "kindAt", "(LFileRules$Bytes;I)I"⟩
abbrev cX3_localAt : ByteArray := prog_5_method_11_code
def yX3_localAt : MethodName := ⟨RX3, "localAt", "(LFileRules$Bytes;I)I"⟩
abbrev cX3_entryAt : ByteArray := prog_5_method_12_code
def yX3_entryAt : MethodName := ⟨RX3, "entryAt", "(LFileRules$Bytes;I)I"⟩
abbrev cX3_isLocal : ByteArray := prog_5_method_13_code
def yX3_isLocal : MethodName := ⟨RX3, "isLocal", "(I)Z"⟩
abbrev cX3_isLongLocal : ByteArray := prog_5_method_14_code
def yX3_isLongLocal : MethodName := ⟨RX3, "isLongLocal", "(I)Z"⟩
abbrev cX3_isJump : ByteArray := prog_5_method_15_code
def yX3_isJump : MethodName := ⟨RX3, "isJump", "(I)Z"⟩
abbrev cX3_isSwitch : ByteArray := prog_5_method_16_code
def yX3_isSwitch : MethodName := ⟨RX3, "isSwitch", "(I)Z"⟩
abbrev cX3_isField : ByteArray := prog_5_method_17_code
def yX3_isField : MethodName := ⟨RX3, "isField", "(I)Z"⟩
def RX4 : String := "FileRules$Layout"
def TX4 : u_T := fun k => match k with
  | _ => ("", "", "", false)
def tyX4 : Nat → FieldType := fun k => match k with
  | _ => .int
abbrev wsX40 : List Cond := u_ws RX4 TX4 0
theorem nmX4 : ∀ a, a < 0 → ∀ b, b < 0 → a ≠ b → (TX4 a).2.1 ≠ (TX4 b).2.1 := by decide +kernel
theorem tyX4_ok : ∀ k, k < 0 → parseFieldDescriptor (TX4 k).2.2.1 = some (tyX4 k) := by decide +kernel
abbrev cX4_keeps : ByteArray := prog_6_method_2_code
def yX4_keeps : MethodName := ⟨RX4, "keeps", "(LFileRules$Image;LFileRules$Verdict;)Z"⟩
abbrev cX4_behindHead : ByteArray := prog_6_method_3_code
def yX4_behindHead : MethodName := ⟨RX4, "behindHead", "(LFileRules$Stretch;)I"⟩
abbrev cX4_behindPool : ByteArray := prog_6_method_4_code
def yX4_behindPool : MethodName := ⟨RX4, "behindPool", "(LFileRules$Stretch;LFileRules$Pool;I)I"⟩
abbrev cX4_behindEntry : ByteArray := prog_6_method_5_code
def yX4_behindEntry : MethodName := ⟨RX4, "behindEntry", "(LFileRules$Stretch;I)I"⟩
abbrev cX4_entryLength : ByteArray := prog_6_method_6_code
def yX4_entryLength : MethodName := ⟨RX4, "entryLength", "(I)I"⟩
abbrev cX4_behindName : ByteArray := prog_6_method_7_code
def yX4_behindName : MethodName := ⟨RX4, "behindName", "(LFileRules$Stretch;I)I"⟩
abbrev cX4_behindMembers : ByteArray := prog_6_method_8_code
def yX4_behindMembers : MethodName := ⟨RX4, "behindMembers", "(LFileRules$Stretch;[II)I"⟩
abbrev cX4_keepsInBodies : ByteArray := prog_6_method_9_code
def yX4_keepsInBodies : MethodName := ⟨RX4, "keepsInBodies", "(LFileRules$Image;LFileRules$Verdict;)Z"⟩
abbrev cX4_keepsInBody : ByteArray := prog_6_method_10_code
def yX4_keepsInBody : MethodName := ⟨RX4, "keepsInBody", "(LFileRules$Body;LFileRules$Stretch;I)Z"⟩
abbrev cX4_behindCode : ByteArray := prog_6_method_11_code
def yX4_behindCode : MethodName := ⟨RX4, "behindCode", "(LFileRules$Body;LFileRules$Stretch;I)I"⟩
abbrev cX4_behindCatches : ByteArray := prog_6_method_12_code
def yX4_behindCatches : MethodName := ⟨RX4, "behindCatches", "(LFileRules$Body;LFileRules$Stretch;I)I"⟩
def RX5 : String := "FileRules$Links"
def TX5 : u_T := fun k => match k with
  | _ => ("", "", "", false)
def tyX5 : Nat → FieldType := fun k => match k with
  | _ => .int
abbrev wsX50 : List Cond := u_ws RX5 TX5 0
theorem nmX5 : ∀ a, a < 0 → ∀ b, b < 0 → a ≠ b → (TX5 a).2.1 ≠ (TX5 b).2.1 := by decide +kernel
theorem tyX5_ok : ∀ k, k < 0 → parseFieldDescriptor (TX5 k).2.2.1 = some (tyX5 k) := by decide +kernel
abbrev cX5_wrongInstruction : ByteArray := prog_7_method_2_code
def yX5_wrongInstruction : MethodName := ⟨RX5, "wrongInstruction", "(LFileRules$Image;)I"⟩
abbrev cX5_cutIntoRows : ByteArray := prog_7_method_3_code
def yX5_cutIntoRows : MethodName := ⟨RX5, "cutIntoRows", "(LFileRules$Image;LFileRules$Body;)I"⟩
abbrev cX5_wrongLink : ByteArray := prog_7_method_4_code
def yX5_wrongLink : MethodName := ⟨RX5, "wrongLink", "(LFileRules$Image;)I"⟩
abbrev cX5_findMembers : ByteArray := prog_7_method_5_code
def yX5_findMembers : MethodName := ⟨RX5, "findMembers", "(LFileRules$Image;)V"⟩
abbrev cX5_findMember : ByteArray := prog_7_method_6_code
def yX5_findMember : MethodName := ⟨RX5, "findMember", "(LFileRules$Image;II[II)I"⟩
abbrev cX5_wrongInstructionLink : ByteArray := prog_7_method_7_code
def yX5_wrongInstructionLink : MethodName := ⟨RX5, "wrongInstructionLink", "(LFileRules$Image;LFileRules$Body;)I"⟩
abbrev cX5_pointsWell : ByteArray := prog_7_method_8_code
def yX5_pointsWell : MethodName := ⟨RX5, "pointsWell", "(LFileRules$Image;LFileRules$Body;I)Z"⟩
abbrev cX5_targetsPointWell : ByteArray := prog_7_method_9_code
def yX5_targetsPointWell : MethodName := ⟨RX5, "targetsPointWell", "(LFileRules$Image;LFileRules$Body;I)Z"⟩
abbrev cX5_wrongCatch : ByteArray := prog_7_method_10_code
def yX5_wrongCatch : MethodName := ⟨RX5, "wrongCatch", "(LFileRules$Image;LFileRules$Body;)I"⟩
abbrev cX5_catchPointsWell : ByteArray := prog_7_method_11_code
def yX5_catchPointsWell : MethodName := ⟨RX5, "catchPointsWell", "(LFileRules$Image;LFileRules$Body;I)Z"⟩
abbrev cX5_isError : ByteArray := prog_7_method_12_code
def yX5_isError : MethodName := ⟨RX5, "isError", "(LFileRules$Pool;I)Z"⟩
abbrev cX5_firstNumber : ByteArray := prog_7_method_13_code
def yX5_firstNumber : MethodName := ⟨RX5, "firstNumber", "(LFileRules$Image;LFileRules$Body;I)I"⟩
abbrev cX5_pushedInt : ByteArray := prog_7_method_14_code
def yX5_pushedInt : MethodName := ⟨RX5, "pushedInt", "(LFileRules$Image;I)I"⟩
abbrev cX5_pushedLongLow : ByteArray := prog_7_method_15_code
def yX5_pushedLongLow : MethodName := ⟨RX5, "pushedLongLow", "(LFileRules$Image;I)I"⟩
def RX6 : String := "FileRules$Names"
def TX6 : u_T := fun k => match k with
  | _ => ("", "", "", false)
def tyX6 : Nat → FieldType := fun k => match k with
  | _ => .int
abbrev wsX60 : List Cond := u_ws RX6 TX6 0
theorem nmX6 : ∀ a, a < 0 → ∀ b, b < 0 → a ≠ b → (TX6 a).2.1 ≠ (TX6 b).2.1 := by decide +kernel
theorem tyX6_ok : ∀ k, k < 0 → parseFieldDescriptor (TX6 k).2.2.1 = some (tyX6 k) := by decide +kernel
abbrev cX6_wrongEntry : ByteArray := prog_8_method_2_code
def yX6_wrongEntry : MethodName := ⟨RX6, "wrongEntry", "(LFileRules$Pool;)I"⟩
abbrev cX6_pointsToItsSorts : ByteArray := prog_8_method_3_code
def yX6_pointsToItsSorts : MethodName := ⟨RX6, "pointsToItsSorts", "(LFileRules$Pool;I)Z"⟩
abbrev cX6_wrongFlags : ByteArray := prog_8_method_4_code
def yX6_wrongFlags : MethodName := ⟨RX6, "wrongFlags", "(LFileRules$Image;)I"⟩
abbrev cX6_wrongMemberFlags : ByteArray := prog_8_method_5_code
def yX6_wrongMemberFlags : MethodName := ⟨RX6, "wrongMemberFlags", "(LFileRules$Bytes;[II)I"⟩
abbrev cX6_wrongClass : ByteArray := prog_8_method_6_code
def yX6_wrongClass : MethodName := ⟨RX6, "wrongClass", "(LFileRules$Image;)I"⟩
abbrev cX6_wrongName : ByteArray := prog_8_method_7_code
def yX6_wrongName : MethodName := ⟨RX6, "wrongName", "(LFileRules$Image;)I"⟩
abbrev cX6_wrongMemberName : ByteArray := prog_8_method_8_code
def yX6_wrongMemberName : MethodName := ⟨RX6, "wrongMemberName", "(LFileRules$Image;[II)I"⟩
abbrev cX6_wrongAttributeName : ByteArray := prog_8_method_9_code
def yX6_wrongAttributeName : MethodName := ⟨RX6, "wrongAttributeName", "(LFileRules$Image;I)I"⟩
abbrev cX6_wrongType : ByteArray := prog_8_method_10_code
def yX6_wrongType : MethodName := ⟨RX6, "wrongType", "(LFileRules$Image;)I"⟩
abbrev cX6_pairSuits : ByteArray := prog_8_method_11_code
def yX6_pairSuits : MethodName := ⟨RX6, "pairSuits", "(LFileRules$Pool;I)Z"⟩
abbrev cX6_repeatedName : ByteArray := prog_8_method_12_code
def yX6_repeatedName : MethodName := ⟨RX6, "repeatedName", "(LFileRules$Image;)I"⟩
abbrev cX6_repeatedMemberName : ByteArray := prog_8_method_13_code
def yX6_repeatedMemberName : MethodName := ⟨RX6, "repeatedMemberName", "(LFileRules$Image;[II)I"⟩
abbrev cX6_wrongCode : ByteArray := prog_8_method_14_code
def yX6_wrongCode : MethodName := ⟨RX6, "wrongCode", "(LFileRules$Image;)I"⟩
abbrev cX6_findsOneCode : ByteArray := prog_8_method_15_code
def yX6_findsOneCode : MethodName := ⟨RX6, "findsOneCode", "(LFileRules$Image;LFileRules$Body;I)Z"⟩
def RX7 : String := "FileRules$Pool"
def TX7 : u_T := fun k => match k with
  | 0 => ("FileRules$Pool", "bytes", "LFileRules$Bytes;", true)
  | 1 => ("FileRules$Pool", "places", "[I", true)
  | 2 => ("FileRules$Pool", "sorts", "[I", true)
  | 3 => ("FileRules$Pool", "lengths", "[I", true)
  | 4 => ("FileRules$Pool", "types", "[I", true)
  | 5 => ("FileRules$Pool", "results", "[I", true)
  | 6 => ("FileRules$Pool", "parameters", "[I", true)
  | 7 => ("FileRules$Pool", "members", "[I", true)
  | _ => ("FileRules$Pool", "count", "I", false)
def tyX7 : Nat → FieldType := fun k => match k with
  | 0 => .object "FileRules$Bytes"
  | 1 => .array .int
  | 2 => .array .int
  | 3 => .array .int
  | 4 => .array .int
  | 5 => .array .int
  | 6 => .array .int
  | 7 => .array .int
  | _ => .int
abbrev wsX70 : List Cond := u_ws RX7 TX7 9
theorem nmX7 : ∀ a, a < 9 → ∀ b, b < 9 → a ≠ b → (TX7 a).2.1 ≠ (TX7 b).2.1 := by decide +kernel
theorem tyX7_ok : ∀ k, k < 9 → parseFieldDescriptor (TX7 k).2.2.1 = some (tyX7 k) := by decide +kernel
abbrev cX7_init : ByteArray := prog_9_method_1_code
def yX7_init : MethodName := ⟨RX7, "<init>", "(LFileRules$Bytes;)V"⟩
abbrev cX7_clear : ByteArray := prog_9_method_2_code
def yX7_clear : MethodName := ⟨RX7, "clear", "(I)V"⟩
abbrev cX7_add : ByteArray := prog_9_method_3_code
def yX7_add : MethodName := ⟨RX7, "add", "(II)V"⟩
abbrev cX7_is : ByteArray := prog_9_method_4_code
def yX7_is : MethodName := ⟨RX7, "is", "(II)Z"⟩
abbrev cX7_part : ByteArray := prog_9_method_5_code
def yX7_part : MethodName := ⟨RX7, "part", "(II)I"⟩
abbrev cX7_same : ByteArray := prog_9_method_6_code
def yX7_same : MethodName := ⟨RX7, "same", "(II)Z"⟩
abbrev cX7_says : ByteArray := prog_9_method_7_code
def yX7_says : MethodName := ⟨RX7, "says", "(ILjava/lang/String;)Z"⟩
def RX8 : String := "FileRules$Stretch"
def TX8 : u_T := fun k => match k with
  | 0 => ("FileRules$Stretch", "bytes", "LFileRules$Bytes;", true)
  | 1 => ("FileRules$Stretch", "verdict", "LFileRules$Verdict;", true)
  | 2 => ("FileRules$Stretch", "end", "I", true)
  | _ => ("FileRules$Stretch", "ruleBeyond", "I", true)
def tyX8 : Nat → FieldType := fun k => match k with
  | 0 => .object "FileRules$Bytes"
  | 1 => .object "FileRules$Verdict"
  | 2 => .int
  | _ => .int
abbrev wsX80 : List Cond := u_ws RX8 TX8 4
theorem nmX8 : ∀ a, a < 4 → ∀ b, b < 4 → a ≠ b → (TX8 a).2.1 ≠ (TX8 b).2.1 := by decide +kernel
theorem tyX8_ok : ∀ k, k < 4 → parseFieldDescriptor (TX8 k).2.2.1 = some (tyX8 k) := by decide +kernel
abbrev cX8_init : ByteArray := prog_10_method_1_code
def yX8_init : MethodName := ⟨RX8, "<init>", "(LFileRules$Bytes;LFileRules$Verdict;II)V"⟩
abbrev cX8_behind : ByteArray := prog_10_method_2_code
def yX8_behind : MethodName := ⟨RX8, "behind", "(II)I"⟩
abbrev cX8_behindU2 : ByteArray := prog_10_method_3_code
def yX8_behindU2 : MethodName := ⟨RX8, "behindU2", "(IIII)I"⟩
abbrev cX8_behindAttributes : ByteArray := prog_10_method_4_code
def yX8_behindAttributes : MethodName := ⟨RX8, "behindAttributes", "(I)I"⟩
def RX9 : String := "FileRules$Types"
def TX9 : u_T := fun k => match k with
  | _ => ("", "", "", false)
def tyX9 : Nat → FieldType := fun k => match k with
  | _ => .int
abbrev wsX90 : List Cond := u_ws RX9 TX9 0
theorem nmX9 : ∀ a, a < 0 → ∀ b, b < 0 → a ≠ b → (TX9 a).2.1 ≠ (TX9 b).2.1 := by decide +kernel
theorem tyX9_ok : ∀ k, k < 0 → parseFieldDescriptor (TX9 k).2.2.1 = some (tyX9 k) := by decide +kernel
abbrev cX9_learn : ByteArray := prog_11_method_2_code
def yX9_learn : MethodName := ⟨RX9, "learn", "(LFileRules$Pool;)V"⟩
abbrev cX9_learnMethod : ByteArray := prog_11_method_3_code
def yX9_learnMethod : MethodName := ⟨RX9, "learnMethod", "(LFileRules$Pool;III)V"⟩
abbrev cX9_wholeFrom : ByteArray := prog_11_method_4_code
def yX9_wholeFrom : MethodName := ⟨RX9, "wholeFrom", "(LFileRules$Bytes;II)I"⟩
abbrev cX9_kindAt : ByteArray := prog_11_method_5_code
def yX9_kindAt : MethodName := ⟨RX9, "kindAt", "(LFileRules$Bytes;II)I"⟩
abbrev cX9_lettersOf : ByteArray := prog_11_method_6_code
def yX9_lettersOf : MethodName := ⟨RX9, "lettersOf", "(I)I"⟩
def RX10 : String := "FileRules$Verdict"
def TX10 : u_T := fun k => match k with
  | 0 => ("FileRules$Verdict", "rule", "I", false)
  | _ => ("FileRules$Verdict", "place", "I", false)
def tyX10 : Nat → FieldType := fun k => match k with
  | 0 => .int
  | _ => .int
abbrev wsX100 : List Cond := u_ws RX10 TX10 2
theorem nmX10 : ∀ a, a < 2 → ∀ b, b < 2 → a ≠ b → (TX10 a).2.1 ≠ (TX10 b).2.1 := by decide +kernel
theorem tyX10_ok : ∀ k, k < 2 → parseFieldDescriptor (TX10 k).2.2.1 = some (tyX10 k) := by decide +kernel
abbrev cX10_init : ByteArray := prog_12_method_1_code
def yX10_init : MethodName := ⟨RX10, "<init>", "()V"⟩
abbrev cX10_clear : ByteArray := prog_12_method_2_code
def yX10_clear : MethodName := ⟨RX10, "clear", "()V"⟩
abbrev cX10_broken : ByteArray := prog_12_method_3_code
def yX10_broken : MethodName := ⟨RX10, "broken", "(II)I"⟩
abbrev cX10_keeps : ByteArray := prog_12_method_4_code
def yX10_keeps : MethodName := ⟨RX10, "keeps", "(II)Z"⟩
def RX11 : String := "FileRules"
def TX11 : u_T := fun k => match k with
  | 0 => ("FileRules", "verdict", "LFileRules$Verdict;", true)
  | 1 => ("FileRules", "tray", "LFileRules$Image;", false)
  | 2 => ("FileRules", "latest", "LFileRules$Image;", false)
  | 3 => ("FileRules", "known", "Z", false)
  | _ => ("FileRules", "fed", "I", false)
def tyX11 : Nat → FieldType := fun k => match k with
  | 0 => .object "FileRules$Verdict"
  | 1 => .object "FileRules$Image"
  | 2 => .object "FileRules$Image"
  | 3 => .boolean
  | _ => .int
abbrev wsX110 : List Cond := u_ws RX11 TX11 5
theorem nmX11 : ∀ a, a < 5 → ∀ b, b < 5 → a ≠ b → (TX11 a).2.1 ≠ (TX11 b).2.1 := by decide +kernel
theorem tyX11_ok : ∀ k, k < 5 → parseFieldDescriptor (TX11 k).2.2.1 = some (tyX11 k) := by decide +kernel
abbrev cX11_init : ByteArray := prog_1_method_1_code
def yX11_init : MethodName := ⟨RX11, "<init>", "()V"⟩
abbrev cX11_feed : ByteArray := prog_1_method_2_code
def yX11_feed : MethodName := ⟨RX11, "feed", "(IIIII)I"⟩
abbrev cX11_end : ByteArray := prog_1_method_3_code
def yX11_end : MethodName := ⟨RX11, "end", "(I)Z"⟩
abbrev cX11_read : ByteArray := prog_1_method_4_code
def yX11_read : MethodName := ⟨RX11, "read", "()I"⟩
abbrev cX11_place : ByteArray := prog_1_method_5_code
def yX11_place : MethodName := ⟨RX11, "place", "()I"⟩
abbrev cX11_size : ByteArray := prog_1_method_6_code
def yX11_size : MethodName := ⟨RX11, "size", "(I)I"⟩
abbrev cX11_field : ByteArray := prog_1_method_7_code
def yX11_field : MethodName := ⟨RX11, "field", "(I)I"⟩
abbrev cX11_method : ByteArray := prog_1_method_8_code
def yX11_method : MethodName := ⟨RX11, "method", "(II)I"⟩
abbrev cX11_code : ByteArray := prog_1_method_9_code
def yX11_code : MethodName := ⟨RX11, "code", "(II)I"⟩
abbrev cX11_first : ByteArray := prog_1_method_10_code
def yX11_first : MethodName := ⟨RX11, "first", "(II)I"⟩
abbrev cX11_target : ByteArray := prog_1_method_11_code
def yX11_target : MethodName := ⟨RX11, "target", "(III)I"⟩
abbrev cX11_keepsAllRules : ByteArray := prog_1_method_12_code
def yX11_keepsAllRules : MethodName := ⟨RX11, "keepsAllRules", "(LFileRules$Image;)Z"⟩
abbrev cX11_keepsNameRules : ByteArray := prog_1_method_13_code
def yX11_keepsNameRules : MethodName := ⟨RX11, "keepsNameRules", "(LFileRules$Image;)Z"⟩
abbrev cX11_at : ByteArray := prog_1_method_14_code
def yX11_at : MethodName := ⟨RX11, "at", "([II)I"⟩
abbrev cX11_put : ByteArray := prog_1_method_15_code
def yX11_put : MethodName := ⟨RX11, "put", "([III)V"⟩
def RX12 : String := "FileRulesModel"
def TX12 : u_T := fun k => match k with
  | 0 => ("FileRulesModel", "tray", "[B", true)
  | 1 => ("FileRulesModel", "trayed", "I", false)
  | 2 => ("FileRulesModel", "fed", "I", false)
  | 3 => ("FileRulesModel", "stop", "Ljava/lang/IllegalStateException;", true)
  | 4 => ("FileRulesModel", "brokenRule", "I", false)
  | 5 => ("FileRulesModel", "brokenPlace", "I", false)
  | 6 => ("FileRulesModel", "toldPlace", "I", false)
  | 7 => ("FileRulesModel", "src", "[B", false)
  | 8 => ("FileRulesModel", "srcSize", "I", false)
  | 9 => ("FileRulesModel", "next", "I", false)
  | 10 => ("FileRulesModel", "poolCount", "I", false)
  | 11 => ("FileRulesModel", "tags", "[I", true)
  | 12 => ("FileRulesModel", "tagPlaces", "[I", true)
  | 13 => ("FileRulesModel", "firstOf", "[I", true)
  | 14 => ("FileRulesModel", "secondOf", "[I", true)
  | 15 => ("FileRulesModel", "worthOf", "[J", true)
  | 16 => ("FileRulesModel", "classAt", "I", false)
  | 17 => ("FileRulesModel", "memberCount", "I", false)
  | 18 => ("FileRulesModel", "fieldCount", "I", false)
  | 19 => ("FileRulesModel", "methodsAt", "I", false)
  | 20 => ("FileRulesModel", "memberAt", "[I", true)
  | 21 => ("FileRulesModel", "attributes", "I", false)
  | 22 => ("FileRulesModel", "attributeAt", "[I", true)
  | 23 => ("FileRulesModel", "attributeOwner", "[I", true)
  | 24 => ("FileRulesModel", "behind", "I", false)
  | 25 => ("FileRulesModel", "stackOf", "[I", true)
  | 26 => ("FileRulesModel", "localsOf", "[I", true)
  | 27 => ("FileRulesModel", "codeAts", "[I", true)
  | 28 => ("FileRulesModel", "codeSizes", "[I", true)
  | 29 => ("FileRulesModel", "catchAts", "[I", true)
  | 30 => ("FileRulesModel", "catchesOf", "[I", true)
  | 31 => ("FileRulesModel", "codeEnd", "I", false)
  | 32 => ("FileRulesModel", "codeAt", "I", false)
  | 33 => ("FileRulesModel", "codeSize", "I", false)
  | 34 => ("FileRulesModel", "numberAt", "[I", true)
  | 35 => ("FileRulesModel", "instructions", "I", false)
  | 36 => ("FileRulesModel", "newRows", "[I", true)
  | 37 => ("FileRulesModel", "newCount", "I", false)
  | 38 => ("FileRulesModel", "newTables", "[I", true)
  | 39 => ("FileRulesModel", "newTableSize", "I", false)
  | 40 => ("FileRulesModel", "newFirsts", "[I", true)
  | 41 => ("FileRulesModel", "newLengths", "[I", true)
  | 42 => ("FileRulesModel", "mostLocals", "I", false)
  | 43 => ("FileRulesModel", "isThere", "Z", false)
  | 44 => ("FileRulesModel", "fields", "I", false)
  | 45 => ("FileRulesModel", "methods", "I", false)
  | 46 => ("FileRulesModel", "pool", "I", false)
  | 47 => ("FileRulesModel", "fieldTypes", "[I", true)
  | 48 => ("FileRulesModel", "heads", "[I", true)
  | 49 => ("FileRulesModel", "firsts", "[I", true)
  | 50 => ("FileRulesModel", "rows", "[I", true)
  | _ => ("FileRulesModel", "tables", "[I", true)
def tyX12 : Nat → FieldType := fun k => match k with
  | 0 => .array .byte
  | 1 => .int
  | 2 => .int
  | 3 => .object "java/lang/IllegalStateException"
  | 4 => .int
  | 5 => .int
  | 6 => .int
  | 7 => .array .byte
  | 8 => .int
  | 9 => .int
  | 10 => .int
  | 11 => .array .int
  | 12 => .array .int
  | 13 => .array .int
  | 14 => .array .int
  | 15 => .array .long
  | 16 => .int
  | 17 => .int
  | 18 => .int
  | 19 => .int
  | 20 => .array .int
  | 21 => .int
  | 22 => .array .int
  | 23 => .array .int
  | 24 => .int
  | 25 => .array .int
  | 26 => .array .int
  | 27 => .array .int
  | 28 => .array .int
  | 29 => .array .int
  | 30 => .array .int
  | 31 => .int
  | 32 => .int
  | 33 => .int
  | 34 => .array .int
  | 35 => .int
  | 36 => .array .int
  | 37 => .int
  | 38 => .array .int
  | 39 => .int
  | 40 => .array .int
  | 41 => .array .int
  | 42 => .int
  | 43 => .boolean
  | 44 => .int
  | 45 => .int
  | 46 => .int
  | 47 => .array .int
  | 48 => .array .int
  | 49 => .array .int
  | 50 => .array .int
  | _ => .array .int
abbrev wsX120 : List Cond := u_ws RX12 TX12 52
theorem nmX12 : ∀ a, a < 52 → ∀ b, b < 52 → a ≠ b → (TX12 a).2.1 ≠ (TX12 b).2.1 := by decide +kernel
theorem tyX12_ok : ∀ k, k < 52 → parseFieldDescriptor (TX12 k).2.2.1 = some (tyX12 k) := by decide +kernel
abbrev cX12_init : ByteArray := prog_14_method_1_code
def yX12_init : MethodName := ⟨RX12, "<init>", "()V"⟩
abbrev cX12_feed : ByteArray := prog_14_method_3_code
def yX12_feed : MethodName := ⟨RX12, "feed", "(IIIII)I"⟩
abbrev cX12_word : ByteArray := prog_14_method_4_code
def yX12_word : MethodName := ⟨RX12, "word", "(I)V"⟩
abbrev cX12_end : ByteArray := prog_14_method_5_code
def yX12_end : MethodName := ⟨RX12, "end", "(I)Z"⟩
abbrev cX12_broken : ByteArray := prog_14_method_6_code
def yX12_broken : MethodName := ⟨RX12, "broken", "(II)Ljava/lang/IllegalStateException;"⟩
abbrev cX12_must : ByteArray := prog_14_method_7_code
def yX12_must : MethodName := ⟨RX12, "must", "(ZII)V"⟩
abbrev cX12_place : ByteArray := prog_14_method_8_code
def yX12_place : MethodName := ⟨RX12, "place", "()I"⟩
abbrev cX12_octet : ByteArray := prog_14_method_9_code
def yX12_octet : MethodName := ⟨RX12, "octet", "(I)I"⟩
abbrev cX12_two : ByteArray := prog_14_method_10_code
def yX12_two : MethodName := ⟨RX12, "two", "(I)I"⟩
abbrev cX12_four : ByteArray := prog_14_method_11_code
def yX12_four : MethodName := ⟨RX12, "four", "(I)I"⟩
abbrev cX12_over : ByteArray := prog_14_method_12_code
def yX12_over : MethodName := ⟨RX12, "over", "(J)I"⟩
abbrev cX12_headByte : ByteArray := prog_14_method_13_code
def yX12_headByte : MethodName := ⟨RX12, "headByte", "(I)I"⟩
abbrev cX12_layout : ByteArray := prog_14_method_14_code
def yX12_layout : MethodName := ⟨RX12, "layout", "()V"⟩
abbrev cX12_entry : ByteArray := prog_14_method_15_code
def yX12_entry : MethodName := ⟨RX12, "entry", "(I)V"⟩
abbrev cX12_nameEntry : ByteArray := prog_14_method_16_code
def yX12_nameEntry : MethodName := ⟨RX12, "nameEntry", "(II)V"⟩
abbrev cX12_members : ByteArray := prog_14_method_17_code
def yX12_members : MethodName := ⟨RX12, "members", "()V"⟩
abbrev cX12_attributesOf : ByteArray := prog_14_method_18_code
def yX12_attributesOf : MethodName := ⟨RX12, "attributesOf", "(I)V"⟩
abbrev cX12_isEntry : ByteArray := prog_14_method_19_code
def yX12_isEntry : MethodName := ⟨RX12, "isEntry", "(II)Z"⟩
abbrev cX12_entries : ByteArray := prog_14_method_20_code
def yX12_entries : MethodName := ⟨RX12, "entries", "()V"⟩
abbrev cX12_flags : ByteArray := prog_14_method_21_code
def yX12_flags : MethodName := ⟨RX12, "flags", "()V"⟩
abbrev cX12_classes : ByteArray := prog_14_method_22_code
def yX12_classes : MethodName := ⟨RX12, "classes", "()V"⟩
abbrev cX12_mustName : ByteArray := prog_14_method_23_code
def yX12_mustName : MethodName := ⟨RX12, "mustName", "(I)V"⟩
abbrev cX12_names : ByteArray := prog_14_method_24_code
def yX12_names : MethodName := ⟨RX12, "names", "()V"⟩
abbrev cX12_letter : ByteArray := prog_14_method_25_code
def yX12_letter : MethodName := ⟨RX12, "letter", "(II)I"⟩
abbrev cX12_typeAt : ByteArray := prog_14_method_26_code
def yX12_typeAt : MethodName := ⟨RX12, "typeAt", "(II)I"⟩
abbrev cX12_isType : ByteArray := prog_14_method_27_code
def yX12_isType : MethodName := ⟨RX12, "isType", "(I)Z"⟩
abbrev cX12_parameterPlaces : ByteArray := prog_14_method_28_code
def yX12_parameterPlaces : MethodName := ⟨RX12, "parameterPlaces", "(I)I"⟩
abbrev cX12_types : ByteArray := prog_14_method_29_code
def yX12_types : MethodName := ⟨RX12, "types", "()V"⟩
abbrev cX12_isSame : ByteArray := prog_14_method_30_code
def yX12_isSame : MethodName := ⟨RX12, "isSame", "(II)Z"⟩
abbrev cX12_twice : ByteArray := prog_14_method_31_code
def yX12_twice : MethodName := ⟨RX12, "twice", "()V"⟩
abbrev cX12_isText : ByteArray := prog_14_method_32_code
def yX12_isText : MethodName := ⟨RX12, "isText", "(ILjava/lang/String;)Z"⟩
abbrev cX12_codeOf : ByteArray := prog_14_method_33_code
def yX12_codeOf : MethodName := ⟨RX12, "codeOf", "(I)I"⟩
abbrev cX12_codes : ByteArray := prog_14_method_34_code
def yX12_codes : MethodName := ⟨RX12, "codes", "()V"⟩
abbrev cX12_within : ByteArray := prog_14_method_35_code
def yX12_within : MethodName := ⟨RX12, "within", "(J)I"⟩
abbrev cX12_codeItems : ByteArray := prog_14_method_36_code
def yX12_codeItems : MethodName := ⟨RX12, "codeItems", "(I)V"⟩
abbrev cX12_codeOctet : ByteArray := prog_14_method_37_code
def yX12_codeOctet : MethodName := ⟨RX12, "codeOctet", "(I)I"⟩
abbrev cX12_codeTwo : ByteArray := prog_14_method_38_code
def yX12_codeTwo : MethodName := ⟨RX12, "codeTwo", "(I)I"⟩
abbrev cX12_codeFour : ByteArray := prog_14_method_39_code
def yX12_codeFour : MethodName := ⟨RX12, "codeFour", "(I)I"⟩
abbrev cX12_spanOf : ByteArray := prog_14_method_40_code
def yX12_spanOf : MethodName := ⟨RX12, "spanOf", "(I)I"⟩
abbrev cX12_span : ByteArray := prog_14_method_41_code
def yX12_span : MethodName := ⟨RX12, "span", "(I)I"⟩
abbrev cX12_switchFrom : ByteArray := prog_14_method_42_code
def yX12_switchFrom : MethodName := ⟨RX12, "switchFrom", "(I)I"⟩
abbrev cX12_switchSpan : ByteArray := prog_14_method_43_code
def yX12_switchSpan : MethodName := ⟨RX12, "switchSpan", "(II)I"⟩
abbrev cX12_take : ByteArray := prog_14_method_44_code
def yX12_take : MethodName := ⟨RX12, "take", "(I)V"⟩
abbrev cX12_wholes : ByteArray := prog_14_method_45_code
def yX12_wholes : MethodName := ⟨RX12, "wholes", "(I)V"⟩
abbrev cX12_row : ByteArray := prog_14_method_46_code
def yX12_row : MethodName := ⟨RX12, "row", "(III)V"⟩
abbrev cX12_isStart : ByteArray := prog_14_method_47_code
def yX12_isStart : MethodName := ⟨RX12, "isStart", "(I)Z"⟩
abbrev cX12_point : ByteArray := prog_14_method_48_code
def yX12_point : MethodName := ⟨RX12, "point", "(ZI)V"⟩
abbrev cX12_pointedAt : ByteArray := prog_14_method_49_code
def yX12_pointedAt : MethodName := ⟨RX12, "pointedAt", "(II)I"⟩
abbrev cX12_localRow : ByteArray := prog_14_method_50_code
def yX12_localRow : MethodName := ⟨RX12, "localRow", "(III)V"⟩
abbrev cX12_instruction : ByteArray := prog_14_method_51_code
def yX12_instruction : MethodName := ⟨RX12, "instruction", "(I)V"⟩
abbrev cX12_pushed : ByteArray := prog_14_method_52_code
def yX12_pushed : MethodName := ⟨RX12, "pushed", "(III)V"⟩
abbrev cX12_grown : ByteArray := prog_14_method_53_code
def yX12_grown : MethodName := ⟨RX12, "grown", "(III)V"⟩
abbrev cX12_wide : ByteArray := prog_14_method_54_code
def yX12_wide : MethodName := ⟨RX12, "wide", "(II)V"⟩
abbrev cX12_switched : ByteArray := prog_14_method_55_code
def yX12_switched : MethodName := ⟨RX12, "switched", "(II)V"⟩
abbrev cX12_member : ByteArray := prog_14_method_56_code
def yX12_member : MethodName := ⟨RX12, "member", "(II)I"⟩
abbrev cX12_pointing : ByteArray := prog_14_method_57_code
def yX12_pointing : MethodName := ⟨RX12, "pointing", "(I)V"⟩
abbrev cX12_caught : ByteArray := prog_14_method_58_code
def yX12_caught : MethodName := ⟨RX12, "caught", "(I)V"⟩
abbrev cX12_errorName : ByteArray := prog_14_method_59_code
def yX12_errorName : MethodName := ⟨RX12, "errorName", "(I)Ljava/lang/String;"⟩
abbrev cX12_kindOf : ByteArray := prog_14_method_60_code
def yX12_kindOf : MethodName := ⟨RX12, "kindOf", "(I)I"⟩
abbrev cX12_read : ByteArray := prog_14_method_61_code
def yX12_read : MethodName := ⟨RX12, "read", "()I"⟩
abbrev cX12_rules : ByteArray := prog_14_method_62_code
def yX12_rules : MethodName := ⟨RX12, "rules", "()V"⟩
abbrev cX12_keep : ByteArray := prog_14_method_63_code
def yX12_keep : MethodName := ⟨RX12, "keep", "()V"⟩
abbrev cX12_size : ByteArray := prog_14_method_64_code
def yX12_size : MethodName := ⟨RX12, "size", "(I)I"⟩
abbrev cX12_field : ByteArray := prog_14_method_65_code
def yX12_field : MethodName := ⟨RX12, "field", "(I)I"⟩
abbrev cX12_isMethod : ByteArray := prog_14_method_66_code
def yX12_isMethod : MethodName := ⟨RX12, "isMethod", "(I)Z"⟩
abbrev cX12_method : ByteArray := prog_14_method_67_code
def yX12_method : MethodName := ⟨RX12, "method", "(II)I"⟩
abbrev cX12_rowAt : ByteArray := prog_14_method_68_code
def yX12_rowAt : MethodName := ⟨RX12, "rowAt", "(II)I"⟩
abbrev cX12_code : ByteArray := prog_14_method_69_code
def yX12_code : MethodName := ⟨RX12, "code", "(II)I"⟩
abbrev cX12_first : ByteArray := prog_14_method_70_code
def yX12_first : MethodName := ⟨RX12, "first", "(II)I"⟩
abbrev cX12_target : ByteArray := prog_14_method_71_code
def yX12_target : MethodName := ⟨RX12, "target", "(III)I"⟩
def RJxb5711 : String := "java/lang/IllegalStateException"
def TJxb5711 : u_T := fun k => match k with
  | _ => ("", "", "", false)
def tyJxb5711 : Nat → FieldType := fun k => match k with
  | _ => .int
abbrev wsJxb57110 : List Cond := u_ws RJxb5711 TJxb5711 0
theorem nmJxb5711 : ∀ a, a < 0 → ∀ b, b < 0 → a ≠ b → (TJxb5711 a).2.1 ≠ (TJxb5711 b).2.1 := by decide +kernel
theorem tyJxb5711_ok : ∀ k, k < 0 → parseFieldDescriptor (TJxb5711 k).2.2.1 = some (tyJxb5711 k) := by decide +kernel
abbrev cJxb5711_init_da8c8 : ByteArray := prog_16_method_1_code
def yJxb5711_init_da8c8 : MethodName := ⟨RJxb5711, "<init>", "()V"⟩
def RJ9 : String := "java/lang/Math"
def TJ9 : u_T := fun k => match k with
  | _ => ("", "", "", false)
def tyJ9 : Nat → FieldType := fun k => match k with
  | _ => .int
abbrev wsJ90 : List Cond := u_ws RJ9 TJ9 0
theorem nmJ9 : ∀ a, a < 0 → ∀ b, b < 0 → a ≠ b → (TJ9 a).2.1 ≠ (TJ9 b).2.1 := by decide +kernel
theorem tyJ9_ok : ∀ k, k < 0 → parseFieldDescriptor (TJ9 k).2.2.1 = some (tyJ9 k) := by decide +kernel
abbrev cJ9_max_7cf53 : ByteArray := prog_17_method_65_code
def yJ9_max_7cf53 : MethodName := ⟨RJ9, "max", "(II)I"⟩
abbrev cJ9_min_7cf53 : ByteArray := prog_17_method_69_code
def yJ9_min_7cf53 : MethodName := ⟨RJ9, "min", "(II)I"⟩
def RJ0 : String := "java/lang/String"
def TJ0 : u_T := fun k => match k with
  | _ => ("", "", "", false)
def tyJ0 : Nat → FieldType := fun k => match k with
  | _ => .int
abbrev wsJ00 : List Cond := u_ws RJ0 TJ0 0
theorem nmJ0 : ∀ a, a < 0 → ∀ b, b < 0 → a ≠ b → (TJ0 a).2.1 ≠ (TJ0 b).2.1 := by decide +kernel
theorem tyJ0_ok : ∀ k, k < 0 → parseFieldDescriptor (TJ0 k).2.2.1 = some (tyJ0 k) := by decide +kernel
abbrev cJ0_length_8abf5 : ByteArray := prog_19_method_54_code
def yJ0_length_8abf5 : MethodName := ⟨RJ0, "length", "()I"⟩
abbrev cJ0_charAt_5068e : ByteArray := prog_19_method_56_code
def yJ0_charAt_5068e : MethodName := ⟨RJ0, "charAt", "(I)C"⟩
abbrev cJ0_coder_7d493 : ByteArray := prog_19_method_152_code
def yJ0_coder_7d493 : MethodName := ⟨RJ0, "coder", "()B"⟩
abbrev cJ0_isLatin1_aae02 : ByteArray := prog_19_method_154_code
def yJ0_isLatin1_aae02 : MethodName := ⟨RJ0, "isLatin1", "()Z"⟩
abbrev cJ0_checkIndex_df160 : ByteArray := prog_19_method_155_code
def yJ0_checkIndex_df160 : MethodName := ⟨RJ0, "checkIndex", "(II)V"⟩
def RJ1 : String := "java/lang/StringLatin1"
def TJ1 : u_T := fun k => match k with
  | _ => ("", "", "", false)
def tyJ1 : Nat → FieldType := fun k => match k with
  | _ => .int
abbrev wsJ10 : List Cond := u_ws RJ1 TJ1 0
theorem nmJ1 : ∀ a, a < 0 → ∀ b, b < 0 → a ≠ b → (TJ1 a).2.1 ≠ (TJ1 b).2.1 := by decide +kernel
theorem tyJ1_ok : ∀ k, k < 0 → parseFieldDescriptor (TJ1 k).2.2.1 = some (tyJ1 k) := by decide +kernel
abbrev cJ1_charAt_3b067 : ByteArray := prog_20_method_2_code
def yJ1_charAt_3b067 : MethodName := ⟨RJ1, "charAt", "([BI)C"⟩
def RJ2 : String := "java/lang/StringUTF16"
def TJ2 : u_T := fun k => match k with
  | _ => ("", "", "", false)
def tyJ2 : Nat → FieldType := fun k => match k with
  | _ => .int
abbrev wsJ20 : List Cond := u_ws RJ2 TJ2 0
theorem nmJ2 : ∀ a, a < 0 → ∀ b, b < 0 → a ≠ b → (TJ2 a).2.1 ≠ (TJ2 b).2.1 := by decide +kernel
theorem tyJ2_ok : ∀ k, k < 0 → parseFieldDescriptor (TJ2 k).2.2.1 = some (tyJ2 k) := by decide +kernel
abbrev cJ2_getChar_3b067 : ByteArray := prog_21_method_5_code
def yJ2_getChar_3b067 : MethodName := ⟨RJ2, "getChar", "([BI)C"⟩
abbrev cJ2_length_9d52b : ByteArray := prog_21_method_6_code
def yJ2_length_9d52b : MethodName := ⟨RJ2, "length", "([B)I"⟩
abbrev cJ2_charAt_3b067 : ByteArray := prog_21_method_83_code
def yJ2_charAt_3b067 : MethodName := ⟨RJ2, "charAt", "([BI)C"⟩
abbrev cJ2_checkIndex_2214a : ByteArray := prog_21_method_91_code
def yJ2_checkIndex_2214a : MethodName := ⟨RJ2, "checkIndex", "(I[B)V"⟩
def RJ3 : String := "jdk/internal/util/Preconditions"
def TJ3 : u_T := fun k => match k with
  | _ => ("", "", "", false)
def tyJ3 : Nat → FieldType := fun k => match k with
  | _ => .int
abbrev wsJ30 : List Cond := u_ws RJ3 TJ3 0
theorem nmJ3 : ∀ a, a < 0 → ∀ b, b < 0 → a ≠ b → (TJ3 a).2.1 ≠ (TJ3 b).2.1 := by decide +kernel
theorem tyJ3_ok : ∀ k, k < 0 → parseFieldDescriptor (TJ3 k).2.2.1 = some (tyJ3 k) := by decide +kernel
abbrev cJ3_checkIndex_8e157 : ByteArray := prog_23_method_11_code
def yJ3_checkIndex_8e157 : MethodName := ⟨RJ3, "checkIndex", "(IILjava/util/function/BiFunction;)I"⟩
def RL : String := "FileRulesLaw"
abbrev cL_law : ByteArray := code
def yL_law : MethodName := ⟨RL, "law", "([I)Z"⟩
def wsJ0_coder_7d493 : List Cond := .code yJ0_coder_7d493 cJ0_coder_7d493 1 (some .byte) :: ([.fieldLink RJ0 38 "java/lang/String" "COMPACT_STRINGS" "Z", .fieldLink RJ0 15 "java/lang/String" "coder" "B"])
def wsJ0_length_8abf5 : List Cond := .code yJ0_length_8abf5 cJ0_length_8abf5 1 (some .int) :: ([.fieldLink RJ0 9 "java/lang/String" "value" "[B", .methodLink RJ0 335 yJ0_coder_7d493, .instanceMethod yJ0_coder_7d493, .selects RJ0 yJ0_coder_7d493 yJ0_coder_7d493, .initialized RJ0, .code yJ0_coder_7d493 cJ0_coder_7d493 1 (some .byte), .fieldLink RJ0 38 "java/lang/String" "COMPACT_STRINGS" "Z", .fieldLink RJ0 15 "java/lang/String" "coder" "B"])
def wsJ0_isLatin1_aae02 : List Cond := .code yJ0_isLatin1_aae02 cJ0_isLatin1_aae02 1 (some .boolean) :: ([.fieldLink RJ0 38 "java/lang/String" "COMPACT_STRINGS" "Z", .fieldLink RJ0 15 "java/lang/String" "coder" "B"])
def wsJ3_checkIndex_8e157 : List Cond := .code yJ3_checkIndex_8e157 cJ3_checkIndex_8e157 3 (some .int) :: ([])
def wsJ0_checkIndex_df160 : List Cond := .code yJ0_checkIndex_df160 cJ0_checkIndex_df160 2 none :: ([.fieldLink RJ0 1053 "jdk/internal/util/Preconditions" "SIOOBE_FORMATTER" "Ljava/util/function/BiFunction;", .methodLink RJ0 1059 yJ3_checkIndex_8e157, .static yJ3_checkIndex_8e157, .initialized RJ3, .code yJ3_checkIndex_8e157 cJ3_checkIndex_8e157 3 (some .int)])
def wsJ1_charAt_3b067 : List Cond := .code yJ1_charAt_3b067 cJ1_charAt_3b067 2 (some .char) :: ([.methodLink RJ1 9 yJ0_checkIndex_df160, .static yJ0_checkIndex_df160, .initialized RJ0, .code yJ0_checkIndex_df160 cJ0_checkIndex_df160 2 none, .fieldLink RJ0 1053 "jdk/internal/util/Preconditions" "SIOOBE_FORMATTER" "Ljava/util/function/BiFunction;", .methodLink RJ0 1059 yJ3_checkIndex_8e157, .static yJ3_checkIndex_8e157, .initialized RJ3, .code yJ3_checkIndex_8e157 cJ3_checkIndex_8e157 3 (some .int)])
def wsJ2_length_9d52b : List Cond := .code yJ2_length_9d52b cJ2_length_9d52b 1 (some .int) :: ([])
def wsJ2_checkIndex_2214a : List Cond := .code yJ2_checkIndex_2214a cJ2_checkIndex_2214a 2 none :: ([.methodLink RJ2 48 yJ2_length_9d52b, .static yJ2_length_9d52b, .initialized RJ2, .code yJ2_length_9d52b cJ2_length_9d52b 1 (some .int), .methodLink RJ2 414 yJ0_checkIndex_df160, .static yJ0_checkIndex_df160, .initialized RJ0, .code yJ0_checkIndex_df160 cJ0_checkIndex_df160 2 none, .fieldLink RJ0 1053 "jdk/internal/util/Preconditions" "SIOOBE_FORMATTER" "Ljava/util/function/BiFunction;", .methodLink RJ0 1059 yJ3_checkIndex_8e157, .static yJ3_checkIndex_8e157, .initialized RJ3, .code yJ3_checkIndex_8e157 cJ3_checkIndex_8e157 3 (some .int)])
def wsJ2_getChar_3b067 : List Cond := .code yJ2_getChar_3b067 cJ2_getChar_3b067 2 (some .char) :: ([.fieldLink RJ2 44 "java/lang/StringUTF16" "$assertionsDisabled" "Z", .fieldLink RJ2 59 "java/lang/StringUTF16" "HI_BYTE_SHIFT" "I", .fieldLink RJ2 63 "java/lang/StringUTF16" "LO_BYTE_SHIFT" "I", .methodLink RJ2 48 yJ2_length_9d52b, .static yJ2_length_9d52b, .initialized RJ2, .code yJ2_length_9d52b cJ2_length_9d52b 1 (some .int)])
def wsJ2_charAt_3b067 : List Cond := .code yJ2_charAt_3b067 cJ2_charAt_3b067 2 (some .char) :: ([.methodLink RJ2 67 yJ2_checkIndex_2214a, .static yJ2_checkIndex_2214a, .initialized RJ2, .code yJ2_checkIndex_2214a cJ2_checkIndex_2214a 2 none, .methodLink RJ2 48 yJ2_length_9d52b, .static yJ2_length_9d52b, .code yJ2_length_9d52b cJ2_length_9d52b 1 (some .int), .methodLink RJ2 414 yJ0_checkIndex_df160, .static yJ0_checkIndex_df160, .initialized RJ0, .code yJ0_checkIndex_df160 cJ0_checkIndex_df160 2 none, .fieldLink RJ0 1053 "jdk/internal/util/Preconditions" "SIOOBE_FORMATTER" "Ljava/util/function/BiFunction;", .methodLink RJ0 1059 yJ3_checkIndex_8e157, .static yJ3_checkIndex_8e157, .initialized RJ3, .code yJ3_checkIndex_8e157 cJ3_checkIndex_8e157 3 (some .int), .methodLink RJ2 71 yJ2_getChar_3b067, .static yJ2_getChar_3b067, .code yJ2_getChar_3b067 cJ2_getChar_3b067 2 (some .char), .fieldLink RJ2 44 "java/lang/StringUTF16" "$assertionsDisabled" "Z", .fieldLink RJ2 59 "java/lang/StringUTF16" "HI_BYTE_SHIFT" "I", .fieldLink RJ2 63 "java/lang/StringUTF16" "LO_BYTE_SHIFT" "I"])
def wsJ0_charAt_5068e_r1 : List Cond := [Cond.fieldLink RJ0 9 "java/lang/String" "value" "[B", Cond.methodLink RJ0 492 yJ0_isLatin1_aae02, Cond.instanceMethod yJ0_isLatin1_aae02, Cond.selects RJ0 yJ0_isLatin1_aae02 yJ0_isLatin1_aae02, Cond.initialized RJ0, Cond.code yJ0_isLatin1_aae02 cJ0_isLatin1_aae02 1 (some .boolean), Cond.fieldLink RJ0 38 "java/lang/String" "COMPACT_STRINGS" "Z", Cond.fieldLink RJ0 15 "java/lang/String" "coder" "B", Cond.methodLink RJ0 495 yJ1_charAt_3b067, Cond.static yJ1_charAt_3b067, Cond.initialized RJ1, Cond.code yJ1_charAt_3b067 cJ1_charAt_3b067 2 (some .char), Cond.methodLink RJ1 9 yJ0_checkIndex_df160, Cond.static yJ0_checkIndex_df160, Cond.code yJ0_checkIndex_df160 cJ0_checkIndex_df160 2 none, Cond.fieldLink RJ0 1053 "jdk/internal/util/Preconditions" "SIOOBE_FORMATTER" "Ljava/util/function/BiFunction;", Cond.methodLink RJ0 1059 yJ3_checkIndex_8e157, Cond.static yJ3_checkIndex_8e157, Cond.initialized RJ3, Cond.code yJ3_checkIndex_8e157 cJ3_checkIndex_8e157 3 (some .int), Cond.methodLink RJ0 498 yJ2_charAt_3b067, Cond.static yJ2_charAt_3b067, Cond.initialized RJ2, Cond.code yJ2_charAt_3b067 cJ2_charAt_3b067 2 (some .char)]
def wsJ0_charAt_5068e_r2 : List Cond := [Cond.methodLink RJ2 67 yJ2_checkIndex_2214a, Cond.static yJ2_checkIndex_2214a, Cond.code yJ2_checkIndex_2214a cJ2_checkIndex_2214a 2 none, Cond.methodLink RJ2 48 yJ2_length_9d52b, Cond.static yJ2_length_9d52b, Cond.code yJ2_length_9d52b cJ2_length_9d52b 1 (some .int), Cond.methodLink RJ2 414 yJ0_checkIndex_df160, Cond.methodLink RJ2 71 yJ2_getChar_3b067, Cond.static yJ2_getChar_3b067, Cond.code yJ2_getChar_3b067 cJ2_getChar_3b067 2 (some .char), Cond.fieldLink RJ2 44 "java/lang/StringUTF16" "$assertionsDisabled" "Z", Cond.fieldLink RJ2 59 "java/lang/StringUTF16" "HI_BYTE_SHIFT" "I", Cond.fieldLink RJ2 63 "java/lang/StringUTF16" "LO_BYTE_SHIFT" "I"]
def wsJ0_charAt_5068e : List Cond := .code yJ0_charAt_5068e cJ0_charAt_5068e 2 (some .char) :: ((wsJ0_charAt_5068e_r1 ++ wsJ0_charAt_5068e_r2))
def wsJxb5711_init_da8c8 : List Cond := .code yJxb5711_init_da8c8 cJxb5711_init_da8c8 1 none :: ([])
def wsJ9_max_7cf53 : List Cond := .code yJ9_max_7cf53 cJ9_max_7cf53 2 (some .int) :: ([])
def wsJ9_min_7cf53 : List Cond := .code yJ9_min_7cf53 cJ9_min_7cf53 2 (some .int) :: ([])
def wsL_law0_r1 : List Cond := [Cond.classLink RL 7 RX11, Cond.instantiable RX11 5, Cond.initialized RX11, Cond.classLink RL 10 RX12, Cond.instantiable RX12 52, Cond.initialized RX12, Cond.methodLink RL 9 yX11_init, Cond.instanceMethod yX11_init, Cond.code yX11_init cX11_init 1 none, Cond.methodLink RX11 1 objectInit, Cond.instanceMethod objectInit, Cond.code objectInit ⟨#[0xb1]⟩ 1 none, Cond.classLink RX11 7 RX10, Cond.instantiable RX10 2, Cond.initialized RX10, Cond.fieldLink RX11 10 "FileRules" "verdict" "LFileRules$Verdict;", Cond.classLink RX11 16 RX2, Cond.instantiable RX2 11, Cond.initialized RX2, Cond.fieldLink RX11 19 "FileRules" "tray" "LFileRules$Image;", Cond.fieldLink RX11 23 "FileRules" "latest" "LFileRules$Image;", Cond.fieldLink RX11 26 "FileRules" "known" "Z", Cond.fieldLink RX11 30 "FileRules" "fed" "I", Cond.methodLink RX11 9 yX10_init]
def wsL_law0_r2 : List Cond := [Cond.instanceMethod yX10_init, Cond.code yX10_init cX10_init 1 none, Cond.methodLink RX10 3 objectInit, Cond.methodLink RX10 9 yX10_clear, Cond.instanceMethod yX10_clear, Cond.selects RX10 yX10_clear yX10_clear, Cond.code yX10_clear cX10_clear 1 none, Cond.fieldLink RX10 14 "FileRules$Verdict" "rule" "I", Cond.fieldLink RX10 18 "FileRules$Verdict" "place" "I", Cond.methodLink RX11 18 yX2_init, Cond.instanceMethod yX2_init, Cond.code yX2_init cX2_init 2 none, Cond.methodLink RX2 3 objectInit, Cond.classLink RX2 9 RX1, Cond.instantiable RX1 2, Cond.initialized RX1, Cond.fieldLink RX2 14 "FileRules$Image" "bytes" "LFileRules$Bytes;", Cond.classLink RX2 20 RX7, Cond.instantiable RX7 9, Cond.initialized RX7, Cond.fieldLink RX2 25 "FileRules$Image" "pool" "LFileRules$Pool;", Cond.arrayClass .int, Cond.fieldLink RX2 29 "FileRules$Image" "fields" "[I", Cond.fieldLink RX2 33 "FileRules$Image" "methods" "[I"]
def wsL_law0_r3 : List Cond := [Cond.classLink RX2 36 RX0, Cond.fieldLink RX2 38 "FileRules$Image" "bodies" "[LFileRules$Body;", Cond.instantiable RX0 10, Cond.initialized RX0, Cond.fieldLink RX2 43 "FileRules$Image" "instructions" "[I", Cond.fieldLink RX2 46 "FileRules$Image" "fieldCount" "I", Cond.fieldLink RX2 50 "FileRules$Image" "methodCount" "I", Cond.fieldLink RX2 53 "FileRules$Image" "classPlace" "I", Cond.fieldLink RX2 56 "FileRules$Image" "attributes" "I", Cond.fieldLink RX2 59 "FileRules$Image" "last" "I", Cond.methodLink RX2 11 yX1_init, Cond.instanceMethod yX1_init, Cond.code yX1_init cX1_init 2 none, Cond.methodLink RX1 1 objectInit, Cond.methodLink RX1 7 Lib.Math.max.name, Cond.static Lib.Math.max.name, Cond.initialized "java/lang/Math", Cond.code Lib.Math.max.name Lib.Math.max.code 2 (some .int), Cond.arrayClass .byte, Cond.fieldLink RX1 13 "FileRules$Bytes" "row" "[B", Cond.fieldLink RX1 19 "FileRules$Bytes" "count" "I", Cond.methodLink RX2 22 yX7_init, Cond.instanceMethod yX7_init, Cond.code yX7_init cX7_init 2 none]
def wsL_law0_r4 : List Cond := [Cond.methodLink RX7 3 objectInit, Cond.fieldLink RX7 9 "FileRules$Pool" "bytes" "LFileRules$Bytes;", Cond.fieldLink RX7 15 "FileRules$Pool" "places" "[I", Cond.fieldLink RX7 19 "FileRules$Pool" "sorts" "[I", Cond.fieldLink RX7 22 "FileRules$Pool" "lengths" "[I", Cond.fieldLink RX7 25 "FileRules$Pool" "types" "[I", Cond.fieldLink RX7 28 "FileRules$Pool" "results" "[I", Cond.fieldLink RX7 31 "FileRules$Pool" "parameters" "[I", Cond.fieldLink RX7 34 "FileRules$Pool" "members" "[I", Cond.fieldLink RX7 37 "FileRules$Pool" "count" "I", Cond.instanceMethod yX0_init, Cond.code yX0_init cX0_init 1 none, Cond.methodLink RX0 1 objectInit, Cond.methodLink RL 12 yX12_init, Cond.instanceMethod yX12_init, Cond.code yX12_init cX12_init 1 none, Cond.classLink RX12 13 "java/lang/IllegalStateException", Cond.initialized "java/lang/IllegalStateException", Cond.methodLink RX12 1 objectInit, Cond.fieldLink RX12 9 "FileRulesModel" "tray" "[B", Cond.fieldLink RX12 16 "FileRulesModel" "stop" "Ljava/lang/IllegalStateException;", Cond.fieldLink RX12 20 "FileRulesModel" "toldPlace" "I", Cond.fieldLink RX12 24 "FileRulesModel" "tags" "[I", Cond.fieldLink RX12 28 "FileRulesModel" "tagPlaces" "[I"]
def wsL_law0_r5 : List Cond := [Cond.fieldLink RX12 31 "FileRulesModel" "firstOf" "[I", Cond.fieldLink RX12 34 "FileRulesModel" "secondOf" "[I", Cond.arrayClass .long, Cond.fieldLink RX12 37 "FileRulesModel" "worthOf" "[J", Cond.fieldLink RX12 41 "FileRulesModel" "memberAt" "[I", Cond.fieldLink RX12 44 "FileRulesModel" "attributeAt" "[I", Cond.fieldLink RX12 47 "FileRulesModel" "attributeOwner" "[I", Cond.fieldLink RX12 50 "FileRulesModel" "stackOf" "[I", Cond.fieldLink RX12 53 "FileRulesModel" "localsOf" "[I", Cond.fieldLink RX12 56 "FileRulesModel" "codeAts" "[I", Cond.fieldLink RX12 59 "FileRulesModel" "codeSizes" "[I", Cond.fieldLink RX12 62 "FileRulesModel" "catchAts" "[I", Cond.fieldLink RX12 65 "FileRulesModel" "catchesOf" "[I", Cond.fieldLink RX12 68 "FileRulesModel" "numberAt" "[I", Cond.constant RX12 71 (86400), Cond.fieldLink RX12 72 "FileRulesModel" "newRows" "[I", Cond.constant RX12 75 (40000), Cond.fieldLink RX12 76 "FileRulesModel" "newTables" "[I", Cond.fieldLink RX12 79 "FileRulesModel" "newFirsts" "[I", Cond.fieldLink RX12 82 "FileRulesModel" "newLengths" "[I", Cond.fieldLink RX12 85 "FileRulesModel" "fieldTypes" "[I", Cond.fieldLink RX12 88 "FileRulesModel" "heads" "[I", Cond.fieldLink RX12 91 "FileRulesModel" "firsts" "[I", Cond.fieldLink RX12 94 "FileRulesModel" "rows" "[I"]
def wsL_law0_r6 : List Cond := [Cond.fieldLink RX12 97 "FileRulesModel" "tables" "[I", Cond.methodLink RX12 15 yJxb5711_init_da8c8, Cond.instanceMethod yJxb5711_init_da8c8, Cond.initialized RJxb5711, Cond.code yJxb5711_init_da8c8 cJxb5711_init_da8c8 1 none, Cond.methodLink RL 13 yX11_feed, Cond.instanceMethod yX11_feed, Cond.selects RX11 yX11_feed yX11_feed, Cond.code yX11_feed cX11_feed 6 (some .int), Cond.fieldLink RX11 34 "FileRules$Image" "bytes" "LFileRules$Bytes;", Cond.fieldLink RX11 38 "FileRules$Bytes" "count" "I", Cond.constant RX11 43 (65516), Cond.methodLink RX11 44 yX1_append, Cond.instanceMethod yX1_append, Cond.selects RX1 yX1_append yX1_append, Cond.code yX1_append cX1_append 3 none, Cond.methodLink RL 17 yX12_feed, Cond.instanceMethod yX12_feed, Cond.selects RX12 yX12_feed yX12_feed, Cond.code yX12_feed cX12_feed 6 (some .int), Cond.fieldLink RX12 100 "FileRulesModel" "trayed" "I", Cond.fieldLink RX12 103 "FileRulesModel" "fed" "I", Cond.constant RX12 106 (65536), Cond.methodLink RX12 107 yX12_word]
def wsL_law0_r7 : List Cond := [Cond.instanceMethod yX12_word, Cond.selects RX12 yX12_word yX12_word, Cond.code yX12_word cX12_word 3 none, Cond.methodLink RL 18 yX11_end, Cond.instanceMethod yX11_end, Cond.selects RX11 yX11_end yX11_end, Cond.code yX11_end cX11_end 2 (some .boolean), Cond.methodLink RL 22 yX12_end, Cond.instanceMethod yX12_end, Cond.selects RX12 yX12_end yX12_end, Cond.code yX12_end cX12_end 2 (some .boolean), Cond.methodLink RL 23 yX11_read, Cond.instanceMethod yX11_read, Cond.selects RX11 yX11_read yX11_read, Cond.code yX11_read cX11_read 2 (some .int), Cond.fieldLink RX11 55 "FileRules$Verdict" "rule" "I", Cond.methodLink RX11 48 yX10_clear, Cond.methodLink RX11 51 yX11_keepsAllRules, Cond.instanceMethod yX11_keepsAllRules, Cond.selects RX11 yX11_keepsAllRules yX11_keepsAllRules, Cond.code yX11_keepsAllRules cX11_keepsAllRules 2 (some .boolean), Cond.methodLink RX11 147 yX4_keeps, Cond.static yX4_keeps, Cond.initialized RX4]
def wsL_law0_r8 : List Cond := [Cond.code yX4_keeps cX4_keeps 4 (some .boolean), Cond.classLink RX4 9 RX8, Cond.instantiable RX8 4, Cond.initialized RX8, Cond.fieldLink RX4 11 "FileRules$Image" "bytes" "LFileRules$Bytes;", Cond.fieldLink RX4 17 "FileRules$Bytes" "count" "I", Cond.fieldLink RX4 32 "FileRules$Image" "pool" "LFileRules$Pool;", Cond.fieldLink RX4 46 "FileRules$Image" "classPlace" "I", Cond.fieldLink RX4 57 "FileRules$Image" "fieldCount" "I", Cond.fieldLink RX4 60 "FileRules$Image" "fields" "[I", Cond.fieldLink RX4 68 "FileRules$Image" "methodCount" "I", Cond.fieldLink RX4 71 "FileRules$Image" "methods" "[I", Cond.fieldLink RX4 74 "FileRules$Image" "attributes" "I", Cond.fieldLink RX4 80 "FileRules$Image" "last" "I", Cond.methodLink RX4 23 yX8_init, Cond.instanceMethod yX8_init, Cond.code yX8_init cX8_init 5 none, Cond.methodLink RX8 3 objectInit, Cond.fieldLink RX8 9 "FileRules$Stretch" "bytes" "LFileRules$Bytes;", Cond.fieldLink RX8 15 "FileRules$Stretch" "verdict" "LFileRules$Verdict;", Cond.fieldLink RX8 19 "FileRules$Stretch" "end" "I", Cond.fieldLink RX8 23 "FileRules$Stretch" "ruleBeyond" "I", Cond.methodLink RX4 26 yX4_behindHead, Cond.static yX4_behindHead]
def wsL_law0_r9 : List Cond := [Cond.code yX4_behindHead cX4_behindHead 2 (some .int), Cond.fieldLink RX4 83 "FileRules$Layout" "HEAD" "[I", Cond.fieldLink RX4 86 "FileRules$Stretch" "end" "I", Cond.fieldLink RX4 89 "FileRules$Stretch" "verdict" "LFileRules$Verdict;", Cond.fieldLink RX4 98 "FileRules$Stretch" "bytes" "LFileRules$Bytes;", Cond.methodLink RX4 93 yX10_broken, Cond.instanceMethod yX10_broken, Cond.selects RX10 yX10_broken yX10_broken, Cond.code yX10_broken cX10_broken 3 (some .int), Cond.methodLink RX4 99 yX1_u1, Cond.instanceMethod yX1_u1, Cond.selects RX1 yX1_u1 yX1_u1, Cond.code yX1_u1 cX1_u1 2 (some .int), Cond.methodLink RX4 36 yX4_behindPool, Cond.static yX4_behindPool, Cond.code yX4_behindPool cX4_behindPool 5 (some .int), Cond.fieldLink RX4 112 "FileRules$Pool" "count" "I", Cond.methodLink RX4 102 yX8_behindU2, Cond.instanceMethod yX8_behindU2, Cond.selects RX8 yX8_behindU2 yX8_behindU2, Cond.code yX8_behindU2 cX8_behindU2 6 (some .int), Cond.methodLink RX8 32 yX8_behind, Cond.instanceMethod yX8_behind, Cond.selects RX8 yX8_behind yX8_behind]
def wsL_law0_r10 : List Cond := [Cond.code yX8_behind cX8_behind 3 (some .int), Cond.methodLink RX8 26 yX10_broken, Cond.methodLink RX8 35 yX1_u2, Cond.instanceMethod yX1_u2, Cond.selects RX1 yX1_u2 yX1_u2, Cond.code yX1_u2 cX1_u2 2 (some .int), Cond.methodLink RX4 53 yX1_u2, Cond.methodLink RX4 106 yX7_clear, Cond.instanceMethod yX7_clear, Cond.selects RX7 yX7_clear yX7_clear, Cond.code yX7_clear cX7_clear 3 none, Cond.static yX11_put, Cond.code yX11_put cX11_put 3 none, Cond.methodLink RX4 113 yX7_add, Cond.instanceMethod yX7_add, Cond.selects RX7 yX7_add yX7_add, Cond.code yX7_add cX7_add 4 none, Cond.methodLink RX7 45 yX1_u1, Cond.methodLink RX7 51 yX1_u2, Cond.methodLink RX4 117 yX4_behindEntry, Cond.static yX4_behindEntry, Cond.code yX4_behindEntry cX4_behindEntry 4 (some .int), Cond.methodLink RX4 49 yX8_behind, Cond.methodLink RX4 125 yX4_behindName]
def wsL_law0_r11 : List Cond := [Cond.static yX4_behindName, Cond.code yX4_behindName cX4_behindName 5 (some .int), Cond.methodLink RX4 131 Lib.Math.min.name, Cond.static Lib.Math.min.name, Cond.code Lib.Math.min.name Lib.Math.min.code 2 (some .int), Cond.methodLink RX4 128 yX4_entryLength, Cond.static yX4_entryLength, Cond.code yX4_entryLength cX4_entryLength 1 (some .int), Cond.methodLink RX4 121 yX7_is, Cond.instanceMethod yX7_is, Cond.selects RX7 yX7_is yX7_is, Cond.code yX7_is cX7_is 3 (some .boolean), Cond.static yX11_at, Cond.code yX11_at cX11_at 2 (some .int), Cond.methodLink RX4 40 yX9_learn, Cond.static yX9_learn, Cond.initialized RX9, Cond.code yX9_learn cX9_learn 4 none, Cond.fieldLink RX9 9 "FileRules$Pool" "count" "I", Cond.fieldLink RX9 19 "FileRules$Pool" "places" "[I", Cond.fieldLink RX9 27 "FileRules$Pool" "lengths" "[I", Cond.fieldLink RX9 30 "FileRules$Pool" "types" "[I", Cond.fieldLink RX9 33 "FileRules$Pool" "bytes" "LFileRules$Bytes;", Cond.methodLink RX9 15 yX7_is]
def wsL_law0_r12 : List Cond := [Cond.methodLink RX9 37 yX9_wholeFrom, Cond.static yX9_wholeFrom, Cond.code yX9_wholeFrom cX9_wholeFrom 4 (some .int), Cond.methodLink RX9 57 yX9_kindAt, Cond.static yX9_kindAt, Cond.code yX9_kindAt cX9_kindAt 3 (some .int), Cond.methodLink RX9 47 yX1_u1, Cond.methodLink RX9 60 yX9_lettersOf, Cond.static yX9_lettersOf, Cond.code yX9_lettersOf cX9_lettersOf 1 (some .int), Cond.methodLink RX9 53 yX9_learnMethod, Cond.static yX9_learnMethod, Cond.code yX9_learnMethod cX9_learnMethod 7 none, Cond.fieldLink RX9 63 "FileRules$Pool" "parameters" "[I", Cond.fieldLink RX9 66 "FileRules$Pool" "results" "[I", Cond.methodLink RX4 64 yX4_behindMembers, Cond.static yX4_behindMembers, Cond.code yX4_behindMembers cX4_behindMembers 6 (some .int), Cond.methodLink RX4 77 yX8_behindAttributes, Cond.instanceMethod yX8_behindAttributes, Cond.selects RX8 yX8_behindAttributes yX8_behindAttributes, Cond.code yX8_behindAttributes cX8_behindAttributes 6 (some .int), Cond.methodLink RX8 41 yX1_s4, Cond.instanceMethod yX1_s4]
def wsL_law0_r13 : List Cond := [Cond.selects RX1 yX1_s4 yX1_s4, Cond.code yX1_s4 cX1_s4 2 (some .int), Cond.methodLink RX11 153 yX11_keepsNameRules, Cond.instanceMethod yX11_keepsNameRules, Cond.selects RX11 yX11_keepsNameRules yX11_keepsNameRules, Cond.code yX11_keepsNameRules cX11_keepsNameRules 2 (some .boolean), Cond.fieldLink RX11 67 "FileRules$Image" "pool" "LFileRules$Pool;", Cond.fieldLink RX11 193 "FileRules$Image" "last" "I", Cond.methodLink RX11 169 yX6_wrongEntry, Cond.static yX6_wrongEntry, Cond.initialized RX6, Cond.code yX6_wrongEntry cX6_wrongEntry 2 (some .int), Cond.fieldLink RX6 9 "FileRules$Pool" "count" "I", Cond.fieldLink RX6 21 "FileRules$Pool" "places" "[I", Cond.methodLink RX6 15 yX6_pointsToItsSorts, Cond.static yX6_pointsToItsSorts, Cond.code yX6_pointsToItsSorts cX6_pointsToItsSorts 2 (some .boolean), Cond.fieldLink RX6 29 "FileRules$Pool" "sorts" "[I", Cond.methodLink RX6 32 yX7_part, Cond.instanceMethod yX7_part, Cond.selects RX7 yX7_part yX7_part, Cond.code yX7_part cX7_part 3 (some .int), Cond.methodLink RX6 36 yX7_is, Cond.methodLink RX11 163 yX10_keeps]
def wsL_law0_r14 : List Cond := [Cond.instanceMethod yX10_keeps, Cond.selects RX10 yX10_keeps yX10_keeps, Cond.code yX10_keeps cX10_keeps 3 (some .boolean), Cond.methodLink RX10 21 yX10_broken, Cond.methodLink RX11 175 yX6_wrongFlags, Cond.static yX6_wrongFlags, Cond.code yX6_wrongFlags cX6_wrongFlags 2 (some .int), Cond.fieldLink RX6 40 "FileRules$Image" "bytes" "LFileRules$Bytes;", Cond.fieldLink RX6 46 "FileRules$Image" "classPlace" "I", Cond.fieldLink RX6 55 "FileRules$Image" "fields" "[I", Cond.fieldLink RX6 58 "FileRules$Image" "fieldCount" "I", Cond.fieldLink RX6 65 "FileRules$Image" "methods" "[I", Cond.fieldLink RX6 68 "FileRules$Image" "methodCount" "I", Cond.methodLink RX6 49 yX1_u2, Cond.methodLink RX6 61 yX6_wrongMemberFlags, Cond.static yX6_wrongMemberFlags, Cond.code yX6_wrongMemberFlags cX6_wrongMemberFlags 4 (some .int), Cond.methodLink RX11 178 yX6_wrongClass, Cond.static yX6_wrongClass, Cond.code yX6_wrongClass cX6_wrongClass 2 (some .int), Cond.fieldLink RX6 71 "FileRules$Image" "pool" "LFileRules$Pool;", Cond.methodLink RX11 181 yX6_wrongName, Cond.static yX6_wrongName, Cond.code yX6_wrongName cX6_wrongName 2 (some .int)]
def wsL_law0_r15 : List Cond := [Cond.fieldLink RX6 79 "FileRules$Image" "attributes" "I", Cond.methodLink RX6 75 yX6_wrongMemberName, Cond.static yX6_wrongMemberName, Cond.code yX6_wrongMemberName cX6_wrongMemberName 6 (some .int), Cond.methodLink RX6 86 yX2_nameOf, Cond.instanceMethod yX2_nameOf, Cond.selects RX2 yX2_nameOf yX2_nameOf, Cond.code yX2_nameOf cX2_nameOf 2 (some .int), Cond.methodLink RX2 62 yX1_u2, Cond.methodLink RX6 89 yX2_typeOf, Cond.instanceMethod yX2_typeOf, Cond.selects RX2 yX2_typeOf yX2_typeOf, Cond.code yX2_typeOf cX2_typeOf 2 (some .int), Cond.methodLink RX6 82 yX6_wrongAttributeName, Cond.static yX6_wrongAttributeName, Cond.code yX6_wrongAttributeName cX6_wrongAttributeName 5 (some .int), Cond.methodLink RX6 92 yX1_s4, Cond.methodLink RX11 184 yX6_wrongType, Cond.static yX6_wrongType, Cond.code yX6_wrongType cX6_wrongType 5 (some .int), Cond.fieldLink RX6 98 "FileRules$Pool" "types" "[I", Cond.fieldLink RX6 101 "FileRules$Pool" "results" "[I", Cond.fieldLink RX6 104 "FileRules$Pool" "parameters" "[I", Cond.methodLink RX6 95 yX6_pairSuits]
def wsL_law0_r16 : List Cond := [Cond.static yX6_pairSuits, Cond.code yX6_pairSuits cX6_pairSuits 2 (some .boolean), Cond.methodLink RX11 187 yX6_repeatedName, Cond.static yX6_repeatedName, Cond.code yX6_repeatedName cX6_repeatedName 2 (some .int), Cond.methodLink RX6 107 yX6_repeatedMemberName, Cond.static yX6_repeatedMemberName, Cond.code yX6_repeatedMemberName cX6_repeatedMemberName 5 (some .int), Cond.methodLink RX6 110 yX7_same, Cond.instanceMethod yX7_same, Cond.selects RX7 yX7_same yX7_same, Cond.code yX7_same cX7_same 5 (some .boolean), Cond.methodLink RX11 190 yX6_wrongCode, Cond.static yX6_wrongCode, Cond.code yX6_wrongCode cX6_wrongCode 4 (some .int), Cond.methodLink RX6 113 yX2_bodyOf, Cond.instanceMethod yX2_bodyOf, Cond.selects RX2 yX2_bodyOf yX2_bodyOf, Cond.code yX2_bodyOf cX2_bodyOf 2 (some (.object "FileRules$Body")), Cond.methodLink RX6 117 yX6_findsOneCode, Cond.static yX6_findsOneCode, Cond.code yX6_findsOneCode cX6_findsOneCode 7 (some .boolean), Cond.fieldLink RX6 127 "FileRules$Body" "attribute" "I", Cond.methodLink RX6 123 yX7_says]
def wsL_law0_r17 : List Cond := [Cond.instanceMethod yX7_says, Cond.selects RX7 yX7_says yX7_says, Cond.code yX7_says cX7_says 4 (some .boolean), Cond.methodLink RX7 58 yJ0_length_8abf5, Cond.instanceMethod yJ0_length_8abf5, Cond.selects RJ0 yJ0_length_8abf5 yJ0_length_8abf5, Cond.initialized RJ0, Cond.code yJ0_length_8abf5 cJ0_length_8abf5 1 (some .int), Cond.fieldLink RJ0 9 "java/lang/String" "value" "[B", Cond.methodLink RJ0 335 yJ0_coder_7d493, Cond.instanceMethod yJ0_coder_7d493, Cond.selects RJ0 yJ0_coder_7d493 yJ0_coder_7d493, Cond.code yJ0_coder_7d493 cJ0_coder_7d493 1 (some .byte), Cond.fieldLink RJ0 38 "java/lang/String" "COMPACT_STRINGS" "Z", Cond.fieldLink RJ0 15 "java/lang/String" "coder" "B", Cond.methodLink RX7 64 yJ0_charAt_5068e, Cond.instanceMethod yJ0_charAt_5068e, Cond.selects RJ0 yJ0_charAt_5068e yJ0_charAt_5068e, Cond.code yJ0_charAt_5068e cJ0_charAt_5068e 2 (some .char), Cond.methodLink RJ0 492 yJ0_isLatin1_aae02, Cond.instanceMethod yJ0_isLatin1_aae02, Cond.selects RJ0 yJ0_isLatin1_aae02 yJ0_isLatin1_aae02, Cond.code yJ0_isLatin1_aae02 cJ0_isLatin1_aae02 1 (some .boolean), Cond.methodLink RJ0 495 yJ1_charAt_3b067]
def wsL_law0_r18 : List Cond := [Cond.static yJ1_charAt_3b067, Cond.initialized RJ1, Cond.code yJ1_charAt_3b067 cJ1_charAt_3b067 2 (some .char), Cond.methodLink RJ1 9 yJ0_checkIndex_df160, Cond.static yJ0_checkIndex_df160, Cond.code yJ0_checkIndex_df160 cJ0_checkIndex_df160 2 none, Cond.fieldLink RJ0 1053 "jdk/internal/util/Preconditions" "SIOOBE_FORMATTER" "Ljava/util/function/BiFunction;", Cond.methodLink RJ0 1059 yJ3_checkIndex_8e157, Cond.static yJ3_checkIndex_8e157, Cond.initialized RJ3, Cond.code yJ3_checkIndex_8e157 cJ3_checkIndex_8e157 3 (some .int), Cond.methodLink RJ0 498 yJ2_charAt_3b067, Cond.static yJ2_charAt_3b067, Cond.initialized RJ2, Cond.code yJ2_charAt_3b067 cJ2_charAt_3b067 2 (some .char), Cond.methodLink RJ2 67 yJ2_checkIndex_2214a, Cond.static yJ2_checkIndex_2214a, Cond.code yJ2_checkIndex_2214a cJ2_checkIndex_2214a 2 none, Cond.methodLink RJ2 48 yJ2_length_9d52b, Cond.static yJ2_length_9d52b, Cond.code yJ2_length_9d52b cJ2_length_9d52b 1 (some .int), Cond.methodLink RJ2 414 yJ0_checkIndex_df160, Cond.methodLink RJ2 71 yJ2_getChar_3b067, Cond.static yJ2_getChar_3b067]
def wsL_law0_r19 : List Cond := [Cond.code yJ2_getChar_3b067 cJ2_getChar_3b067 2 (some .char), Cond.fieldLink RJ2 44 "java/lang/StringUTF16" "$assertionsDisabled" "Z", Cond.fieldLink RJ2 59 "java/lang/StringUTF16" "HI_BYTE_SHIFT" "I", Cond.fieldLink RJ2 63 "java/lang/StringUTF16" "LO_BYTE_SHIFT" "I", Cond.methodLink RX11 156 yX4_keepsInBodies, Cond.static yX4_keepsInBodies, Cond.code yX4_keepsInBodies cX4_keepsInBodies 6 (some .boolean), Cond.fieldLink RX4 144 "FileRules$Pool" "parameters" "[I", Cond.fieldLink RX4 154 "FileRules$Body" "parameters" "I", Cond.fieldLink RX4 158 "FileRules$Body" "attribute" "I", Cond.methodLink RX4 140 yX2_bodyOf, Cond.methodLink RX4 151 yX2_typeOf, Cond.methodLink RX4 161 yX1_s4, Cond.methodLink RX4 164 yX4_keepsInBody, Cond.static yX4_keepsInBody, Cond.code yX4_keepsInBody cX4_keepsInBody 4 (some .boolean), Cond.methodLink RX4 168 yX4_behindCode, Cond.static yX4_behindCode, Cond.code yX4_behindCode cX4_behindCode 4 (some .int), Cond.fieldLink RX4 175 "FileRules$Body" "stack" "I", Cond.fieldLink RX4 178 "FileRules$Body" "locals" "I", Cond.fieldLink RX4 181 "FileRules$Body" "start" "I", Cond.fieldLink RX4 184 "FileRules$Body" "length" "I", Cond.methodLink RX4 172 yX4_behindCatches]
def wsL_law0_r20 : List Cond := [Cond.static yX4_behindCatches, Cond.code yX4_behindCatches cX4_behindCatches 4 (some .int), Cond.fieldLink RX4 187 "FileRules$Body" "catchCount" "I", Cond.fieldLink RX4 190 "FileRules$Body" "catches" "I", Cond.methodLink RX11 159 yX5_wrongInstruction, Cond.static yX5_wrongInstruction, Cond.initialized RX5, Cond.code yX5_wrongInstruction cX5_wrongInstruction 5 (some .int), Cond.fieldLink RX5 9 "FileRules$Image" "methodCount" "I", Cond.fieldLink RX5 19 "FileRules$Image" "methods" "[I", Cond.fieldLink RX5 27 "FileRules$Body" "firstRow" "I", Cond.fieldLink RX5 38 "FileRules$Body" "rowCount" "I", Cond.methodLink RX5 15 yX2_bodyOf, Cond.methodLink RX5 32 yX5_cutIntoRows, Cond.static yX5_cutIntoRows, Cond.code yX5_cutIntoRows cX5_cutIntoRows 5 (some .int), Cond.fieldLink RX5 41 "FileRules$Body" "start" "I", Cond.fieldLink RX5 44 "FileRules$Body" "length" "I", Cond.fieldLink RX5 47 "FileRules$Image" "bytes" "LFileRules$Bytes;", Cond.fieldLink RX5 57 "FileRules$Image" "instructions" "[I", Cond.methodLink RX5 51 yX3_lengthAt, Cond.static yX3_lengthAt, Cond.initialized RX3, Cond.code yX3_lengthAt cX3_lengthAt 4 (some .int)]
def wsL_law0_r21 : List Cond := [Cond.fieldLink RX3 25 "FileRules$Instructions" "LENGTHS" "[I", Cond.methodLink RX3 7 yX1_u1, Cond.methodLink RX3 13 yX3_tableLength, Cond.static yX3_tableLength, Cond.code yX3_tableLength cX3_tableLength 6 (some .int), Cond.constantLong RX3 36 (200), Cond.methodLink RX3 29 yX3_switchHead, Cond.static yX3_switchHead, Cond.code yX3_switchHead cX3_switchHead 3 (some .int), Cond.methodLink RX3 33 yX1_s4, Cond.methodLink RX3 19 yX3_lookupLength, Cond.static yX3_lookupLength, Cond.code yX3_lookupLength cX3_lookupLength 7 (some .int), Cond.methodLink RX3 22 yX3_wideLength, Cond.static yX3_wideLength, Cond.code yX3_wideLength cX3_wideLength 1 (some .int), Cond.methodLink RX11 166 yX5_wrongLink, Cond.static yX5_wrongLink, Cond.code yX5_wrongLink cX5_wrongLink 4 (some .int), Cond.methodLink RX5 64 yX5_findMembers, Cond.static yX5_findMembers, Cond.code yX5_findMembers cX5_findMembers 5 none, Cond.fieldLink RX5 74 "FileRules$Image" "pool" "LFileRules$Pool;", Cond.fieldLink RX5 78 "FileRules$Image" "classPlace" "I"]
def wsL_law0_r22 : List Cond := [Cond.fieldLink RX5 93 "FileRules$Pool" "count" "I", Cond.fieldLink RX5 100 "FileRules$Image" "fields" "[I", Cond.fieldLink RX5 103 "FileRules$Image" "fieldCount" "I", Cond.fieldLink RX5 110 "FileRules$Pool" "members" "[I", Cond.methodLink RX5 81 yX1_u2, Cond.methodLink RX5 87 yX7_part, Cond.methodLink RX5 96 yX7_is, Cond.methodLink RX5 106 yX5_findMember, Cond.static yX5_findMember, Cond.code yX5_findMember cX5_findMember 10 (some .int), Cond.methodLink RX5 113 yX7_same, Cond.methodLink RX5 116 yX2_nameOf, Cond.methodLink RX5 119 yX2_typeOf, Cond.methodLink RX5 68 yX5_wrongInstructionLink, Cond.static yX5_wrongInstructionLink, Cond.code yX5_wrongInstructionLink cX5_wrongInstructionLink 4 (some .int), Cond.methodLink RX5 122 yX5_pointsWell, Cond.static yX5_pointsWell, Cond.code yX5_pointsWell cX5_pointsWell 6 (some .boolean), Cond.fieldLink RX5 143 "FileRules$Body" "locals" "I", Cond.methodLink RX5 126 yX3_kindAt, Cond.static yX3_kindAt, Cond.code yX3_kindAt cX3_kindAt 3 (some .int), Cond.methodLink RX5 130 yX3_entryAt]
def wsL_law0_r23 : List Cond := [Cond.static yX3_entryAt, Cond.code yX3_entryAt cX3_entryAt 2 (some .int), Cond.methodLink RX3 41 yX1_u2, Cond.methodLink RX5 133 yX3_isLocal, Cond.static yX3_isLocal, Cond.code yX3_isLocal cX3_isLocal 1 (some .boolean), Cond.methodLink RX3 44 yX3_isLongLocal, Cond.static yX3_isLongLocal, Cond.code yX3_isLongLocal cX3_isLongLocal 1 (some .boolean), Cond.methodLink RX5 137 yX3_localAt, Cond.static yX3_localAt, Cond.code yX3_localAt cX3_localAt 3 (some .int), Cond.methodLink RX5 140 yX3_isLongLocal, Cond.methodLink RX5 146 yX3_isJump, Cond.static yX3_isJump, Cond.code yX3_isJump cX3_isJump 1 (some .boolean), Cond.methodLink RX5 149 yX3_jumpPlace, Cond.static yX3_jumpPlace, Cond.code yX3_jumpPlace cX3_jumpPlace 2 (some .int), Cond.methodLink RX3 38 yX1_s2, Cond.instanceMethod yX1_s2, Cond.selects RX1 yX1_s2 yX1_s2, Cond.code yX1_s2 cX1_s2 2 (some .int), Cond.methodLink RX1 27 yX1_u2]
def wsL_law0_r24 : List Cond := [Cond.methodLink RX5 152 yX2_numberAt, Cond.instanceMethod yX2_numberAt, Cond.selects RX2 yX2_numberAt yX2_numberAt, Cond.code yX2_numberAt cX2_numberAt 7 (some .int), Cond.fieldLink RX2 70 "FileRules$Body" "rowCount" "I", Cond.fieldLink RX2 73 "FileRules$Body" "firstRow" "I", Cond.methodLink RX5 156 yX3_isSwitch, Cond.static yX3_isSwitch, Cond.code yX3_isSwitch cX3_isSwitch 1 (some .boolean), Cond.methodLink RX5 159 yX5_targetsPointWell, Cond.static yX5_targetsPointWell, Cond.code yX5_targetsPointWell cX5_targetsPointWell 5 (some .boolean), Cond.methodLink RX5 168 yX3_targetCount, Cond.static yX3_targetCount, Cond.code yX3_targetCount cX3_targetCount 4 (some .int), Cond.methodLink RX5 171 yX3_targetPlace, Cond.static yX3_targetPlace, Cond.code yX3_targetPlace cX3_targetPlace 5 (some .int), Cond.methodLink RX5 162 yX3_isField, Cond.static yX3_isField, Cond.code yX3_isField cX3_isField 1 (some .boolean), Cond.methodLink RX5 165 yX1_u1, Cond.methodLink RX5 71 yX5_wrongCatch, Cond.static yX5_wrongCatch]
def wsL_law0_r25 : List Cond := [Cond.code yX5_wrongCatch cX5_wrongCatch 4 (some .int), Cond.fieldLink RX5 175 "FileRules$Body" "catchCount" "I", Cond.fieldLink RX5 178 "FileRules$Body" "catches" "I", Cond.methodLink RX5 181 yX5_catchPointsWell, Cond.static yX5_catchPointsWell, Cond.code yX5_catchPointsWell cX5_catchPointsWell 6 (some .boolean), Cond.methodLink RX5 184 yX5_isError, Cond.static yX5_isError, Cond.code yX5_isError cX5_isError 3 (some .boolean), Cond.methodLink RX5 190 yX7_says, Cond.methodLink RL 27 yX12_read, Cond.instanceMethod yX12_read, Cond.selects RX12 yX12_read yX12_read, Cond.codeWith yX12_read cX12_read 2 (some .int) [(26, 30, 33, 13)], Cond.fieldLink RX12 121 "FileRulesModel" "src" "[B", Cond.fieldLink RX12 134 "FileRulesModel" "srcSize" "I", Cond.fieldLink RX12 114 "FileRulesModel" "brokenPlace" "I", Cond.fieldLink RX12 111 "FileRulesModel" "brokenRule" "I", Cond.methodLink RX12 339 yX12_rules, Cond.instanceMethod yX12_rules, Cond.selects RX12 yX12_rules yX12_rules, Cond.code yX12_rules cX12_rules 3 none, Cond.fieldLink RX12 176 "FileRulesModel" "behind" "I", Cond.fieldLink RX12 161 "FileRulesModel" "memberCount" "I"]
def wsL_law0_r26 : List Cond := [Cond.fieldLink RX12 170 "FileRulesModel" "fieldCount" "I", Cond.fieldLink RX12 273 "FileRulesModel" "newCount" "I", Cond.fieldLink RX12 315 "FileRulesModel" "newTableSize" "I", Cond.methodLink RX12 345 yX12_layout, Cond.instanceMethod yX12_layout, Cond.selects RX12 yX12_layout yX12_layout, Cond.code yX12_layout cX12_layout 2 none, Cond.fieldLink RX12 131 "FileRulesModel" "next" "I", Cond.constantLong RX12 144 (2), Cond.fieldLink RX12 150 "FileRulesModel" "poolCount" "I", Cond.fieldLink RX12 156 "FileRulesModel" "classAt" "I", Cond.constantLong RX12 159 (6), Cond.fieldLink RX12 164 "FileRulesModel" "attributes" "I", Cond.methodLink RX12 137 yX12_must, Cond.instanceMethod yX12_must, Cond.selects RX12 yX12_must yX12_must, Cond.code yX12_must cX12_must 4 none, Cond.methodLink RX12 117 yX12_broken, Cond.instanceMethod yX12_broken, Cond.selects RX12 yX12_broken yX12_broken, Cond.code yX12_broken cX12_broken 3 (some (.object "java/lang/IllegalStateException")), Cond.methodLink RX12 124 yX12_octet, Cond.instanceMethod yX12_octet, Cond.selects RX12 yX12_octet yX12_octet]
def wsL_law0_r27 : List Cond := [Cond.code yX12_octet cX12_octet 2 (some .int), Cond.methodLink RX12 141 yX12_headByte, Cond.static yX12_headByte, Cond.code yX12_headByte cX12_headByte 1 (some .int), Cond.methodLink RX12 146 yX12_over, Cond.instanceMethod yX12_over, Cond.selects RX12 yX12_over yX12_over, Cond.code yX12_over cX12_over 4 (some .int), Cond.methodLink RX12 128 yX12_two, Cond.instanceMethod yX12_two, Cond.selects RX12 yX12_two yX12_two, Cond.code yX12_two cX12_two 2 (some .int), Cond.methodLink RX12 153 yX12_entry, Cond.instanceMethod yX12_entry, Cond.selects RX12 yX12_entry yX12_entry, Cond.code yX12_entry cX12_entry 5 none, Cond.constantLong RX12 183 (4), Cond.constantLong RX12 188 (8), Cond.constantLong RX12 190 (4294967295), Cond.methodLink RX12 179 yX12_nameEntry, Cond.instanceMethod yX12_nameEntry, Cond.selects RX12 yX12_nameEntry yX12_nameEntry, Cond.code yX12_nameEntry cX12_nameEntry 6 none, Cond.methodLink RX12 185 yX12_four]
def wsL_law0_r28 : List Cond := [Cond.instanceMethod yX12_four, Cond.selects RX12 yX12_four yX12_four, Cond.code yX12_four cX12_four 2 (some .int), Cond.methodLink RX12 167 yX12_members, Cond.instanceMethod yX12_members, Cond.selects RX12 yX12_members yX12_members, Cond.code yX12_members cX12_members 4 none, Cond.methodLink RX12 173 yX12_attributesOf, Cond.instanceMethod yX12_attributesOf, Cond.selects RX12 yX12_attributesOf yX12_attributesOf, Cond.code yX12_attributesOf cX12_attributesOf 6 none, Cond.methodLink RX12 348 yX12_entries, Cond.instanceMethod yX12_entries, Cond.selects RX12 yX12_entries yX12_entries, Cond.code yX12_entries cX12_entries 5 none, Cond.methodLink RX12 192 yX12_isEntry, Cond.instanceMethod yX12_isEntry, Cond.selects RX12 yX12_isEntry yX12_isEntry, Cond.code yX12_isEntry cX12_isEntry 3 (some .boolean), Cond.methodLink RX12 351 yX12_flags, Cond.instanceMethod yX12_flags, Cond.selects RX12 yX12_flags yX12_flags, Cond.code yX12_flags cX12_flags 2 none, Cond.methodLink RX12 354 yX12_classes]
def wsL_law0_r29 : List Cond := [Cond.instanceMethod yX12_classes, Cond.selects RX12 yX12_classes yX12_classes, Cond.code yX12_classes cX12_classes 1 none, Cond.methodLink RX12 357 yX12_names, Cond.instanceMethod yX12_names, Cond.selects RX12 yX12_names yX12_names, Cond.code yX12_names cX12_names 3 none, Cond.methodLink RX12 196 yX12_mustName, Cond.instanceMethod yX12_mustName, Cond.selects RX12 yX12_mustName yX12_mustName, Cond.code yX12_mustName cX12_mustName 2 none, Cond.methodLink RX12 360 yX12_types, Cond.instanceMethod yX12_types, Cond.selects RX12 yX12_types yX12_types, Cond.code yX12_types cX12_types 4 none, Cond.methodLink RX12 206 yX12_isType, Cond.instanceMethod yX12_isType, Cond.selects RX12 yX12_isType yX12_isType, Cond.code yX12_isType cX12_isType 2 (some .boolean), Cond.methodLink RX12 203 yX12_typeAt, Cond.instanceMethod yX12_typeAt, Cond.selects RX12 yX12_typeAt yX12_typeAt, Cond.code yX12_typeAt cX12_typeAt 3 (some .int), Cond.methodLink RX12 199 yX12_letter]
def wsL_law0_r30 : List Cond := [Cond.instanceMethod yX12_letter, Cond.selects RX12 yX12_letter yX12_letter, Cond.code yX12_letter cX12_letter 3 (some .int), Cond.methodLink RX12 210 yX12_parameterPlaces, Cond.instanceMethod yX12_parameterPlaces, Cond.selects RX12 yX12_parameterPlaces yX12_parameterPlaces, Cond.code yX12_parameterPlaces cX12_parameterPlaces 5 (some .int), Cond.methodLink RX12 363 yX12_twice, Cond.instanceMethod yX12_twice, Cond.selects RX12 yX12_twice yX12_twice, Cond.code yX12_twice cX12_twice 4 none, Cond.methodLink RX12 213 yX12_isSame, Cond.instanceMethod yX12_isSame, Cond.selects RX12 yX12_isSame yX12_isSame, Cond.code yX12_isSame cX12_isSame 4 (some .boolean), Cond.methodLink RX12 366 yX12_codes, Cond.instanceMethod yX12_codes, Cond.selects RX12 yX12_codes yX12_codes, Cond.code yX12_codes cX12_codes 2 none, Cond.methodLink RX12 232 yX12_codeOf, Cond.instanceMethod yX12_codeOf, Cond.selects RX12 yX12_codeOf yX12_codeOf, Cond.code yX12_codeOf cX12_codeOf 4 (some .int), Cond.methodLink RX12 228 yX12_isText]
def wsL_law0_r31 : List Cond := [Cond.instanceMethod yX12_isText, Cond.selects RX12 yX12_isText yX12_isText, Cond.code yX12_isText cX12_isText 4 (some .boolean), Cond.methodLink RX12 216 yJ0_length_8abf5, Cond.methodLink RX12 222 yJ0_charAt_5068e, Cond.methodLink RX12 369 yX12_codeItems, Cond.instanceMethod yX12_codeItems, Cond.selects RX12 yX12_codeItems yX12_codeItems, Cond.code yX12_codeItems cX12_codeItems 9 none, Cond.fieldLink RX12 235 "FileRulesModel" "codeEnd" "I", Cond.methodLink RX12 238 yX12_within, Cond.instanceMethod yX12_within, Cond.selects RX12 yX12_within yX12_within, Cond.code yX12_within cX12_within 4 (some .int), Cond.methodLink RX12 318 yX12_wholes, Cond.instanceMethod yX12_wholes, Cond.selects RX12 yX12_wholes yX12_wholes, Cond.code yX12_wholes cX12_wholes 4 none, Cond.fieldLink RX12 250 "FileRulesModel" "codeSize" "I", Cond.fieldLink RX12 267 "FileRulesModel" "instructions" "I", Cond.fieldLink RX12 241 "FileRulesModel" "codeAt" "I", Cond.methodLink RX12 264 yX12_take, Cond.instanceMethod yX12_take, Cond.selects RX12 yX12_take yX12_take]
def wsL_law0_r32 : List Cond := [Cond.code yX12_take cX12_take 2 none, Cond.methodLink RX12 270 yX12_span, Cond.instanceMethod yX12_span, Cond.selects RX12 yX12_span yX12_span, Cond.code yX12_span cX12_span 5 (some .int), Cond.methodLink RX12 244 yX12_codeOctet, Cond.instanceMethod yX12_codeOctet, Cond.selects RX12 yX12_codeOctet yX12_codeOctet, Cond.code yX12_codeOctet cX12_codeOctet 2 (some .int), Cond.methodLink RX12 247 yX12_spanOf, Cond.static yX12_spanOf, Cond.code yX12_spanOf cX12_spanOf 1 (some .int), Cond.methodLink RX12 253 yX12_switchSpan, Cond.instanceMethod yX12_switchSpan, Cond.selects RX12 yX12_switchSpan yX12_switchSpan, Cond.code yX12_switchSpan cX12_switchSpan 6 (some .int), Cond.constantLong RX12 262 (200), Cond.methodLink RX12 256 yX12_switchFrom, Cond.static yX12_switchFrom, Cond.code yX12_switchFrom cX12_switchFrom 1 (some .int), Cond.methodLink RX12 259 yX12_codeFour, Cond.instanceMethod yX12_codeFour, Cond.selects RX12 yX12_codeFour yX12_codeFour, Cond.code yX12_codeFour cX12_codeFour 2 (some .int)]
def wsL_law0_r33 : List Cond := [Cond.methodLink RX12 372 yX12_pointing, Cond.instanceMethod yX12_pointing, Cond.selects RX12 yX12_pointing yX12_pointing, Cond.code yX12_pointing cX12_pointing 3 none, Cond.fieldLink RX12 283 "FileRulesModel" "mostLocals" "I", Cond.methodLink RX12 321 yX12_instruction, Cond.instanceMethod yX12_instruction, Cond.selects RX12 yX12_instruction yX12_instruction, Cond.code yX12_instruction cX12_instruction 3 none, Cond.constant RX12 293 (65535), Cond.methodLink RX12 286 yX12_row, Cond.instanceMethod yX12_row, Cond.selects RX12 yX12_row yX12_row, Cond.code yX12_row cX12_row 4 none, Cond.methodLink RX12 290 yX12_codeTwo, Cond.instanceMethod yX12_codeTwo, Cond.selects RX12 yX12_codeTwo yX12_codeTwo, Cond.code yX12_codeTwo cX12_codeTwo 2 (some .int), Cond.methodLink RX12 294 yX12_pushed, Cond.instanceMethod yX12_pushed, Cond.selects RX12 yX12_pushed yX12_pushed, Cond.code yX12_pushed cX12_pushed 4 none, Cond.methodLink RX12 279 yX12_point, Cond.instanceMethod yX12_point]
def wsL_law0_r34 : List Cond := [Cond.selects RX12 yX12_point yX12_point, Cond.code yX12_point cX12_point 3 none, Cond.methodLink RX12 297 yX12_localRow, Cond.instanceMethod yX12_localRow, Cond.selects RX12 yX12_localRow yX12_localRow, Cond.code yX12_localRow cX12_localRow 5 none, Cond.methodLink RX12 300 yX12_grown, Cond.instanceMethod yX12_grown, Cond.selects RX12 yX12_grown yX12_grown, Cond.code yX12_grown cX12_grown 4 none, Cond.methodLink RX12 303 yX12_wide, Cond.instanceMethod yX12_wide, Cond.selects RX12 yX12_wide yX12_wide, Cond.code yX12_wide cX12_wide 4 none, Cond.methodLink RX12 306 yX12_pointedAt, Cond.instanceMethod yX12_pointedAt, Cond.selects RX12 yX12_pointedAt yX12_pointedAt, Cond.code yX12_pointedAt cX12_pointedAt 3 (some .int), Cond.methodLink RX12 276 yX12_isStart, Cond.instanceMethod yX12_isStart, Cond.selects RX12 yX12_isStart yX12_isStart, Cond.code yX12_isStart cX12_isStart 2 (some .boolean), Cond.methodLink RX12 309 yX12_switched, Cond.instanceMethod yX12_switched]
def wsL_law0_r35 : List Cond := [Cond.selects RX12 yX12_switched yX12_switched, Cond.code yX12_switched cX12_switched 8 none, Cond.methodLink RX12 312 yX12_member, Cond.instanceMethod yX12_member, Cond.selects RX12 yX12_member yX12_member, Cond.code yX12_member cX12_member 9 (some .int), Cond.methodLink RX12 324 yX12_caught, Cond.instanceMethod yX12_caught, Cond.selects RX12 yX12_caught yX12_caught, Cond.code yX12_caught cX12_caught 8 none, Cond.methodLink RX12 327 yX12_errorName, Cond.static yX12_errorName, Cond.code yX12_errorName cX12_errorName 1 (some (.object "java/lang/String")), Cond.methodLink RX12 342 yX12_keep, Cond.instanceMethod yX12_keep, Cond.selects RX12 yX12_keep yX12_keep, Cond.code yX12_keep cX12_keep 4 none, Cond.fieldLink RX12 375 "FileRulesModel" "isThere" "Z", Cond.fieldLink RX12 379 "FileRulesModel" "fields" "I", Cond.fieldLink RX12 382 "FileRulesModel" "methods" "I", Cond.fieldLink RX12 385 "FileRulesModel" "pool" "I", Cond.methodLink RX12 388 yX12_kindOf, Cond.static yX12_kindOf, Cond.code yX12_kindOf cX12_kindOf 1 (some .int)]
def wsL_law0_r36 : List Cond := [Cond.methodLink RL 28 yX11_place, Cond.instanceMethod yX11_place, Cond.selects RX11 yX11_place yX11_place, Cond.code yX11_place cX11_place 1 (some .int), Cond.fieldLink RX11 58 "FileRules$Verdict" "place" "I", Cond.methodLink RL 31 yX12_place, Cond.instanceMethod yX12_place, Cond.selects RX12 yX12_place yX12_place, Cond.code yX12_place cX12_place 1 (some .int), Cond.methodLink RL 32 yX11_size, Cond.instanceMethod yX11_size, Cond.selects RX11 yX11_size yX11_size, Cond.code yX11_size cX11_size 2 (some .int), Cond.fieldLink RX11 61 "FileRules$Image" "fieldCount" "I", Cond.fieldLink RX11 64 "FileRules$Image" "methodCount" "I", Cond.fieldLink RX11 71 "FileRules$Pool" "count" "I", Cond.methodLink RL 36 yX12_size, Cond.instanceMethod yX12_size, Cond.selects RX12 yX12_size yX12_size, Cond.code yX12_size cX12_size 2 (some .int), Cond.methodLink RL 37 yX11_field, Cond.instanceMethod yX11_field, Cond.selects RX11 yX11_field yX11_field, Cond.code yX11_field cX11_field 2 (some .int)]
def wsL_law0_r37 : List Cond := [Cond.fieldLink RX11 74 "FileRules$Pool" "types" "[I", Cond.fieldLink RX11 78 "FileRules$Image" "fields" "[I", Cond.methodLink RX11 81 yX11_at, Cond.methodLink RX11 85 yX2_typeOf, Cond.methodLink RL 40 yX12_field, Cond.instanceMethod yX12_field, Cond.selects RX12 yX12_field yX12_field, Cond.code yX12_field cX12_field 2 (some .int), Cond.methodLink RL 41 yX11_method, Cond.instanceMethod yX11_method, Cond.selects RX11 yX11_method yX11_method, Cond.code yX11_method cX11_method 4 (some .int), Cond.fieldLink RX11 93 "FileRules$Body" "rowCount" "I", Cond.fieldLink RX11 98 "FileRules$Body" "stack" "I", Cond.fieldLink RX11 101 "FileRules$Body" "locals" "I", Cond.fieldLink RX11 104 "FileRules$Body" "parameters" "I", Cond.fieldLink RX11 107 "FileRules$Body" "catchCount" "I", Cond.fieldLink RX11 110 "FileRules$Pool" "results" "[I", Cond.fieldLink RX11 113 "FileRules$Image" "methods" "[I", Cond.methodLink RX11 89 yX2_bodyOf, Cond.methodLink RL 45 yX12_method, Cond.instanceMethod yX12_method, Cond.selects RX12 yX12_method yX12_method, Cond.code yX12_method cX12_method 3 (some .int)]
def wsL_law0_r38 : List Cond := [Cond.methodLink RX12 391 yX12_isMethod, Cond.instanceMethod yX12_isMethod, Cond.selects RX12 yX12_isMethod yX12_isMethod, Cond.code yX12_isMethod cX12_isMethod 2 (some .boolean), Cond.methodLink RL 46 yX11_code, Cond.instanceMethod yX11_code, Cond.selects RX11 yX11_code yX11_code, Cond.code yX11_code cX11_code 4 (some .int), Cond.methodLink RX11 116 yX2_instructionPlace, Cond.instanceMethod yX2_instructionPlace, Cond.selects RX2 yX2_instructionPlace yX2_instructionPlace, Cond.code yX2_instructionPlace cX2_instructionPlace 4 (some .int), Cond.methodLink RX2 66 yX2_bodyOf, Cond.methodLink RX11 120 yX3_kindAt, Cond.methodLink RL 49 yX12_code, Cond.instanceMethod yX12_code, Cond.selects RX12 yX12_code yX12_code, Cond.code yX12_code cX12_code 4 (some .int), Cond.methodLink RX12 394 yX12_rowAt, Cond.instanceMethod yX12_rowAt, Cond.selects RX12 yX12_rowAt yX12_rowAt, Cond.code yX12_rowAt cX12_rowAt 3 (some .int), Cond.methodLink RL 50 yX11_first, Cond.instanceMethod yX11_first]
def wsL_law0_r39 : List Cond := [Cond.selects RX11 yX11_first yX11_first, Cond.code yX11_first cX11_first 5 (some .int), Cond.methodLink RX11 126 yX5_firstNumber, Cond.static yX5_firstNumber, Cond.code yX5_firstNumber cX5_firstNumber 4 (some .int), Cond.methodLink RX5 200 yX5_pushedInt, Cond.static yX5_pushedInt, Cond.code yX5_pushedInt cX5_pushedInt 3 (some .int), Cond.fieldLink RX5 213 "FileRules$Pool" "places" "[I", Cond.methodLink RX5 207 yX1_s1, Cond.instanceMethod yX1_s1, Cond.selects RX1 yX1_s1 yX1_s1, Cond.code yX1_s1 cX1_s1 2 (some .int), Cond.methodLink RX1 23 yX1_u1, Cond.methodLink RX5 210 yX1_s2, Cond.methodLink RX5 216 yX1_s4, Cond.methodLink RX5 204 yX5_pushedLongLow, Cond.static yX5_pushedLongLow, Cond.code yX5_pushedLongLow cX5_pushedLongLow 3 (some .int), Cond.methodLink RL 53 yX12_first, Cond.instanceMethod yX12_first, Cond.selects RX12 yX12_first yX12_first, Cond.code yX12_first cX12_first 5 (some .int), Cond.methodLink RL 54 yX11_target]
def wsL_law0_r40 : List Cond := [Cond.instanceMethod yX11_target, Cond.selects RX11 yX11_target yX11_target, Cond.code yX11_target cX11_target 6 (some .int), Cond.fieldLink RX11 132 "FileRules$Body" "start" "I", Cond.methodLink RX11 135 yX3_targetCount, Cond.methodLink RX11 139 yX3_targetPlace, Cond.methodLink RX11 143 yX2_numberAt, Cond.methodLink RL 58 yX12_target, Cond.instanceMethod yX12_target, Cond.selects RX12 yX12_target yX12_target, Cond.code yX12_target cX12_target 5 (some .int)]
def wsL_law0 : List Cond := (wsL_law0_r1 ++ (wsL_law0_r2 ++ (wsL_law0_r3 ++ (wsL_law0_r4 ++ (wsL_law0_r5 ++ (wsL_law0_r6 ++ (wsL_law0_r7 ++ (wsL_law0_r8 ++ (wsL_law0_r9 ++ (wsL_law0_r10 ++ (wsL_law0_r11 ++ (wsL_law0_r12 ++ (wsL_law0_r13 ++ (wsL_law0_r14 ++ (wsL_law0_r15 ++ (wsL_law0_r16 ++ (wsL_law0_r17 ++ (wsL_law0_r18 ++ (wsL_law0_r19 ++ (wsL_law0_r20 ++ (wsL_law0_r21 ++ (wsL_law0_r22 ++ (wsL_law0_r23 ++ (wsL_law0_r24 ++ (wsL_law0_r25 ++ (wsL_law0_r26 ++ (wsL_law0_r27 ++ (wsL_law0_r28 ++ (wsL_law0_r29 ++ (wsL_law0_r30 ++ (wsL_law0_r31 ++ (wsL_law0_r32 ++ (wsL_law0_r33 ++ (wsL_law0_r34 ++ (wsL_law0_r35 ++ (wsL_law0_r36 ++ (wsL_law0_r37 ++ (wsL_law0_r38 ++ (wsL_law0_r39 ++ wsL_law0_r40))))))))))))))))))))))))))))))))))))))) ++ wsX110 ++ wsX120 ++ wsX100 ++ wsX20 ++ wsX10 ++ wsX70 ++ wsX00 ++ wsJxb57110 ++ wsX80 ++ ([] : List Cond)
def wsL_law : List Cond := wsL_law0 ++ (vx_at0 RX12 15 "java/lang/IllegalStateException" ["java/lang/RuntimeException", "java/lang/Exception"]).filter goodWord
theorem dJxb5711_init_da8c8_0 : decode cJxb5711_init_da8c8 0 = .ok (.aload_n 0, 1) := by decide +kernel
theorem dJxb5711_init_da8c8_1 : decode cJxb5711_init_da8c8 1 = .ok (.invokespecial 1, 3) := by decide +kernel
theorem dJxb5711_init_da8c8_4 : decode cJxb5711_init_da8c8 4 = .ok (.return_, 1) := by decide +kernel
theorem dJ9_max_7cf53_0 : decode cJ9_max_7cf53 0 = .ok (.iload_n 0, 1) := by decide +kernel
theorem dJ9_max_7cf53_1 : decode cJ9_max_7cf53 1 = .ok (.iload_n 1, 1) := by decide +kernel
theorem dJ9_max_7cf53_2 : decode cJ9_max_7cf53 2 = .ok (.if_icmp .lt 7, 3) := by decide +kernel
theorem dJ9_max_7cf53_5 : decode cJ9_max_7cf53 5 = .ok (.iload_n 0, 1) := by decide +kernel
theorem dJ9_max_7cf53_6 : decode cJ9_max_7cf53 6 = .ok (.goto 4, 3) := by decide +kernel
theorem dJ9_max_7cf53_9 : decode cJ9_max_7cf53 9 = .ok (.iload_n 1, 1) := by decide +kernel
theorem dJ9_max_7cf53_10 : decode cJ9_max_7cf53 10 = .ok (.ireturn, 1) := by decide +kernel
theorem dJ9_min_7cf53_0 : decode cJ9_min_7cf53 0 = .ok (.iload_n 0, 1) := by decide +kernel
theorem dJ9_min_7cf53_1 : decode cJ9_min_7cf53 1 = .ok (.iload_n 1, 1) := by decide +kernel
theorem dJ9_min_7cf53_2 : decode cJ9_min_7cf53 2 = .ok (.if_icmp .gt 7, 3) := by decide +kernel
theorem dJ9_min_7cf53_5 : decode cJ9_min_7cf53 5 = .ok (.iload_n 0, 1) := by decide +kernel
theorem dJ9_min_7cf53_6 : decode cJ9_min_7cf53 6 = .ok (.goto 4, 3) := by decide +kernel
theorem dJ9_min_7cf53_9 : decode cJ9_min_7cf53 9 = .ok (.iload_n 1, 1) := by decide +kernel
theorem dJ9_min_7cf53_10 : decode cJ9_min_7cf53 10 = .ok (.ireturn, 1) := by decide +kernel
set_option maxRecDepth 20000 in
theorem ggJ0_length_8abf5_J0_coder_7d493 : GoodIn wsJ0_length_8abf5 wsJ0_coder_7d493 := goodIn_r _ [6, 7, 8] (by decide +kernel) (by decide +kernel)
set_option maxRecDepth 20000 in
theorem gJ0_length_8abf5_J0_coder_7d493 : GoodIn wsJ0_length_8abf5 (wsV RJ0 335 RJ0 yJ0_coder_7d493 wsJ0_coder_7d493) := goodIn_app (goodIn_of _ (by decide +kernel)) ggJ0_length_8abf5_J0_coder_7d493
theorem dJ0_length_8abf5_0 : decode cJ0_length_8abf5 0 = .ok (.aload_n 0, 1) := by decide +kernel
theorem dJ0_length_8abf5_1 : decode cJ0_length_8abf5 1 = .ok (.getfield 9, 3) := by decide +kernel
theorem dJ0_length_8abf5_4 : decode cJ0_length_8abf5 4 = .ok (.arraylength, 1) := by decide +kernel
theorem dJ0_length_8abf5_5 : decode cJ0_length_8abf5 5 = .ok (.aload_n 0, 1) := by decide +kernel
theorem dJ0_length_8abf5_6 : decode cJ0_length_8abf5 6 = .ok (.invokevirtual 335, 3) := by decide +kernel
theorem dJ0_length_8abf5_9 : decode cJ0_length_8abf5 9 = .ok (.ishr, 1) := by decide +kernel
theorem dJ0_length_8abf5_10 : decode cJ0_length_8abf5 10 = .ok (.ireturn, 1) := by decide +kernel
set_option maxRecDepth 20000 in
theorem ggJ0_charAt_5068e_J0_isLatin1_aae02 : GoodIn wsJ0_charAt_5068e wsJ0_isLatin1_aae02 := goodIn_r _ [6, 7, 8] (by decide +kernel) (by decide +kernel)
set_option maxRecDepth 20000 in
theorem gJ0_charAt_5068e_J0_isLatin1_aae02 : GoodIn wsJ0_charAt_5068e (wsV RJ0 492 RJ0 yJ0_isLatin1_aae02 wsJ0_isLatin1_aae02) := goodIn_app (goodIn_of _ (by decide +kernel)) ggJ0_charAt_5068e_J0_isLatin1_aae02
set_option maxRecDepth 20000 in
theorem ggJ0_charAt_5068e_J1_charAt_3b067 : GoodIn wsJ0_charAt_5068e wsJ1_charAt_3b067 := goodIn_r _ [12, 13, 14, 5, 15, 16, 17, 18, 19, 20] (by decide +kernel) (by decide +kernel)
set_option maxRecDepth 20000 in
theorem gJ0_charAt_5068e_J1_charAt_3b067 : GoodIn wsJ0_charAt_5068e (va_wsS RJ0 495 yJ1_charAt_3b067 wsJ1_charAt_3b067) := goodIn_app (goodIn_of _ (by decide +kernel)) ggJ0_charAt_5068e_J1_charAt_3b067
set_option maxRecDepth 20000 in
theorem ggJ0_charAt_5068e_J2_charAt_3b067 : GoodIn wsJ0_charAt_5068e wsJ2_charAt_3b067 := goodIn_r _ [24, 25, 26, 23, 27, 28, 29, 30, 31, 14, 5, 15, 16, 17, 18, 19, 20, 32, 33, 34, 35, 36, 37] (by decide +kernel) (by decide +kernel)
set_option maxRecDepth 20000 in
theorem gJ0_charAt_5068e_J2_charAt_3b067 : GoodIn wsJ0_charAt_5068e (va_wsS RJ0 498 yJ2_charAt_3b067 wsJ2_charAt_3b067) := goodIn_app (goodIn_of _ (by decide +kernel)) ggJ0_charAt_5068e_J2_charAt_3b067
theorem dJ0_charAt_5068e_0 : decode cJ0_charAt_5068e 0 = .ok (.aload_n 0, 1) := by decide +kernel
theorem dJ0_charAt_5068e_1 : decode cJ0_charAt_5068e 1 = .ok (.invokevirtual 492, 3) := by decide +kernel
theorem dJ0_charAt_5068e_4 : decode cJ0_charAt_5068e 4 = .ok (.ifCond .eq 12, 3) := by decide +kernel
theorem dJ0_charAt_5068e_7 : decode cJ0_charAt_5068e 7 = .ok (.aload_n 0, 1) := by decide +kernel
theorem dJ0_charAt_5068e_8 : decode cJ0_charAt_5068e 8 = .ok (.getfield 9, 3) := by decide +kernel
theorem dJ0_charAt_5068e_11 : decode cJ0_charAt_5068e 11 = .ok (.iload_n 1, 1) := by decide +kernel
theorem dJ0_charAt_5068e_12 : decode cJ0_charAt_5068e 12 = .ok (.invokestatic 495, 3) := by decide +kernel
theorem dJ0_charAt_5068e_15 : decode cJ0_charAt_5068e 15 = .ok (.ireturn, 1) := by decide +kernel
theorem dJ0_charAt_5068e_16 : decode cJ0_charAt_5068e 16 = .ok (.aload_n 0, 1) := by decide +kernel
theorem dJ0_charAt_5068e_17 : decode cJ0_charAt_5068e 17 = .ok (.getfield 9, 3) := by decide +kernel
theorem dJ0_charAt_5068e_20 : decode cJ0_charAt_5068e 20 = .ok (.iload_n 1, 1) := by decide +kernel
theorem dJ0_charAt_5068e_21 : decode cJ0_charAt_5068e 21 = .ok (.invokestatic 498, 3) := by decide +kernel
theorem dJ0_charAt_5068e_24 : decode cJ0_charAt_5068e 24 = .ok (.ireturn, 1) := by decide +kernel
theorem dJ0_coder_7d493_0 : decode cJ0_coder_7d493 0 = .ok (.getstatic 38, 3) := by decide +kernel
theorem dJ0_coder_7d493_3 : decode cJ0_coder_7d493 3 = .ok (.ifCond .eq 10, 3) := by decide +kernel
theorem dJ0_coder_7d493_6 : decode cJ0_coder_7d493 6 = .ok (.aload_n 0, 1) := by decide +kernel
theorem dJ0_coder_7d493_7 : decode cJ0_coder_7d493 7 = .ok (.getfield 15, 3) := by decide +kernel
theorem dJ0_coder_7d493_10 : decode cJ0_coder_7d493 10 = .ok (.goto 4, 3) := by decide +kernel
theorem dJ0_coder_7d493_13 : decode cJ0_coder_7d493 13 = .ok (.iconst 1, 1) := by decide +kernel
theorem dJ0_coder_7d493_14 : decode cJ0_coder_7d493 14 = .ok (.ireturn, 1) := by decide +kernel
theorem dJ0_isLatin1_aae02_0 : decode cJ0_isLatin1_aae02 0 = .ok (.getstatic 38, 3) := by decide +kernel
theorem dJ0_isLatin1_aae02_3 : decode cJ0_isLatin1_aae02 3 = .ok (.ifCond .eq 14, 3) := by decide +kernel
theorem dJ0_isLatin1_aae02_6 : decode cJ0_isLatin1_aae02 6 = .ok (.aload_n 0, 1) := by decide +kernel
theorem dJ0_isLatin1_aae02_7 : decode cJ0_isLatin1_aae02 7 = .ok (.getfield 15, 3) := by decide +kernel
theorem dJ0_isLatin1_aae02_10 : decode cJ0_isLatin1_aae02 10 = .ok (.ifCond .ne 7, 3) := by decide +kernel
theorem dJ0_isLatin1_aae02_13 : decode cJ0_isLatin1_aae02 13 = .ok (.iconst 1, 1) := by decide +kernel
theorem dJ0_isLatin1_aae02_14 : decode cJ0_isLatin1_aae02 14 = .ok (.goto 4, 3) := by decide +kernel
theorem dJ0_isLatin1_aae02_17 : decode cJ0_isLatin1_aae02 17 = .ok (.iconst 0, 1) := by decide +kernel
theorem dJ0_isLatin1_aae02_18 : decode cJ0_isLatin1_aae02 18 = .ok (.ireturn, 1) := by decide +kernel
set_option maxRecDepth 20000 in
theorem ggJ0_checkIndex_df160_J3_checkIndex_8e157 : GoodIn wsJ0_checkIndex_df160 wsJ3_checkIndex_8e157 := goodIn_r _ [5] (by decide +kernel) (by decide +kernel)
set_option maxRecDepth 20000 in
theorem gJ0_checkIndex_df160_J3_checkIndex_8e157 : GoodIn wsJ0_checkIndex_df160 (va_wsS RJ0 1059 yJ3_checkIndex_8e157 wsJ3_checkIndex_8e157) := goodIn_app (goodIn_of _ (by decide +kernel)) ggJ0_checkIndex_df160_J3_checkIndex_8e157
theorem dJ0_checkIndex_df160_0 : decode cJ0_checkIndex_df160 0 = .ok (.iload_n 0, 1) := by decide +kernel
theorem dJ0_checkIndex_df160_1 : decode cJ0_checkIndex_df160 1 = .ok (.iload_n 1, 1) := by decide +kernel
theorem dJ0_checkIndex_df160_2 : decode cJ0_checkIndex_df160 2 = .ok (.getstatic 1053, 3) := by decide +kernel
theorem dJ0_checkIndex_df160_5 : decode cJ0_checkIndex_df160 5 = .ok (.invokestatic 1059, 3) := by decide +kernel
theorem dJ0_checkIndex_df160_8 : decode cJ0_checkIndex_df160 8 = .ok (.pop, 1) := by decide +kernel
theorem dJ0_checkIndex_df160_9 : decode cJ0_checkIndex_df160 9 = .ok (.return_, 1) := by decide +kernel
set_option maxRecDepth 20000 in
theorem ggJ1_charAt_3b067_J0_checkIndex_df160 : GoodIn wsJ1_charAt_3b067 wsJ0_checkIndex_df160 := goodIn_r _ [4, 5, 6, 7, 8, 9] (by decide +kernel) (by decide +kernel)
set_option maxRecDepth 20000 in
theorem gJ1_charAt_3b067_J0_checkIndex_df160 : GoodIn wsJ1_charAt_3b067 (va_wsS RJ1 9 yJ0_checkIndex_df160 wsJ0_checkIndex_df160) := goodIn_app (goodIn_of _ (by decide +kernel)) ggJ1_charAt_3b067_J0_checkIndex_df160
theorem dJ1_charAt_3b067_0 : decode cJ1_charAt_3b067 0 = .ok (.iload_n 1, 1) := by decide +kernel
theorem dJ1_charAt_3b067_1 : decode cJ1_charAt_3b067 1 = .ok (.aload_n 0, 1) := by decide +kernel
theorem dJ1_charAt_3b067_2 : decode cJ1_charAt_3b067 2 = .ok (.arraylength, 1) := by decide +kernel
theorem dJ1_charAt_3b067_3 : decode cJ1_charAt_3b067 3 = .ok (.invokestatic 9, 3) := by decide +kernel
theorem dJ1_charAt_3b067_6 : decode cJ1_charAt_3b067 6 = .ok (.aload_n 0, 1) := by decide +kernel
theorem dJ1_charAt_3b067_7 : decode cJ1_charAt_3b067 7 = .ok (.iload_n 1, 1) := by decide +kernel
theorem dJ1_charAt_3b067_8 : decode cJ1_charAt_3b067 8 = .ok (.baload, 1) := by decide +kernel
theorem dJ1_charAt_3b067_9 : decode cJ1_charAt_3b067 9 = .ok (.sipush 255, 3) := by decide +kernel
theorem dJ1_charAt_3b067_12 : decode cJ1_charAt_3b067 12 = .ok (.iand, 1) := by decide +kernel
theorem dJ1_charAt_3b067_13 : decode cJ1_charAt_3b067 13 = .ok (.i2c, 1) := by decide +kernel
theorem dJ1_charAt_3b067_14 : decode cJ1_charAt_3b067 14 = .ok (.ireturn, 1) := by decide +kernel
set_option maxRecDepth 20000 in
theorem ggJ2_getChar_3b067_J2_length_9d52b : GoodIn wsJ2_getChar_3b067 wsJ2_length_9d52b := goodIn_r _ [7] (by decide +kernel) (by decide +kernel)
set_option maxRecDepth 20000 in
theorem gJ2_getChar_3b067_J2_length_9d52b : GoodIn wsJ2_getChar_3b067 (va_wsS RJ2 48 yJ2_length_9d52b wsJ2_length_9d52b) := goodIn_app (goodIn_of _ (by decide +kernel)) ggJ2_getChar_3b067_J2_length_9d52b
theorem dJ2_getChar_3b067_0 : decode cJ2_getChar_3b067 0 = .ok (.getstatic 44, 3) := by decide +kernel
theorem dJ2_getChar_3b067_3 : decode cJ2_getChar_3b067 3 = .ok (.ifCond .ne 25, 3) := by decide +kernel
theorem dJ2_getChar_3b067_6 : decode cJ2_getChar_3b067 6 = .ok (.iload_n 1, 1) := by decide +kernel
theorem dJ2_getChar_3b067_7 : decode cJ2_getChar_3b067 7 = .ok (.ifCond .lt 11, 3) := by decide +kernel
theorem dJ2_getChar_3b067_10 : decode cJ2_getChar_3b067 10 = .ok (.iload_n 1, 1) := by decide +kernel
theorem dJ2_getChar_3b067_11 : decode cJ2_getChar_3b067 11 = .ok (.aload_n 0, 1) := by decide +kernel
theorem dJ2_getChar_3b067_12 : decode cJ2_getChar_3b067 12 = .ok (.invokestatic 48, 3) := by decide +kernel
theorem dJ2_getChar_3b067_15 : decode cJ2_getChar_3b067 15 = .ok (.if_icmp .lt 13, 3) := by decide +kernel
theorem dJ2_getChar_3b067_18 : decode cJ2_getChar_3b067 18 = .ok (.new 52, 3) := by decide +kernel
theorem dJ2_getChar_3b067_21 : decode cJ2_getChar_3b067 21 = .ok (.dup, 1) := by decide +kernel
theorem dJ2_getChar_3b067_22 : decode cJ2_getChar_3b067 22 = .ok (.ldc 54, 2) := by decide +kernel
theorem dJ2_getChar_3b067_24 : decode cJ2_getChar_3b067 24 = .ok (.invokespecial 56, 3) := by decide +kernel
theorem dJ2_getChar_3b067_27 : decode cJ2_getChar_3b067 27 = .ok (.athrow, 1) := by decide +kernel
theorem dJ2_getChar_3b067_28 : decode cJ2_getChar_3b067 28 = .ok (.iload_n 1, 1) := by decide +kernel
theorem dJ2_getChar_3b067_29 : decode cJ2_getChar_3b067 29 = .ok (.iconst 1, 1) := by decide +kernel
theorem dJ2_getChar_3b067_30 : decode cJ2_getChar_3b067 30 = .ok (.ishl, 1) := by decide +kernel
theorem dJ2_getChar_3b067_31 : decode cJ2_getChar_3b067 31 = .ok (.istore_n 1, 1) := by decide +kernel
theorem dJ2_getChar_3b067_32 : decode cJ2_getChar_3b067 32 = .ok (.aload_n 0, 1) := by decide +kernel
theorem dJ2_getChar_3b067_33 : decode cJ2_getChar_3b067 33 = .ok (.iload_n 1, 1) := by decide +kernel
theorem dJ2_getChar_3b067_34 : decode cJ2_getChar_3b067 34 = .ok (.iinc 1 1, 3) := by decide +kernel
theorem dJ2_getChar_3b067_37 : decode cJ2_getChar_3b067 37 = .ok (.baload, 1) := by decide +kernel
theorem dJ2_getChar_3b067_38 : decode cJ2_getChar_3b067 38 = .ok (.sipush 255, 3) := by decide +kernel
theorem dJ2_getChar_3b067_41 : decode cJ2_getChar_3b067 41 = .ok (.iand, 1) := by decide +kernel
theorem dJ2_getChar_3b067_42 : decode cJ2_getChar_3b067 42 = .ok (.getstatic 59, 3) := by decide +kernel
theorem dJ2_getChar_3b067_45 : decode cJ2_getChar_3b067 45 = .ok (.ishl, 1) := by decide +kernel
theorem dJ2_getChar_3b067_46 : decode cJ2_getChar_3b067 46 = .ok (.aload_n 0, 1) := by decide +kernel
theorem dJ2_getChar_3b067_47 : decode cJ2_getChar_3b067 47 = .ok (.iload_n 1, 1) := by decide +kernel
theorem dJ2_getChar_3b067_48 : decode cJ2_getChar_3b067 48 = .ok (.baload, 1) := by decide +kernel
theorem dJ2_getChar_3b067_49 : decode cJ2_getChar_3b067 49 = .ok (.sipush 255, 3) := by decide +kernel
theorem dJ2_getChar_3b067_52 : decode cJ2_getChar_3b067 52 = .ok (.iand, 1) := by decide +kernel
theorem dJ2_getChar_3b067_53 : decode cJ2_getChar_3b067 53 = .ok (.getstatic 63, 3) := by decide +kernel
theorem dJ2_getChar_3b067_56 : decode cJ2_getChar_3b067 56 = .ok (.ishl, 1) := by decide +kernel
theorem dJ2_getChar_3b067_57 : decode cJ2_getChar_3b067 57 = .ok (.ior, 1) := by decide +kernel
theorem dJ2_getChar_3b067_58 : decode cJ2_getChar_3b067 58 = .ok (.i2c, 1) := by decide +kernel
theorem dJ2_getChar_3b067_59 : decode cJ2_getChar_3b067 59 = .ok (.ireturn, 1) := by decide +kernel
theorem dJ2_length_9d52b_0 : decode cJ2_length_9d52b 0 = .ok (.aload_n 0, 1) := by decide +kernel
theorem dJ2_length_9d52b_1 : decode cJ2_length_9d52b 1 = .ok (.arraylength, 1) := by decide +kernel
theorem dJ2_length_9d52b_2 : decode cJ2_length_9d52b 2 = .ok (.iconst 1, 1) := by decide +kernel
theorem dJ2_length_9d52b_3 : decode cJ2_length_9d52b 3 = .ok (.ishr, 1) := by decide +kernel
theorem dJ2_length_9d52b_4 : decode cJ2_length_9d52b 4 = .ok (.ireturn, 1) := by decide +kernel
set_option maxRecDepth 20000 in
theorem ggJ2_charAt_3b067_J2_checkIndex_2214a : GoodIn wsJ2_charAt_3b067 wsJ2_checkIndex_2214a := goodIn_r _ [4, 5, 6, 3, 7, 8, 9, 10, 11, 12, 13, 14, 15, 16] (by decide +kernel) (by decide +kernel)
set_option maxRecDepth 20000 in
theorem gJ2_charAt_3b067_J2_checkIndex_2214a : GoodIn wsJ2_charAt_3b067 (va_wsS RJ2 67 yJ2_checkIndex_2214a wsJ2_checkIndex_2214a) := goodIn_app (goodIn_of _ (by decide +kernel)) ggJ2_charAt_3b067_J2_checkIndex_2214a
set_option maxRecDepth 20000 in
theorem ggJ2_charAt_3b067_J2_getChar_3b067 : GoodIn wsJ2_charAt_3b067 wsJ2_getChar_3b067 := goodIn_r _ [19, 20, 21, 22, 5, 6, 3, 7] (by decide +kernel) (by decide +kernel)
set_option maxRecDepth 20000 in
theorem gJ2_charAt_3b067_J2_getChar_3b067 : GoodIn wsJ2_charAt_3b067 (va_wsS RJ2 71 yJ2_getChar_3b067 wsJ2_getChar_3b067) := goodIn_app (goodIn_of _ (by decide +kernel)) ggJ2_charAt_3b067_J2_getChar_3b067
theorem dJ2_charAt_3b067_0 : decode cJ2_charAt_3b067 0 = .ok (.iload_n 1, 1) := by decide +kernel
theorem dJ2_charAt_3b067_1 : decode cJ2_charAt_3b067 1 = .ok (.aload_n 0, 1) := by decide +kernel
theorem dJ2_charAt_3b067_2 : decode cJ2_charAt_3b067 2 = .ok (.invokestatic 67, 3) := by decide +kernel
theorem dJ2_charAt_3b067_5 : decode cJ2_charAt_3b067 5 = .ok (.aload_n 0, 1) := by decide +kernel
theorem dJ2_charAt_3b067_6 : decode cJ2_charAt_3b067 6 = .ok (.iload_n 1, 1) := by decide +kernel
theorem dJ2_charAt_3b067_7 : decode cJ2_charAt_3b067 7 = .ok (.invokestatic 71, 3) := by decide +kernel
theorem dJ2_charAt_3b067_10 : decode cJ2_charAt_3b067 10 = .ok (.ireturn, 1) := by decide +kernel
set_option maxRecDepth 20000 in
theorem ggJ2_checkIndex_2214a_J2_length_9d52b : GoodIn wsJ2_checkIndex_2214a wsJ2_length_9d52b := goodIn_r _ [4] (by decide +kernel) (by decide +kernel)
set_option maxRecDepth 20000 in
theorem gJ2_checkIndex_2214a_J2_length_9d52b : GoodIn wsJ2_checkIndex_2214a (va_wsS RJ2 48 yJ2_length_9d52b wsJ2_length_9d52b) := goodIn_app (goodIn_of _ (by decide +kernel)) ggJ2_checkIndex_2214a_J2_length_9d52b
set_option maxRecDepth 20000 in
theorem ggJ2_checkIndex_2214a_J0_checkIndex_df160 : GoodIn wsJ2_checkIndex_2214a wsJ0_checkIndex_df160 := goodIn_r _ [8, 9, 10, 11, 12, 13] (by decide +kernel) (by decide +kernel)
set_option maxRecDepth 20000 in
theorem gJ2_checkIndex_2214a_J0_checkIndex_df160 : GoodIn wsJ2_checkIndex_2214a (va_wsS RJ2 414 yJ0_checkIndex_df160 wsJ0_checkIndex_df160) := goodIn_app (goodIn_of _ (by decide +kernel)) ggJ2_checkIndex_2214a_J0_checkIndex_df160
theorem dJ2_checkIndex_2214a_0 : decode cJ2_checkIndex_2214a 0 = .ok (.iload_n 0, 1) := by decide +kernel
theorem dJ2_checkIndex_2214a_1 : decode cJ2_checkIndex_2214a 1 = .ok (.aload_n 1, 1) := by decide +kernel
theorem dJ2_checkIndex_2214a_2 : decode cJ2_checkIndex_2214a 2 = .ok (.invokestatic 48, 3) := by decide +kernel
theorem dJ2_checkIndex_2214a_5 : decode cJ2_checkIndex_2214a 5 = .ok (.invokestatic 414, 3) := by decide +kernel
theorem dJ2_checkIndex_2214a_8 : decode cJ2_checkIndex_2214a 8 = .ok (.return_, 1) := by decide +kernel
theorem dJ3_checkIndex_8e157_0 : decode cJ3_checkIndex_8e157 0 = .ok (.iload_n 0, 1) := by decide +kernel
theorem dJ3_checkIndex_8e157_1 : decode cJ3_checkIndex_8e157 1 = .ok (.ifCond .lt 8, 3) := by decide +kernel
theorem dJ3_checkIndex_8e157_4 : decode cJ3_checkIndex_8e157 4 = .ok (.iload_n 0, 1) := by decide +kernel
theorem dJ3_checkIndex_8e157_5 : decode cJ3_checkIndex_8e157 5 = .ok (.iload_n 1, 1) := by decide +kernel
theorem dJ3_checkIndex_8e157_6 : decode cJ3_checkIndex_8e157 6 = .ok (.if_icmp .lt 10, 3) := by decide +kernel
theorem dJ3_checkIndex_8e157_9 : decode cJ3_checkIndex_8e157 9 = .ok (.aload_n 2, 1) := by decide +kernel
theorem dJ3_checkIndex_8e157_10 : decode cJ3_checkIndex_8e157 10 = .ok (.iload_n 0, 1) := by decide +kernel
theorem dJ3_checkIndex_8e157_11 : decode cJ3_checkIndex_8e157 11 = .ok (.iload_n 1, 1) := by decide +kernel
theorem dJ3_checkIndex_8e157_12 : decode cJ3_checkIndex_8e157 12 = .ok (.invokestatic 95, 3) := by decide +kernel
theorem dJ3_checkIndex_8e157_15 : decode cJ3_checkIndex_8e157 15 = .ok (.athrow, 1) := by decide +kernel
theorem dJ3_checkIndex_8e157_16 : decode cJ3_checkIndex_8e157 16 = .ok (.iload_n 0, 1) := by decide +kernel
theorem dJ3_checkIndex_8e157_17 : decode cJ3_checkIndex_8e157 17 = .ok (.ireturn, 1) := by decide +kernel
abbrev vwCl : List vw_C := [(RJxb5711, TJxb5711, 0), (RX0, TX0, 10), (RX1, TX1, 2), (RX2, TX2, 11), (RX7, TX7, 9), (RX8, TX8, 4), (RX10, TX10, 2), (RX11, TX11, 5), (RX12, TX12, 52)]

