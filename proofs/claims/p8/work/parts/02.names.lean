def RX0 : String := "TaleMachine$Codes"
def TX0 : u_T := fun k => match k with
  | 0 => ("TaleMachine$Codes", "kept", "[I", true)
  | _ => ("TaleMachine$Codes", "total", "I", false)
def tyX0 : Nat → FieldType := fun k => match k with
  | 0 => .array .int
  | _ => .int
theorem nmX0 : ∀ a, a < 2 → ∀ b, b < 2 → a ≠ b → (TX0 a).2.1 ≠ (TX0 b).2.1 := by decide +kernel
theorem tyX0_ok : ∀ k, k < 2 → parseFieldDescriptor (TX0 k).2.2.1 = some (tyX0 k) := by decide +kernel
abbrev cX0_init : ByteArray := prog_2_method_1_code
def yX0_init : MethodName := ⟨RX0, "<init>", "(I)V"⟩
abbrev cX0_clear : ByteArray := prog_2_method_2_code
def yX0_clear : MethodName := ⟨RX0, "clear", "()V"⟩
abbrev cX0_add : ByteArray := prog_2_method_3_code
def yX0_add : MethodName := ⟨RX0, "add", "(I)V"⟩
abbrev cX0_addNumber : ByteArray := prog_2_method_4_code
def yX0_addNumber : MethodName := ⟨RX0, "addNumber", "(I)V"⟩
abbrev cX0_codeAt : ByteArray := prog_2_method_5_code
def yX0_codeAt : MethodName := ⟨RX0, "codeAt", "(I)I"⟩
def RX1 : String := "TaleMachine$Engine"
def TX1 : u_T := fun k => match k with
  | 0 => ("TaleMachine$Engine", "store", "LTaleMachine$Store;", true)
  | 1 => ("TaleMachine$Engine", "frames", "LTaleMachine$Frames;", true)
  | 2 => ("TaleMachine$Engine", "variables", "LTaleMachine$Variables;", true)
  | 3 => ("TaleMachine$Engine", "forest", "LTaleMachine$Forest;", true)
  | 4 => ("TaleMachine$Engine", "teller", "LTaleMachine$Teller;", true)
  | 5 => ("TaleMachine$Engine", "output", "LTaleMachine$Codes;", true)
  | 6 => ("TaleMachine$Engine", "operands", "[I", true)
  | 7 => ("TaleMachine$Engine", "given", "I", false)
  | 8 => ("TaleMachine$Engine", "pc", "I", false)
  | 9 => ("TaleMachine$Engine", "next", "I", false)
  | 10 => ("TaleMachine$Engine", "status", "I", false)
  | 11 => ("TaleMachine$Engine", "begun", "I", false)
  | 12 => ("TaleMachine$Engine", "draw", "I", false)
  | 13 => ("TaleMachine$Engine", "lineAt", "I", false)
  | 14 => ("TaleMachine$Engine", "wordsAt", "I", false)
  | 15 => ("TaleMachine$Engine", "value", "I", false)
  | _ => ("TaleMachine$Engine", "holds", "Z", false)
def tyX1 : Nat → FieldType := fun k => match k with
  | 0 => .object "TaleMachine$Store"
  | 1 => .object "TaleMachine$Frames"
  | 2 => .object "TaleMachine$Variables"
  | 3 => .object "TaleMachine$Forest"
  | 4 => .object "TaleMachine$Teller"
  | 5 => .object "TaleMachine$Codes"
  | 6 => .array .int
  | 7 => .int
  | 8 => .int
  | 9 => .int
  | 10 => .int
  | 11 => .int
  | 12 => .int
  | 13 => .int
  | 14 => .int
  | 15 => .int
  | _ => .boolean
theorem nmX1 : ∀ a, a < 17 → ∀ b, b < 17 → a ≠ b → (TX1 a).2.1 ≠ (TX1 b).2.1 := by decide +kernel
theorem tyX1_ok : ∀ k, k < 17 → parseFieldDescriptor (TX1 k).2.2.1 = some (tyX1 k) := by decide +kernel
abbrev cX1_init : ByteArray := prog_3_method_1_code
def yX1_init : MethodName := ⟨RX1, "<init>", "(LTaleMachine$Store;LTaleMachine$Frames;LTaleMachine$Codes;LTaleMachine$Teller;)V"⟩
abbrev cX1_begin : ByteArray := prog_3_method_2_code
def yX1_begin : MethodName := ⟨RX1, "begin", "()V"⟩
abbrev cX1_rewind : ByteArray := prog_3_method_3_code
def yX1_rewind : MethodName := ⟨RX1, "rewind", "()V"⟩
abbrev cX1_obey : ByteArray := prog_3_method_4_code
def yX1_obey : MethodName := ⟨RX1, "obey", "()V"⟩
abbrev cX1_fetch : ByteArray := prog_3_method_5_code
def yX1_fetch : MethodName := ⟨RX1, "fetch", "()I"⟩
abbrev cX1_readOperands : ByteArray := prog_3_method_6_code
def yX1_readOperands : MethodName := ⟨RX1, "readOperands", "(I)V"⟩
abbrev cX1_operandOf : ByteArray := prog_3_method_7_code
def yX1_operandOf : MethodName := ⟨RX1, "operandOf", "(I)I"⟩
abbrev cX1_afterOf : ByteArray := prog_3_method_8_code
def yX1_afterOf : MethodName := ⟨RX1, "afterOf", "(I)I"⟩
abbrev cX1_answer : ByteArray := prog_3_method_9_code
def yX1_answer : MethodName := ⟨RX1, "answer", "()V"⟩
abbrev cX1_branch : ByteArray := prog_3_method_10_code
def yX1_branch : MethodName := ⟨RX1, "branch", "()V"⟩
abbrev cX1_moveBy : ByteArray := prog_3_method_11_code
def yX1_moveBy : MethodName := ⟨RX1, "moveBy", "(I)V"⟩
abbrev cX1_giveBack : ByteArray := prog_3_method_12_code
def yX1_giveBack : MethodName := ⟨RX1, "giveBack", "(I)V"⟩
abbrev cX1_performTwo : ByteArray := prog_3_method_13_code
def yX1_performTwo : MethodName := ⟨RX1, "performTwo", "(III)V"⟩
abbrev cX1_isAnyOfTheOthers : ByteArray := prog_3_method_14_code
def yX1_isAnyOfTheOthers : MethodName := ⟨RX1, "isAnyOfTheOthers", "()Z"⟩
abbrev cX1_answerOfTwo : ByteArray := prog_3_method_15_code
def yX1_answerOfTwo : MethodName := ⟨RX1, "answerOfTwo", "(III)I"⟩
abbrev cX1_divided : ByteArray := prog_3_method_16_code
def yX1_divided : MethodName := ⟨RX1, "divided", "(III)I"⟩
abbrev cX1_performOne : ByteArray := prog_3_method_17_code
def yX1_performOne : MethodName := ⟨RX1, "performOne", "(II)V"⟩
abbrev cX1_performNone : ByteArray := prog_3_method_18_code
def yX1_performNone : MethodName := ⟨RX1, "performNone", "(I)V"⟩
abbrev cX1_newLine : ByteArray := prog_3_method_19_code
def yX1_newLine : MethodName := ⟨RX1, "newLine", "()V"⟩
abbrev cX1_performVar : ByteArray := prog_3_method_20_code
def yX1_performVar : MethodName := ⟨RX1, "performVar", "(I)V"⟩
abbrev cX1_call : ByteArray := prog_3_method_21_code
def yX1_call : MethodName := ⟨RX1, "call", "(I)V"⟩
abbrev cX1_drawn : ByteArray := prog_3_method_22_code
def yX1_drawn : MethodName := ⟨RX1, "drawn", "(I)I"⟩
def RX2 : String := "TaleMachine$Forest"
def TX2 : u_T := fun k => match k with
  | _ => ("TaleMachine$Forest", "store", "LTaleMachine$Store;", true)
def tyX2 : Nat → FieldType := fun k => match k with
  | _ => .object "TaleMachine$Store"
theorem nmX2 : ∀ a, a < 1 → ∀ b, b < 1 → a ≠ b → (TX2 a).2.1 ≠ (TX2 b).2.1 := by decide +kernel
theorem tyX2_ok : ∀ k, k < 1 → parseFieldDescriptor (TX2 k).2.2.1 = some (tyX2 k) := by decide +kernel
abbrev cX2_init : ByteArray := prog_4_method_1_code
def yX2_init : MethodName := ⟨RX2, "<init>", "(LTaleMachine$Store;)V"⟩
abbrev cX2_placeOf : ByteArray := prog_4_method_2_code
def yX2_placeOf : MethodName := ⟨RX2, "placeOf", "(I)I"⟩
abbrev cX2_linkOf : ByteArray := prog_4_method_3_code
def yX2_linkOf : MethodName := ⟨RX2, "linkOf", "(II)I"⟩
abbrev cX2_attributePlace : ByteArray := prog_4_method_4_code
def yX2_attributePlace : MethodName := ⟨RX2, "attributePlace", "(II)I"⟩
abbrev cX2_hasAttribute : ByteArray := prog_4_method_5_code
def yX2_hasAttribute : MethodName := ⟨RX2, "hasAttribute", "(II)Z"⟩
abbrev cX2_setAttribute : ByteArray := prog_4_method_6_code
def yX2_setAttribute : MethodName := ⟨RX2, "setAttribute", "(IIZ)V"⟩
abbrev cX2_remove : ByteArray := prog_4_method_7_code
def yX2_remove : MethodName := ⟨RX2, "remove", "(I)V"⟩
abbrev cX2_takeFrom : ByteArray := prog_4_method_8_code
def yX2_takeFrom : MethodName := ⟨RX2, "takeFrom", "(II)V"⟩
abbrev cX2_insert : ByteArray := prog_4_method_9_code
def yX2_insert : MethodName := ⟨RX2, "insert", "(II)V"⟩
abbrev cX2_nameOf : ByteArray := prog_4_method_10_code
def yX2_nameOf : MethodName := ⟨RX2, "nameOf", "(I)I"⟩
abbrev cX2_firstProperty : ByteArray := prog_4_method_11_code
def yX2_firstProperty : MethodName := ⟨RX2, "firstProperty", "(I)I"⟩
abbrev cX2_sizeBy : ByteArray := prog_4_method_12_code
def yX2_sizeBy : MethodName := ⟨RX2, "sizeBy", "(I)I"⟩
abbrev cX2_findProperty : ByteArray := prog_4_method_13_code
def yX2_findProperty : MethodName := ⟨RX2, "findProperty", "(II)I"⟩
abbrev cX2_propertyOf : ByteArray := prog_4_method_14_code
def yX2_propertyOf : MethodName := ⟨RX2, "propertyOf", "(II)I"⟩
abbrev cX2_defaultOf : ByteArray := prog_4_method_15_code
def yX2_defaultOf : MethodName := ⟨RX2, "defaultOf", "(I)I"⟩
abbrev cX2_setProperty : ByteArray := prog_4_method_16_code
def yX2_setProperty : MethodName := ⟨RX2, "setProperty", "(III)V"⟩
abbrev cX2_propertyAddress : ByteArray := prog_4_method_17_code
def yX2_propertyAddress : MethodName := ⟨RX2, "propertyAddress", "(II)I"⟩
abbrev cX2_propertyLength : ByteArray := prog_4_method_18_code
def yX2_propertyLength : MethodName := ⟨RX2, "propertyLength", "(I)I"⟩
abbrev cX2_propertyBehind : ByteArray := prog_4_method_19_code
def yX2_propertyBehind : MethodName := ⟨RX2, "propertyBehind", "(II)I"⟩
def RX3 : String := "TaleMachine$Frames"
def TX3 : u_T := fun k => match k with
  | 0 => ("TaleMachine$Frames", "words", "[I", true)
  | 1 => ("TaleMachine$Frames", "locals", "[I", true)
  | 2 => ("TaleMachine$Frames", "localCounts", "[I", true)
  | 3 => ("TaleMachine$Frames", "bases", "[I", true)
  | 4 => ("TaleMachine$Frames", "answers", "[I", true)
  | 5 => ("TaleMachine$Frames", "backs", "[I", true)
  | 6 => ("TaleMachine$Frames", "top", "I", false)
  | _ => ("TaleMachine$Frames", "depth", "I", false)
def tyX3 : Nat → FieldType := fun k => match k with
  | 0 => .array .int
  | 1 => .array .int
  | 2 => .array .int
  | 3 => .array .int
  | 4 => .array .int
  | 5 => .array .int
  | 6 => .int
  | _ => .int
theorem nmX3 : ∀ a, a < 8 → ∀ b, b < 8 → a ≠ b → (TX3 a).2.1 ≠ (TX3 b).2.1 := by decide +kernel
theorem tyX3_ok : ∀ k, k < 8 → parseFieldDescriptor (TX3 k).2.2.1 = some (tyX3 k) := by decide +kernel
abbrev cX3_init : ByteArray := prog_5_method_1_code
def yX3_init : MethodName := ⟨RX3, "<init>", "()V"⟩
abbrev cX3_clear : ByteArray := prog_5_method_2_code
def yX3_clear : MethodName := ⟨RX3, "clear", "()V"⟩
abbrev cX3_copyFrom : ByteArray := prog_5_method_3_code
def yX3_copyFrom : MethodName := ⟨RX3, "copyFrom", "(LTaleMachine$Frames;)V"⟩
abbrev cX3_isFull : ByteArray := prog_5_method_4_code
def yX3_isFull : MethodName := ⟨RX3, "isFull", "()Z"⟩
abbrev cX3_hasOwnWord : ByteArray := prog_5_method_5_code
def yX3_hasOwnWord : MethodName := ⟨RX3, "hasOwnWord", "()Z"⟩
abbrev cX3_localCount : ByteArray := prog_5_method_6_code
def yX3_localCount : MethodName := ⟨RX3, "localCount", "()I"⟩
abbrev cX3_localAt : ByteArray := prog_5_method_7_code
def yX3_localAt : MethodName := ⟨RX3, "localAt", "(I)I"⟩
abbrev cX3_setLocal : ByteArray := prog_5_method_8_code
def yX3_setLocal : MethodName := ⟨RX3, "setLocal", "(II)V"⟩
abbrev cX3_prepareLocal : ByteArray := prog_5_method_9_code
def yX3_prepareLocal : MethodName := ⟨RX3, "prepareLocal", "(II)V"⟩
abbrev cX3_enter : ByteArray := prog_5_method_10_code
def yX3_enter : MethodName := ⟨RX3, "enter", "(III)V"⟩
abbrev cX3_leave : ByteArray := prog_5_method_11_code
def yX3_leave : MethodName := ⟨RX3, "leave", "()V"⟩
def RX4 : String := "TaleMachine$Reader"
def TX4 : u_T := fun k => match k with
  | 0 => ("TaleMachine$Reader", "store", "LTaleMachine$Store;", true)
  | 1 => ("TaleMachine$Reader", "codes", "[I", true)
  | 2 => ("TaleMachine$Reader", "letters", "[I", true)
  | 3 => ("TaleMachine$Reader", "heard", "I", false)
  | 4 => ("TaleMachine$Reader", "spelled", "I", false)
  | 5 => ("TaleMachine$Reader", "place", "I", false)
  | 6 => ("TaleMachine$Reader", "most", "I", false)
  | _ => ("TaleMachine$Reader", "told", "I", false)
def tyX4 : Nat → FieldType := fun k => match k with
  | 0 => .object "TaleMachine$Store"
  | 1 => .array .int
  | 2 => .array .int
  | 3 => .int
  | 4 => .int
  | 5 => .int
  | 6 => .int
  | _ => .int
theorem nmX4 : ∀ a, a < 8 → ∀ b, b < 8 → a ≠ b → (TX4 a).2.1 ≠ (TX4 b).2.1 := by decide +kernel
theorem tyX4_ok : ∀ k, k < 8 → parseFieldDescriptor (TX4 k).2.2.1 = some (tyX4 k) := by decide +kernel
abbrev cX4_init : ByteArray := prog_6_method_1_code
def yX4_init : MethodName := ⟨RX4, "<init>", "(LTaleMachine$Store;)V"⟩
abbrev cX4_hear : ByteArray := prog_6_method_2_code
def yX4_hear : MethodName := ⟨RX4, "hear", "(II)V"⟩
abbrev cX4_part : ByteArray := prog_6_method_3_code
def yX4_part : MethodName := ⟨RX4, "part", "(II)I"⟩
abbrev cX4_layLine : ByteArray := prog_6_method_4_code
def yX4_layLine : MethodName := ⟨RX4, "layLine", "(I)V"⟩
abbrev cX4_isSeparator : ByteArray := prog_6_method_5_code
def yX4_isSeparator : MethodName := ⟨RX4, "isSeparator", "(I)Z"⟩
abbrev cX4_tellWord : ByteArray := prog_6_method_6_code
def yX4_tellWord : MethodName := ⟨RX4, "tellWord", "(II)V"⟩
abbrev cX4_spell : ByteArray := prog_6_method_7_code
def yX4_spell : MethodName := ⟨RX4, "spell", "(II)V"⟩
abbrev cX4_addLetter : ByteArray := prog_6_method_8_code
def yX4_addLetter : MethodName := ⟨RX4, "addLetter", "(I)V"⟩
abbrev cX4_spelledWord : ByteArray := prog_6_method_9_code
def yX4_spelledWord : MethodName := ⟨RX4, "spelledWord", "(I)I"⟩
abbrev cX4_entryOf : ByteArray := prog_6_method_10_code
def yX4_entryOf : MethodName := ⟨RX4, "entryOf", "(II)I"⟩
def RX5 : String := "TaleMachine$Slot"
def TX5 : u_T := fun k => match k with
  | 0 => ("TaleMachine$Slot", "row", "[I", true)
  | 1 => ("TaleMachine$Slot", "frames", "LTaleMachine$Frames;", true)
  | 2 => ("TaleMachine$Slot", "used", "Z", false)
  | 3 => ("TaleMachine$Slot", "size", "I", false)
  | 4 => ("TaleMachine$Slot", "pc", "I", false)
  | 5 => ("TaleMachine$Slot", "status", "I", false)
  | 6 => ("TaleMachine$Slot", "lineAt", "I", false)
  | _ => ("TaleMachine$Slot", "wordsAt", "I", false)
def tyX5 : Nat → FieldType := fun k => match k with
  | 0 => .array .int
  | 1 => .object "TaleMachine$Frames"
  | 2 => .boolean
  | 3 => .int
  | 4 => .int
  | 5 => .int
  | 6 => .int
  | _ => .int
theorem nmX5 : ∀ a, a < 8 → ∀ b, b < 8 → a ≠ b → (TX5 a).2.1 ≠ (TX5 b).2.1 := by decide +kernel
theorem tyX5_ok : ∀ k, k < 8 → parseFieldDescriptor (TX5 k).2.2.1 = some (tyX5 k) := by decide +kernel
abbrev cX5_init : ByteArray := prog_7_method_1_code
def yX5_init : MethodName := ⟨RX5, "<init>", "()V"⟩
abbrev cX5_keep : ByteArray := prog_7_method_2_code
def yX5_keep : MethodName := ⟨RX5, "keep", "(LTaleMachine$Store;LTaleMachine$Frames;LTaleMachine$Engine;)V"⟩
abbrev cX5_giveBack : ByteArray := prog_7_method_3_code
def yX5_giveBack : MethodName := ⟨RX5, "giveBack", "(LTaleMachine$Store;LTaleMachine$Frames;LTaleMachine$Engine;)V"⟩
abbrev cX5_changeAt : ByteArray := prog_7_method_4_code
def yX5_changeAt : MethodName := ⟨RX5, "changeAt", "(LTaleMachine$Store;I)I"⟩
abbrev cX5_squeeze : ByteArray := prog_7_method_5_code
def yX5_squeeze : MethodName := ⟨RX5, "squeeze", "(LTaleMachine$Store;)V"⟩
abbrev cX5_add : ByteArray := prog_7_method_6_code
def yX5_add : MethodName := ⟨RX5, "add", "(I)V"⟩
abbrev cX5_expand : ByteArray := prog_7_method_7_code
def yX5_expand : MethodName := ⟨RX5, "expand", "(LTaleMachine$Store;)V"⟩
def RX6 : String := "TaleMachine$Store"
def TX6 : u_T := fun k => match k with
  | 0 => ("TaleMachine$Store", "bytes", "[I", true)
  | 1 => ("TaleMachine$Store", "loaded", "[I", true)
  | 2 => ("TaleMachine$Store", "size", "I", false)
  | 3 => ("TaleMachine$Store", "mark", "I", false)
  | 4 => ("TaleMachine$Store", "firstPc", "I", false)
  | 5 => ("TaleMachine$Store", "dictionary", "I", false)
  | 6 => ("TaleMachine$Store", "objects", "I", false)
  | 7 => ("TaleMachine$Store", "globals", "I", false)
  | 8 => ("TaleMachine$Store", "abbreviations", "I", false)
  | _ => ("TaleMachine$Store", "halt", "I", false)
def tyX6 : Nat → FieldType := fun k => match k with
  | 0 => .array .int
  | 1 => .array .int
  | 2 => .int
  | 3 => .int
  | 4 => .int
  | 5 => .int
  | 6 => .int
  | 7 => .int
  | 8 => .int
  | _ => .int
theorem nmX6 : ∀ a, a < 10 → ∀ b, b < 10 → a ≠ b → (TX6 a).2.1 ≠ (TX6 b).2.1 := by decide +kernel
theorem tyX6_ok : ∀ k, k < 10 → parseFieldDescriptor (TX6 k).2.2.1 = some (tyX6 k) := by decide +kernel
abbrev cX6_init : ByteArray := prog_8_method_1_code
def yX6_init : MethodName := ⟨RX6, "<init>", "()V"⟩
abbrev cX6_take : ByteArray := prog_8_method_2_code
def yX6_take : MethodName := ⟨RX6, "take", "([II)I"⟩
abbrev cX6_headerFault : ByteArray := prog_8_method_3_code
def yX6_headerFault : MethodName := ⟨RX6, "headerFault", "()I"⟩
abbrev cX6_loadedWord : ByteArray := prog_8_method_4_code
def yX6_loadedWord : MethodName := ⟨RX6, "loadedWord", "(I)I"⟩
abbrev cX6_loadedSum : ByteArray := prog_8_method_5_code
def yX6_loadedSum : MethodName := ⟨RX6, "loadedSum", "()I"⟩
abbrev cX6_renew : ByteArray := prog_8_method_6_code
def yX6_renew : MethodName := ⟨RX6, "renew", "()V"⟩
abbrev cX6_raise : ByteArray := prog_8_method_7_code
def yX6_raise : MethodName := ⟨RX6, "raise", "(I)V"⟩
abbrev cX6_byteAt : ByteArray := prog_8_method_8_code
def yX6_byteAt : MethodName := ⟨RX6, "byteAt", "(I)I"⟩
abbrev cX6_wordAt : ByteArray := prog_8_method_9_code
def yX6_wordAt : MethodName := ⟨RX6, "wordAt", "(I)I"⟩
abbrev cX6_putByte : ByteArray := prog_8_method_10_code
def yX6_putByte : MethodName := ⟨RX6, "putByte", "(II)V"⟩
abbrev cX6_putWord : ByteArray := prog_8_method_11_code
def yX6_putWord : MethodName := ⟨RX6, "putWord", "(II)V"⟩
def RX7 : String := "TaleMachine$Teller"
def TX7 : u_T := fun k => match k with
  | 0 => ("TaleMachine$Teller", "store", "LTaleMachine$Store;", true)
  | 1 => ("TaleMachine$Teller", "sink", "LTaleMachine$Codes;", false)
  | 2 => ("TaleMachine$Teller", "told", "I", false)
  | 3 => ("TaleMachine$Teller", "letters", "I", false)
  | 4 => ("TaleMachine$Teller", "at", "I", false)
  | 5 => ("TaleMachine$Teller", "packed", "I", false)
  | 6 => ("TaleMachine$Teller", "left", "I", false)
  | 7 => ("TaleMachine$Teller", "abbreviated", "Z", false)
  | 8 => ("TaleMachine$Teller", "outerAt", "I", false)
  | 9 => ("TaleMachine$Teller", "outerPacked", "I", false)
  | 10 => ("TaleMachine$Teller", "outerLeft", "I", false)
  | 11 => ("TaleMachine$Teller", "row", "I", false)
  | 12 => ("TaleMachine$Teller", "waiting", "I", false)
  | _ => ("TaleMachine$Teller", "highPart", "I", false)
def tyX7 : Nat → FieldType := fun k => match k with
  | 0 => .object "TaleMachine$Store"
  | 1 => .object "TaleMachine$Codes"
  | 2 => .int
  | 3 => .int
  | 4 => .int
  | 5 => .int
  | 6 => .int
  | 7 => .boolean
  | 8 => .int
  | 9 => .int
  | 10 => .int
  | 11 => .int
  | 12 => .int
  | _ => .int
theorem nmX7 : ∀ a, a < 14 → ∀ b, b < 14 → a ≠ b → (TX7 a).2.1 ≠ (TX7 b).2.1 := by decide +kernel
theorem tyX7_ok : ∀ k, k < 14 → parseFieldDescriptor (TX7 k).2.2.1 = some (tyX7 k) := by decide +kernel
abbrev cX7_init : ByteArray := prog_9_method_1_code
def yX7_init : MethodName := ⟨RX7, "<init>", "(LTaleMachine$Store;)V"⟩
abbrev cX7_tell : ByteArray := prog_9_method_2_code
def yX7_tell : MethodName := ⟨RX7, "tell", "(ILTaleMachine$Codes;)I"⟩
abbrev cX7_open : ByteArray := prog_9_method_3_code
def yX7_open : MethodName := ⟨RX7, "open", "(I)V"⟩
abbrev cX7_nextWord : ByteArray := prog_9_method_4_code
def yX7_nextWord : MethodName := ⟨RX7, "nextWord", "()V"⟩
abbrev cX7_goOnOutside : ByteArray := prog_9_method_5_code
def yX7_goOnOutside : MethodName := ⟨RX7, "goOnOutside", "()V"⟩
abbrev cX7_nextLetter : ByteArray := prog_9_method_6_code
def yX7_nextLetter : MethodName := ⟨RX7, "nextLetter", "()V"⟩
abbrev cX7_plainLetter : ByteArray := prog_9_method_7_code
def yX7_plainLetter : MethodName := ⟨RX7, "plainLetter", "(I)I"⟩
abbrev cX7_await : ByteArray := prog_9_method_8_code
def yX7_await : MethodName := ⟨RX7, "await", "(I)V"⟩
abbrev cX7_thirdRowLetter : ByteArray := prog_9_method_9_code
def yX7_thirdRowLetter : MethodName := ⟨RX7, "thirdRowLetter", "(I)I"⟩
abbrev cX7_abbreviation : ByteArray := prog_9_method_10_code
def yX7_abbreviation : MethodName := ⟨RX7, "abbreviation", "(I)V"⟩
abbrev cX7_emit : ByteArray := prog_9_method_11_code
def yX7_emit : MethodName := ⟨RX7, "emit", "(I)V"⟩
def RX8 : String := "TaleMachine$Variables"
def TX8 : u_T := fun k => match k with
  | 0 => ("TaleMachine$Variables", "store", "LTaleMachine$Store;", true)
  | _ => ("TaleMachine$Variables", "frames", "LTaleMachine$Frames;", true)
def tyX8 : Nat → FieldType := fun k => match k with
  | 0 => .object "TaleMachine$Store"
  | _ => .object "TaleMachine$Frames"
theorem nmX8 : ∀ a, a < 2 → ∀ b, b < 2 → a ≠ b → (TX8 a).2.1 ≠ (TX8 b).2.1 := by decide +kernel
theorem tyX8_ok : ∀ k, k < 2 → parseFieldDescriptor (TX8 k).2.2.1 = some (tyX8 k) := by decide +kernel
abbrev cX8_init : ByteArray := prog_10_method_1_code
def yX8_init : MethodName := ⟨RX8, "<init>", "(LTaleMachine$Store;LTaleMachine$Frames;)V"⟩
abbrev cX8_valueOf : ByteArray := prog_10_method_2_code
def yX8_valueOf : MethodName := ⟨RX8, "valueOf", "(I)I"⟩
abbrev cX8_assign : ByteArray := prog_10_method_3_code
def yX8_assign : MethodName := ⟨RX8, "assign", "(II)V"⟩
abbrev cX8_globalAt : ByteArray := prog_10_method_4_code
def yX8_globalAt : MethodName := ⟨RX8, "globalAt", "(I)I"⟩
abbrev cX8_push : ByteArray := prog_10_method_5_code
def yX8_push : MethodName := ⟨RX8, "push", "(I)V"⟩
abbrev cX8_pop : ByteArray := prog_10_method_6_code
def yX8_pop : MethodName := ⟨RX8, "pop", "()I"⟩
abbrev cX8_namedValue : ByteArray := prog_10_method_7_code
def yX8_namedValue : MethodName := ⟨RX8, "namedValue", "(I)I"⟩
abbrev cX8_assignNamed : ByteArray := prog_10_method_8_code
def yX8_assignNamed : MethodName := ⟨RX8, "assignNamed", "(II)V"⟩
abbrev cX8_stepNamed : ByteArray := prog_10_method_9_code
def yX8_stepNamed : MethodName := ⟨RX8, "stepNamed", "(II)I"⟩
def RX9 : String := "TaleMachine"
def TX9 : u_T := fun k => match k with
  | 0 => ("TaleMachine", "tape", "[I", true)
  | 1 => ("TaleMachine", "store", "LTaleMachine$Store;", true)
  | 2 => ("TaleMachine", "frames", "LTaleMachine$Frames;", true)
  | 3 => ("TaleMachine", "output", "LTaleMachine$Codes;", true)
  | 4 => ("TaleMachine", "shown", "LTaleMachine$Codes;", true)
  | 5 => ("TaleMachine", "teller", "LTaleMachine$Teller;", true)
  | 6 => ("TaleMachine", "reader", "LTaleMachine$Reader;", true)
  | 7 => ("TaleMachine", "engine", "LTaleMachine$Engine;", true)
  | 8 => ("TaleMachine", "slots", "[LTaleMachine$Slot;", true)
  | _ => ("TaleMachine", "taped", "I", false)
def tyX9 : Nat → FieldType := fun k => match k with
  | 0 => .array .int
  | 1 => .object "TaleMachine$Store"
  | 2 => .object "TaleMachine$Frames"
  | 3 => .object "TaleMachine$Codes"
  | 4 => .object "TaleMachine$Codes"
  | 5 => .object "TaleMachine$Teller"
  | 6 => .object "TaleMachine$Reader"
  | 7 => .object "TaleMachine$Engine"
  | 8 => .array (.object "TaleMachine$Slot")
  | _ => .int
theorem nmX9 : ∀ a, a < 10 → ∀ b, b < 10 → a ≠ b → (TX9 a).2.1 ≠ (TX9 b).2.1 := by decide +kernel
theorem tyX9_ok : ∀ k, k < 10 → parseFieldDescriptor (TX9 k).2.2.1 = some (tyX9 k) := by decide +kernel
abbrev cX9_init : ByteArray := prog_1_method_1_code
def yX9_init : MethodName := ⟨RX9, "<init>", "()V"⟩
abbrev cX9_feed : ByteArray := prog_1_method_2_code
def yX9_feed : MethodName := ⟨RX9, "feed", "(IIIIIIII)I"⟩
abbrev cX9_layOnTape : ByteArray := prog_1_method_3_code
def yX9_layOnTape : MethodName := ⟨RX9, "layOnTape", "(I)V"⟩
abbrev cX9_end : ByteArray := prog_1_method_4_code
def yX9_end : MethodName := ⟨RX9, "end", "(I)I"⟩
abbrev cX9_load : ByteArray := prog_1_method_5_code
def yX9_load : MethodName := ⟨RX9, "load", "()I"⟩
abbrev cX9_run : ByteArray := prog_1_method_6_code
def yX9_run : MethodName := ⟨RX9, "run", "(I)I"⟩
abbrev cX9_state : ByteArray := prog_1_method_7_code
def yX9_state : MethodName := ⟨RX9, "state", "()I"⟩
abbrev cX9_line : ByteArray := prog_1_method_8_code
def yX9_line : MethodName := ⟨RX9, "line", "(II)I"⟩
abbrev cX9_start : ByteArray := prog_1_method_9_code
def yX9_start : MethodName := ⟨RX9, "start", "()I"⟩
abbrev cX9_out : ByteArray := prog_1_method_10_code
def yX9_out : MethodName := ⟨RX9, "out", "(I)I"⟩
abbrev cX9_count : ByteArray := prog_1_method_11_code
def yX9_count : MethodName := ⟨RX9, "count", "(I)I"⟩
abbrev cX9_peek : ByteArray := prog_1_method_12_code
def yX9_peek : MethodName := ⟨RX9, "peek", "(I)I"⟩
abbrev cX9_word : ByteArray := prog_1_method_13_code
def yX9_word : MethodName := ⟨RX9, "word", "(IZ)I"⟩
abbrev cX9_text : ByteArray := prog_1_method_14_code
def yX9_text : MethodName := ⟨RX9, "text", "(II)I"⟩
abbrev cX9_save : ByteArray := prog_1_method_15_code
def yX9_save : MethodName := ⟨RX9, "save", "(I)I"⟩
abbrev cX9_restore : ByteArray := prog_1_method_16_code
def yX9_restore : MethodName := ⟨RX9, "restore", "(I)I"⟩
abbrev cX9_squeezed : ByteArray := prog_1_method_17_code
def yX9_squeezed : MethodName := ⟨RX9, "squeezed", "(II)I"⟩
abbrev cX9_signed : ByteArray := prog_1_method_18_code
def yX9_signed : MethodName := ⟨RX9, "signed", "(I)I"⟩
def RX10 : String := "TaleMachineModel"
def TX10 : u_T := fun k => match k with
  | 0 => ("TaleMachineModel", "third", "[I", true)
  | 1 => ("TaleMachineModel", "tape", "[I", true)
  | 2 => ("TaleMachineModel", "taped", "I", false)
  | 3 => ("TaleMachineModel", "isThere", "Z", false)
  | 4 => ("TaleMachineModel", "mem", "[I", true)
  | 5 => ("TaleMachineModel", "first", "[I", true)
  | 6 => ("TaleMachineModel", "size", "I", false)
  | 7 => ("TaleMachineModel", "mark", "I", false)
  | 8 => ("TaleMachineModel", "dictionary", "I", false)
  | 9 => ("TaleMachineModel", "objects", "I", false)
  | 10 => ("TaleMachineModel", "globals", "I", false)
  | 11 => ("TaleMachineModel", "abbreviations", "I", false)
  | 12 => ("TaleMachineModel", "state", "I", false)
  | 13 => ("TaleMachineModel", "halt", "I", false)
  | 14 => ("TaleMachineModel", "pc", "I", false)
  | 15 => ("TaleMachineModel", "at", "I", false)
  | 16 => ("TaleMachineModel", "orders", "I", false)
  | 17 => ("TaleMachineModel", "draw", "I", false)
  | 18 => ("TaleMachineModel", "stack", "[I", true)
  | 19 => ("TaleMachineModel", "high", "I", false)
  | 20 => ("TaleMachineModel", "frames", "I", false)
  | 21 => ("TaleMachineModel", "base", "[I", true)
  | 22 => ("TaleMachineModel", "back", "[I", true)
  | 23 => ("TaleMachineModel", "answerTo", "[I", true)
  | 24 => ("TaleMachineModel", "localMany", "[I", true)
  | 25 => ("TaleMachineModel", "locals", "[I", true)
  | 26 => ("TaleMachineModel", "readA", "I", false)
  | 27 => ("TaleMachineModel", "readB", "I", false)
  | 28 => ("TaleMachineModel", "isAsked", "Z", false)
  | 29 => ("TaleMachineModel", "askedMany", "I", false)
  | 30 => ("TaleMachineModel", "asked", "[I", true)
  | 31 => ("TaleMachineModel", "outs", "I", false)
  | 32 => ("TaleMachineModel", "out", "[I", true)
  | 33 => ("TaleMachineModel", "isKept", "[Z", true)
  | 34 => ("TaleMachineModel", "keptMem", "[I", true)
  | 35 => ("TaleMachineModel", "keptStack", "[I", true)
  | 36 => ("TaleMachineModel", "keptFrames", "[I", true)
  | 37 => ("TaleMachineModel", "keptRow", "[I", true)
  | 38 => ("TaleMachineModel", "squeezes", "[I", true)
  | 39 => ("TaleMachineModel", "squeezedMany", "[I", true)
  | 40 => ("TaleMachineModel", "textAt", "[I", true)
  | 41 => ("TaleMachineModel", "textWord", "[I", true)
  | 42 => ("TaleMachineModel", "textPlace", "[I", true)
  | 43 => ("TaleMachineModel", "textCodes", "I", false)
  | 44 => ("TaleMachineModel", "operand", "[I", true)
  | 45 => ("TaleMachineModel", "operands", "I", false)
  | 46 => ("TaleMachineModel", "letters", "[I", true)
  | 47 => ("TaleMachineModel", "six", "[I", true)
  | _ => ("TaleMachineModel", "sixes", "I", false)
def tyX10 : Nat → FieldType := fun k => match k with
  | 0 => .array .int
  | 1 => .array .int
  | 2 => .int
  | 3 => .boolean
  | 4 => .array .int
  | 5 => .array .int
  | 6 => .int
  | 7 => .int
  | 8 => .int
  | 9 => .int
  | 10 => .int
  | 11 => .int
  | 12 => .int
  | 13 => .int
  | 14 => .int
  | 15 => .int
  | 16 => .int
  | 17 => .int
  | 18 => .array .int
  | 19 => .int
  | 20 => .int
  | 21 => .array .int
  | 22 => .array .int
  | 23 => .array .int
  | 24 => .array .int
  | 25 => .array .int
  | 26 => .int
  | 27 => .int
  | 28 => .boolean
  | 29 => .int
  | 30 => .array .int
  | 31 => .int
  | 32 => .array .int
  | 33 => .array .boolean
  | 34 => .array .int
  | 35 => .array .int
  | 36 => .array .int
  | 37 => .array .int
  | 38 => .array .int
  | 39 => .array .int
  | 40 => .array .int
  | 41 => .array .int
  | 42 => .array .int
  | 43 => .int
  | 44 => .array .int
  | 45 => .int
  | 46 => .array .int
  | 47 => .array .int
  | _ => .int
theorem nmX10 : ∀ a, a < 49 → ∀ b, b < 49 → a ≠ b → (TX10 a).2.1 ≠ (TX10 b).2.1 := by decide +kernel
theorem tyX10_ok : ∀ k, k < 49 → parseFieldDescriptor (TX10 k).2.2.1 = some (tyX10 k) := by decide +kernel
abbrev cX10_init : ByteArray := prog_12_method_1_code
def yX10_init : MethodName := ⟨RX10, "<init>", "()V"⟩
abbrev cX10_in : ByteArray := prog_12_method_3_code
def yX10_in : MethodName := ⟨RX10, "in", "(JJJ)Z"⟩
abbrev cX10_feed : ByteArray := prog_12_method_4_code
def yX10_feed : MethodName := ⟨RX10, "feed", "(IIIIIIII)I"⟩
abbrev cX10_four : ByteArray := prog_12_method_5_code
def yX10_four : MethodName := ⟨RX10, "four", "(I)V"⟩
abbrev cX10_end : ByteArray := prog_12_method_6_code
def yX10_end : MethodName := ⟨RX10, "end", "(I)I"⟩
abbrev cX10_tapeWord : ByteArray := prog_12_method_7_code
def yX10_tapeWord : MethodName := ⟨RX10, "tapeWord", "(I)I"⟩
abbrev cX10_faultOf : ByteArray := prog_12_method_8_code
def yX10_faultOf : MethodName := ⟨RX10, "faultOf", "(I)I"⟩
abbrev cX10_load : ByteArray := prog_12_method_9_code
def yX10_load : MethodName := ⟨RX10, "load", "()I"⟩
abbrev cX10_again : ByteArray := prog_12_method_10_code
def yX10_again : MethodName := ⟨RX10, "again", "()V"⟩
abbrev cX10_begins : ByteArray := prog_12_method_11_code
def yX10_begins : MethodName := ⟨RX10, "begins", "()V"⟩
abbrev cX10_start : ByteArray := prog_12_method_12_code
def yX10_start : MethodName := ⟨RX10, "start", "()I"⟩
abbrev cX10_halts : ByteArray := prog_12_method_13_code
def yX10_halts : MethodName := ⟨RX10, "halts", "(I)V"⟩
abbrev cX10_byteAt : ByteArray := prog_12_method_14_code
def yX10_byteAt : MethodName := ⟨RX10, "byteAt", "(I)I"⟩
abbrev cX10_wordAt : ByteArray := prog_12_method_15_code
def yX10_wordAt : MethodName := ⟨RX10, "wordAt", "(I)I"⟩
abbrev cX10_mayWrite : ByteArray := prog_12_method_16_code
def yX10_mayWrite : MethodName := ⟨RX10, "mayWrite", "(I)Z"⟩
abbrev cX10_putByte : ByteArray := prog_12_method_17_code
def yX10_putByte : MethodName := ⟨RX10, "putByte", "(II)V"⟩
abbrev cX10_putWord : ByteArray := prog_12_method_18_code
def yX10_putWord : MethodName := ⟨RX10, "putWord", "(II)V"⟩
abbrev cX10_next : ByteArray := prog_12_method_19_code
def yX10_next : MethodName := ⟨RX10, "next", "()I"⟩
abbrev cX10_signed : ByteArray := prog_12_method_20_code
def yX10_signed : MethodName := ⟨RX10, "signed", "(I)I"⟩
abbrev cX10_pop : ByteArray := prog_12_method_21_code
def yX10_pop : MethodName := ⟨RX10, "pop", "()I"⟩
abbrev cX10_push : ByteArray := prog_12_method_22_code
def yX10_push : MethodName := ⟨RX10, "push", "(I)V"⟩
abbrev cX10_get : ByteArray := prog_12_method_23_code
def yX10_get : MethodName := ⟨RX10, "get", "(I)I"⟩
abbrev cX10_set : ByteArray := prog_12_method_24_code
def yX10_set : MethodName := ⟨RX10, "set", "(II)V"⟩
abbrev cX10_getNamed : ByteArray := prog_12_method_25_code
def yX10_getNamed : MethodName := ⟨RX10, "getNamed", "(I)I"⟩
abbrev cX10_setNamed : ByteArray := prog_12_method_26_code
def yX10_setNamed : MethodName := ⟨RX10, "setNamed", "(II)V"⟩
abbrev cX10_answers : ByteArray := prog_12_method_27_code
def yX10_answers : MethodName := ⟨RX10, "answers", "(I)V"⟩
abbrev cX10_returns : ByteArray := prog_12_method_28_code
def yX10_returns : MethodName := ⟨RX10, "returns", "(I)V"⟩
abbrev cX10_goes : ByteArray := prog_12_method_29_code
def yX10_goes : MethodName := ⟨RX10, "goes", "(I)V"⟩
abbrev cX10_branches : ByteArray := prog_12_method_30_code
def yX10_branches : MethodName := ⟨RX10, "branches", "(Z)V"⟩
abbrev cX10_object : ByteArray := prog_12_method_31_code
def yX10_object : MethodName := ⟨RX10, "object", "(I)I"⟩
abbrev cX10_kin : ByteArray := prog_12_method_32_code
def yX10_kin : MethodName := ⟨RX10, "kin", "(II)I"⟩
abbrev cX10_setKin : ByteArray := prog_12_method_33_code
def yX10_setKin : MethodName := ⟨RX10, "setKin", "(III)V"⟩
abbrev cX10_removes : ByteArray := prog_12_method_34_code
def yX10_removes : MethodName := ⟨RX10, "removes", "(I)V"⟩
abbrev cX10_inserts : ByteArray := prog_12_method_35_code
def yX10_inserts : MethodName := ⟨RX10, "inserts", "(II)V"⟩
abbrev cX10_isAttribute : ByteArray := prog_12_method_36_code
def yX10_isAttribute : MethodName := ⟨RX10, "isAttribute", "(I)Z"⟩
abbrev cX10_attribute : ByteArray := prog_12_method_37_code
def yX10_attribute : MethodName := ⟨RX10, "attribute", "(IIZ)V"⟩
abbrev cX10_hasAttribute : ByteArray := prog_12_method_38_code
def yX10_hasAttribute : MethodName := ⟨RX10, "hasAttribute", "(II)V"⟩
abbrev cX10_properties : ByteArray := prog_12_method_39_code
def yX10_properties : MethodName := ⟨RX10, "properties", "(I)I"⟩
abbrev cX10_property : ByteArray := prog_12_method_40_code
def yX10_property : MethodName := ⟨RX10, "property", "(II)I"⟩
abbrev cX10_getProperty : ByteArray := prog_12_method_41_code
def yX10_getProperty : MethodName := ⟨RX10, "getProperty", "(II)V"⟩
abbrev cX10_putProperty : ByteArray := prog_12_method_42_code
def yX10_putProperty : MethodName := ⟨RX10, "putProperty", "(III)V"⟩
abbrev cX10_nextProperty : ByteArray := prog_12_method_43_code
def yX10_nextProperty : MethodName := ⟨RX10, "nextProperty", "(II)V"⟩
abbrev cX10_tells : ByteArray := prog_12_method_44_code
def yX10_tells : MethodName := ⟨RX10, "tells", "(I)V"⟩
abbrev cX10_tellsOf : ByteArray := prog_12_method_45_code
def yX10_tellsOf : MethodName := ⟨RX10, "tellsOf", "(I)V"⟩
abbrev cX10_tellsText : ByteArray := prog_12_method_46_code
def yX10_tellsText : MethodName := ⟨RX10, "tellsText", "(I)I"⟩
abbrev cX10_tellsNumber : ByteArray := prog_12_method_47_code
def yX10_tellsNumber : MethodName := ⟨RX10, "tellsNumber", "(I)V"⟩
abbrev cX10_operand : ByteArray := prog_12_method_48_code
def yX10_operand : MethodName := ⟨RX10, "operand", "(I)V"⟩
abbrev cX10_has : ByteArray := prog_12_method_49_code
def yX10_has : MethodName := ⟨RX10, "has", "(I)Z"⟩
abbrev cX10_order : ByteArray := prog_12_method_50_code
def yX10_order : MethodName := ⟨RX10, "order", "()V"⟩
abbrev cX10_isOneOf : ByteArray := prog_12_method_51_code
def yX10_isOneOf : MethodName := ⟨RX10, "isOneOf", "(I)Z"⟩
abbrev cX10_two : ByteArray := prog_12_method_52_code
def yX10_two : MethodName := ⟨RX10, "two", "(I)V"⟩
abbrev cX10_works : ByteArray := prog_12_method_53_code
def yX10_works : MethodName := ⟨RX10, "works", "(III)V"⟩
abbrev cX10_one : ByteArray := prog_12_method_54_code
def yX10_one : MethodName := ⟨RX10, "one", "(II)V"⟩
abbrev cX10_none : ByteArray := prog_12_method_55_code
def yX10_none : MethodName := ⟨RX10, "none", "(I)V"⟩
abbrev cX10_var : ByteArray := prog_12_method_56_code
def yX10_var : MethodName := ⟨RX10, "var", "(I)V"⟩
abbrev cX10_draws : ByteArray := prog_12_method_57_code
def yX10_draws : MethodName := ⟨RX10, "draws", "(I)V"⟩
abbrev cX10_calls : ByteArray := prog_12_method_58_code
def yX10_calls : MethodName := ⟨RX10, "calls", "(I)V"⟩
abbrev cX10_run : ByteArray := prog_12_method_59_code
def yX10_run : MethodName := ⟨RX10, "run", "(I)I"⟩
abbrev cX10_state : ByteArray := prog_12_method_60_code
def yX10_state : MethodName := ⟨RX10, "state", "()I"⟩
abbrev cX10_isSeparator : ByteArray := prog_12_method_61_code
def yX10_isSeparator : MethodName := ⟨RX10, "isSeparator", "(I)Z"⟩
abbrev cX10_letter : ByteArray := prog_12_method_62_code
def yX10_letter : MethodName := ⟨RX10, "letter", "(I)V"⟩
abbrev cX10_letters : ByteArray := prog_12_method_63_code
def yX10_letters : MethodName := ⟨RX10, "letters", "(I)V"⟩
abbrev cX10_looked : ByteArray := prog_12_method_64_code
def yX10_looked : MethodName := ⟨RX10, "looked", "(II)I"⟩
abbrev cX10_line : ByteArray := prog_12_method_65_code
def yX10_line : MethodName := ⟨RX10, "line", "(II)I"⟩
abbrev cX10_out : ByteArray := prog_12_method_66_code
def yX10_out : MethodName := ⟨RX10, "out", "(I)I"⟩
abbrev cX10_count : ByteArray := prog_12_method_67_code
def yX10_count : MethodName := ⟨RX10, "count", "(I)I"⟩
abbrev cX10_peek : ByteArray := prog_12_method_68_code
def yX10_peek : MethodName := ⟨RX10, "peek", "(I)I"⟩
abbrev cX10_word : ByteArray := prog_12_method_69_code
def yX10_word : MethodName := ⟨RX10, "word", "(IZ)I"⟩
abbrev cX10_text : ByteArray := prog_12_method_70_code
def yX10_text : MethodName := ⟨RX10, "text", "(II)I"⟩
abbrev cX10_squeeze : ByteArray := prog_12_method_71_code
def yX10_squeeze : MethodName := ⟨RX10, "squeeze", "(I)V"⟩
abbrev cX10_save : ByteArray := prog_12_method_72_code
def yX10_save : MethodName := ⟨RX10, "save", "(I)I"⟩
abbrev cX10_restore : ByteArray := prog_12_method_73_code
def yX10_restore : MethodName := ⟨RX10, "restore", "(I)I"⟩
abbrev cX10_squeezed : ByteArray := prog_12_method_74_code
def yX10_squeezed : MethodName := ⟨RX10, "squeezed", "(II)I"⟩
abbrev vwCl : List vw_C := [(RX0, TX0, 2), (RX1, TX1, 17), (RX2, TX2, 1), (RX3, TX3, 8), (RX4, TX4, 8), (RX5, TX5, 8), (RX6, TX6, 10), (RX7, TX7, 14), (RX8, TX8, 2), (RX9, TX9, 10), (RX10, TX10, 49)]
/-! ===== the shape of the world ===== -/
/-- a cell: an object (its class, its fields: a fixed reference, an int, a reference that moves), or a row (its type, its length, its references) -/
abbrev kK : Type := (Nat × List (Nat ⊕ Bool)) ⊕ (Nat × Nat × Option (List Nat))
def kSh : List kK := [.inl (9, [.inl 1, .inl 2, .inl 5, .inl 12, .inl 14, .inl 16, .inl 17, .inl 20, .inl 24, .inr false]),
  .inr (0, 1024, none),
  .inl (6, [.inl 3, .inl 4, .inr false, .inr false, .inr false, .inr false, .inr false, .inr false, .inr false, .inr false]),
  .inr (0, 1024, none),
  .inr (0, 1024, none),
  .inl (3, [.inl 6, .inl 7, .inl 8, .inl 9, .inl 10, .inl 11, .inr false, .inr false]),
  .inr (0, 120, none),
  .inr (0, 300, none),
  .inr (0, 20, none),
  .inr (0, 20, none),
  .inr (0, 20, none),
  .inr (0, 20, none),
  .inl (0, [.inl 13, .inr false]),
  .inr (0, 300, none),
  .inl (0, [.inl 15, .inr false]),
  .inr (0, 200, none),
  .inl (7, [.inl 2, .inr true, .inr false, .inr false, .inr false, .inr false, .inr false, .inr false, .inr false, .inr false, .inr false, .inr false, .inr false, .inr false]),
  .inl (4, [.inl 2, .inl 18, .inl 19, .inr false, .inr false, .inr false, .inr false, .inr false]),
  .inr (0, 8, none),
  .inr (0, 6, none),
  .inl (1, [.inl 2, .inl 5, .inl 21, .inl 22, .inl 16, .inl 12, .inl 23, .inr false, .inr false, .inr false, .inr false, .inr false, .inr false, .inr false, .inr false, .inr false, .inr false]),
  .inl (8, [.inl 2, .inl 5]),
  .inl (2, [.inl 2]),
  .inr (0, 4, none),
  .inr (2, 4, some [25, 34, 43, 52]),
  .inl (5, [.inl 26, .inl 27, .inr false, .inr false, .inr false, .inr false, .inr false, .inr false]),
  .inr (0, 1536, none),
  .inl (3, [.inl 28, .inl 29, .inl 30, .inl 31, .inl 32, .inl 33, .inr false, .inr false]),
  .inr (0, 120, none),
  .inr (0, 300, none),
  .inr (0, 20, none),
  .inr (0, 20, none),
  .inr (0, 20, none),
  .inr (0, 20, none),
  .inl (5, [.inl 35, .inl 36, .inr false, .inr false, .inr false, .inr false, .inr false, .inr false]),
  .inr (0, 1536, none),
  .inl (3, [.inl 37, .inl 38, .inl 39, .inl 40, .inl 41, .inl 42, .inr false, .inr false]),
  .inr (0, 120, none),
  .inr (0, 300, none),
  .inr (0, 20, none),
  .inr (0, 20, none),
  .inr (0, 20, none),
  .inr (0, 20, none),
  .inl (5, [.inl 44, .inl 45, .inr false, .inr false, .inr false, .inr false, .inr false, .inr false]),
  .inr (0, 1536, none),
  .inl (3, [.inl 46, .inl 47, .inl 48, .inl 49, .inl 50, .inl 51, .inr false, .inr false]),
  .inr (0, 120, none),
  .inr (0, 300, none),
  .inr (0, 20, none),
  .inr (0, 20, none),
  .inr (0, 20, none),
  .inr (0, 20, none),
  .inl (5, [.inl 53, .inl 54, .inr false, .inr false, .inr false, .inr false, .inr false, .inr false]),
  .inr (0, 1536, none),
  .inl (3, [.inl 55, .inl 56, .inl 57, .inl 58, .inl 59, .inl 60, .inr false, .inr false]),
  .inr (0, 120, none),
  .inr (0, 300, none),
  .inr (0, 20, none),
  .inr (0, 20, none),
  .inr (0, 20, none),
  .inr (0, 20, none),
  .inl (10, [.inl 62, .inl 63, .inr false, .inr false, .inl 64, .inl 65, .inr false, .inr false, .inr false, .inr false, .inr false, .inr false, .inr false, .inr false, .inr false, .inr false, .inr false, .inr false, .inl 66, .inr false, .inr false, .inl 67, .inl 68, .inl 69, .inl 70, .inl 71, .inr false, .inr false, .inr false, .inr false, .inl 72, .inr false, .inl 73, .inl 74, .inl 75, .inl 76, .inl 77, .inl 78, .inl 79, .inl 80, .inl 81, .inl 82, .inl 83, .inr false, .inl 84, .inr false, .inl 85, .inl 86, .inr false]),
  .inr (0, 24, none),
  .inr (0, 1024, none),
  .inr (0, 1024, none),
  .inr (0, 1024, none),
  .inr (0, 120, none),
  .inr (0, 20, none),
  .inr (0, 20, none),
  .inr (0, 20, none),
  .inr (0, 20, none),
  .inr (0, 320, none),
  .inr (0, 200, none),
  .inr (0, 300, none),
  .inr (1, 4, none),
  .inr (0, 4096, none),
  .inr (0, 480, none),
  .inr (0, 7680, none),
  .inr (0, 28, none),
  .inr (0, 8200, none),
  .inr (0, 4, none),
  .inr (0, 2, none),
  .inr (0, 2, none),
  .inr (0, 2, none),
  .inr (0, 4, none),
  .inr (0, 8, none),
  .inr (0, 6, none)]
def kBl : List (List (Int × Int) ⊕ (Int × Int)) := [.inl [(-2147483648, 2147483647), (-2147483648, 2147483647), (-2147483648, 2147483647), (-2147483648, 2147483647), (-2147483648, 2147483647), (-2147483648, 2147483647), (-2147483648, 2147483647), (-2147483648, 2147483647), (-2147483648, 2147483647), (0, 1024)],
  .inr (0, 255),
  .inl [(-2147483648, 2147483647), (-2147483648, 2147483647), (0, 1024), (0, 65535), (0, 65535), (0, 65535), (0, 65535), (0, 65535), (0, 65535), (0, 13)],
  .inr (0, 255),
  .inr (0, 255),
  .inl [(-2147483648, 2147483647), (-2147483648, 2147483647), (-2147483648, 2147483647), (-2147483648, 2147483647), (-2147483648, 2147483647), (-2147483648, 2147483647), (0, 120), (1, 20)],
  .inr (-2147483648, 2147483647),
  .inr (-2147483648, 2147483647),
  .inr (0, 15),
  .inr (0, 120),
  .inr (0, 255),
  .inr (-2147483648, 2147483647),
  .inl [(-2147483648, 2147483647), (0, 2147483647)],
  .inr (-2147483648, 2147483647),
  .inl [(-2147483648, 2147483647), (0, 2147483647)],
  .inr (-2147483648, 2147483647),
  .inl [(-2147483648, 2147483647), (0, 14), (0, 500), (0, 2000), (-2147483648, 2147483647), (-2147483648, 2147483647), (0, 3), (0, 1), (-2147483648, 2147483647), (-2147483648, 2147483647), (0, 3), (-2147483648, 2147483647), (-2147483648, 2147483647), (-2147483648, 2147483647)],
  .inl [(-2147483648, 2147483647), (-2147483648, 2147483647), (-2147483648, 2147483647), (0, 8), (0, 6), (-2147483648, 2147483647), (-2147483648, 2147483647), (-2147483648, 2147483647)],
  .inr (-2147483648, 2147483647),
  .inr (-2147483648, 2147483647),
  .inl [(-2147483648, 2147483647), (-2147483648, 2147483647), (-2147483648, 2147483647), (-2147483648, 2147483647), (-2147483648, 2147483647), (-2147483648, 2147483647), (-2147483648, 2147483647), (0, 4), (-2147483648, 2147483647), (-2147483648, 2147483647), (0, 4), (-2147483648, 2147483647), (-2147483648, 2147483647), (-2147483648, 2147483647), (-2147483648, 2147483647), (-2147483648, 2147483647), (0, 1)],
  .inl [(-2147483648, 2147483647), (-2147483648, 2147483647)],
  .inl [(-2147483648, 2147483647)],
  .inr (-2147483648, 2147483647),
  .inr (-2147483648, 2147483647),
  .inl [(-2147483648, 2147483647), (-2147483648, 2147483647), (0, 1), (0, 1536), (-2147483648, 2147483647), (0, 4), (-2147483648, 2147483647), (-2147483648, 2147483647)],
  .inr (0, 255),
  .inl [(-2147483648, 2147483647), (-2147483648, 2147483647), (-2147483648, 2147483647), (-2147483648, 2147483647), (-2147483648, 2147483647), (-2147483648, 2147483647), (0, 120), (1, 20)],
  .inr (-2147483648, 2147483647),
  .inr (-2147483648, 2147483647),
  .inr (0, 15),
  .inr (0, 120),
  .inr (0, 255),
  .inr (-2147483648, 2147483647),
  .inl [(-2147483648, 2147483647), (-2147483648, 2147483647), (0, 1), (0, 1536), (-2147483648, 2147483647), (0, 4), (-2147483648, 2147483647), (-2147483648, 2147483647)],
  .inr (0, 255),
  .inl [(-2147483648, 2147483647), (-2147483648, 2147483647), (-2147483648, 2147483647), (-2147483648, 2147483647), (-2147483648, 2147483647), (-2147483648, 2147483647), (0, 120), (1, 20)],
  .inr (-2147483648, 2147483647),
  .inr (-2147483648, 2147483647),
  .inr (0, 15),
  .inr (0, 120),
  .inr (0, 255),
  .inr (-2147483648, 2147483647),
  .inl [(-2147483648, 2147483647), (-2147483648, 2147483647), (0, 1), (0, 1536), (-2147483648, 2147483647), (0, 4), (-2147483648, 2147483647), (-2147483648, 2147483647)],
  .inr (0, 255),
  .inl [(-2147483648, 2147483647), (-2147483648, 2147483647), (-2147483648, 2147483647), (-2147483648, 2147483647), (-2147483648, 2147483647), (-2147483648, 2147483647), (0, 120), (1, 20)],
  .inr (-2147483648, 2147483647),
  .inr (-2147483648, 2147483647),
  .inr (0, 15),
  .inr (0, 120),
  .inr (0, 255),
  .inr (-2147483648, 2147483647),
  .inl [(-2147483648, 2147483647), (-2147483648, 2147483647), (0, 1), (0, 1536), (-2147483648, 2147483647), (0, 4), (-2147483648, 2147483647), (-2147483648, 2147483647)],
  .inr (0, 255),
  .inl [(-2147483648, 2147483647), (-2147483648, 2147483647), (-2147483648, 2147483647), (-2147483648, 2147483647), (-2147483648, 2147483647), (-2147483648, 2147483647), (0, 120), (1, 20)],
  .inr (-2147483648, 2147483647),
  .inr (-2147483648, 2147483647),
  .inr (0, 15),
  .inr (0, 120),
  .inr (0, 255),
  .inr (-2147483648, 2147483647),
  .inl [(-2147483648, 2147483647), (-2147483648, 2147483647), (0, 1024), (0, 1), (-2147483648, 2147483647), (-2147483648, 2147483647), (0, 1024), (0, 1024), (0, 65535), (0, 65535), (0, 65535), (0, 65535), (0, 4), (0, 13), (0, 65535), (0, 65535), (-2147483648, 2147483647), (-2147483648, 2147483647), (-2147483648, 2147483647), (0, 120), (0, 20), (-2147483648, 2147483647), (-2147483648, 2147483647), (-2147483648, 2147483647), (-2147483648, 2147483647), (-2147483648, 2147483647), (0, 65535), (0, 65535), (0, 1), (0, 2147483647), (-2147483648, 2147483647), (0, 2147483647), (-2147483648, 2147483647), (-2147483648, 2147483647), (-2147483648, 2147483647), (-2147483648, 2147483647), (-2147483648, 2147483647), (-2147483648, 2147483647), (-2147483648, 2147483647), (-2147483648, 2147483647), (-2147483648, 2147483647), (-2147483648, 2147483647), (-2147483648, 2147483647), (0, 500), (-2147483648, 2147483647), (0, 4), (-2147483648, 2147483647), (-2147483648, 2147483647), (0, 6)],
  .inr (0, 255),
  .inr (0, 255),
  .inr (0, 255),
  .inr (0, 255),
  .inr (0, 65535),
  .inr (0, 120),
  .inr (0, 65535),
  .inr (0, 255),
  .inr (0, 15),
  .inr (0, 65535),
  .inr (-2147483648, 2147483647),
  .inr (-2147483648, 2147483647),
  .inr (0, 1),
  .inr (0, 255),
  .inr (0, 65535),
  .inr (0, 65535),
  .inr (0, 65535),
  .inr (-2147483648, 2147483647),
  .inr (0, 2050),
  .inr (0, 65535),
  .inr (0, 65535),
  .inr (0, 3),
  .inr (0, 65535),
  .inr (-2147483648, 2147483647),
  .inr (-2147483648, 2147483647)]
def kbnd0 (c k : Nat) : Int × Int := match kBl[c]? with
  | some (.inl fs) => (fs[k]?).getD (-2147483648, 2147483647)
  | some (.inr b) => b
  | none => (-2147483648, 2147483647)
def kStat : List (String × String × Nat × Nat) := [("TaleMachine$Engine", "AFTER_VAR", 0, 10), ("TaleMachine$Engine", "NEEDED_BY_VAR", 1, 10), ("TaleMachine$Engine", "AFTER_TWO", 2, 32), ("TaleMachine$Engine", "AFTER_NONE", 3, 16), ("TaleMachine$Engine", "AFTER_ONE", 4, 16)]
theorem kst0 : ("TaleMachine$Engine", "AFTER_VAR", 0, 10) ∈ kStat := List.mem_of_getElem? (i := 0) rfl
theorem kst1 : ("TaleMachine$Engine", "NEEDED_BY_VAR", 1, 10) ∈ kStat := List.mem_of_getElem? (i := 1) rfl
theorem kst2 : ("TaleMachine$Engine", "AFTER_TWO", 2, 32) ∈ kStat := List.mem_of_getElem? (i := 2) rfl
theorem kst3 : ("TaleMachine$Engine", "AFTER_NONE", 3, 16) ∈ kStat := List.mem_of_getElem? (i := 3) rfl
theorem kst4 : ("TaleMachine$Engine", "AFTER_ONE", 4, 16) ∈ kStat := List.mem_of_getElem? (i := 4) rfl
def kText : String := "0123456789.,!?_#'\"/\\-:()"
def kTextB : List Int32 := [48, 49, 50, 51, 52, 53, 54, 55, 56, 57, 46, 44, 33, 63, 95, 35, 39, 34, 47, 92, 45, 58, 40, 41]
def kNest : List Cond := [(Cond.methodLinkNest "TaleMachine" (15 : Nat) ({ cls := "TaleMachine$Store", name := "<init>", desc := "()V" } : Jvm.MethodName) "TaleMachine"),
  (Cond.fieldLinkNest "TaleMachine$Slot" (61 : Nat) "TaleMachine$Store" "bytes" "[I" "TaleMachine"),
  (Cond.fieldLinkNest "TaleMachine" (141 : Nat) "TaleMachine$Store" "bytes" "[I" "TaleMachine"),
  (Cond.fieldLinkNest "TaleMachine$Slot" (64 : Nat) "TaleMachine$Store" "loaded" "[I" "TaleMachine"),
  (Cond.fieldLinkNest "TaleMachine" (135 : Nat) "TaleMachine$Store" "size" "I" "TaleMachine"),
  (Cond.fieldLinkNest "TaleMachine$Slot" (70 : Nat) "TaleMachine$Store" "mark" "I" "TaleMachine"),
  (Cond.fieldLinkNest "TaleMachine" (138 : Nat) "TaleMachine$Store" "mark" "I" "TaleMachine"),
  (Cond.fieldLinkNest "TaleMachine$Engine" (84 : Nat) "TaleMachine$Store" "firstPc" "I" "TaleMachine"),
  (Cond.fieldLinkNest "TaleMachine$Reader" (62 : Nat) "TaleMachine$Store" "dictionary" "I" "TaleMachine"),
  (Cond.fieldLinkNest "TaleMachine$Forest" (21 : Nat) "TaleMachine$Store" "objects" "I" "TaleMachine"),
  (Cond.fieldLinkNest "TaleMachine$Variables" (59 : Nat) "TaleMachine$Store" "globals" "I" "TaleMachine"),
  (Cond.fieldLinkNest "TaleMachine$Teller" (113 : Nat) "TaleMachine$Store" "abbreviations" "I" "TaleMachine"),
  (Cond.fieldLinkNest "TaleMachine$Engine" (67 : Nat) "TaleMachine$Store" "halt" "I" "TaleMachine"),
  (Cond.fieldLinkNest "TaleMachine$Teller" (34 : Nat) "TaleMachine$Store" "halt" "I" "TaleMachine"),
  (Cond.fieldLinkNest "TaleMachine$Variables" (41 : Nat) "TaleMachine$Store" "halt" "I" "TaleMachine"),
  (Cond.fieldLinkNest "TaleMachine$Slot" (56 : Nat) "TaleMachine$Store" "halt" "I" "TaleMachine"),
  (Cond.fieldLinkNest "TaleMachine$Reader" (65 : Nat) "TaleMachine$Store" "halt" "I" "TaleMachine"),
  (Cond.fieldLinkNest "TaleMachine" (109 : Nat) "TaleMachine$Store" "halt" "I" "TaleMachine"),
  (Cond.fieldLinkNest "TaleMachine$Forest" (43 : Nat) "TaleMachine$Store" "halt" "I" "TaleMachine"),
  (Cond.methodLinkNest "TaleMachine" (22 : Nat) ({ cls := "TaleMachine$Frames", name := "<init>", desc := "()V" } : Jvm.MethodName) "TaleMachine"),
  (Cond.fieldLinkNest "TaleMachine$Variables" (65 : Nat) "TaleMachine$Frames" "words" "[I" "TaleMachine"),
  (Cond.fieldLinkNest "TaleMachine" (147 : Nat) "TaleMachine$Frames" "words" "[I" "TaleMachine"),
  (Cond.fieldLinkNest "TaleMachine$Engine" (173 : Nat) "TaleMachine$Frames" "answers" "[I" "TaleMachine"),
  (Cond.fieldLinkNest "TaleMachine$Engine" (176 : Nat) "TaleMachine$Frames" "backs" "[I" "TaleMachine"),
  (Cond.fieldLinkNest "TaleMachine$Variables" (62 : Nat) "TaleMachine$Frames" "top" "I" "TaleMachine"),
  (Cond.fieldLinkNest "TaleMachine" (122 : Nat) "TaleMachine$Frames" "top" "I" "TaleMachine"),
  (Cond.fieldLinkNest "TaleMachine" (125 : Nat) "TaleMachine$Frames" "depth" "I" "TaleMachine"),
  (Cond.fieldLinkNest "TaleMachine$Engine" (170 : Nat) "TaleMachine$Frames" "depth" "I" "TaleMachine"),
  (Cond.methodLinkNest "TaleMachine" (29 : Nat) ({ cls := "TaleMachine$Codes", name := "<init>", desc := "(I)V" } : Jvm.MethodName) "TaleMachine"),
  (Cond.fieldLinkNest "TaleMachine" (116 : Nat) "TaleMachine$Codes" "total" "I" "TaleMachine"),
  (Cond.methodLinkNest "TaleMachine" (41 : Nat) ({ cls := "TaleMachine$Teller", name := "<init>", desc := "(LTaleMachine$Store;)V" } : Jvm.MethodName) "TaleMachine"),
  (Cond.methodLinkNest "TaleMachine" (50 : Nat) ({ cls := "TaleMachine$Reader", name := "<init>", desc := "(LTaleMachine$Store;)V" } : Jvm.MethodName) "TaleMachine"),
  (Cond.methodLinkNest "TaleMachine" (57 : Nat) ({ cls := "TaleMachine$Engine", name := "<init>", desc := "(LTaleMachine$Store;LTaleMachine$Frames;LTaleMachine$Codes;LTaleMachine$Teller;)V" } : Jvm.MethodName) "TaleMachine"),
  (Cond.methodLinkNest "TaleMachine$Engine" (29 : Nat) ({ cls := "TaleMachine$Variables", name := "<init>", desc := "(LTaleMachine$Store;LTaleMachine$Frames;)V" } : Jvm.MethodName) "TaleMachine"),
  (Cond.methodLinkNest "TaleMachine$Engine" (38 : Nat) ({ cls := "TaleMachine$Forest", name := "<init>", desc := "(LTaleMachine$Store;)V" } : Jvm.MethodName) "TaleMachine"),
  (Cond.fieldLinkNest "TaleMachine$Slot" (30 : Nat) "TaleMachine$Engine" "pc" "I" "TaleMachine"),
  (Cond.fieldLinkNest "TaleMachine" (128 : Nat) "TaleMachine$Engine" "pc" "I" "TaleMachine"),
  (Cond.fieldLinkNest "TaleMachine$Slot" (37 : Nat) "TaleMachine$Engine" "status" "I" "TaleMachine"),
  (Cond.fieldLinkNest "TaleMachine" (86 : Nat) "TaleMachine$Engine" "status" "I" "TaleMachine"),
  (Cond.fieldLinkNest "TaleMachine" (119 : Nat) "TaleMachine$Engine" "begun" "I" "TaleMachine"),
  (Cond.fieldLinkNest "TaleMachine$Slot" (41 : Nat) "TaleMachine$Engine" "lineAt" "I" "TaleMachine"),
  (Cond.fieldLinkNest "TaleMachine" (99 : Nat) "TaleMachine$Engine" "lineAt" "I" "TaleMachine"),
  (Cond.fieldLinkNest "TaleMachine$Slot" (45 : Nat) "TaleMachine$Engine" "wordsAt" "I" "TaleMachine"),
  (Cond.fieldLinkNest "TaleMachine" (102 : Nat) "TaleMachine$Engine" "wordsAt" "I" "TaleMachine"),
  (Cond.methodLinkNest "TaleMachine" (70 : Nat) ({ cls := "TaleMachine$Slot", name := "<init>", desc := "()V" } : Jvm.MethodName) "TaleMachine"),
  (Cond.methodLinkNest "TaleMachine$Slot" (17 : Nat) ({ cls := "TaleMachine$Frames", name := "<init>", desc := "()V" } : Jvm.MethodName) "TaleMachine"),
  (Cond.fieldLinkNest "TaleMachine" (165 : Nat) "TaleMachine$Slot" "row" "[I" "TaleMachine"),
  (Cond.fieldLinkNest "TaleMachine" (82 : Nat) "TaleMachine$Slot" "used" "Z" "TaleMachine"),
  (Cond.fieldLinkNest "TaleMachine" (161 : Nat) "TaleMachine$Slot" "size" "I" "TaleMachine"),
  (Cond.methodLinkNest "TaleMachine" (78 : Nat) ({ cls := "TaleMachine$Store", name := "take", desc := "([II)I" } : Jvm.MethodName) "TaleMachine"),
  (Cond.methodLinkNest "TaleMachine" (89 : Nat) ({ cls := "TaleMachine$Engine", name := "begin", desc := "()V" } : Jvm.MethodName) "TaleMachine"),
  (Cond.methodLinkNest "TaleMachine$Engine" (78 : Nat) ({ cls := "TaleMachine$Store", name := "renew", desc := "()V" } : Jvm.MethodName) "TaleMachine"),
  (Cond.methodLinkNest "TaleMachine$Engine" (81 : Nat) ({ cls := "TaleMachine$Frames", name := "clear", desc := "()V" } : Jvm.MethodName) "TaleMachine"),
  (Cond.methodLinkNest "TaleMachine$Engine" (62 : Nat) ({ cls := "TaleMachine$Codes", name := "clear", desc := "()V" } : Jvm.MethodName) "TaleMachine"),
  (Cond.methodLinkNest "TaleMachine" (92 : Nat) ({ cls := "TaleMachine$Engine", name := "obey", desc := "()V" } : Jvm.MethodName) "TaleMachine"),
  (Cond.methodLinkNest "TaleMachine$Engine" (133 : Nat) ({ cls := "TaleMachine$Store", name := "byteAt", desc := "(I)I" } : Jvm.MethodName) "TaleMachine"),
  (Cond.methodLinkNest "TaleMachine$Engine" (139 : Nat) ({ cls := "TaleMachine$Variables", name := "valueOf", desc := "(I)I" } : Jvm.MethodName) "TaleMachine"),
  (Cond.methodLinkNest "TaleMachine$Variables" (69 : Nat) ({ cls := "TaleMachine$Frames", name := "hasOwnWord", desc := "()Z" } : Jvm.MethodName) "TaleMachine"),
  (Cond.methodLinkNest "TaleMachine$Variables" (37 : Nat) ({ cls := "TaleMachine$Store", name := "raise", desc := "(I)V" } : Jvm.MethodName) "TaleMachine"),
  (Cond.methodLinkNest "TaleMachine$Variables" (27 : Nat) ({ cls := "TaleMachine$Store", name := "wordAt", desc := "(I)I" } : Jvm.MethodName) "TaleMachine"),
  (Cond.methodLinkNest "TaleMachine$Variables" (32 : Nat) ({ cls := "TaleMachine$Frames", name := "localCount", desc := "()I" } : Jvm.MethodName) "TaleMachine"),
  (Cond.methodLinkNest "TaleMachine$Variables" (45 : Nat) ({ cls := "TaleMachine$Frames", name := "localAt", desc := "(I)I" } : Jvm.MethodName) "TaleMachine"),
  (Cond.methodLinkNest "TaleMachine$Engine" (99 : Nat) ({ cls := "TaleMachine$Store", name := "raise", desc := "(I)V" } : Jvm.MethodName) "TaleMachine"),
  (Cond.methodLinkNest "TaleMachine$Engine" (157 : Nat) ({ cls := "TaleMachine$Variables", name := "assign", desc := "(II)V" } : Jvm.MethodName) "TaleMachine"),
  (Cond.methodLinkNest "TaleMachine$Variables" (51 : Nat) ({ cls := "TaleMachine$Store", name := "putWord", desc := "(II)V" } : Jvm.MethodName) "TaleMachine"),
  (Cond.methodLinkNest "TaleMachine$Variables" (56 : Nat) ({ cls := "TaleMachine$Frames", name := "setLocal", desc := "(II)V" } : Jvm.MethodName) "TaleMachine"),
  (Cond.methodLinkNest "TaleMachine$Engine" (279 : Nat) ({ cls := "TaleMachine$Frames", name := "isFull", desc := "()Z" } : Jvm.MethodName) "TaleMachine"),
  (Cond.methodLinkNest "TaleMachine$Engine" (210 : Nat) ({ cls := "TaleMachine$Store", name := "wordAt", desc := "(I)I" } : Jvm.MethodName) "TaleMachine"),
  (Cond.methodLinkNest "TaleMachine$Engine" (282 : Nat) ({ cls := "TaleMachine$Frames", name := "prepareLocal", desc := "(II)V" } : Jvm.MethodName) "TaleMachine"),
  (Cond.methodLinkNest "TaleMachine$Engine" (285 : Nat) ({ cls := "TaleMachine$Frames", name := "enter", desc := "(III)V" } : Jvm.MethodName) "TaleMachine"),
  (Cond.methodLinkNest "TaleMachine$Engine" (255 : Nat) ({ cls := "TaleMachine$Store", name := "putWord", desc := "(II)V" } : Jvm.MethodName) "TaleMachine"),
  (Cond.methodLinkNest "TaleMachine$Engine" (258 : Nat) ({ cls := "TaleMachine$Store", name := "putByte", desc := "(II)V" } : Jvm.MethodName) "TaleMachine"),
  (Cond.methodLinkNest "TaleMachine$Engine" (261 : Nat) ({ cls := "TaleMachine$Forest", name := "setProperty", desc := "(III)V" } : Jvm.MethodName) "TaleMachine"),
  (Cond.methodLinkNest "TaleMachine$Forest" (15 : Nat) ({ cls := "TaleMachine$Store", name := "raise", desc := "(I)V" } : Jvm.MethodName) "TaleMachine"),
  (Cond.methodLinkNest "TaleMachine$Forest" (49 : Nat) ({ cls := "TaleMachine$Store", name := "wordAt", desc := "(I)I" } : Jvm.MethodName) "TaleMachine"),
  (Cond.methodLinkNest "TaleMachine$Forest" (29 : Nat) ({ cls := "TaleMachine$Store", name := "byteAt", desc := "(I)I" } : Jvm.MethodName) "TaleMachine"),
  (Cond.methodLinkNest "TaleMachine$Forest" (36 : Nat) ({ cls := "TaleMachine$Store", name := "putByte", desc := "(II)V" } : Jvm.MethodName) "TaleMachine"),
  (Cond.methodLinkNest "TaleMachine$Forest" (64 : Nat) ({ cls := "TaleMachine$Store", name := "putWord", desc := "(II)V" } : Jvm.MethodName) "TaleMachine"),
  (Cond.methodLinkNest "TaleMachine$Engine" (249 : Nat) ({ cls := "TaleMachine$Codes", name := "add", desc := "(I)V" } : Jvm.MethodName) "TaleMachine"),
  (Cond.methodLinkNest "TaleMachine$Engine" (186 : Nat) ({ cls := "TaleMachine", name := "signed", desc := "(I)I" } : Jvm.MethodName) "TaleMachine"),
  (Cond.methodLinkNest "TaleMachine$Engine" (270 : Nat) ({ cls := "TaleMachine$Codes", name := "addNumber", desc := "(I)V" } : Jvm.MethodName) "TaleMachine"),
  (Cond.methodLinkNest "TaleMachine$Engine" (276 : Nat) ({ cls := "TaleMachine$Variables", name := "push", desc := "(I)V" } : Jvm.MethodName) "TaleMachine"),
  (Cond.methodLinkNest "TaleMachine$Engine" (246 : Nat) ({ cls := "TaleMachine$Variables", name := "pop", desc := "()I" } : Jvm.MethodName) "TaleMachine"),
  (Cond.methodLinkNest "TaleMachine$Engine" (204 : Nat) ({ cls := "TaleMachine$Variables", name := "assignNamed", desc := "(II)V" } : Jvm.MethodName) "TaleMachine"),
  (Cond.methodLinkNest "TaleMachine$Engine" (179 : Nat) ({ cls := "TaleMachine$Frames", name := "leave", desc := "()V" } : Jvm.MethodName) "TaleMachine"),
  (Cond.methodLinkNest "TaleMachine$Engine" (228 : Nat) ({ cls := "TaleMachine$Teller", name := "tell", desc := "(ILTaleMachine$Codes;)I" } : Jvm.MethodName) "TaleMachine"),
  (Cond.methodLinkNest "TaleMachine$Teller" (78 : Nat) ({ cls := "TaleMachine$Store", name := "raise", desc := "(I)V" } : Jvm.MethodName) "TaleMachine"),
  (Cond.methodLinkNest "TaleMachine$Teller" (116 : Nat) ({ cls := "TaleMachine$Codes", name := "add", desc := "(I)V" } : Jvm.MethodName) "TaleMachine"),
  (Cond.methodLinkNest "TaleMachine$Teller" (65 : Nat) ({ cls := "TaleMachine$Store", name := "wordAt", desc := "(I)I" } : Jvm.MethodName) "TaleMachine"),
  (Cond.methodLinkNest "TaleMachine$Engine" (193 : Nat) ({ cls := "TaleMachine$Forest", name := "linkOf", desc := "(II)I" } : Jvm.MethodName) "TaleMachine"),
  (Cond.methodLinkNest "TaleMachine$Engine" (225 : Nat) ({ cls := "TaleMachine$Forest", name := "propertyLength", desc := "(I)I" } : Jvm.MethodName) "TaleMachine"),
  (Cond.methodLinkNest "TaleMachine$Engine" (189 : Nat) ({ cls := "TaleMachine$Variables", name := "stepNamed", desc := "(II)I" } : Jvm.MethodName) "TaleMachine"),
  (Cond.methodLinkNest "TaleMachine$Engine" (234 : Nat) ({ cls := "TaleMachine$Forest", name := "remove", desc := "(I)V" } : Jvm.MethodName) "TaleMachine"),
  (Cond.methodLinkNest "TaleMachine$Engine" (237 : Nat) ({ cls := "TaleMachine$Forest", name := "nameOf", desc := "(I)I" } : Jvm.MethodName) "TaleMachine"),
  (Cond.methodLinkNest "TaleMachine$Engine" (240 : Nat) ({ cls := "TaleMachine$Variables", name := "namedValue", desc := "(I)I" } : Jvm.MethodName) "TaleMachine"),
  (Cond.methodLinkNest "TaleMachine$Engine" (213 : Nat) ({ cls := "TaleMachine$Forest", name := "propertyOf", desc := "(II)I" } : Jvm.MethodName) "TaleMachine"),
  (Cond.methodLinkNest "TaleMachine$Engine" (216 : Nat) ({ cls := "TaleMachine$Forest", name := "propertyAddress", desc := "(II)I" } : Jvm.MethodName) "TaleMachine"),
  (Cond.methodLinkNest "TaleMachine$Engine" (219 : Nat) ({ cls := "TaleMachine$Forest", name := "propertyBehind", desc := "(II)I" } : Jvm.MethodName) "TaleMachine"),
  (Cond.methodLinkNest "TaleMachine$Engine" (196 : Nat) ({ cls := "TaleMachine$Forest", name := "hasAttribute", desc := "(II)Z" } : Jvm.MethodName) "TaleMachine"),
  (Cond.methodLinkNest "TaleMachine$Engine" (200 : Nat) ({ cls := "TaleMachine$Forest", name := "setAttribute", desc := "(IIZ)V" } : Jvm.MethodName) "TaleMachine"),
  (Cond.methodLinkNest "TaleMachine$Engine" (207 : Nat) ({ cls := "TaleMachine$Forest", name := "insert", desc := "(II)V" } : Jvm.MethodName) "TaleMachine"),
  (Cond.methodLinkNest "TaleMachine" (95 : Nat) ({ cls := "TaleMachine$Reader", name := "hear", desc := "(II)V" } : Jvm.MethodName) "TaleMachine"),
  (Cond.methodLinkNest "TaleMachine" (105 : Nat) ({ cls := "TaleMachine$Reader", name := "part", desc := "(II)I" } : Jvm.MethodName) "TaleMachine"),
  (Cond.methodLinkNest "TaleMachine$Reader" (33 : Nat) ({ cls := "TaleMachine$Store", name := "byteAt", desc := "(I)I" } : Jvm.MethodName) "TaleMachine"),
  (Cond.methodLinkNest "TaleMachine$Reader" (53 : Nat) ({ cls := "TaleMachine$Store", name := "putByte", desc := "(II)V" } : Jvm.MethodName) "TaleMachine"),
  (Cond.methodLinkNest "TaleMachine$Reader" (94 : Nat) ({ cls := "TaleMachine$Store", name := "wordAt", desc := "(I)I" } : Jvm.MethodName) "TaleMachine"),
  (Cond.methodLinkNest "TaleMachine$Reader" (78 : Nat) ({ cls := "TaleMachine$Store", name := "putWord", desc := "(II)V" } : Jvm.MethodName) "TaleMachine"),
  (Cond.methodLinkNest "TaleMachine" (112 : Nat) ({ cls := "TaleMachine$Codes", name := "codeAt", desc := "(I)I" } : Jvm.MethodName) "TaleMachine"),
  (Cond.methodLinkNest "TaleMachine" (131 : Nat) ({ cls := "TaleMachine$Frames", name := "localCount", desc := "()I" } : Jvm.MethodName) "TaleMachine"),
  (Cond.methodLinkNest "TaleMachine" (144 : Nat) ({ cls := "TaleMachine$Frames", name := "localAt", desc := "(I)I" } : Jvm.MethodName) "TaleMachine"),
  (Cond.methodLinkNest "TaleMachine" (150 : Nat) ({ cls := "TaleMachine$Codes", name := "clear", desc := "()V" } : Jvm.MethodName) "TaleMachine"),
  (Cond.methodLinkNest "TaleMachine" (153 : Nat) ({ cls := "TaleMachine$Teller", name := "tell", desc := "(ILTaleMachine$Codes;)I" } : Jvm.MethodName) "TaleMachine"),
  (Cond.methodLinkNest "TaleMachine" (157 : Nat) ({ cls := "TaleMachine$Slot", name := "keep", desc := "(LTaleMachine$Store;LTaleMachine$Frames;LTaleMachine$Engine;)V" } : Jvm.MethodName) "TaleMachine"),
  (Cond.methodLinkNest "TaleMachine$Slot" (26 : Nat) ({ cls := "TaleMachine$Frames", name := "copyFrom", desc := "(LTaleMachine$Frames;)V" } : Jvm.MethodName) "TaleMachine"),
  (Cond.methodLinkNest "TaleMachine" (162 : Nat) ({ cls := "TaleMachine$Slot", name := "giveBack", desc := "(LTaleMachine$Store;LTaleMachine$Frames;LTaleMachine$Engine;)V" } : Jvm.MethodName) "TaleMachine"),
  (Cond.methodLinkNest "TaleMachine$Slot" (81 : Nat) ({ cls := "TaleMachine$Store", name := "renew", desc := "()V" } : Jvm.MethodName) "TaleMachine")]
def kNestB (w : Cond) : Bool := match w with
  | .fieldLinkNest _ _ _ _ _ _ => true
  | .methodLinkNest _ _ _ _ => true
  | _ => false
theorem kNest_ok : kNest.all kNestB = true := by decide +kernel
/-- the words that every method may use -/
def kUW : List Cond := lw_tbl.filter goodWord
theorem kUW_mem {w : Cond} (i : Nat) (h : lw_tbl[i]? = some w) (hg : goodWord w = true) : w ∈ kUW := List.mem_filter.mpr ⟨List.mem_of_getElem? h, hg⟩
