theorem kUW_t1 {w : Cond} (i : Nat) (h : tables_1_1[i]? = some w) (hg : goodWord w = true) : w ∈ kUW := List.mem_filter.mpr ⟨List.mem_append_right _ (List.mem_append_left _ (List.mem_of_getElem? h)), hg⟩
theorem kUW_t2 {w : Cond} (i : Nat) (h : tables_1_2[i]? = some w) (hg : goodWord w = true) : w ∈ kUW := List.mem_filter.mpr ⟨List.mem_append_right _ (List.mem_append_right _ (List.mem_append_left _ (List.mem_of_getElem? h))), hg⟩
theorem kUW_t3 {w : Cond} (i : Nat) (h : tables_1_3[i]? = some w) (hg : goodWord w = true) : w ∈ kUW := List.mem_filter.mpr ⟨List.mem_append_right _ (List.mem_append_right _ (List.mem_append_right _ (List.mem_append_left _ (List.mem_of_getElem? h)))), hg⟩
theorem kUW_t4 {w : Cond} (i : Nat) (h : tables_1_4[i]? = some w) (hg : goodWord w = true) : w ∈ kUW := List.mem_filter.mpr ⟨List.mem_append_right _ (List.mem_append_right _ (List.mem_append_right _ (List.mem_append_right _ (List.mem_append_left _ (List.mem_of_getElem? h))))), hg⟩
theorem kUW_t5 {w : Cond} (i : Nat) (h : tables_1_5[i]? = some w) (hg : goodWord w = true) : w ∈ kUW := List.mem_filter.mpr ⟨List.mem_append_right _ (List.mem_append_right _ (List.mem_append_right _ (List.mem_append_right _ (List.mem_append_right _ (List.mem_append_left _ (List.mem_of_getElem? h)))))), hg⟩
theorem kUW_t6 {w : Cond} (i : Nat) (h : tables_1_6[i]? = some w) (hg : goodWord w = true) : w ∈ kUW := List.mem_filter.mpr ⟨List.mem_append_right _ (List.mem_append_right _ (List.mem_append_right _ (List.mem_append_right _ (List.mem_append_right _ (List.mem_append_right _ (List.mem_append_left _ (List.mem_of_getElem? h))))))), hg⟩
theorem kUW_t7 {w : Cond} (i : Nat) (h : tables_1_7[i]? = some w) (hg : goodWord w = true) : w ∈ kUW := List.mem_filter.mpr ⟨List.mem_append_right _ (List.mem_append_right _ (List.mem_append_right _ (List.mem_append_right _ (List.mem_append_right _ (List.mem_append_right _ (List.mem_append_right _ ((List.mem_of_getElem? h)))))))), hg⟩
theorem mfl_TaleMachine_Store_9 : Cond.fieldLink "TaleMachine$Store" 9 "TaleMachine$Store" "bytes" "[I" ∈ kUW := kUW_t1 33 (by decide +kernel) rfl
theorem mfl_TaleMachine_Store_15 : Cond.fieldLink "TaleMachine$Store" 15 "TaleMachine$Store" "loaded" "[I" ∈ kUW := kUW_t1 36 (by decide +kernel) rfl
theorem mfl_TaleMachine_Store_27 : Cond.fieldLink "TaleMachine$Store" 27 "TaleMachine$Store" "size" "I" ∈ kUW := kUW_t1 38 (by decide +kernel) rfl
theorem mfl_TaleMachine_Store_44 : Cond.fieldLink "TaleMachine$Store" 44 "TaleMachine$Store" "mark" "I" ∈ kUW := kUW_t1 40 (by decide +kernel) rfl
theorem mfl_TaleMachine_Store_47 : Cond.fieldLink "TaleMachine$Store" 47 "TaleMachine$Store" "firstPc" "I" ∈ kUW := kUW_t1 43 (by decide +kernel) rfl
theorem mfl_TaleMachine_Store_50 : Cond.fieldLink "TaleMachine$Store" 50 "TaleMachine$Store" "dictionary" "I" ∈ kUW := kUW_t1 45 (by decide +kernel) rfl
theorem mfl_TaleMachine_Store_53 : Cond.fieldLink "TaleMachine$Store" 53 "TaleMachine$Store" "objects" "I" ∈ kUW := kUW_t1 48 (by decide +kernel) rfl
theorem mfl_TaleMachine_Store_56 : Cond.fieldLink "TaleMachine$Store" 56 "TaleMachine$Store" "globals" "I" ∈ kUW := kUW_t1 49 (by decide +kernel) rfl
theorem mfl_TaleMachine_Store_59 : Cond.fieldLink "TaleMachine$Store" 59 "TaleMachine$Store" "abbreviations" "I" ∈ kUW := kUW_t1 51 (by decide +kernel) rfl
theorem mfl_TaleMachine_Store_37 : Cond.fieldLink "TaleMachine$Store" 37 "TaleMachine$Store" "halt" "I" ∈ kUW := kUW_t1 54 (by decide +kernel) rfl
theorem mfl_TaleMachine_Frames_9 : Cond.fieldLink "TaleMachine$Frames" 9 "TaleMachine$Frames" "words" "[I" ∈ kUW := kUW_t1 93 (by decide +kernel) rfl
theorem mfl_TaleMachine_Frames_13 : Cond.fieldLink "TaleMachine$Frames" 13 "TaleMachine$Frames" "locals" "[I" ∈ kUW := kUW_t1 96 (by decide +kernel) rfl
theorem mfl_TaleMachine_Frames_16 : Cond.fieldLink "TaleMachine$Frames" 16 "TaleMachine$Frames" "localCounts" "[I" ∈ kUW := kUW_t1 97 (by decide +kernel) rfl
theorem mfl_TaleMachine_Frames_19 : Cond.fieldLink "TaleMachine$Frames" 19 "TaleMachine$Frames" "bases" "[I" ∈ kUW := kUW_t1 98 (by decide +kernel) rfl
theorem mfl_TaleMachine_Frames_22 : Cond.fieldLink "TaleMachine$Frames" 22 "TaleMachine$Frames" "answers" "[I" ∈ kUW := kUW_t1 99 (by decide +kernel) rfl
theorem mfl_TaleMachine_Frames_25 : Cond.fieldLink "TaleMachine$Frames" 25 "TaleMachine$Frames" "backs" "[I" ∈ kUW := kUW_t1 101 (by decide +kernel) rfl
theorem mfl_TaleMachine_Frames_31 : Cond.fieldLink "TaleMachine$Frames" 31 "TaleMachine$Frames" "top" "I" ∈ kUW := kUW_t1 103 (by decide +kernel) rfl
theorem mfl_TaleMachine_Frames_35 : Cond.fieldLink "TaleMachine$Frames" 35 "TaleMachine$Frames" "depth" "I" ∈ kUW := kUW_t1 106 (by decide +kernel) rfl
theorem mfl_TaleMachine_Codes_9 : Cond.fieldLink "TaleMachine$Codes" 9 "TaleMachine$Codes" "kept" "[I" ∈ kUW := kUW_t1 132 (by decide +kernel) rfl
theorem mfl_TaleMachine_Codes_15 : Cond.fieldLink "TaleMachine$Codes" 15 "TaleMachine$Codes" "total" "I" ∈ kUW := kUW_t1 133 (by decide +kernel) rfl
theorem mfl_TaleMachine_Teller_11 : Cond.fieldLink "TaleMachine$Teller" 11 "TaleMachine$Teller" "store" "LTaleMachine$Store;" ∈ kUW := kUW_t1 146 (by decide +kernel) rfl
theorem mfl_TaleMachine_Teller_15 : Cond.fieldLink "TaleMachine$Teller" 15 "TaleMachine$Teller" "sink" "LTaleMachine$Codes;" ∈ kUW := kUW_t1 147 (by decide +kernel) rfl
theorem mfl_TaleMachine_Teller_19 : Cond.fieldLink "TaleMachine$Teller" 19 "TaleMachine$Teller" "told" "I" ∈ kUW := kUW_t1 148 (by decide +kernel) rfl
theorem mfl_TaleMachine_Teller_23 : Cond.fieldLink "TaleMachine$Teller" 23 "TaleMachine$Teller" "letters" "I" ∈ kUW := kUW_t1 149 (by decide +kernel) rfl
theorem mfl_TaleMachine_Teller_55 : Cond.fieldLink "TaleMachine$Teller" 55 "TaleMachine$Teller" "at" "I" ∈ kUW := kUW_t1 150 (by decide +kernel) rfl
theorem mfl_TaleMachine_Teller_45 : Cond.fieldLink "TaleMachine$Teller" 45 "TaleMachine$Teller" "packed" "I" ∈ kUW := kUW_t1 151 (by decide +kernel) rfl
theorem mfl_TaleMachine_Teller_39 : Cond.fieldLink "TaleMachine$Teller" 39 "TaleMachine$Teller" "left" "I" ∈ kUW := kUW_t1 152 (by decide +kernel) rfl
theorem mfl_TaleMachine_Teller_26 : Cond.fieldLink "TaleMachine$Teller" 26 "TaleMachine$Teller" "abbreviated" "Z" ∈ kUW := kUW_t1 153 (by decide +kernel) rfl
theorem mfl_TaleMachine_Teller_69 : Cond.fieldLink "TaleMachine$Teller" 69 "TaleMachine$Teller" "outerAt" "I" ∈ kUW := kUW_t1 154 (by decide +kernel) rfl
theorem mfl_TaleMachine_Teller_72 : Cond.fieldLink "TaleMachine$Teller" 72 "TaleMachine$Teller" "outerPacked" "I" ∈ kUW := kUW_t1 155 (by decide +kernel) rfl
theorem mfl_TaleMachine_Teller_75 : Cond.fieldLink "TaleMachine$Teller" 75 "TaleMachine$Teller" "outerLeft" "I" ∈ kUW := kUW_t1 156 (by decide +kernel) rfl
theorem mfl_TaleMachine_Teller_59 : Cond.fieldLink "TaleMachine$Teller" 59 "TaleMachine$Teller" "row" "I" ∈ kUW := kUW_t1 157 (by decide +kernel) rfl
theorem mfl_TaleMachine_Teller_62 : Cond.fieldLink "TaleMachine$Teller" 62 "TaleMachine$Teller" "waiting" "I" ∈ kUW := kUW_t1 158 (by decide +kernel) rfl
theorem mfl_TaleMachine_Teller_87 : Cond.fieldLink "TaleMachine$Teller" 87 "TaleMachine$Teller" "highPart" "I" ∈ kUW := kUW_t1 159 (by decide +kernel) rfl
theorem mfl_TaleMachine_Reader_9 : Cond.fieldLink "TaleMachine$Reader" 9 "TaleMachine$Reader" "store" "LTaleMachine$Store;" ∈ kUW := kUW_t1 195 (by decide +kernel) rfl
theorem mfl_TaleMachine_Reader_15 : Cond.fieldLink "TaleMachine$Reader" 15 "TaleMachine$Reader" "codes" "[I" ∈ kUW := kUW_t1 196 (by decide +kernel) rfl
theorem mfl_TaleMachine_Reader_19 : Cond.fieldLink "TaleMachine$Reader" 19 "TaleMachine$Reader" "letters" "[I" ∈ kUW := kUW_t1 197 (by decide +kernel) rfl
theorem mfl_TaleMachine_Reader_22 : Cond.fieldLink "TaleMachine$Reader" 22 "TaleMachine$Reader" "heard" "I" ∈ kUW := kUW_t1 198 (by decide +kernel) rfl
theorem mfl_TaleMachine_Reader_81 : Cond.fieldLink "TaleMachine$Reader" 81 "TaleMachine$Reader" "spelled" "I" ∈ kUW := kUW_t1 199 (by decide +kernel) rfl
theorem mfl_TaleMachine_Reader_30 : Cond.fieldLink "TaleMachine$Reader" 30 "TaleMachine$Reader" "place" "I" ∈ kUW := kUW_t1 200 (by decide +kernel) rfl
theorem mfl_TaleMachine_Reader_39 : Cond.fieldLink "TaleMachine$Reader" 39 "TaleMachine$Reader" "most" "I" ∈ kUW := kUW_t1 201 (by decide +kernel) rfl
theorem mfl_TaleMachine_Reader_42 : Cond.fieldLink "TaleMachine$Reader" 42 "TaleMachine$Reader" "told" "I" ∈ kUW := kUW_t1 202 (by decide +kernel) rfl
theorem mfl_TaleMachine_Variables_9 : Cond.fieldLink "TaleMachine$Variables" 9 "TaleMachine$Variables" "store" "LTaleMachine$Store;" ∈ kUW := kUW_t1 232 (by decide +kernel) rfl
theorem mfl_TaleMachine_Variables_15 : Cond.fieldLink "TaleMachine$Variables" 15 "TaleMachine$Variables" "frames" "LTaleMachine$Frames;" ∈ kUW := kUW_t1 233 (by decide +kernel) rfl
theorem mfl_TaleMachine_Forest_9 : Cond.fieldLink "TaleMachine$Forest" 9 "TaleMachine$Forest" "store" "LTaleMachine$Store;" ∈ kUW := kUW_t2 5 (by decide +kernel) rfl
theorem mfl_TaleMachine_Engine_9 : Cond.fieldLink "TaleMachine$Engine" 9 "TaleMachine$Engine" "store" "LTaleMachine$Store;" ∈ kUW := kUW_t2 9 (by decide +kernel) rfl
theorem mfl_TaleMachine_Engine_15 : Cond.fieldLink "TaleMachine$Engine" 15 "TaleMachine$Engine" "frames" "LTaleMachine$Frames;" ∈ kUW := kUW_t2 10 (by decide +kernel) rfl
theorem mfl_TaleMachine_Engine_32 : Cond.fieldLink "TaleMachine$Engine" 32 "TaleMachine$Engine" "variables" "LTaleMachine$Variables;" ∈ kUW := kUW_t2 11 (by decide +kernel) rfl
theorem mfl_TaleMachine_Engine_41 : Cond.fieldLink "TaleMachine$Engine" 41 "TaleMachine$Engine" "forest" "LTaleMachine$Forest;" ∈ kUW := kUW_t2 12 (by decide +kernel) rfl
theorem mfl_TaleMachine_Engine_23 : Cond.fieldLink "TaleMachine$Engine" 23 "TaleMachine$Engine" "teller" "LTaleMachine$Teller;" ∈ kUW := kUW_t2 13 (by decide +kernel) rfl
theorem mfl_TaleMachine_Engine_19 : Cond.fieldLink "TaleMachine$Engine" 19 "TaleMachine$Engine" "output" "LTaleMachine$Codes;" ∈ kUW := kUW_t2 14 (by decide +kernel) rfl
theorem mfl_TaleMachine_Engine_45 : Cond.fieldLink "TaleMachine$Engine" 45 "TaleMachine$Engine" "operands" "[I" ∈ kUW := kUW_t2 15 (by decide +kernel) rfl
theorem mfl_TaleMachine_Engine_105 : Cond.fieldLink "TaleMachine$Engine" 105 "TaleMachine$Engine" "given" "I" ∈ kUW := kUW_t2 16 (by decide +kernel) rfl
theorem mfl_TaleMachine_Engine_59 : Cond.fieldLink "TaleMachine$Engine" 59 "TaleMachine$Engine" "pc" "I" ∈ kUW := kUW_t2 17 (by decide +kernel) rfl
theorem mfl_TaleMachine_Engine_56 : Cond.fieldLink "TaleMachine$Engine" 56 "TaleMachine$Engine" "next" "I" ∈ kUW := kUW_t2 20 (by decide +kernel) rfl
theorem mfl_TaleMachine_Engine_49 : Cond.fieldLink "TaleMachine$Engine" 49 "TaleMachine$Engine" "status" "I" ∈ kUW := kUW_t2 21 (by decide +kernel) rfl
theorem mfl_TaleMachine_Engine_72 : Cond.fieldLink "TaleMachine$Engine" 72 "TaleMachine$Engine" "begun" "I" ∈ kUW := kUW_t2 24 (by decide +kernel) rfl
theorem mfl_TaleMachine_Engine_75 : Cond.fieldLink "TaleMachine$Engine" 75 "TaleMachine$Engine" "draw" "I" ∈ kUW := kUW_t2 26 (by decide +kernel) rfl
theorem mfl_TaleMachine_Engine_264 : Cond.fieldLink "TaleMachine$Engine" 264 "TaleMachine$Engine" "lineAt" "I" ∈ kUW := kUW_t2 29 (by decide +kernel) rfl
theorem mfl_TaleMachine_Engine_267 : Cond.fieldLink "TaleMachine$Engine" 267 "TaleMachine$Engine" "wordsAt" "I" ∈ kUW := kUW_t2 32 (by decide +kernel) rfl
theorem mfl_TaleMachine_Engine_120 : Cond.fieldLink "TaleMachine$Engine" 120 "TaleMachine$Engine" "value" "I" ∈ kUW := kUW_t2 33 (by decide +kernel) rfl
theorem mfl_TaleMachine_Engine_160 : Cond.fieldLink "TaleMachine$Engine" 160 "TaleMachine$Engine" "holds" "Z" ∈ kUW := kUW_t2 34 (by decide +kernel) rfl
theorem mfl_TaleMachine_Slot_11 : Cond.fieldLink "TaleMachine$Slot" 11 "TaleMachine$Slot" "row" "[I" ∈ kUW := kUW_t2 79 (by decide +kernel) rfl
theorem mfl_TaleMachine_Slot_18 : Cond.fieldLink "TaleMachine$Slot" 18 "TaleMachine$Slot" "frames" "LTaleMachine$Frames;" ∈ kUW := kUW_t2 81 (by decide +kernel) rfl
theorem mfl_TaleMachine_Slot_49 : Cond.fieldLink "TaleMachine$Slot" 49 "TaleMachine$Slot" "used" "Z" ∈ kUW := kUW_t2 82 (by decide +kernel) rfl
theorem mfl_TaleMachine_Slot_67 : Cond.fieldLink "TaleMachine$Slot" 67 "TaleMachine$Slot" "size" "I" ∈ kUW := kUW_t2 84 (by decide +kernel) rfl
theorem mfl_TaleMachine_Slot_36 : Cond.fieldLink "TaleMachine$Slot" 36 "TaleMachine$Slot" "pc" "I" ∈ kUW := kUW_t2 86 (by decide +kernel) rfl
theorem mfl_TaleMachine_Slot_40 : Cond.fieldLink "TaleMachine$Slot" 40 "TaleMachine$Slot" "status" "I" ∈ kUW := kUW_t2 87 (by decide +kernel) rfl
theorem mfl_TaleMachine_Slot_44 : Cond.fieldLink "TaleMachine$Slot" 44 "TaleMachine$Slot" "lineAt" "I" ∈ kUW := kUW_t2 88 (by decide +kernel) rfl
theorem mfl_TaleMachine_Slot_48 : Cond.fieldLink "TaleMachine$Slot" 48 "TaleMachine$Slot" "wordsAt" "I" ∈ kUW := kUW_t2 89 (by decide +kernel) rfl
theorem mfl_TaleMachine_9 : Cond.fieldLink "TaleMachine" 9 "TaleMachine" "tape" "[I" ∈ kUW := kUW_t2 107 (by decide +kernel) rfl
theorem mfl_TaleMachine_16 : Cond.fieldLink "TaleMachine" 16 "TaleMachine" "store" "LTaleMachine$Store;" ∈ kUW := kUW_t2 108 (by decide +kernel) rfl
theorem mfl_TaleMachine_23 : Cond.fieldLink "TaleMachine" 23 "TaleMachine" "frames" "LTaleMachine$Frames;" ∈ kUW := kUW_t2 109 (by decide +kernel) rfl
theorem mfl_TaleMachine_32 : Cond.fieldLink "TaleMachine" 32 "TaleMachine" "output" "LTaleMachine$Codes;" ∈ kUW := kUW_t2 110 (by decide +kernel) rfl
theorem mfl_TaleMachine_36 : Cond.fieldLink "TaleMachine" 36 "TaleMachine" "shown" "LTaleMachine$Codes;" ∈ kUW := kUW_t2 111 (by decide +kernel) rfl
theorem mfl_TaleMachine_44 : Cond.fieldLink "TaleMachine" 44 "TaleMachine" "teller" "LTaleMachine$Teller;" ∈ kUW := kUW_t2 112 (by decide +kernel) rfl
theorem mfl_TaleMachine_51 : Cond.fieldLink "TaleMachine" 51 "TaleMachine" "reader" "LTaleMachine$Reader;" ∈ kUW := kUW_t2 113 (by decide +kernel) rfl
theorem mfl_TaleMachine_60 : Cond.fieldLink "TaleMachine" 60 "TaleMachine" "engine" "LTaleMachine$Engine;" ∈ kUW := kUW_t2 114 (by decide +kernel) rfl
theorem mfl_TaleMachine_66 : Cond.fieldLink "TaleMachine" 66 "TaleMachine" "slots" "[LTaleMachine$Slot;" ∈ kUW := kUW_t2 115 (by decide +kernel) rfl
theorem mfl_TaleMachine_71 : Cond.fieldLink "TaleMachine" 71 "TaleMachine" "taped" "I" ∈ kUW := kUW_t2 116 (by decide +kernel) rfl
theorem mfl_TaleMachine_Engine_142 : Cond.fieldLink "TaleMachine$Engine" 142 "TaleMachine$Engine" "AFTER_VAR" "[I" ∈ kUW := kUW_t3 19 (by decide +kernel) rfl
theorem mfl_TaleMachine_Engine_145 : Cond.fieldLink "TaleMachine$Engine" 145 "TaleMachine$Engine" "NEEDED_BY_VAR" "[I" ∈ kUW := kUW_t3 21 (by decide +kernel) rfl
theorem mfl_TaleMachine_Engine_148 : Cond.fieldLink "TaleMachine$Engine" 148 "TaleMachine$Engine" "AFTER_TWO" "[I" ∈ kUW := kUW_t3 23 (by decide +kernel) rfl
theorem mfl_TaleMachine_Engine_151 : Cond.fieldLink "TaleMachine$Engine" 151 "TaleMachine$Engine" "AFTER_NONE" "[I" ∈ kUW := kUW_t3 25 (by decide +kernel) rfl
theorem mfl_TaleMachine_Engine_154 : Cond.fieldLink "TaleMachine$Engine" 154 "TaleMachine$Engine" "AFTER_ONE" "[I" ∈ kUW := kUW_t3 27 (by decide +kernel) rfl
theorem mfl_java_lang_String_38 : Cond.fieldLink "java/lang/String" 38 "java/lang/String" "COMPACT_STRINGS" "Z" ∈ kUW := kUW_t3 171 (by decide +kernel) rfl
theorem mfl_java_lang_String_1053 : Cond.fieldLink "java/lang/String" 1053 "jdk/internal/util/Preconditions" "SIOOBE_FORMATTER" "Ljava/util/function/BiFunction;" ∈ kUW := kUW_t3 187 (by decide +kernel) rfl
theorem mfl_java_lang_StringUTF16_44 : Cond.fieldLink "java/lang/StringUTF16" 44 "java/lang/StringUTF16" "$assertionsDisabled" "Z" ∈ kUW := kUW_t3 205 (by decide +kernel) rfl
theorem mfl_java_lang_StringUTF16_59 : Cond.fieldLink "java/lang/StringUTF16" 59 "java/lang/StringUTF16" "HI_BYTE_SHIFT" "I" ∈ kUW := kUW_t3 207 (by decide +kernel) rfl
theorem mfl_java_lang_StringUTF16_63 : Cond.fieldLink "java/lang/StringUTF16" 63 "java/lang/StringUTF16" "LO_BYTE_SHIFT" "I" ∈ kUW := kUW_t3 209 (by decide +kernel) rfl
theorem mfl_TaleMachineModel_7 : Cond.fieldLink "TaleMachineModel" 7 "TaleMachineModel" "third" "[I" ∈ kUW := kUW_t5 37 (by decide +kernel) rfl
theorem mfl_TaleMachineModel_13 : Cond.fieldLink "TaleMachineModel" 13 "TaleMachineModel" "tape" "[I" ∈ kUW := kUW_t5 38 (by decide +kernel) rfl
theorem mfl_TaleMachineModel_86 : Cond.fieldLink "TaleMachineModel" 86 "TaleMachineModel" "taped" "I" ∈ kUW := kUW_t5 39 (by decide +kernel) rfl
theorem mfl_TaleMachineModel_108 : Cond.fieldLink "TaleMachineModel" 108 "TaleMachineModel" "isThere" "Z" ∈ kUW := kUW_t5 40 (by decide +kernel) rfl
theorem mfl_TaleMachineModel_16 : Cond.fieldLink "TaleMachineModel" 16 "TaleMachineModel" "mem" "[I" ∈ kUW := kUW_t5 41 (by decide +kernel) rfl
theorem mfl_TaleMachineModel_19 : Cond.fieldLink "TaleMachineModel" 19 "TaleMachineModel" "first" "[I" ∈ kUW := kUW_t5 42 (by decide +kernel) rfl
theorem mfl_TaleMachineModel_115 : Cond.fieldLink "TaleMachineModel" 115 "TaleMachineModel" "size" "I" ∈ kUW := kUW_t5 43 (by decide +kernel) rfl
theorem mfl_TaleMachineModel_118 : Cond.fieldLink "TaleMachineModel" 118 "TaleMachineModel" "mark" "I" ∈ kUW := kUW_t5 44 (by decide +kernel) rfl
theorem mfl_TaleMachineModel_121 : Cond.fieldLink "TaleMachineModel" 121 "TaleMachineModel" "dictionary" "I" ∈ kUW := kUW_t5 45 (by decide +kernel) rfl
theorem mfl_TaleMachineModel_124 : Cond.fieldLink "TaleMachineModel" 124 "TaleMachineModel" "objects" "I" ∈ kUW := kUW_t5 46 (by decide +kernel) rfl
theorem mfl_TaleMachineModel_127 : Cond.fieldLink "TaleMachineModel" 127 "TaleMachineModel" "globals" "I" ∈ kUW := kUW_t5 47 (by decide +kernel) rfl
theorem mfl_TaleMachineModel_130 : Cond.fieldLink "TaleMachineModel" 130 "TaleMachineModel" "abbreviations" "I" ∈ kUW := kUW_t5 48 (by decide +kernel) rfl
theorem mfl_TaleMachineModel_112 : Cond.fieldLink "TaleMachineModel" 112 "TaleMachineModel" "state" "I" ∈ kUW := kUW_t5 49 (by decide +kernel) rfl
theorem mfl_TaleMachineModel_148 : Cond.fieldLink "TaleMachineModel" 148 "TaleMachineModel" "halt" "I" ∈ kUW := kUW_t5 50 (by decide +kernel) rfl
theorem mfl_TaleMachineModel_142 : Cond.fieldLink "TaleMachineModel" 142 "TaleMachineModel" "pc" "I" ∈ kUW := kUW_t5 51 (by decide +kernel) rfl
theorem mfl_TaleMachineModel_170 : Cond.fieldLink "TaleMachineModel" 170 "TaleMachineModel" "at" "I" ∈ kUW := kUW_t5 52 (by decide +kernel) rfl
theorem mfl_TaleMachineModel_151 : Cond.fieldLink "TaleMachineModel" 151 "TaleMachineModel" "orders" "I" ∈ kUW := kUW_t5 53 (by decide +kernel) rfl
theorem mfl_TaleMachineModel_154 : Cond.fieldLink "TaleMachineModel" 154 "TaleMachineModel" "draw" "I" ∈ kUW := kUW_t5 54 (by decide +kernel) rfl
theorem mfl_TaleMachineModel_22 : Cond.fieldLink "TaleMachineModel" 22 "TaleMachineModel" "stack" "[I" ∈ kUW := kUW_t5 55 (by decide +kernel) rfl
theorem mfl_TaleMachineModel_136 : Cond.fieldLink "TaleMachineModel" 136 "TaleMachineModel" "high" "I" ∈ kUW := kUW_t5 56 (by decide +kernel) rfl
theorem mfl_TaleMachineModel_139 : Cond.fieldLink "TaleMachineModel" 139 "TaleMachineModel" "frames" "I" ∈ kUW := kUW_t5 57 (by decide +kernel) rfl
theorem mfl_TaleMachineModel_25 : Cond.fieldLink "TaleMachineModel" 25 "TaleMachineModel" "base" "[I" ∈ kUW := kUW_t5 58 (by decide +kernel) rfl
theorem mfl_TaleMachineModel_28 : Cond.fieldLink "TaleMachineModel" 28 "TaleMachineModel" "back" "[I" ∈ kUW := kUW_t5 59 (by decide +kernel) rfl
theorem mfl_TaleMachineModel_31 : Cond.fieldLink "TaleMachineModel" 31 "TaleMachineModel" "answerTo" "[I" ∈ kUW := kUW_t5 60 (by decide +kernel) rfl
theorem mfl_TaleMachineModel_34 : Cond.fieldLink "TaleMachineModel" 34 "TaleMachineModel" "localMany" "[I" ∈ kUW := kUW_t5 61 (by decide +kernel) rfl
theorem mfl_TaleMachineModel_37 : Cond.fieldLink "TaleMachineModel" 37 "TaleMachineModel" "locals" "[I" ∈ kUW := kUW_t5 62 (by decide +kernel) rfl
theorem mfl_TaleMachineModel_323 : Cond.fieldLink "TaleMachineModel" 323 "TaleMachineModel" "readA" "I" ∈ kUW := kUW_t5 63 (by decide +kernel) rfl
theorem mfl_TaleMachineModel_326 : Cond.fieldLink "TaleMachineModel" 326 "TaleMachineModel" "readB" "I" ∈ kUW := kUW_t5 64 (by decide +kernel) rfl
theorem mfl_TaleMachineModel_244 : Cond.fieldLink "TaleMachineModel" 244 "TaleMachineModel" "isAsked" "Z" ∈ kUW := kUW_t5 65 (by decide +kernel) rfl
theorem mfl_TaleMachineModel_247 : Cond.fieldLink "TaleMachineModel" 247 "TaleMachineModel" "askedMany" "I" ∈ kUW := kUW_t5 66 (by decide +kernel) rfl
theorem mfl_TaleMachineModel_40 : Cond.fieldLink "TaleMachineModel" 40 "TaleMachineModel" "asked" "[I" ∈ kUW := kUW_t5 67 (by decide +kernel) rfl
theorem mfl_TaleMachineModel_157 : Cond.fieldLink "TaleMachineModel" 157 "TaleMachineModel" "outs" "I" ∈ kUW := kUW_t5 68 (by decide +kernel) rfl
theorem mfl_TaleMachineModel_43 : Cond.fieldLink "TaleMachineModel" 43 "TaleMachineModel" "out" "[I" ∈ kUW := kUW_t5 69 (by decide +kernel) rfl
theorem mfl_TaleMachineModel_46 : Cond.fieldLink "TaleMachineModel" 46 "TaleMachineModel" "isKept" "[Z" ∈ kUW := kUW_t5 70 (by decide +kernel) rfl
theorem mfl_TaleMachineModel_50 : Cond.fieldLink "TaleMachineModel" 50 "TaleMachineModel" "keptMem" "[I" ∈ kUW := kUW_t5 71 (by decide +kernel) rfl
theorem mfl_TaleMachineModel_53 : Cond.fieldLink "TaleMachineModel" 53 "TaleMachineModel" "keptStack" "[I" ∈ kUW := kUW_t5 72 (by decide +kernel) rfl
theorem mfl_TaleMachineModel_56 : Cond.fieldLink "TaleMachineModel" 56 "TaleMachineModel" "keptFrames" "[I" ∈ kUW := kUW_t5 73 (by decide +kernel) rfl
theorem mfl_TaleMachineModel_59 : Cond.fieldLink "TaleMachineModel" 59 "TaleMachineModel" "keptRow" "[I" ∈ kUW := kUW_t5 74 (by decide +kernel) rfl
theorem mfl_TaleMachineModel_62 : Cond.fieldLink "TaleMachineModel" 62 "TaleMachineModel" "squeezes" "[I" ∈ kUW := kUW_t5 75 (by decide +kernel) rfl
theorem mfl_TaleMachineModel_65 : Cond.fieldLink "TaleMachineModel" 65 "TaleMachineModel" "squeezedMany" "[I" ∈ kUW := kUW_t5 76 (by decide +kernel) rfl
theorem mfl_TaleMachineModel_68 : Cond.fieldLink "TaleMachineModel" 68 "TaleMachineModel" "textAt" "[I" ∈ kUW := kUW_t5 77 (by decide +kernel) rfl
theorem mfl_TaleMachineModel_71 : Cond.fieldLink "TaleMachineModel" 71 "TaleMachineModel" "textWord" "[I" ∈ kUW := kUW_t5 78 (by decide +kernel) rfl
theorem mfl_TaleMachineModel_74 : Cond.fieldLink "TaleMachineModel" 74 "TaleMachineModel" "textPlace" "[I" ∈ kUW := kUW_t5 79 (by decide +kernel) rfl
theorem mfl_TaleMachineModel_250 : Cond.fieldLink "TaleMachineModel" 250 "TaleMachineModel" "textCodes" "I" ∈ kUW := kUW_t5 80 (by decide +kernel) rfl
theorem mfl_TaleMachineModel_77 : Cond.fieldLink "TaleMachineModel" 77 "TaleMachineModel" "operand" "[I" ∈ kUW := kUW_t5 81 (by decide +kernel) rfl
theorem mfl_TaleMachineModel_261 : Cond.fieldLink "TaleMachineModel" 261 "TaleMachineModel" "operands" "I" ∈ kUW := kUW_t5 82 (by decide +kernel) rfl
theorem mfl_TaleMachineModel_80 : Cond.fieldLink "TaleMachineModel" 80 "TaleMachineModel" "letters" "[I" ∈ kUW := kUW_t5 83 (by decide +kernel) rfl
theorem mfl_TaleMachineModel_83 : Cond.fieldLink "TaleMachineModel" 83 "TaleMachineModel" "six" "[I" ∈ kUW := kUW_t5 84 (by decide +kernel) rfl
theorem mfl_TaleMachineModel_341 : Cond.fieldLink "TaleMachineModel" 341 "TaleMachineModel" "sixes" "I" ∈ kUW := kUW_t5 85 (by decide +kernel) rfl
theorem mfl_java_lang_String_9 : Cond.fieldLink "java/lang/String" 9 "java/lang/String" "value" "[B" ∈ kUW := kUW_t7 9 (by decide +kernel) rfl
theorem mfl_java_lang_String_15 : Cond.fieldLink "java/lang/String" 15 "java/lang/String" "coder" "B" ∈ kUW := kUW_t7 10 (by decide +kernel) rfl
theorem mml_TaleMachineLaw_9 : Cond.methodLink "TaleMachineLaw" 9 ⟨"TaleMachine", "<init>", "()V"⟩ ∈ kUW := kUW_t1 21 (by decide +kernel) rfl
theorem mml_TaleMachine_1 : Cond.methodLink "TaleMachine" 1 ⟨"java/lang/Object", "<init>", "()V"⟩ ∈ kUW := kUW_t1 24 (by decide +kernel) rfl
theorem mml_TaleMachine_Store_3 : Cond.methodLink "TaleMachine$Store" 3 ⟨"java/lang/Object", "<init>", "()V"⟩ ∈ kUW := kUW_t1 32 (by decide +kernel) rfl
theorem mml_TaleMachine_Frames_1 : Cond.methodLink "TaleMachine$Frames" 1 ⟨"java/lang/Object", "<init>", "()V"⟩ ∈ kUW := kUW_t1 88 (by decide +kernel) rfl
theorem mml_TaleMachine_Frames_28 : Cond.methodLink "TaleMachine$Frames" 28 ⟨"TaleMachine$Frames", "clear", "()V"⟩ ∈ kUW := kUW_t1 89 (by decide +kernel) rfl
theorem mml_TaleMachine_Codes_3 : Cond.methodLink "TaleMachine$Codes" 3 ⟨"java/lang/Object", "<init>", "()V"⟩ ∈ kUW := kUW_t1 131 (by decide +kernel) rfl
theorem mml_TaleMachine_Teller_5 : Cond.methodLink "TaleMachine$Teller" 5 ⟨"java/lang/Object", "<init>", "()V"⟩ ∈ kUW := kUW_t1 145 (by decide +kernel) rfl
theorem mml_TaleMachine_Reader_3 : Cond.methodLink "TaleMachine$Reader" 3 ⟨"java/lang/Object", "<init>", "()V"⟩ ∈ kUW := kUW_t1 194 (by decide +kernel) rfl
theorem mml_TaleMachine_Engine_3 : Cond.methodLink "TaleMachine$Engine" 3 ⟨"java/lang/Object", "<init>", "()V"⟩ ∈ kUW := kUW_t1 225 (by decide +kernel) rfl
theorem mml_TaleMachine_Variables_3 : Cond.methodLink "TaleMachine$Variables" 3 ⟨"java/lang/Object", "<init>", "()V"⟩ ∈ kUW := kUW_t1 231 (by decide +kernel) rfl
theorem mml_TaleMachine_Forest_3 : Cond.methodLink "TaleMachine$Forest" 3 ⟨"java/lang/Object", "<init>", "()V"⟩ ∈ kUW := kUW_t2 4 (by decide +kernel) rfl
theorem mml_TaleMachine_Slot_3 : Cond.methodLink "TaleMachine$Slot" 3 ⟨"java/lang/Object", "<init>", "()V"⟩ ∈ kUW := kUW_t2 76 (by decide +kernel) rfl
theorem mml_TaleMachineLaw_13 : Cond.methodLink "TaleMachineLaw" 13 ⟨"TaleMachine", "feed", "(IIIIIIII)I"⟩ ∈ kUW := kUW_t2 138 (by decide +kernel) rfl
theorem mml_TaleMachine_75 : Cond.methodLink "TaleMachine" 75 ⟨"TaleMachine", "layOnTape", "(I)V"⟩ ∈ kUW := kUW_t2 142 (by decide +kernel) rfl
theorem mml_TaleMachineLaw_18 : Cond.methodLink "TaleMachineLaw" 18 ⟨"TaleMachine", "end", "(I)I"⟩ ∈ kUW := kUW_t2 146 (by decide +kernel) rfl
theorem mml_TaleMachineLaw_23 : Cond.methodLink "TaleMachineLaw" 23 ⟨"TaleMachine", "load", "()I"⟩ ∈ kUW := kUW_t2 150 (by decide +kernel) rfl
theorem mml_TaleMachine_Store_18 : Cond.methodLink "TaleMachine$Store" 18 ⟨"java/lang/Math", "min", "(II)I"⟩ ∈ kUW := kUW_t2 158 (by decide +kernel) rfl
theorem mml_TaleMachine_Store_24 : Cond.methodLink "TaleMachine$Store" 24 ⟨"java/lang/Math", "max", "(II)I"⟩ ∈ kUW := kUW_t2 161 (by decide +kernel) rfl
theorem mml_TaleMachine_Store_31 : Cond.methodLink "TaleMachine$Store" 31 ⟨"java/lang/System", "arraycopy", "(Ljava/lang/Object;ILjava/lang/Object;II)V"⟩ ∈ kUW := kUW_t2 164 (by decide +kernel) rfl
theorem mml_TaleMachine_Store_40 : Cond.methodLink "TaleMachine$Store" 40 ⟨"TaleMachine$Store", "loadedWord", "(I)I"⟩ ∈ kUW := kUW_t2 167 (by decide +kernel) rfl
theorem mml_TaleMachine_Store_62 : Cond.methodLink "TaleMachine$Store" 62 ⟨"TaleMachine$Store", "headerFault", "()I"⟩ ∈ kUW := kUW_t2 171 (by decide +kernel) rfl
theorem mml_TaleMachine_Store_66 : Cond.methodLink "TaleMachine$Store" 66 ⟨"TaleMachine$Store", "loadedSum", "()I"⟩ ∈ kUW := kUW_t2 175 (by decide +kernel) rfl
theorem mml_TaleMachine_Engine_53 : Cond.methodLink "TaleMachine$Engine" 53 ⟨"TaleMachine$Engine", "rewind", "()V"⟩ ∈ kUW := kUW_t2 184 (by decide +kernel) rfl
theorem mml_TaleMachineLaw_28 : Cond.methodLink "TaleMachineLaw" 28 ⟨"TaleMachine", "run", "(I)I"⟩ ∈ kUW := kUW_t2 197 (by decide +kernel) rfl
theorem mml_TaleMachine_Engine_87 : Cond.methodLink "TaleMachine$Engine" 87 ⟨"TaleMachine$Engine", "fetch", "()I"⟩ ∈ kUW := kUW_t2 205 (by decide +kernel) rfl
theorem mml_TaleMachine_Store_70 : Cond.methodLink "TaleMachine$Store" 70 ⟨"TaleMachine$Store", "raise", "(I)V"⟩ ∈ kUW := kUW_t2 213 (by decide +kernel) rfl
theorem mml_TaleMachine_Engine_91 : Cond.methodLink "TaleMachine$Engine" 91 ⟨"TaleMachine$Engine", "readOperands", "(I)V"⟩ ∈ kUW := kUW_t2 218 (by decide +kernel) rfl
theorem mml_TaleMachine_Engine_136 : Cond.methodLink "TaleMachine$Engine" 136 ⟨"TaleMachine$Engine", "operandOf", "(I)I"⟩ ∈ kUW := kUW_t2 222 (by decide +kernel) rfl
theorem mml_TaleMachine_Variables_19 : Cond.methodLink "TaleMachine$Variables" 19 ⟨"TaleMachine$Variables", "pop", "()I"⟩ ∈ kUW := kUW_t2 230 (by decide +kernel) rfl
theorem mml_TaleMachine_Variables_23 : Cond.methodLink "TaleMachine$Variables" 23 ⟨"TaleMachine$Variables", "globalAt", "(I)I"⟩ ∈ kUW := kUW_t2 239 (by decide +kernel) rfl
theorem mml_TaleMachine_Engine_95 : Cond.methodLink "TaleMachine$Engine" 95 ⟨"TaleMachine$Engine", "afterOf", "(I)I"⟩ ∈ kUW := kUW_t3 15 (by decide +kernel) rfl
theorem mml_TaleMachine_Engine_102 : Cond.methodLink "TaleMachine$Engine" 102 ⟨"TaleMachine$Engine", "performVar", "(I)V"⟩ ∈ kUW := kUW_t3 30 (by decide +kernel) rfl
theorem mml_TaleMachine_Engine_252 : Cond.methodLink "TaleMachine$Engine" 252 ⟨"TaleMachine$Engine", "call", "(I)V"⟩ ∈ kUW := kUW_t3 34 (by decide +kernel) rfl
theorem mml_TaleMachine_Variables_48 : Cond.methodLink "TaleMachine$Variables" 48 ⟨"TaleMachine$Variables", "push", "(I)V"⟩ ∈ kUW := kUW_t3 42 (by decide +kernel) rfl
theorem mml_TaleMachine_Forest_58 : Cond.methodLink "TaleMachine$Forest" 58 ⟨"TaleMachine$Forest", "findProperty", "(II)I"⟩ ∈ kUW := kUW_t3 77 (by decide +kernel) rfl
theorem mml_TaleMachine_Forest_52 : Cond.methodLink "TaleMachine$Forest" 52 ⟨"TaleMachine$Forest", "firstProperty", "(I)I"⟩ ∈ kUW := kUW_t3 81 (by decide +kernel) rfl
theorem mml_TaleMachine_Forest_25 : Cond.methodLink "TaleMachine$Forest" 25 ⟨"TaleMachine$Forest", "placeOf", "(I)I"⟩ ∈ kUW := kUW_t3 85 (by decide +kernel) rfl
theorem mml_TaleMachine_Forest_55 : Cond.methodLink "TaleMachine$Forest" 55 ⟨"TaleMachine$Forest", "sizeBy", "(I)I"⟩ ∈ kUW := kUW_t3 92 (by decide +kernel) rfl
theorem mml_TaleMachine_Codes_19 : Cond.methodLink "TaleMachine$Codes" 19 ⟨"TaleMachine$Codes", "add", "(I)V"⟩ ∈ kUW := kUW_t3 109 (by decide +kernel) rfl
theorem mml_TaleMachine_Codes_23 : Cond.methodLink "TaleMachine$Codes" 23 ⟨"java/lang/Math", "abs", "(I)I"⟩ ∈ kUW := kUW_t3 110 (by decide +kernel) rfl
theorem mml_TaleMachine_Engine_273 : Cond.methodLink "TaleMachine$Engine" 273 ⟨"TaleMachine$Engine", "drawn", "(I)I"⟩ ∈ kUW := kUW_t3 113 (by decide +kernel) rfl
theorem mml_TaleMachine_Variables_76 : Cond.methodLink "TaleMachine$Variables" 76 ⟨"TaleMachine$Variables", "assign", "(II)V"⟩ ∈ kUW := kUW_t3 124 (by decide +kernel) rfl
theorem mml_TaleMachine_Engine_108 : Cond.methodLink "TaleMachine$Engine" 108 ⟨"TaleMachine$Engine", "performNone", "(I)V"⟩ ∈ kUW := kUW_t3 125 (by decide +kernel) rfl
theorem mml_TaleMachine_Engine_167 : Cond.methodLink "TaleMachine$Engine" 167 ⟨"TaleMachine$Engine", "giveBack", "(I)V"⟩ ∈ kUW := kUW_t3 129 (by decide +kernel) rfl
theorem mml_TaleMachine_Teller_30 : Cond.methodLink "TaleMachine$Teller" 30 ⟨"TaleMachine$Teller", "open", "(I)V"⟩ ∈ kUW := kUW_t3 141 (by decide +kernel) rfl
theorem mml_TaleMachine_Teller_42 : Cond.methodLink "TaleMachine$Teller" 42 ⟨"TaleMachine$Teller", "nextLetter", "()V"⟩ ∈ kUW := kUW_t3 145 (by decide +kernel) rfl
theorem mml_TaleMachine_Teller_81 : Cond.methodLink "TaleMachine$Teller" 81 ⟨"TaleMachine$Teller", "plainLetter", "(I)I"⟩ ∈ kUW := kUW_t3 150 (by decide +kernel) rfl
theorem mml_TaleMachine_Teller_93 : Cond.methodLink "TaleMachine$Teller" 93 ⟨"TaleMachine$Teller", "await", "(I)V"⟩ ∈ kUW := kUW_t3 154 (by decide +kernel) rfl
theorem mml_TaleMachine_Teller_96 : Cond.methodLink "TaleMachine$Teller" 96 ⟨"TaleMachine$Teller", "thirdRowLetter", "(I)I"⟩ ∈ kUW := kUW_t3 158 (by decide +kernel) rfl
theorem mml_TaleMachine_Teller_103 : Cond.methodLink "TaleMachine$Teller" 103 ⟨"java/lang/String", "length", "()I"⟩ ∈ kUW := kUW_t3 163 (by decide +kernel) rfl
theorem mml_java_lang_String_335 : Cond.methodLink "java/lang/String" 335 ⟨"java/lang/String", "coder", "()B"⟩ ∈ kUW := kUW_t3 167 (by decide +kernel) rfl
theorem mml_TaleMachine_Teller_109 : Cond.methodLink "TaleMachine$Teller" 109 ⟨"java/lang/String", "charAt", "(I)C"⟩ ∈ kUW := kUW_t3 173 (by decide +kernel) rfl
theorem mml_java_lang_String_492 : Cond.methodLink "java/lang/String" 492 ⟨"java/lang/String", "isLatin1", "()Z"⟩ ∈ kUW := kUW_t3 177 (by decide +kernel) rfl
theorem mml_java_lang_String_495 : Cond.methodLink "java/lang/String" 495 ⟨"java/lang/StringLatin1", "charAt", "([BI)C"⟩ ∈ kUW := kUW_t3 181 (by decide +kernel) rfl
theorem mml_java_lang_StringLatin1_9 : Cond.methodLink "java/lang/StringLatin1" 9 ⟨"java/lang/String", "checkIndex", "(II)V"⟩ ∈ kUW := kUW_t3 184 (by decide +kernel) rfl
theorem mml_java_lang_String_1059 : Cond.methodLink "java/lang/String" 1059 ⟨"jdk/internal/util/Preconditions", "checkIndex", "(IILjava/util/function/BiFunction;)I"⟩ ∈ kUW := kUW_t3 189 (by decide +kernel) rfl
theorem mml_java_lang_String_498 : Cond.methodLink "java/lang/String" 498 ⟨"java/lang/StringUTF16", "charAt", "([BI)C"⟩ ∈ kUW := kUW_t3 192 (by decide +kernel) rfl
theorem mml_java_lang_StringUTF16_67 : Cond.methodLink "java/lang/StringUTF16" 67 ⟨"java/lang/StringUTF16", "checkIndex", "(I[B)V"⟩ ∈ kUW := kUW_t3 195 (by decide +kernel) rfl
theorem mml_java_lang_StringUTF16_48 : Cond.methodLink "java/lang/StringUTF16" 48 ⟨"java/lang/StringUTF16", "length", "([B)I"⟩ ∈ kUW := kUW_t3 198 (by decide +kernel) rfl
theorem mml_java_lang_StringUTF16_414 : Cond.methodLink "java/lang/StringUTF16" 414 ⟨"java/lang/String", "checkIndex", "(II)V"⟩ ∈ kUW := kUW_t3 201 (by decide +kernel) rfl
theorem mml_java_lang_StringUTF16_71 : Cond.methodLink "java/lang/StringUTF16" 71 ⟨"java/lang/StringUTF16", "getChar", "([BI)C"⟩ ∈ kUW := kUW_t3 202 (by decide +kernel) rfl
theorem mml_TaleMachine_Teller_84 : Cond.methodLink "TaleMachine$Teller" 84 ⟨"TaleMachine$Teller", "emit", "(I)V"⟩ ∈ kUW := kUW_t3 211 (by decide +kernel) rfl
theorem mml_TaleMachine_Teller_90 : Cond.methodLink "TaleMachine$Teller" 90 ⟨"TaleMachine$Teller", "abbreviation", "(I)V"⟩ ∈ kUW := kUW_t3 216 (by decide +kernel) rfl
theorem mml_TaleMachine_Teller_49 : Cond.methodLink "TaleMachine$Teller" 49 ⟨"TaleMachine$Teller", "nextWord", "()V"⟩ ∈ kUW := kUW_t3 222 (by decide +kernel) rfl
theorem mml_TaleMachine_Teller_52 : Cond.methodLink "TaleMachine$Teller" 52 ⟨"TaleMachine$Teller", "goOnOutside", "()V"⟩ ∈ kUW := kUW_t3 226 (by decide +kernel) rfl
theorem mml_TaleMachine_Engine_243 : Cond.methodLink "TaleMachine$Engine" 243 ⟨"TaleMachine$Engine", "newLine", "()V"⟩ ∈ kUW := kUW_t3 231 (by decide +kernel) rfl
theorem mml_TaleMachine_Engine_111 : Cond.methodLink "TaleMachine$Engine" 111 ⟨"TaleMachine$Engine", "performOne", "(II)V"⟩ ∈ kUW := kUW_t3 235 (by decide +kernel) rfl
theorem mml_TaleMachine_Variables_79 : Cond.methodLink "TaleMachine$Variables" 79 ⟨"TaleMachine$Variables", "namedValue", "(I)I"⟩ ∈ kUW := kUW_t4 11 (by decide +kernel) rfl
theorem mml_TaleMachine_Variables_73 : Cond.methodLink "TaleMachine$Variables" 73 ⟨"TaleMachine$Variables", "valueOf", "(I)I"⟩ ∈ kUW := kUW_t4 15 (by decide +kernel) rfl
theorem mml_TaleMachine_Variables_82 : Cond.methodLink "TaleMachine$Variables" 82 ⟨"TaleMachine$Variables", "assignNamed", "(II)V"⟩ ∈ kUW := kUW_t4 16 (by decide +kernel) rfl
theorem mml_TaleMachine_Forest_40 : Cond.methodLink "TaleMachine$Forest" 40 ⟨"TaleMachine$Forest", "takeFrom", "(II)V"⟩ ∈ kUW := kUW_t4 21 (by decide +kernel) rfl
theorem mml_TaleMachine_Engine_164 : Cond.methodLink "TaleMachine$Engine" 164 ⟨"TaleMachine$Engine", "moveBy", "(I)V"⟩ ∈ kUW := kUW_t4 29 (by decide +kernel) rfl
theorem mml_TaleMachine_Engine_115 : Cond.methodLink "TaleMachine$Engine" 115 ⟨"TaleMachine$Engine", "answerOfTwo", "(III)I"⟩ ∈ kUW := kUW_t4 34 (by decide +kernel) rfl
theorem mml_TaleMachine_Forest_61 : Cond.methodLink "TaleMachine$Forest" 61 ⟨"TaleMachine$Forest", "defaultOf", "(I)I"⟩ ∈ kUW := kUW_t4 42 (by decide +kernel) rfl
theorem mml_TaleMachine_Engine_222 : Cond.methodLink "TaleMachine$Engine" 222 ⟨"TaleMachine$Engine", "divided", "(III)I"⟩ ∈ kUW := kUW_t4 54 (by decide +kernel) rfl
theorem mml_TaleMachine_Engine_123 : Cond.methodLink "TaleMachine$Engine" 123 ⟨"TaleMachine$Engine", "performTwo", "(III)V"⟩ ∈ kUW := kUW_t4 58 (by decide +kernel) rfl
theorem mml_TaleMachine_Engine_182 : Cond.methodLink "TaleMachine$Engine" 182 ⟨"TaleMachine$Engine", "isAnyOfTheOthers", "()Z"⟩ ∈ kUW := kUW_t4 62 (by decide +kernel) rfl
theorem mml_TaleMachine_Forest_32 : Cond.methodLink "TaleMachine$Forest" 32 ⟨"TaleMachine$Forest", "attributePlace", "(II)I"⟩ ∈ kUW := kUW_t4 70 (by decide +kernel) rfl
theorem mml_TaleMachine_Forest_46 : Cond.methodLink "TaleMachine$Forest" 46 ⟨"TaleMachine$Forest", "remove", "(I)V"⟩ ∈ kUW := kUW_t4 82 (by decide +kernel) rfl
theorem mml_TaleMachine_Engine_127 : Cond.methodLink "TaleMachine$Engine" 127 ⟨"TaleMachine$Engine", "answer", "()V"⟩ ∈ kUW := kUW_t4 83 (by decide +kernel) rfl
theorem mml_TaleMachine_Engine_130 : Cond.methodLink "TaleMachine$Engine" 130 ⟨"TaleMachine$Engine", "branch", "()V"⟩ ∈ kUW := kUW_t4 87 (by decide +kernel) rfl
theorem mml_TaleMachineLaw_32 : Cond.methodLink "TaleMachineLaw" 32 ⟨"TaleMachine", "state", "()I"⟩ ∈ kUW := kUW_t4 92 (by decide +kernel) rfl
theorem mml_TaleMachineLaw_36 : Cond.methodLink "TaleMachineLaw" 36 ⟨"TaleMachine", "line", "(II)I"⟩ ∈ kUW := kUW_t4 96 (by decide +kernel) rfl
theorem mml_TaleMachine_Reader_26 : Cond.methodLink "TaleMachine$Reader" 26 ⟨"TaleMachine$Reader", "layLine", "(I)V"⟩ ∈ kUW := kUW_t4 108 (by decide +kernel) rfl
theorem mml_TaleMachine_Reader_56 : Cond.methodLink "TaleMachine$Reader" 56 ⟨"java/lang/Math", "min", "(II)I"⟩ ∈ kUW := kUW_t4 113 (by decide +kernel) rfl
theorem mml_TaleMachine_Reader_45 : Cond.methodLink "TaleMachine$Reader" 45 ⟨"TaleMachine$Reader", "isSeparator", "(I)Z"⟩ ∈ kUW := kUW_t4 115 (by decide +kernel) rfl
theorem mml_TaleMachine_Reader_49 : Cond.methodLink "TaleMachine$Reader" 49 ⟨"TaleMachine$Reader", "tellWord", "(II)V"⟩ ∈ kUW := kUW_t4 119 (by decide +kernel) rfl
theorem mml_TaleMachine_Reader_68 : Cond.methodLink "TaleMachine$Reader" 68 ⟨"TaleMachine$Reader", "spell", "(II)V"⟩ ∈ kUW := kUW_t4 123 (by decide +kernel) rfl
theorem mml_TaleMachine_Reader_86 : Cond.methodLink "TaleMachine$Reader" 86 ⟨"java/lang/String", "indexOf", "(I)I"⟩ ∈ kUW := kUW_t4 128 (by decide +kernel) rfl
theorem mml_java_lang_String_633 : Cond.methodLink "java/lang/String" 633 ⟨"java/lang/String", "indexOf", "(II)I"⟩ ∈ kUW := kUW_t4 132 (by decide +kernel) rfl
theorem mml_java_lang_String_505 : Cond.methodLink "java/lang/String" 505 ⟨"java/lang/String", "length", "()I"⟩ ∈ kUW := kUW_t4 136 (by decide +kernel) rfl
theorem mml_java_lang_String_637 : Cond.methodLink "java/lang/String" 637 ⟨"java/lang/StringLatin1", "indexOf", "([BIII)I"⟩ ∈ kUW := kUW_t4 137 (by decide +kernel) rfl
theorem mml_java_lang_StringLatin1_88 : Cond.methodLink "java/lang/StringLatin1" 88 ⟨"java/lang/StringLatin1", "canEncode", "(I)Z"⟩ ∈ kUW := kUW_t4 140 (by decide +kernel) rfl
theorem mml_java_lang_StringLatin1_92 : Cond.methodLink "java/lang/StringLatin1" 92 ⟨"java/lang/Math", "max", "(II)I"⟩ ∈ kUW := kUW_t4 143 (by decide +kernel) rfl
theorem mml_java_lang_StringLatin1_38 : Cond.methodLink "java/lang/StringLatin1" 38 ⟨"java/lang/Math", "min", "(II)I"⟩ ∈ kUW := kUW_t4 144 (by decide +kernel) rfl
theorem mml_java_lang_StringLatin1_95 : Cond.methodLink "java/lang/StringLatin1" 95 ⟨"java/lang/StringLatin1", "indexOfChar", "([BIII)I"⟩ ∈ kUW := kUW_t4 145 (by decide +kernel) rfl
theorem mml_java_lang_String_640 : Cond.methodLink "java/lang/String" 640 ⟨"java/lang/StringUTF16", "indexOf", "([BIII)I"⟩ ∈ kUW := kUW_t4 148 (by decide +kernel) rfl
theorem mml_java_lang_StringUTF16_224 : Cond.methodLink "java/lang/StringUTF16" 224 ⟨"java/lang/Math", "max", "(II)I"⟩ ∈ kUW := kUW_t4 151 (by decide +kernel) rfl
theorem mml_java_lang_StringUTF16_183 : Cond.methodLink "java/lang/StringUTF16" 183 ⟨"java/lang/Math", "min", "(II)I"⟩ ∈ kUW := kUW_t4 152 (by decide +kernel) rfl
theorem mml_java_lang_StringUTF16_228 : Cond.methodLink "java/lang/StringUTF16" 228 ⟨"java/lang/StringUTF16", "indexOfChar", "([BIII)I"⟩ ∈ kUW := kUW_t4 154 (by decide +kernel) rfl
theorem mml_java_lang_StringUTF16_96 : Cond.methodLink "java/lang/StringUTF16" 96 ⟨"java/lang/StringUTF16", "checkBoundsBeginEnd", "(II[B)V"⟩ ∈ kUW := kUW_t4 157 (by decide +kernel) rfl
theorem mml_java_lang_StringUTF16_241 : Cond.methodLink "java/lang/StringUTF16" 241 ⟨"java/lang/String", "checkBoundsBeginEnd", "(III)V"⟩ ∈ kUW := kUW_t4 160 (by decide +kernel) rfl
theorem mml_java_lang_String_1062 : Cond.methodLink "java/lang/String" 1062 ⟨"jdk/internal/util/Preconditions", "checkFromToIndex", "(IIILjava/util/function/BiFunction;)I"⟩ ∈ kUW := kUW_t4 163 (by decide +kernel) rfl
theorem mml_java_lang_StringUTF16_244 : Cond.methodLink "java/lang/StringUTF16" 244 ⟨"java/lang/StringUTF16", "indexOfCharUnsafe", "([BIII)I"⟩ ∈ kUW := kUW_t4 166 (by decide +kernel) rfl
theorem mml_java_lang_StringUTF16_232 : Cond.methodLink "java/lang/StringUTF16" 232 ⟨"java/lang/StringUTF16", "indexOfSupplementary", "([BIII)I"⟩ ∈ kUW := kUW_t4 169 (by decide +kernel) rfl
theorem mml_java_lang_StringUTF16_164 : Cond.methodLink "java/lang/StringUTF16" 164 ⟨"java/lang/Character", "isValidCodePoint", "(I)Z"⟩ ∈ kUW := kUW_t4 172 (by decide +kernel) rfl
theorem mml_java_lang_StringUTF16_157 : Cond.methodLink "java/lang/StringUTF16" 157 ⟨"java/lang/Character", "highSurrogate", "(I)C"⟩ ∈ kUW := kUW_t4 175 (by decide +kernel) rfl
theorem mml_java_lang_StringUTF16_161 : Cond.methodLink "java/lang/StringUTF16" 161 ⟨"java/lang/Character", "lowSurrogate", "(I)C"⟩ ∈ kUW := kUW_t4 179 (by decide +kernel) rfl
theorem mml_TaleMachine_Reader_91 : Cond.methodLink "TaleMachine$Reader" 91 ⟨"TaleMachine$Reader", "addLetter", "(I)V"⟩ ∈ kUW := kUW_t4 183 (by decide +kernel) rfl
theorem mml_TaleMachine_Reader_71 : Cond.methodLink "TaleMachine$Reader" 71 ⟨"TaleMachine$Reader", "spelledWord", "(I)I"⟩ ∈ kUW := kUW_t4 187 (by decide +kernel) rfl
theorem mml_TaleMachine_Reader_75 : Cond.methodLink "TaleMachine$Reader" 75 ⟨"TaleMachine$Reader", "entryOf", "(II)I"⟩ ∈ kUW := kUW_t4 192 (by decide +kernel) rfl
theorem mml_TaleMachineLaw_41 : Cond.methodLink "TaleMachineLaw" 41 ⟨"TaleMachine", "start", "()I"⟩ ∈ kUW := kUW_t4 198 (by decide +kernel) rfl
theorem mml_TaleMachineLaw_45 : Cond.methodLink "TaleMachineLaw" 45 ⟨"TaleMachine", "out", "(I)I"⟩ ∈ kUW := kUW_t4 202 (by decide +kernel) rfl
theorem mml_TaleMachineLaw_49 : Cond.methodLink "TaleMachineLaw" 49 ⟨"TaleMachine", "count", "(I)I"⟩ ∈ kUW := kUW_t4 210 (by decide +kernel) rfl
theorem mml_TaleMachineLaw_53 : Cond.methodLink "TaleMachineLaw" 53 ⟨"TaleMachine", "peek", "(I)I"⟩ ∈ kUW := kUW_t4 215 (by decide +kernel) rfl
theorem mml_TaleMachineLaw_57 : Cond.methodLink "TaleMachineLaw" 57 ⟨"TaleMachine", "word", "(IZ)I"⟩ ∈ kUW := kUW_t4 219 (by decide +kernel) rfl
theorem mml_TaleMachineLaw_62 : Cond.methodLink "TaleMachineLaw" 62 ⟨"TaleMachine", "text", "(II)I"⟩ ∈ kUW := kUW_t4 224 (by decide +kernel) rfl
theorem mml_TaleMachineLaw_66 : Cond.methodLink "TaleMachineLaw" 66 ⟨"TaleMachine", "save", "(I)I"⟩ ∈ kUW := kUW_t4 230 (by decide +kernel) rfl
theorem mml_TaleMachine_Slot_22 : Cond.methodLink "TaleMachine$Slot" 22 ⟨"TaleMachine$Slot", "squeeze", "(LTaleMachine$Store;)V"⟩ ∈ kUW := kUW_t4 238 (by decide +kernel) rfl
theorem mml_TaleMachine_Slot_73 : Cond.methodLink "TaleMachine$Slot" 73 ⟨"TaleMachine$Slot", "changeAt", "(LTaleMachine$Store;I)I"⟩ ∈ kUW := kUW_t5 2 (by decide +kernel) rfl
theorem mml_TaleMachine_Slot_77 : Cond.methodLink "TaleMachine$Slot" 77 ⟨"TaleMachine$Slot", "add", "(I)V"⟩ ∈ kUW := kUW_t5 5 (by decide +kernel) rfl
theorem mml_TaleMachine_Frames_38 : Cond.methodLink "TaleMachine$Frames" 38 ⟨"java/lang/System", "arraycopy", "(Ljava/lang/Object;ILjava/lang/Object;II)V"⟩ ∈ kUW := kUW_t5 13 (by decide +kernel) rfl
theorem mml_TaleMachineLaw_70 : Cond.methodLink "TaleMachineLaw" 70 ⟨"TaleMachine", "restore", "(I)I"⟩ ∈ kUW := kUW_t5 14 (by decide +kernel) rfl
theorem mml_TaleMachine_Slot_53 : Cond.methodLink "TaleMachine$Slot" 53 ⟨"TaleMachine$Slot", "expand", "(LTaleMachine$Store;)V"⟩ ∈ kUW := kUW_t5 22 (by decide +kernel) rfl
theorem mml_TaleMachineLaw_74 : Cond.methodLink "TaleMachineLaw" 74 ⟨"TaleMachine", "squeezed", "(II)I"⟩ ∈ kUW := kUW_t5 27 (by decide +kernel) rfl
theorem mml_TaleMachineLaw_12 : Cond.methodLink "TaleMachineLaw" 12 ⟨"TaleMachineModel", "<init>", "()V"⟩ ∈ kUW := kUW_t5 33 (by decide +kernel) rfl
theorem mml_TaleMachineModel_1 : Cond.methodLink "TaleMachineModel" 1 ⟨"java/lang/Object", "<init>", "()V"⟩ ∈ kUW := kUW_t5 36 (by decide +kernel) rfl
theorem mml_TaleMachineLaw_17 : Cond.methodLink "TaleMachineLaw" 17 ⟨"TaleMachineModel", "feed", "(IIIIIIII)I"⟩ ∈ kUW := kUW_t5 186 (by decide +kernel) rfl
theorem mml_TaleMachineModel_90 : Cond.methodLink "TaleMachineModel" 90 ⟨"TaleMachineModel", "four", "(I)V"⟩ ∈ kUW := kUW_t5 190 (by decide +kernel) rfl
theorem mml_TaleMachineLaw_22 : Cond.methodLink "TaleMachineLaw" 22 ⟨"TaleMachineModel", "end", "(I)I"⟩ ∈ kUW := kUW_t5 194 (by decide +kernel) rfl
theorem mml_TaleMachineModel_94 : Cond.methodLink "TaleMachineModel" 94 ⟨"TaleMachineModel", "in", "(JJJ)Z"⟩ ∈ kUW := kUW_t5 198 (by decide +kernel) rfl
theorem mml_TaleMachineLaw_27 : Cond.methodLink "TaleMachineLaw" 27 ⟨"TaleMachineModel", "load", "()I"⟩ ∈ kUW := kUW_t5 201 (by decide +kernel) rfl
theorem mml_TaleMachineModel_105 : Cond.methodLink "TaleMachineModel" 105 ⟨"TaleMachineModel", "faultOf", "(I)I"⟩ ∈ kUW := kUW_t5 205 (by decide +kernel) rfl
theorem mml_TaleMachineModel_98 : Cond.methodLink "TaleMachineModel" 98 ⟨"TaleMachineModel", "tapeWord", "(I)I"⟩ ∈ kUW := kUW_t5 209 (by decide +kernel) rfl
theorem mml_TaleMachineModel_133 : Cond.methodLink "TaleMachineModel" 133 ⟨"TaleMachineModel", "begins", "()V"⟩ ∈ kUW := kUW_t5 215 (by decide +kernel) rfl
theorem mml_TaleMachineModel_145 : Cond.methodLink "TaleMachineModel" 145 ⟨"TaleMachineModel", "again", "()V"⟩ ∈ kUW := kUW_t5 219 (by decide +kernel) rfl
theorem mml_TaleMachineLaw_44 : Cond.methodLink "TaleMachineLaw" 44 ⟨"TaleMachineModel", "start", "()I"⟩ ∈ kUW := kUW_t5 223 (by decide +kernel) rfl
theorem mml_TaleMachineLaw_31 : Cond.methodLink "TaleMachineLaw" 31 ⟨"TaleMachineModel", "run", "(I)I"⟩ ∈ kUW := kUW_t5 227 (by decide +kernel) rfl
theorem mml_TaleMachineModel_338 : Cond.methodLink "TaleMachineModel" 338 ⟨"TaleMachineModel", "order", "()V"⟩ ∈ kUW := kUW_t5 232 (by decide +kernel) rfl
theorem mml_TaleMachineModel_194 : Cond.methodLink "TaleMachineModel" 194 ⟨"TaleMachineModel", "next", "()I"⟩ ∈ kUW := kUW_t5 236 (by decide +kernel) rfl
theorem mml_TaleMachineModel_163 : Cond.methodLink "TaleMachineModel" 163 ⟨"TaleMachineModel", "byteAt", "(I)I"⟩ ∈ kUW := kUW_t6 0 (by decide +kernel) rfl
theorem mml_TaleMachineModel_160 : Cond.methodLink "TaleMachineModel" 160 ⟨"TaleMachineModel", "halts", "(I)V"⟩ ∈ kUW := kUW_t6 4 (by decide +kernel) rfl
theorem mml_TaleMachineModel_264 : Cond.methodLink "TaleMachineModel" 264 ⟨"TaleMachineModel", "operand", "(I)V"⟩ ∈ kUW := kUW_t6 8 (by decide +kernel) rfl
theorem mml_TaleMachineModel_188 : Cond.methodLink "TaleMachineModel" 188 ⟨"TaleMachineModel", "get", "(I)I"⟩ ∈ kUW := kUW_t6 12 (by decide +kernel) rfl
theorem mml_TaleMachineModel_174 : Cond.methodLink "TaleMachineModel" 174 ⟨"TaleMachineModel", "pop", "()I"⟩ ∈ kUW := kUW_t6 16 (by decide +kernel) rfl
theorem mml_TaleMachineModel_178 : Cond.methodLink "TaleMachineModel" 178 ⟨"TaleMachineModel", "wordAt", "(I)I"⟩ ∈ kUW := kUW_t6 20 (by decide +kernel) rfl
theorem mml_TaleMachineModel_266 : Cond.methodLink "TaleMachineModel" 266 ⟨"TaleMachineModel", "two", "(I)V"⟩ ∈ kUW := kUW_t6 24 (by decide +kernel) rfl
theorem mml_TaleMachineModel_280 : Cond.methodLink "TaleMachineModel" 280 ⟨"TaleMachineModel", "has", "(I)Z"⟩ ∈ kUW := kUW_t6 29 (by decide +kernel) rfl
theorem mml_TaleMachineModel_283 : Cond.methodLink "TaleMachineModel" 283 ⟨"TaleMachineModel", "isOneOf", "(I)Z"⟩ ∈ kUW := kUW_t6 33 (by decide +kernel) rfl
theorem mml_TaleMachineModel_227 : Cond.methodLink "TaleMachineModel" 227 ⟨"TaleMachineModel", "branches", "(Z)V"⟩ ∈ kUW := kUW_t6 37 (by decide +kernel) rfl
theorem mml_TaleMachineModel_200 : Cond.methodLink "TaleMachineModel" 200 ⟨"TaleMachineModel", "goes", "(I)V"⟩ ∈ kUW := kUW_t6 41 (by decide +kernel) rfl
theorem mml_TaleMachineModel_197 : Cond.methodLink "TaleMachineModel" 197 ⟨"TaleMachineModel", "returns", "(I)V"⟩ ∈ kUW := kUW_t6 45 (by decide +kernel) rfl
theorem mml_TaleMachineModel_191 : Cond.methodLink "TaleMachineModel" 191 ⟨"TaleMachineModel", "set", "(II)V"⟩ ∈ kUW := kUW_t6 49 (by decide +kernel) rfl
theorem mml_TaleMachineModel_181 : Cond.methodLink "TaleMachineModel" 181 ⟨"TaleMachineModel", "push", "(I)V"⟩ ∈ kUW := kUW_t6 53 (by decide +kernel) rfl
theorem mml_TaleMachineModel_184 : Cond.methodLink "TaleMachineModel" 184 ⟨"TaleMachineModel", "putWord", "(II)V"⟩ ∈ kUW := kUW_t6 57 (by decide +kernel) rfl
theorem mml_TaleMachineModel_166 : Cond.methodLink "TaleMachineModel" 166 ⟨"TaleMachineModel", "mayWrite", "(I)Z"⟩ ∈ kUW := kUW_t6 61 (by decide +kernel) rfl
theorem mml_TaleMachineModel_286 : Cond.methodLink "TaleMachineModel" 286 ⟨"TaleMachineModel", "signed", "(I)I"⟩ ∈ kUW := kUW_t6 65 (by decide +kernel) rfl
theorem mml_TaleMachineModel_289 : Cond.methodLink "TaleMachineModel" 289 ⟨"TaleMachineModel", "getNamed", "(I)I"⟩ ∈ kUW := kUW_t6 69 (by decide +kernel) rfl
theorem mml_TaleMachineModel_292 : Cond.methodLink "TaleMachineModel" 292 ⟨"TaleMachineModel", "setNamed", "(II)V"⟩ ∈ kUW := kUW_t6 73 (by decide +kernel) rfl
theorem mml_TaleMachineModel_211 : Cond.methodLink "TaleMachineModel" 211 ⟨"TaleMachineModel", "kin", "(II)I"⟩ ∈ kUW := kUW_t6 77 (by decide +kernel) rfl
theorem mml_TaleMachineModel_205 : Cond.methodLink "TaleMachineModel" 205 ⟨"TaleMachineModel", "object", "(I)I"⟩ ∈ kUW := kUW_t6 81 (by decide +kernel) rfl
theorem mml_TaleMachineModel_237 : Cond.methodLink "TaleMachineModel" 237 ⟨"TaleMachineModel", "answers", "(I)V"⟩ ∈ kUW := kUW_t6 86 (by decide +kernel) rfl
theorem mml_TaleMachineModel_295 : Cond.methodLink "TaleMachineModel" 295 ⟨"TaleMachineModel", "hasAttribute", "(II)V"⟩ ∈ kUW := kUW_t6 90 (by decide +kernel) rfl
theorem mml_TaleMachineModel_224 : Cond.methodLink "TaleMachineModel" 224 ⟨"TaleMachineModel", "isAttribute", "(I)Z"⟩ ∈ kUW := kUW_t6 94 (by decide +kernel) rfl
theorem mml_TaleMachineModel_298 : Cond.methodLink "TaleMachineModel" 298 ⟨"TaleMachineModel", "attribute", "(IIZ)V"⟩ ∈ kUW := kUW_t6 99 (by decide +kernel) rfl
theorem mml_TaleMachineModel_208 : Cond.methodLink "TaleMachineModel" 208 ⟨"TaleMachineModel", "putByte", "(II)V"⟩ ∈ kUW := kUW_t6 103 (by decide +kernel) rfl
theorem mml_TaleMachineModel_302 : Cond.methodLink "TaleMachineModel" 302 ⟨"TaleMachineModel", "inserts", "(II)V"⟩ ∈ kUW := kUW_t6 107 (by decide +kernel) rfl
theorem mml_TaleMachineModel_219 : Cond.methodLink "TaleMachineModel" 219 ⟨"TaleMachineModel", "removes", "(I)V"⟩ ∈ kUW := kUW_t6 111 (by decide +kernel) rfl
theorem mml_TaleMachineModel_215 : Cond.methodLink "TaleMachineModel" 215 ⟨"TaleMachineModel", "setKin", "(III)V"⟩ ∈ kUW := kUW_t6 115 (by decide +kernel) rfl
theorem mml_TaleMachineModel_305 : Cond.methodLink "TaleMachineModel" 305 ⟨"TaleMachineModel", "getProperty", "(II)V"⟩ ∈ kUW := kUW_t6 119 (by decide +kernel) rfl
theorem mml_TaleMachineModel_234 : Cond.methodLink "TaleMachineModel" 234 ⟨"TaleMachineModel", "property", "(II)I"⟩ ∈ kUW := kUW_t6 123 (by decide +kernel) rfl
theorem mml_TaleMachineModel_231 : Cond.methodLink "TaleMachineModel" 231 ⟨"TaleMachineModel", "properties", "(I)I"⟩ ∈ kUW := kUW_t6 127 (by decide +kernel) rfl
theorem mml_TaleMachineModel_308 : Cond.methodLink "TaleMachineModel" 308 ⟨"TaleMachineModel", "nextProperty", "(II)V"⟩ ∈ kUW := kUW_t6 131 (by decide +kernel) rfl
theorem mml_TaleMachineModel_311 : Cond.methodLink "TaleMachineModel" 311 ⟨"TaleMachineModel", "works", "(III)V"⟩ ∈ kUW := kUW_t6 135 (by decide +kernel) rfl
theorem mml_TaleMachineModel_269 : Cond.methodLink "TaleMachineModel" 269 ⟨"TaleMachineModel", "var", "(I)V"⟩ ∈ kUW := kUW_t6 139 (by decide +kernel) rfl
theorem mml_TaleMachineModel_317 : Cond.methodLink "TaleMachineModel" 317 ⟨"TaleMachineModel", "calls", "(I)V"⟩ ∈ kUW := kUW_t6 143 (by decide +kernel) rfl
theorem mml_TaleMachineModel_320 : Cond.methodLink "TaleMachineModel" 320 ⟨"TaleMachineModel", "putProperty", "(III)V"⟩ ∈ kUW := kUW_t6 147 (by decide +kernel) rfl
theorem mml_TaleMachineModel_253 : Cond.methodLink "TaleMachineModel" 253 ⟨"TaleMachineModel", "tells", "(I)V"⟩ ∈ kUW := kUW_t6 151 (by decide +kernel) rfl
theorem mml_TaleMachineModel_329 : Cond.methodLink "TaleMachineModel" 329 ⟨"TaleMachineModel", "tellsNumber", "(I)V"⟩ ∈ kUW := kUW_t6 157 (by decide +kernel) rfl
theorem mml_TaleMachineModel_332 : Cond.methodLink "TaleMachineModel" 332 ⟨"TaleMachineModel", "draws", "(I)V"⟩ ∈ kUW := kUW_t6 161 (by decide +kernel) rfl
theorem mml_TaleMachineModel_272 : Cond.methodLink "TaleMachineModel" 272 ⟨"TaleMachineModel", "none", "(I)V"⟩ ∈ kUW := kUW_t6 166 (by decide +kernel) rfl
theorem mml_TaleMachineModel_314 : Cond.methodLink "TaleMachineModel" 314 ⟨"TaleMachineModel", "tellsText", "(I)I"⟩ ∈ kUW := kUW_t6 170 (by decide +kernel) rfl
theorem mml_TaleMachineModel_256 : Cond.methodLink "TaleMachineModel" 256 ⟨"TaleMachineModel", "tellsOf", "(I)V"⟩ ∈ kUW := kUW_t6 174 (by decide +kernel) rfl
theorem mml_TaleMachineModel_275 : Cond.methodLink "TaleMachineModel" 275 ⟨"TaleMachineModel", "one", "(II)V"⟩ ∈ kUW := kUW_t6 179 (by decide +kernel) rfl
theorem mml_TaleMachineLaw_35 : Cond.methodLink "TaleMachineLaw" 35 ⟨"TaleMachineModel", "state", "()I"⟩ ∈ kUW := kUW_t6 183 (by decide +kernel) rfl
theorem mml_TaleMachineLaw_40 : Cond.methodLink "TaleMachineLaw" 40 ⟨"TaleMachineModel", "line", "(II)I"⟩ ∈ kUW := kUW_t6 187 (by decide +kernel) rfl
theorem mml_TaleMachineModel_358 : Cond.methodLink "TaleMachineModel" 358 ⟨"TaleMachineModel", "isSeparator", "(I)Z"⟩ ∈ kUW := kUW_t6 193 (by decide +kernel) rfl
theorem mml_TaleMachineModel_361 : Cond.methodLink "TaleMachineModel" 361 ⟨"TaleMachineModel", "looked", "(II)I"⟩ ∈ kUW := kUW_t6 197 (by decide +kernel) rfl
theorem mml_TaleMachineModel_351 : Cond.methodLink "TaleMachineModel" 351 ⟨"TaleMachineModel", "letters", "(I)V"⟩ ∈ kUW := kUW_t6 201 (by decide +kernel) rfl
theorem mml_TaleMachineModel_348 : Cond.methodLink "TaleMachineModel" 348 ⟨"TaleMachineModel", "letter", "(I)V"⟩ ∈ kUW := kUW_t6 207 (by decide +kernel) rfl
theorem mml_TaleMachineLaw_48 : Cond.methodLink "TaleMachineLaw" 48 ⟨"TaleMachineModel", "out", "(I)I"⟩ ∈ kUW := kUW_t6 212 (by decide +kernel) rfl
theorem mml_TaleMachineLaw_52 : Cond.methodLink "TaleMachineLaw" 52 ⟨"TaleMachineModel", "count", "(I)I"⟩ ∈ kUW := kUW_t6 216 (by decide +kernel) rfl
theorem mml_TaleMachineLaw_56 : Cond.methodLink "TaleMachineLaw" 56 ⟨"TaleMachineModel", "peek", "(I)I"⟩ ∈ kUW := kUW_t6 221 (by decide +kernel) rfl
theorem mml_TaleMachineLaw_61 : Cond.methodLink "TaleMachineLaw" 61 ⟨"TaleMachineModel", "word", "(IZ)I"⟩ ∈ kUW := kUW_t6 225 (by decide +kernel) rfl
theorem mml_TaleMachineLaw_65 : Cond.methodLink "TaleMachineLaw" 65 ⟨"TaleMachineModel", "text", "(II)I"⟩ ∈ kUW := kUW_t6 229 (by decide +kernel) rfl
theorem mml_TaleMachineLaw_69 : Cond.methodLink "TaleMachineLaw" 69 ⟨"TaleMachineModel", "save", "(I)I"⟩ ∈ kUW := kUW_t6 233 (by decide +kernel) rfl
theorem mml_TaleMachineModel_366 : Cond.methodLink "TaleMachineModel" 366 ⟨"TaleMachineModel", "squeeze", "(I)V"⟩ ∈ kUW := kUW_t6 237 (by decide +kernel) rfl
theorem mml_TaleMachineLaw_73 : Cond.methodLink "TaleMachineLaw" 73 ⟨"TaleMachineModel", "restore", "(I)I"⟩ ∈ kUW := kUW_t7 1 (by decide +kernel) rfl
theorem mml_TaleMachineLaw_77 : Cond.methodLink "TaleMachineLaw" 77 ⟨"TaleMachineModel", "squeezed", "(II)I"⟩ ∈ kUW := kUW_t7 5 (by decide +kernel) rfl
theorem mco_TaleMachine_Store_69 : Cond.constant "TaleMachine$Store" 69 65535 ∈ kUW := kUW_t2 179 (by decide +kernel) rfl
theorem mco_TaleMachine_Engine_119 : Cond.constant "TaleMachine$Engine" 119 65535 ∈ kUW := kUW_t2 217 (by decide +kernel) rfl
theorem mco_TaleMachine_Variables_55 : Cond.constant "TaleMachine$Variables" 55 65535 ∈ kUW := kUW_t3 46 (by decide +kernel) rfl
theorem mco_TaleMachine_168 : Cond.constant "TaleMachine" 168 65536 ∈ kUW := kUW_t3 104 (by decide +kernel) rfl
theorem mco_TaleMachine_Engine_288 : Cond.constant "TaleMachine$Engine" 288 1103515245 ∈ kUW := kUW_t3 117 (by decide +kernel) rfl
theorem mco_TaleMachine_Teller_48 : Cond.constant "TaleMachine$Teller" 48 32768 ∈ kUW := kUW_t3 221 (by decide +kernel) rfl
theorem mco_TaleMachine_Teller_58 : Cond.constant "TaleMachine$Teller" 58 65535 ∈ kUW := kUW_t3 230 (by decide +kernel) rfl
theorem mco_java_lang_StringUTF16_227 : Cond.constant "java/lang/StringUTF16" 227 65536 ∈ kUW := kUW_t4 153 (by decide +kernel) rfl
theorem mco_java_lang_Character_110 : Cond.constant "java/lang/Character" 110 55232 ∈ kUW := kUW_t4 178 (by decide +kernel) rfl
theorem mco_java_lang_Character_76 : Cond.constant "java/lang/Character" 76 56320 ∈ kUW := kUW_t4 182 (by decide +kernel) rfl
theorem mco_TaleMachine_Reader_74 : Cond.constant "TaleMachine$Reader" 74 32768 ∈ kUW := kUW_t4 191 (by decide +kernel) rfl
theorem mco_TaleMachineModel_104 : Cond.constant "TaleMachineModel" 104 65535 ∈ kUW := kUW_t5 214 (by decide +kernel) rfl
theorem mco_TaleMachineModel_173 : Cond.constant "TaleMachineModel" 173 65536 ∈ kUW := kUW_t6 68 (by decide +kernel) rfl
theorem mco_TaleMachineModel_335 : Cond.constant "TaleMachineModel" 335 1103515245 ∈ kUW := kUW_t6 165 (by decide +kernel) rfl
theorem mco_TaleMachineModel_353 : Cond.constant "TaleMachineModel" 353 32768 ∈ kUW := kUW_t6 211 (by decide +kernel) rfl
theorem mcl_TaleMachineModel_102 : Cond.constantLong "TaleMachineModel" 102 64 ∈ kUW := kUW_t5 213 (by decide +kernel) rfl
theorem mcl_TaleMachineModel_336 : Cond.constantLong "TaleMachineModel" 336 300 ∈ kUW := kUW_t5 231 (by decide +kernel) rfl
theorem mcl_TaleMachineModel_278 : Cond.constantLong "TaleMachineModel" 278 24 ∈ kUW := kUW_t6 28 (by decide +kernel) rfl
theorem mcl_TaleMachineModel_203 : Cond.constantLong "TaleMachineModel" 203 255 ∈ kUW := kUW_t6 85 (by decide +kernel) rfl
theorem mcl_TaleMachineModel_222 : Cond.constantLong "TaleMachineModel" 222 31 ∈ kUW := kUW_t6 98 (by decide +kernel) rfl
theorem mcl_TaleMachineModel_240 : Cond.constantLong "TaleMachineModel" 240 32 ∈ kUW := kUW_t6 155 (by decide +kernel) rfl
theorem mcl_TaleMachineModel_242 : Cond.constantLong "TaleMachineModel" 242 126 ∈ kUW := kUW_t6 156 (by decide +kernel) rfl
theorem mcl_TaleMachineModel_259 : Cond.constantLong "TaleMachineModel" 259 3 ∈ kUW := kUW_t6 178 (by decide +kernel) rfl
theorem mcl_TaleMachineModel_354 : Cond.constantLong "TaleMachineModel" 354 65 ∈ kUW := kUW_t6 191 (by decide +kernel) rfl
theorem mcl_TaleMachineModel_356 : Cond.constantLong "TaleMachineModel" 356 90 ∈ kUW := kUW_t6 192 (by decide +kernel) rfl
theorem mcl_TaleMachineModel_344 : Cond.constantLong "TaleMachineModel" 344 97 ∈ kUW := kUW_t6 205 (by decide +kernel) rfl
theorem mcl_TaleMachineModel_346 : Cond.constantLong "TaleMachineModel" 346 122 ∈ kUW := kUW_t6 206 (by decide +kernel) rfl
theorem mcl_TaleMachineModel_364 : Cond.constantLong "TaleMachineModel" 364 9 ∈ kUW := kUW_t6 220 (by decide +kernel) rfl
theorem mmn_TaleMachine_15 : Cond.methodLinkNest "TaleMachine" 15 ⟨"TaleMachine$Store", "<init>", "()V"⟩ "TaleMachine" ∈ kNest := List.mem_of_getElem? (i := 0) (by decide +kernel)
theorem mfn_TaleMachine_Slot_61 : Cond.fieldLinkNest "TaleMachine$Slot" 61 "TaleMachine$Store" "bytes" "[I" "TaleMachine" ∈ kNest := List.mem_of_getElem? (i := 1) (by decide +kernel)
theorem mfn_TaleMachine_141 : Cond.fieldLinkNest "TaleMachine" 141 "TaleMachine$Store" "bytes" "[I" "TaleMachine" ∈ kNest := List.mem_of_getElem? (i := 2) (by decide +kernel)
theorem mfn_TaleMachine_Slot_64 : Cond.fieldLinkNest "TaleMachine$Slot" 64 "TaleMachine$Store" "loaded" "[I" "TaleMachine" ∈ kNest := List.mem_of_getElem? (i := 3) (by decide +kernel)
theorem mfn_TaleMachine_135 : Cond.fieldLinkNest "TaleMachine" 135 "TaleMachine$Store" "size" "I" "TaleMachine" ∈ kNest := List.mem_of_getElem? (i := 4) (by decide +kernel)
theorem mfn_TaleMachine_Slot_70 : Cond.fieldLinkNest "TaleMachine$Slot" 70 "TaleMachine$Store" "mark" "I" "TaleMachine" ∈ kNest := List.mem_of_getElem? (i := 5) (by decide +kernel)
theorem mfn_TaleMachine_138 : Cond.fieldLinkNest "TaleMachine" 138 "TaleMachine$Store" "mark" "I" "TaleMachine" ∈ kNest := List.mem_of_getElem? (i := 6) (by decide +kernel)
theorem mfn_TaleMachine_Engine_84 : Cond.fieldLinkNest "TaleMachine$Engine" 84 "TaleMachine$Store" "firstPc" "I" "TaleMachine" ∈ kNest := List.mem_of_getElem? (i := 7) (by decide +kernel)
theorem mfn_TaleMachine_Reader_62 : Cond.fieldLinkNest "TaleMachine$Reader" 62 "TaleMachine$Store" "dictionary" "I" "TaleMachine" ∈ kNest := List.mem_of_getElem? (i := 8) (by decide +kernel)
theorem mfn_TaleMachine_Forest_21 : Cond.fieldLinkNest "TaleMachine$Forest" 21 "TaleMachine$Store" "objects" "I" "TaleMachine" ∈ kNest := List.mem_of_getElem? (i := 9) (by decide +kernel)
theorem mfn_TaleMachine_Variables_59 : Cond.fieldLinkNest "TaleMachine$Variables" 59 "TaleMachine$Store" "globals" "I" "TaleMachine" ∈ kNest := List.mem_of_getElem? (i := 10) (by decide +kernel)
theorem mfn_TaleMachine_Teller_113 : Cond.fieldLinkNest "TaleMachine$Teller" 113 "TaleMachine$Store" "abbreviations" "I" "TaleMachine" ∈ kNest := List.mem_of_getElem? (i := 11) (by decide +kernel)
theorem mfn_TaleMachine_Engine_67 : Cond.fieldLinkNest "TaleMachine$Engine" 67 "TaleMachine$Store" "halt" "I" "TaleMachine" ∈ kNest := List.mem_of_getElem? (i := 12) (by decide +kernel)
theorem mfn_TaleMachine_Teller_34 : Cond.fieldLinkNest "TaleMachine$Teller" 34 "TaleMachine$Store" "halt" "I" "TaleMachine" ∈ kNest := List.mem_of_getElem? (i := 13) (by decide +kernel)
theorem mfn_TaleMachine_Variables_41 : Cond.fieldLinkNest "TaleMachine$Variables" 41 "TaleMachine$Store" "halt" "I" "TaleMachine" ∈ kNest := List.mem_of_getElem? (i := 14) (by decide +kernel)
theorem mfn_TaleMachine_Slot_56 : Cond.fieldLinkNest "TaleMachine$Slot" 56 "TaleMachine$Store" "halt" "I" "TaleMachine" ∈ kNest := List.mem_of_getElem? (i := 15) (by decide +kernel)
theorem mfn_TaleMachine_Reader_65 : Cond.fieldLinkNest "TaleMachine$Reader" 65 "TaleMachine$Store" "halt" "I" "TaleMachine" ∈ kNest := List.mem_of_getElem? (i := 16) (by decide +kernel)
theorem mfn_TaleMachine_109 : Cond.fieldLinkNest "TaleMachine" 109 "TaleMachine$Store" "halt" "I" "TaleMachine" ∈ kNest := List.mem_of_getElem? (i := 17) (by decide +kernel)
theorem mfn_TaleMachine_Forest_43 : Cond.fieldLinkNest "TaleMachine$Forest" 43 "TaleMachine$Store" "halt" "I" "TaleMachine" ∈ kNest := List.mem_of_getElem? (i := 18) (by decide +kernel)
theorem mmn_TaleMachine_22 : Cond.methodLinkNest "TaleMachine" 22 ⟨"TaleMachine$Frames", "<init>", "()V"⟩ "TaleMachine" ∈ kNest := List.mem_of_getElem? (i := 19) (by decide +kernel)
theorem mfn_TaleMachine_Variables_65 : Cond.fieldLinkNest "TaleMachine$Variables" 65 "TaleMachine$Frames" "words" "[I" "TaleMachine" ∈ kNest := List.mem_of_getElem? (i := 20) (by decide +kernel)
theorem mfn_TaleMachine_147 : Cond.fieldLinkNest "TaleMachine" 147 "TaleMachine$Frames" "words" "[I" "TaleMachine" ∈ kNest := List.mem_of_getElem? (i := 21) (by decide +kernel)
theorem mfn_TaleMachine_Engine_173 : Cond.fieldLinkNest "TaleMachine$Engine" 173 "TaleMachine$Frames" "answers" "[I" "TaleMachine" ∈ kNest := List.mem_of_getElem? (i := 22) (by decide +kernel)
theorem mfn_TaleMachine_Engine_176 : Cond.fieldLinkNest "TaleMachine$Engine" 176 "TaleMachine$Frames" "backs" "[I" "TaleMachine" ∈ kNest := List.mem_of_getElem? (i := 23) (by decide +kernel)
theorem mfn_TaleMachine_Variables_62 : Cond.fieldLinkNest "TaleMachine$Variables" 62 "TaleMachine$Frames" "top" "I" "TaleMachine" ∈ kNest := List.mem_of_getElem? (i := 24) (by decide +kernel)
theorem mfn_TaleMachine_122 : Cond.fieldLinkNest "TaleMachine" 122 "TaleMachine$Frames" "top" "I" "TaleMachine" ∈ kNest := List.mem_of_getElem? (i := 25) (by decide +kernel)
theorem mfn_TaleMachine_125 : Cond.fieldLinkNest "TaleMachine" 125 "TaleMachine$Frames" "depth" "I" "TaleMachine" ∈ kNest := List.mem_of_getElem? (i := 26) (by decide +kernel)
theorem mfn_TaleMachine_Engine_170 : Cond.fieldLinkNest "TaleMachine$Engine" 170 "TaleMachine$Frames" "depth" "I" "TaleMachine" ∈ kNest := List.mem_of_getElem? (i := 27) (by decide +kernel)
theorem mmn_TaleMachine_29 : Cond.methodLinkNest "TaleMachine" 29 ⟨"TaleMachine$Codes", "<init>", "(I)V"⟩ "TaleMachine" ∈ kNest := List.mem_of_getElem? (i := 28) (by decide +kernel)
theorem mfn_TaleMachine_116 : Cond.fieldLinkNest "TaleMachine" 116 "TaleMachine$Codes" "total" "I" "TaleMachine" ∈ kNest := List.mem_of_getElem? (i := 29) (by decide +kernel)
theorem mmn_TaleMachine_41 : Cond.methodLinkNest "TaleMachine" 41 ⟨"TaleMachine$Teller", "<init>", "(LTaleMachine$Store;)V"⟩ "TaleMachine" ∈ kNest := List.mem_of_getElem? (i := 30) (by decide +kernel)
theorem mmn_TaleMachine_50 : Cond.methodLinkNest "TaleMachine" 50 ⟨"TaleMachine$Reader", "<init>", "(LTaleMachine$Store;)V"⟩ "TaleMachine" ∈ kNest := List.mem_of_getElem? (i := 31) (by decide +kernel)
theorem mmn_TaleMachine_57 : Cond.methodLinkNest "TaleMachine" 57 ⟨"TaleMachine$Engine", "<init>", "(LTaleMachine$Store;LTaleMachine$Frames;LTaleMachine$Codes;LTaleMachine$Teller;)V"⟩ "TaleMachine" ∈ kNest := List.mem_of_getElem? (i := 32) (by decide +kernel)
theorem mmn_TaleMachine_Engine_29 : Cond.methodLinkNest "TaleMachine$Engine" 29 ⟨"TaleMachine$Variables", "<init>", "(LTaleMachine$Store;LTaleMachine$Frames;)V"⟩ "TaleMachine" ∈ kNest := List.mem_of_getElem? (i := 33) (by decide +kernel)
theorem mmn_TaleMachine_Engine_38 : Cond.methodLinkNest "TaleMachine$Engine" 38 ⟨"TaleMachine$Forest", "<init>", "(LTaleMachine$Store;)V"⟩ "TaleMachine" ∈ kNest := List.mem_of_getElem? (i := 34) (by decide +kernel)
theorem mfn_TaleMachine_Slot_30 : Cond.fieldLinkNest "TaleMachine$Slot" 30 "TaleMachine$Engine" "pc" "I" "TaleMachine" ∈ kNest := List.mem_of_getElem? (i := 35) (by decide +kernel)
theorem mfn_TaleMachine_128 : Cond.fieldLinkNest "TaleMachine" 128 "TaleMachine$Engine" "pc" "I" "TaleMachine" ∈ kNest := List.mem_of_getElem? (i := 36) (by decide +kernel)
theorem mfn_TaleMachine_Slot_37 : Cond.fieldLinkNest "TaleMachine$Slot" 37 "TaleMachine$Engine" "status" "I" "TaleMachine" ∈ kNest := List.mem_of_getElem? (i := 37) (by decide +kernel)
theorem mfn_TaleMachine_86 : Cond.fieldLinkNest "TaleMachine" 86 "TaleMachine$Engine" "status" "I" "TaleMachine" ∈ kNest := List.mem_of_getElem? (i := 38) (by decide +kernel)
theorem mfn_TaleMachine_119 : Cond.fieldLinkNest "TaleMachine" 119 "TaleMachine$Engine" "begun" "I" "TaleMachine" ∈ kNest := List.mem_of_getElem? (i := 39) (by decide +kernel)
theorem mfn_TaleMachine_Slot_41 : Cond.fieldLinkNest "TaleMachine$Slot" 41 "TaleMachine$Engine" "lineAt" "I" "TaleMachine" ∈ kNest := List.mem_of_getElem? (i := 40) (by decide +kernel)
theorem mfn_TaleMachine_99 : Cond.fieldLinkNest "TaleMachine" 99 "TaleMachine$Engine" "lineAt" "I" "TaleMachine" ∈ kNest := List.mem_of_getElem? (i := 41) (by decide +kernel)
theorem mfn_TaleMachine_Slot_45 : Cond.fieldLinkNest "TaleMachine$Slot" 45 "TaleMachine$Engine" "wordsAt" "I" "TaleMachine" ∈ kNest := List.mem_of_getElem? (i := 42) (by decide +kernel)
theorem mfn_TaleMachine_102 : Cond.fieldLinkNest "TaleMachine" 102 "TaleMachine$Engine" "wordsAt" "I" "TaleMachine" ∈ kNest := List.mem_of_getElem? (i := 43) (by decide +kernel)
theorem mmn_TaleMachine_70 : Cond.methodLinkNest "TaleMachine" 70 ⟨"TaleMachine$Slot", "<init>", "()V"⟩ "TaleMachine" ∈ kNest := List.mem_of_getElem? (i := 44) (by decide +kernel)
theorem mmn_TaleMachine_Slot_17 : Cond.methodLinkNest "TaleMachine$Slot" 17 ⟨"TaleMachine$Frames", "<init>", "()V"⟩ "TaleMachine" ∈ kNest := List.mem_of_getElem? (i := 45) (by decide +kernel)
theorem mfn_TaleMachine_165 : Cond.fieldLinkNest "TaleMachine" 165 "TaleMachine$Slot" "row" "[I" "TaleMachine" ∈ kNest := List.mem_of_getElem? (i := 46) (by decide +kernel)
theorem mfn_TaleMachine_82 : Cond.fieldLinkNest "TaleMachine" 82 "TaleMachine$Slot" "used" "Z" "TaleMachine" ∈ kNest := List.mem_of_getElem? (i := 47) (by decide +kernel)
theorem mfn_TaleMachine_161 : Cond.fieldLinkNest "TaleMachine" 161 "TaleMachine$Slot" "size" "I" "TaleMachine" ∈ kNest := List.mem_of_getElem? (i := 48) (by decide +kernel)
theorem mmn_TaleMachine_78 : Cond.methodLinkNest "TaleMachine" 78 ⟨"TaleMachine$Store", "take", "([II)I"⟩ "TaleMachine" ∈ kNest := List.mem_of_getElem? (i := 49) (by decide +kernel)
theorem mmn_TaleMachine_89 : Cond.methodLinkNest "TaleMachine" 89 ⟨"TaleMachine$Engine", "begin", "()V"⟩ "TaleMachine" ∈ kNest := List.mem_of_getElem? (i := 50) (by decide +kernel)
theorem mmn_TaleMachine_Engine_78 : Cond.methodLinkNest "TaleMachine$Engine" 78 ⟨"TaleMachine$Store", "renew", "()V"⟩ "TaleMachine" ∈ kNest := List.mem_of_getElem? (i := 51) (by decide +kernel)
theorem mmn_TaleMachine_Engine_81 : Cond.methodLinkNest "TaleMachine$Engine" 81 ⟨"TaleMachine$Frames", "clear", "()V"⟩ "TaleMachine" ∈ kNest := List.mem_of_getElem? (i := 52) (by decide +kernel)
theorem mmn_TaleMachine_Engine_62 : Cond.methodLinkNest "TaleMachine$Engine" 62 ⟨"TaleMachine$Codes", "clear", "()V"⟩ "TaleMachine" ∈ kNest := List.mem_of_getElem? (i := 53) (by decide +kernel)
theorem mmn_TaleMachine_92 : Cond.methodLinkNest "TaleMachine" 92 ⟨"TaleMachine$Engine", "obey", "()V"⟩ "TaleMachine" ∈ kNest := List.mem_of_getElem? (i := 54) (by decide +kernel)
theorem mmn_TaleMachine_Engine_133 : Cond.methodLinkNest "TaleMachine$Engine" 133 ⟨"TaleMachine$Store", "byteAt", "(I)I"⟩ "TaleMachine" ∈ kNest := List.mem_of_getElem? (i := 55) (by decide +kernel)
theorem mmn_TaleMachine_Engine_139 : Cond.methodLinkNest "TaleMachine$Engine" 139 ⟨"TaleMachine$Variables", "valueOf", "(I)I"⟩ "TaleMachine" ∈ kNest := List.mem_of_getElem? (i := 56) (by decide +kernel)
theorem mmn_TaleMachine_Variables_69 : Cond.methodLinkNest "TaleMachine$Variables" 69 ⟨"TaleMachine$Frames", "hasOwnWord", "()Z"⟩ "TaleMachine" ∈ kNest := List.mem_of_getElem? (i := 57) (by decide +kernel)
theorem mmn_TaleMachine_Variables_37 : Cond.methodLinkNest "TaleMachine$Variables" 37 ⟨"TaleMachine$Store", "raise", "(I)V"⟩ "TaleMachine" ∈ kNest := List.mem_of_getElem? (i := 58) (by decide +kernel)
theorem mmn_TaleMachine_Variables_27 : Cond.methodLinkNest "TaleMachine$Variables" 27 ⟨"TaleMachine$Store", "wordAt", "(I)I"⟩ "TaleMachine" ∈ kNest := List.mem_of_getElem? (i := 59) (by decide +kernel)
theorem mmn_TaleMachine_Variables_32 : Cond.methodLinkNest "TaleMachine$Variables" 32 ⟨"TaleMachine$Frames", "localCount", "()I"⟩ "TaleMachine" ∈ kNest := List.mem_of_getElem? (i := 60) (by decide +kernel)
theorem mmn_TaleMachine_Variables_45 : Cond.methodLinkNest "TaleMachine$Variables" 45 ⟨"TaleMachine$Frames", "localAt", "(I)I"⟩ "TaleMachine" ∈ kNest := List.mem_of_getElem? (i := 61) (by decide +kernel)
theorem mmn_TaleMachine_Engine_99 : Cond.methodLinkNest "TaleMachine$Engine" 99 ⟨"TaleMachine$Store", "raise", "(I)V"⟩ "TaleMachine" ∈ kNest := List.mem_of_getElem? (i := 62) (by decide +kernel)
theorem mmn_TaleMachine_Engine_157 : Cond.methodLinkNest "TaleMachine$Engine" 157 ⟨"TaleMachine$Variables", "assign", "(II)V"⟩ "TaleMachine" ∈ kNest := List.mem_of_getElem? (i := 63) (by decide +kernel)
theorem mmn_TaleMachine_Variables_51 : Cond.methodLinkNest "TaleMachine$Variables" 51 ⟨"TaleMachine$Store", "putWord", "(II)V"⟩ "TaleMachine" ∈ kNest := List.mem_of_getElem? (i := 64) (by decide +kernel)
theorem mmn_TaleMachine_Variables_56 : Cond.methodLinkNest "TaleMachine$Variables" 56 ⟨"TaleMachine$Frames", "setLocal", "(II)V"⟩ "TaleMachine" ∈ kNest := List.mem_of_getElem? (i := 65) (by decide +kernel)
theorem mmn_TaleMachine_Engine_279 : Cond.methodLinkNest "TaleMachine$Engine" 279 ⟨"TaleMachine$Frames", "isFull", "()Z"⟩ "TaleMachine" ∈ kNest := List.mem_of_getElem? (i := 66) (by decide +kernel)
theorem mmn_TaleMachine_Engine_210 : Cond.methodLinkNest "TaleMachine$Engine" 210 ⟨"TaleMachine$Store", "wordAt", "(I)I"⟩ "TaleMachine" ∈ kNest := List.mem_of_getElem? (i := 67) (by decide +kernel)
theorem mmn_TaleMachine_Engine_282 : Cond.methodLinkNest "TaleMachine$Engine" 282 ⟨"TaleMachine$Frames", "prepareLocal", "(II)V"⟩ "TaleMachine" ∈ kNest := List.mem_of_getElem? (i := 68) (by decide +kernel)
theorem mmn_TaleMachine_Engine_285 : Cond.methodLinkNest "TaleMachine$Engine" 285 ⟨"TaleMachine$Frames", "enter", "(III)V"⟩ "TaleMachine" ∈ kNest := List.mem_of_getElem? (i := 69) (by decide +kernel)
theorem mmn_TaleMachine_Engine_255 : Cond.methodLinkNest "TaleMachine$Engine" 255 ⟨"TaleMachine$Store", "putWord", "(II)V"⟩ "TaleMachine" ∈ kNest := List.mem_of_getElem? (i := 70) (by decide +kernel)
theorem mmn_TaleMachine_Engine_258 : Cond.methodLinkNest "TaleMachine$Engine" 258 ⟨"TaleMachine$Store", "putByte", "(II)V"⟩ "TaleMachine" ∈ kNest := List.mem_of_getElem? (i := 71) (by decide +kernel)
theorem mmn_TaleMachine_Engine_261 : Cond.methodLinkNest "TaleMachine$Engine" 261 ⟨"TaleMachine$Forest", "setProperty", "(III)V"⟩ "TaleMachine" ∈ kNest := List.mem_of_getElem? (i := 72) (by decide +kernel)
theorem mmn_TaleMachine_Forest_15 : Cond.methodLinkNest "TaleMachine$Forest" 15 ⟨"TaleMachine$Store", "raise", "(I)V"⟩ "TaleMachine" ∈ kNest := List.mem_of_getElem? (i := 73) (by decide +kernel)
theorem mmn_TaleMachine_Forest_49 : Cond.methodLinkNest "TaleMachine$Forest" 49 ⟨"TaleMachine$Store", "wordAt", "(I)I"⟩ "TaleMachine" ∈ kNest := List.mem_of_getElem? (i := 74) (by decide +kernel)
theorem mmn_TaleMachine_Forest_29 : Cond.methodLinkNest "TaleMachine$Forest" 29 ⟨"TaleMachine$Store", "byteAt", "(I)I"⟩ "TaleMachine" ∈ kNest := List.mem_of_getElem? (i := 75) (by decide +kernel)
theorem mmn_TaleMachine_Forest_36 : Cond.methodLinkNest "TaleMachine$Forest" 36 ⟨"TaleMachine$Store", "putByte", "(II)V"⟩ "TaleMachine" ∈ kNest := List.mem_of_getElem? (i := 76) (by decide +kernel)
theorem mmn_TaleMachine_Forest_64 : Cond.methodLinkNest "TaleMachine$Forest" 64 ⟨"TaleMachine$Store", "putWord", "(II)V"⟩ "TaleMachine" ∈ kNest := List.mem_of_getElem? (i := 77) (by decide +kernel)
theorem mmn_TaleMachine_Engine_249 : Cond.methodLinkNest "TaleMachine$Engine" 249 ⟨"TaleMachine$Codes", "add", "(I)V"⟩ "TaleMachine" ∈ kNest := List.mem_of_getElem? (i := 78) (by decide +kernel)
theorem mmn_TaleMachine_Engine_186 : Cond.methodLinkNest "TaleMachine$Engine" 186 ⟨"TaleMachine", "signed", "(I)I"⟩ "TaleMachine" ∈ kNest := List.mem_of_getElem? (i := 79) (by decide +kernel)
theorem mmn_TaleMachine_Engine_270 : Cond.methodLinkNest "TaleMachine$Engine" 270 ⟨"TaleMachine$Codes", "addNumber", "(I)V"⟩ "TaleMachine" ∈ kNest := List.mem_of_getElem? (i := 80) (by decide +kernel)
theorem mmn_TaleMachine_Engine_276 : Cond.methodLinkNest "TaleMachine$Engine" 276 ⟨"TaleMachine$Variables", "push", "(I)V"⟩ "TaleMachine" ∈ kNest := List.mem_of_getElem? (i := 81) (by decide +kernel)
theorem mmn_TaleMachine_Engine_246 : Cond.methodLinkNest "TaleMachine$Engine" 246 ⟨"TaleMachine$Variables", "pop", "()I"⟩ "TaleMachine" ∈ kNest := List.mem_of_getElem? (i := 82) (by decide +kernel)
theorem mmn_TaleMachine_Engine_204 : Cond.methodLinkNest "TaleMachine$Engine" 204 ⟨"TaleMachine$Variables", "assignNamed", "(II)V"⟩ "TaleMachine" ∈ kNest := List.mem_of_getElem? (i := 83) (by decide +kernel)
theorem mmn_TaleMachine_Engine_179 : Cond.methodLinkNest "TaleMachine$Engine" 179 ⟨"TaleMachine$Frames", "leave", "()V"⟩ "TaleMachine" ∈ kNest := List.mem_of_getElem? (i := 84) (by decide +kernel)
theorem mmn_TaleMachine_Engine_228 : Cond.methodLinkNest "TaleMachine$Engine" 228 ⟨"TaleMachine$Teller", "tell", "(ILTaleMachine$Codes;)I"⟩ "TaleMachine" ∈ kNest := List.mem_of_getElem? (i := 85) (by decide +kernel)
theorem mmn_TaleMachine_Teller_78 : Cond.methodLinkNest "TaleMachine$Teller" 78 ⟨"TaleMachine$Store", "raise", "(I)V"⟩ "TaleMachine" ∈ kNest := List.mem_of_getElem? (i := 86) (by decide +kernel)
theorem mmn_TaleMachine_Teller_116 : Cond.methodLinkNest "TaleMachine$Teller" 116 ⟨"TaleMachine$Codes", "add", "(I)V"⟩ "TaleMachine" ∈ kNest := List.mem_of_getElem? (i := 87) (by decide +kernel)
theorem mmn_TaleMachine_Teller_65 : Cond.methodLinkNest "TaleMachine$Teller" 65 ⟨"TaleMachine$Store", "wordAt", "(I)I"⟩ "TaleMachine" ∈ kNest := List.mem_of_getElem? (i := 88) (by decide +kernel)
theorem mmn_TaleMachine_Engine_193 : Cond.methodLinkNest "TaleMachine$Engine" 193 ⟨"TaleMachine$Forest", "linkOf", "(II)I"⟩ "TaleMachine" ∈ kNest := List.mem_of_getElem? (i := 89) (by decide +kernel)
theorem mmn_TaleMachine_Engine_225 : Cond.methodLinkNest "TaleMachine$Engine" 225 ⟨"TaleMachine$Forest", "propertyLength", "(I)I"⟩ "TaleMachine" ∈ kNest := List.mem_of_getElem? (i := 90) (by decide +kernel)
theorem mmn_TaleMachine_Engine_189 : Cond.methodLinkNest "TaleMachine$Engine" 189 ⟨"TaleMachine$Variables", "stepNamed", "(II)I"⟩ "TaleMachine" ∈ kNest := List.mem_of_getElem? (i := 91) (by decide +kernel)
theorem mmn_TaleMachine_Engine_234 : Cond.methodLinkNest "TaleMachine$Engine" 234 ⟨"TaleMachine$Forest", "remove", "(I)V"⟩ "TaleMachine" ∈ kNest := List.mem_of_getElem? (i := 92) (by decide +kernel)
theorem mmn_TaleMachine_Engine_237 : Cond.methodLinkNest "TaleMachine$Engine" 237 ⟨"TaleMachine$Forest", "nameOf", "(I)I"⟩ "TaleMachine" ∈ kNest := List.mem_of_getElem? (i := 93) (by decide +kernel)
theorem mmn_TaleMachine_Engine_240 : Cond.methodLinkNest "TaleMachine$Engine" 240 ⟨"TaleMachine$Variables", "namedValue", "(I)I"⟩ "TaleMachine" ∈ kNest := List.mem_of_getElem? (i := 94) (by decide +kernel)
theorem mmn_TaleMachine_Engine_213 : Cond.methodLinkNest "TaleMachine$Engine" 213 ⟨"TaleMachine$Forest", "propertyOf", "(II)I"⟩ "TaleMachine" ∈ kNest := List.mem_of_getElem? (i := 95) (by decide +kernel)
theorem mmn_TaleMachine_Engine_216 : Cond.methodLinkNest "TaleMachine$Engine" 216 ⟨"TaleMachine$Forest", "propertyAddress", "(II)I"⟩ "TaleMachine" ∈ kNest := List.mem_of_getElem? (i := 96) (by decide +kernel)
theorem mmn_TaleMachine_Engine_219 : Cond.methodLinkNest "TaleMachine$Engine" 219 ⟨"TaleMachine$Forest", "propertyBehind", "(II)I"⟩ "TaleMachine" ∈ kNest := List.mem_of_getElem? (i := 97) (by decide +kernel)
theorem mmn_TaleMachine_Engine_196 : Cond.methodLinkNest "TaleMachine$Engine" 196 ⟨"TaleMachine$Forest", "hasAttribute", "(II)Z"⟩ "TaleMachine" ∈ kNest := List.mem_of_getElem? (i := 98) (by decide +kernel)
theorem mmn_TaleMachine_Engine_200 : Cond.methodLinkNest "TaleMachine$Engine" 200 ⟨"TaleMachine$Forest", "setAttribute", "(IIZ)V"⟩ "TaleMachine" ∈ kNest := List.mem_of_getElem? (i := 99) (by decide +kernel)
theorem mmn_TaleMachine_Engine_207 : Cond.methodLinkNest "TaleMachine$Engine" 207 ⟨"TaleMachine$Forest", "insert", "(II)V"⟩ "TaleMachine" ∈ kNest := List.mem_of_getElem? (i := 100) (by decide +kernel)
theorem mmn_TaleMachine_95 : Cond.methodLinkNest "TaleMachine" 95 ⟨"TaleMachine$Reader", "hear", "(II)V"⟩ "TaleMachine" ∈ kNest := List.mem_of_getElem? (i := 101) (by decide +kernel)
theorem mmn_TaleMachine_105 : Cond.methodLinkNest "TaleMachine" 105 ⟨"TaleMachine$Reader", "part", "(II)I"⟩ "TaleMachine" ∈ kNest := List.mem_of_getElem? (i := 102) (by decide +kernel)
theorem mmn_TaleMachine_Reader_33 : Cond.methodLinkNest "TaleMachine$Reader" 33 ⟨"TaleMachine$Store", "byteAt", "(I)I"⟩ "TaleMachine" ∈ kNest := List.mem_of_getElem? (i := 103) (by decide +kernel)
theorem mmn_TaleMachine_Reader_53 : Cond.methodLinkNest "TaleMachine$Reader" 53 ⟨"TaleMachine$Store", "putByte", "(II)V"⟩ "TaleMachine" ∈ kNest := List.mem_of_getElem? (i := 104) (by decide +kernel)
theorem mmn_TaleMachine_Reader_94 : Cond.methodLinkNest "TaleMachine$Reader" 94 ⟨"TaleMachine$Store", "wordAt", "(I)I"⟩ "TaleMachine" ∈ kNest := List.mem_of_getElem? (i := 105) (by decide +kernel)
theorem mmn_TaleMachine_Reader_78 : Cond.methodLinkNest "TaleMachine$Reader" 78 ⟨"TaleMachine$Store", "putWord", "(II)V"⟩ "TaleMachine" ∈ kNest := List.mem_of_getElem? (i := 106) (by decide +kernel)
theorem mmn_TaleMachine_112 : Cond.methodLinkNest "TaleMachine" 112 ⟨"TaleMachine$Codes", "codeAt", "(I)I"⟩ "TaleMachine" ∈ kNest := List.mem_of_getElem? (i := 107) (by decide +kernel)
theorem mmn_TaleMachine_131 : Cond.methodLinkNest "TaleMachine" 131 ⟨"TaleMachine$Frames", "localCount", "()I"⟩ "TaleMachine" ∈ kNest := List.mem_of_getElem? (i := 108) (by decide +kernel)
theorem mmn_TaleMachine_144 : Cond.methodLinkNest "TaleMachine" 144 ⟨"TaleMachine$Frames", "localAt", "(I)I"⟩ "TaleMachine" ∈ kNest := List.mem_of_getElem? (i := 109) (by decide +kernel)
theorem mmn_TaleMachine_150 : Cond.methodLinkNest "TaleMachine" 150 ⟨"TaleMachine$Codes", "clear", "()V"⟩ "TaleMachine" ∈ kNest := List.mem_of_getElem? (i := 110) (by decide +kernel)
theorem mmn_TaleMachine_153 : Cond.methodLinkNest "TaleMachine" 153 ⟨"TaleMachine$Teller", "tell", "(ILTaleMachine$Codes;)I"⟩ "TaleMachine" ∈ kNest := List.mem_of_getElem? (i := 111) (by decide +kernel)
theorem mmn_TaleMachine_157 : Cond.methodLinkNest "TaleMachine" 157 ⟨"TaleMachine$Slot", "keep", "(LTaleMachine$Store;LTaleMachine$Frames;LTaleMachine$Engine;)V"⟩ "TaleMachine" ∈ kNest := List.mem_of_getElem? (i := 112) (by decide +kernel)
theorem mmn_TaleMachine_Slot_26 : Cond.methodLinkNest "TaleMachine$Slot" 26 ⟨"TaleMachine$Frames", "copyFrom", "(LTaleMachine$Frames;)V"⟩ "TaleMachine" ∈ kNest := List.mem_of_getElem? (i := 113) (by decide +kernel)
theorem mmn_TaleMachine_162 : Cond.methodLinkNest "TaleMachine" 162 ⟨"TaleMachine$Slot", "giveBack", "(LTaleMachine$Store;LTaleMachine$Frames;LTaleMachine$Engine;)V"⟩ "TaleMachine" ∈ kNest := List.mem_of_getElem? (i := 114) (by decide +kernel)
theorem mmn_TaleMachine_Slot_81 : Cond.methodLinkNest "TaleMachine$Slot" 81 ⟨"TaleMachine$Store", "renew", "()V"⟩ "TaleMachine" ∈ kNest := List.mem_of_getElem? (i := 115) (by decide +kernel)
theorem mini_TaleMachine_Codes : Cond.initialized "TaleMachine$Codes" ∈ kUW := kUW_t1 4 (by decide +kernel) rfl
theorem mini_TaleMachine_Engine : Cond.initialized "TaleMachine$Engine" ∈ kUW := kUW_t1 7 (by decide +kernel) rfl
theorem mini_TaleMachine_Forest : Cond.initialized "TaleMachine$Forest" ∈ kUW := kUW_t1 9 (by decide +kernel) rfl
theorem mini_TaleMachine_Frames : Cond.initialized "TaleMachine$Frames" ∈ kUW := kUW_t1 3 (by decide +kernel) rfl
theorem mini_TaleMachine_Reader : Cond.initialized "TaleMachine$Reader" ∈ kUW := kUW_t1 6 (by decide +kernel) rfl
theorem mini_TaleMachine_Slot : Cond.initialized "TaleMachine$Slot" ∈ kUW := kUW_t1 10 (by decide +kernel) rfl
theorem mini_TaleMachine_Store : Cond.initialized "TaleMachine$Store" ∈ kUW := kUW_t1 2 (by decide +kernel) rfl
theorem mini_TaleMachine_Teller : Cond.initialized "TaleMachine$Teller" ∈ kUW := kUW_t1 5 (by decide +kernel) rfl
theorem mini_TaleMachine_Variables : Cond.initialized "TaleMachine$Variables" ∈ kUW := kUW_t1 8 (by decide +kernel) rfl
theorem mini_TaleMachine : Cond.initialized "TaleMachine" ∈ kUW := kUW_t1 1 (by decide +kernel) rfl
theorem mini_TaleMachineModel : Cond.initialized "TaleMachineModel" ∈ kUW := kUW_t1 11 (by decide +kernel) rfl
theorem mini_java_lang_Math : Cond.initialized "java/lang/Math" ∈ kUW := kUW_t1 12 (by decide +kernel) rfl
theorem mini_java_lang_System : Cond.initialized "java/lang/System" ∈ kUW := kUW_t1 13 (by decide +kernel) rfl
theorem mini_java_lang_String : Cond.initialized "java/lang/String" ∈ kUW := kUW_t1 14 (by decide +kernel) rfl
theorem mini_java_lang_StringLatin1 : Cond.initialized "java/lang/StringLatin1" ∈ kUW := kUW_t1 15 (by decide +kernel) rfl
theorem mini_jdk_internal_util_Preconditions : Cond.initialized "jdk/internal/util/Preconditions" ∈ kUW := kUW_t1 16 (by decide +kernel) rfl
theorem mcd_yX0_init : Cond.code yX0_init cX0_init 2 none ∈ kUW := kUW_t1 130 (by decide +kernel) rfl
theorem min_yX0_init : Cond.initialized yX0_init.cls ∈ kUW := mini_TaleMachine_Codes
theorem hd_yX0_init : yX0_init.cls ≠ "java/lang/invoke/MethodHandle" ∧ yX0_init.cls ≠ "java/lang/invoke/VarHandle" ∧ (parseMethodDescriptor yX0_init.desc).map (fun d => d.parameters.length) = some 1 := by decide +kernel
theorem mim_yX0_init : Cond.instanceMethod yX0_init ∈ kUW := kUW_t1 129 (by decide +kernel) rfl
theorem mcd_yX0_clear : Cond.code yX0_clear cX0_clear 1 none ∈ kUW := kUW_t2 196 (by decide +kernel) rfl
theorem min_yX0_clear : Cond.initialized yX0_clear.cls ∈ kUW := mini_TaleMachine_Codes
theorem hd_yX0_clear : yX0_clear.cls ≠ "java/lang/invoke/MethodHandle" ∧ yX0_clear.cls ≠ "java/lang/invoke/VarHandle" ∧ (parseMethodDescriptor yX0_clear.desc).map (fun d => d.parameters.length) = some 0 := by decide +kernel
theorem mim_yX0_clear : Cond.instanceMethod yX0_clear ∈ kUW := kUW_t2 195 (by decide +kernel) rfl
theorem mse_yX0_clear : Cond.selects "TaleMachine$Codes" yX0_clear yX0_clear ∈ kUW := kUW_mem 9 (by decide +kernel) rfl
theorem mcd_yX0_add : Cond.code yX0_add cX0_add 3 none ∈ kUW := kUW_t3 100 (by decide +kernel) rfl
theorem min_yX0_add : Cond.initialized yX0_add.cls ∈ kUW := mini_TaleMachine_Codes
theorem hd_yX0_add : yX0_add.cls ≠ "java/lang/invoke/MethodHandle" ∧ yX0_add.cls ≠ "java/lang/invoke/VarHandle" ∧ (parseMethodDescriptor yX0_add.desc).map (fun d => d.parameters.length) = some 1 := by decide +kernel
theorem mim_yX0_add : Cond.instanceMethod yX0_add ∈ kUW := kUW_t3 99 (by decide +kernel) rfl
theorem mse_yX0_add : Cond.selects "TaleMachine$Codes" yX0_add yX0_add ∈ kUW := kUW_mem 38 (by decide +kernel) rfl
theorem mcd_yX0_addNumber : Cond.code yX0_addNumber cX0_addNumber 5 none ∈ kUW := kUW_t3 108 (by decide +kernel) rfl
theorem min_yX0_addNumber : Cond.initialized yX0_addNumber.cls ∈ kUW := mini_TaleMachine_Codes
theorem hd_yX0_addNumber : yX0_addNumber.cls ≠ "java/lang/invoke/MethodHandle" ∧ yX0_addNumber.cls ≠ "java/lang/invoke/VarHandle" ∧ (parseMethodDescriptor yX0_addNumber.desc).map (fun d => d.parameters.length) = some 1 := by decide +kernel
theorem mim_yX0_addNumber : Cond.instanceMethod yX0_addNumber ∈ kUW := kUW_t3 107 (by decide +kernel) rfl
theorem mse_yX0_addNumber : Cond.selects "TaleMachine$Codes" yX0_addNumber yX0_addNumber ∈ kUW := kUW_mem 39 (by decide +kernel) rfl
theorem mcd_yX0_codeAt : Cond.code yX0_codeAt cX0_codeAt 2 (some .int) ∈ kUW := kUW_t4 209 (by decide +kernel) rfl
theorem min_yX0_codeAt : Cond.initialized yX0_codeAt.cls ∈ kUW := mini_TaleMachine_Codes
theorem hd_yX0_codeAt : yX0_codeAt.cls ≠ "java/lang/invoke/MethodHandle" ∧ yX0_codeAt.cls ≠ "java/lang/invoke/VarHandle" ∧ (parseMethodDescriptor yX0_codeAt.desc).map (fun d => d.parameters.length) = some 1 := by decide +kernel
theorem mim_yX0_codeAt : Cond.instanceMethod yX0_codeAt ∈ kUW := kUW_t4 208 (by decide +kernel) rfl
theorem mse_yX0_codeAt : Cond.selects "TaleMachine$Codes" yX0_codeAt yX0_codeAt ∈ kUW := kUW_mem 88 (by decide +kernel) rfl
theorem mcd_yX1_init : Cond.code yX1_init cX1_init 5 none ∈ kUW := kUW_t1 224 (by decide +kernel) rfl
theorem min_yX1_init : Cond.initialized yX1_init.cls ∈ kUW := mini_TaleMachine_Engine
theorem hd_yX1_init : yX1_init.cls ≠ "java/lang/invoke/MethodHandle" ∧ yX1_init.cls ≠ "java/lang/invoke/VarHandle" ∧ (parseMethodDescriptor yX1_init.desc).map (fun d => d.parameters.length) = some 4 := by decide +kernel
theorem mim_yX1_init : Cond.instanceMethod yX1_init ∈ kUW := kUW_t1 223 (by decide +kernel) rfl
theorem mcd_yX1_begin : Cond.code yX1_begin cX1_begin 1 none ∈ kUW := kUW_t2 183 (by decide +kernel) rfl
theorem min_yX1_begin : Cond.initialized yX1_begin.cls ∈ kUW := mini_TaleMachine_Engine
theorem hd_yX1_begin : yX1_begin.cls ≠ "java/lang/invoke/MethodHandle" ∧ yX1_begin.cls ≠ "java/lang/invoke/VarHandle" ∧ (parseMethodDescriptor yX1_begin.desc).map (fun d => d.parameters.length) = some 0 := by decide +kernel
theorem mim_yX1_begin : Cond.instanceMethod yX1_begin ∈ kUW := kUW_t2 182 (by decide +kernel) rfl
theorem mse_yX1_begin : Cond.selects "TaleMachine$Engine" yX1_begin yX1_begin ∈ kUW := kUW_mem 6 (by decide +kernel) rfl
theorem mcd_yX1_rewind : Cond.code yX1_rewind cX1_rewind 1 none ∈ kUW := kUW_t2 187 (by decide +kernel) rfl
theorem min_yX1_rewind : Cond.initialized yX1_rewind.cls ∈ kUW := mini_TaleMachine_Engine
theorem hd_yX1_rewind : yX1_rewind.cls ≠ "java/lang/invoke/MethodHandle" ∧ yX1_rewind.cls ≠ "java/lang/invoke/VarHandle" ∧ (parseMethodDescriptor yX1_rewind.desc).map (fun d => d.parameters.length) = some 0 := by decide +kernel
theorem mim_yX1_rewind : Cond.instanceMethod yX1_rewind ∈ kUW := kUW_t2 186 (by decide +kernel) rfl
theorem mse_yX1_rewind : Cond.selects "TaleMachine$Engine" yX1_rewind yX1_rewind ∈ kUW := kUW_mem 7 (by decide +kernel) rfl
theorem mcd_yX1_obey : Cond.code yX1_obey cX1_obey 3 none ∈ kUW := kUW_t2 204 (by decide +kernel) rfl
theorem min_yX1_obey : Cond.initialized yX1_obey.cls ∈ kUW := mini_TaleMachine_Engine
theorem hd_yX1_obey : yX1_obey.cls ≠ "java/lang/invoke/MethodHandle" ∧ yX1_obey.cls ≠ "java/lang/invoke/VarHandle" ∧ (parseMethodDescriptor yX1_obey.desc).map (fun d => d.parameters.length) = some 0 := by decide +kernel
theorem mim_yX1_obey : Cond.instanceMethod yX1_obey ∈ kUW := kUW_t2 203 (by decide +kernel) rfl
theorem mse_yX1_obey : Cond.selects "TaleMachine$Engine" yX1_obey yX1_obey ∈ kUW := kUW_mem 10 (by decide +kernel) rfl
theorem mcd_yX1_fetch : Cond.code yX1_fetch cX1_fetch 2 (some .int) ∈ kUW := kUW_t2 208 (by decide +kernel) rfl
theorem min_yX1_fetch : Cond.initialized yX1_fetch.cls ∈ kUW := mini_TaleMachine_Engine
theorem hd_yX1_fetch : yX1_fetch.cls ≠ "java/lang/invoke/MethodHandle" ∧ yX1_fetch.cls ≠ "java/lang/invoke/VarHandle" ∧ (parseMethodDescriptor yX1_fetch.desc).map (fun d => d.parameters.length) = some 0 := by decide +kernel
theorem mim_yX1_fetch : Cond.instanceMethod yX1_fetch ∈ kUW := kUW_t2 207 (by decide +kernel) rfl
theorem mse_yX1_fetch : Cond.selects "TaleMachine$Engine" yX1_fetch yX1_fetch ∈ kUW := kUW_mem 11 (by decide +kernel) rfl
theorem mcd_yX1_readOperands : Cond.code yX1_readOperands cX1_readOperands 6 none ∈ kUW := kUW_t2 221 (by decide +kernel) rfl
theorem min_yX1_readOperands : Cond.initialized yX1_readOperands.cls ∈ kUW := mini_TaleMachine_Engine
theorem hd_yX1_readOperands : yX1_readOperands.cls ≠ "java/lang/invoke/MethodHandle" ∧ yX1_readOperands.cls ≠ "java/lang/invoke/VarHandle" ∧ (parseMethodDescriptor yX1_readOperands.desc).map (fun d => d.parameters.length) = some 1 := by decide +kernel
theorem mim_yX1_readOperands : Cond.instanceMethod yX1_readOperands ∈ kUW := kUW_t2 220 (by decide +kernel) rfl
theorem mse_yX1_readOperands : Cond.selects "TaleMachine$Engine" yX1_readOperands yX1_readOperands ∈ kUW := kUW_mem 14 (by decide +kernel) rfl
theorem mcd_yX1_operandOf : Cond.code yX1_operandOf cX1_operandOf 3 (some .int) ∈ kUW := kUW_t2 225 (by decide +kernel) rfl
theorem min_yX1_operandOf : Cond.initialized yX1_operandOf.cls ∈ kUW := mini_TaleMachine_Engine
theorem hd_yX1_operandOf : yX1_operandOf.cls ≠ "java/lang/invoke/MethodHandle" ∧ yX1_operandOf.cls ≠ "java/lang/invoke/VarHandle" ∧ (parseMethodDescriptor yX1_operandOf.desc).map (fun d => d.parameters.length) = some 1 := by decide +kernel
theorem mim_yX1_operandOf : Cond.instanceMethod yX1_operandOf ∈ kUW := kUW_t2 224 (by decide +kernel) rfl
theorem mse_yX1_operandOf : Cond.selects "TaleMachine$Engine" yX1_operandOf yX1_operandOf ∈ kUW := kUW_mem 15 (by decide +kernel) rfl
theorem mcd_yX1_afterOf : Cond.code yX1_afterOf cX1_afterOf 4 (some .int) ∈ kUW := kUW_t3 18 (by decide +kernel) rfl
theorem min_yX1_afterOf : Cond.initialized yX1_afterOf.cls ∈ kUW := mini_TaleMachine_Engine
theorem hd_yX1_afterOf : yX1_afterOf.cls ≠ "java/lang/invoke/MethodHandle" ∧ yX1_afterOf.cls ≠ "java/lang/invoke/VarHandle" ∧ (parseMethodDescriptor yX1_afterOf.desc).map (fun d => d.parameters.length) = some 1 := by decide +kernel
theorem mim_yX1_afterOf : Cond.instanceMethod yX1_afterOf ∈ kUW := kUW_t3 17 (by decide +kernel) rfl
theorem mse_yX1_afterOf : Cond.selects "TaleMachine$Engine" yX1_afterOf yX1_afterOf ∈ kUW := kUW_mem 23 (by decide +kernel) rfl
theorem mcd_yX1_answer : Cond.code yX1_answer cX1_answer 2 none ∈ kUW := kUW_t4 86 (by decide +kernel) rfl
theorem min_yX1_answer : Cond.initialized yX1_answer.cls ∈ kUW := mini_TaleMachine_Engine
theorem hd_yX1_answer : yX1_answer.cls ≠ "java/lang/invoke/MethodHandle" ∧ yX1_answer.cls ≠ "java/lang/invoke/VarHandle" ∧ (parseMethodDescriptor yX1_answer.desc).map (fun d => d.parameters.length) = some 0 := by decide +kernel
theorem mim_yX1_answer : Cond.instanceMethod yX1_answer ∈ kUW := kUW_t4 85 (by decide +kernel) rfl
theorem mse_yX1_answer : Cond.selects "TaleMachine$Engine" yX1_answer yX1_answer ∈ kUW := kUW_mem 77 (by decide +kernel) rfl
theorem mcd_yX1_branch : Cond.code yX1_branch cX1_branch 4 none ∈ kUW := kUW_t4 90 (by decide +kernel) rfl
theorem min_yX1_branch : Cond.initialized yX1_branch.cls ∈ kUW := mini_TaleMachine_Engine
theorem hd_yX1_branch : yX1_branch.cls ≠ "java/lang/invoke/MethodHandle" ∧ yX1_branch.cls ≠ "java/lang/invoke/VarHandle" ∧ (parseMethodDescriptor yX1_branch.desc).map (fun d => d.parameters.length) = some 0 := by decide +kernel
theorem mim_yX1_branch : Cond.instanceMethod yX1_branch ∈ kUW := kUW_t4 89 (by decide +kernel) rfl
theorem mse_yX1_branch : Cond.selects "TaleMachine$Engine" yX1_branch yX1_branch ∈ kUW := kUW_mem 78 (by decide +kernel) rfl
theorem mcd_yX1_moveBy : Cond.code yX1_moveBy cX1_moveBy 2 none ∈ kUW := kUW_t4 32 (by decide +kernel) rfl
theorem min_yX1_moveBy : Cond.initialized yX1_moveBy.cls ∈ kUW := mini_TaleMachine_Engine
theorem hd_yX1_moveBy : yX1_moveBy.cls ≠ "java/lang/invoke/MethodHandle" ∧ yX1_moveBy.cls ≠ "java/lang/invoke/VarHandle" ∧ (parseMethodDescriptor yX1_moveBy.desc).map (fun d => d.parameters.length) = some 1 := by decide +kernel
theorem mim_yX1_moveBy : Cond.instanceMethod yX1_moveBy ∈ kUW := kUW_t4 31 (by decide +kernel) rfl
theorem mse_yX1_moveBy : Cond.selects "TaleMachine$Engine" yX1_moveBy yX1_moveBy ∈ kUW := kUW_mem 64 (by decide +kernel) rfl
theorem mcd_yX1_giveBack : Cond.code yX1_giveBack cX1_giveBack 3 none ∈ kUW := kUW_t3 132 (by decide +kernel) rfl
theorem min_yX1_giveBack : Cond.initialized yX1_giveBack.cls ∈ kUW := mini_TaleMachine_Engine
theorem hd_yX1_giveBack : yX1_giveBack.cls ≠ "java/lang/invoke/MethodHandle" ∧ yX1_giveBack.cls ≠ "java/lang/invoke/VarHandle" ∧ (parseMethodDescriptor yX1_giveBack.desc).map (fun d => d.parameters.length) = some 1 := by decide +kernel
theorem mim_yX1_giveBack : Cond.instanceMethod yX1_giveBack ∈ kUW := kUW_t3 131 (by decide +kernel) rfl
theorem mse_yX1_giveBack : Cond.selects "TaleMachine$Engine" yX1_giveBack yX1_giveBack ∈ kUW := kUW_mem 43 (by decide +kernel) rfl
theorem mcd_yX1_performTwo : Cond.code yX1_performTwo cX1_performTwo 4 none ∈ kUW := kUW_t4 61 (by decide +kernel) rfl
theorem min_yX1_performTwo : Cond.initialized yX1_performTwo.cls ∈ kUW := mini_TaleMachine_Engine
theorem hd_yX1_performTwo : yX1_performTwo.cls ≠ "java/lang/invoke/MethodHandle" ∧ yX1_performTwo.cls ≠ "java/lang/invoke/VarHandle" ∧ (parseMethodDescriptor yX1_performTwo.desc).map (fun d => d.parameters.length) = some 3 := by decide +kernel
theorem mim_yX1_performTwo : Cond.instanceMethod yX1_performTwo ∈ kUW := kUW_t4 60 (by decide +kernel) rfl
theorem mse_yX1_performTwo : Cond.selects "TaleMachine$Engine" yX1_performTwo yX1_performTwo ∈ kUW := kUW_mem 71 (by decide +kernel) rfl
theorem mcd_yX1_isAnyOfTheOthers : Cond.code yX1_isAnyOfTheOthers cX1_isAnyOfTheOthers 2 (some .boolean) ∈ kUW := kUW_t4 65 (by decide +kernel) rfl
theorem min_yX1_isAnyOfTheOthers : Cond.initialized yX1_isAnyOfTheOthers.cls ∈ kUW := mini_TaleMachine_Engine
theorem hd_yX1_isAnyOfTheOthers : yX1_isAnyOfTheOthers.cls ≠ "java/lang/invoke/MethodHandle" ∧ yX1_isAnyOfTheOthers.cls ≠ "java/lang/invoke/VarHandle" ∧ (parseMethodDescriptor yX1_isAnyOfTheOthers.desc).map (fun d => d.parameters.length) = some 0 := by decide +kernel
theorem mim_yX1_isAnyOfTheOthers : Cond.instanceMethod yX1_isAnyOfTheOthers ∈ kUW := kUW_t4 64 (by decide +kernel) rfl
theorem mse_yX1_isAnyOfTheOthers : Cond.selects "TaleMachine$Engine" yX1_isAnyOfTheOthers yX1_isAnyOfTheOthers ∈ kUW := kUW_mem 72 (by decide +kernel) rfl
theorem mcd_yX1_answerOfTwo : Cond.code yX1_answerOfTwo cX1_answerOfTwo 4 (some .int) ∈ kUW := kUW_t4 37 (by decide +kernel) rfl
theorem min_yX1_answerOfTwo : Cond.initialized yX1_answerOfTwo.cls ∈ kUW := mini_TaleMachine_Engine
theorem hd_yX1_answerOfTwo : yX1_answerOfTwo.cls ≠ "java/lang/invoke/MethodHandle" ∧ yX1_answerOfTwo.cls ≠ "java/lang/invoke/VarHandle" ∧ (parseMethodDescriptor yX1_answerOfTwo.desc).map (fun d => d.parameters.length) = some 3 := by decide +kernel
theorem mim_yX1_answerOfTwo : Cond.instanceMethod yX1_answerOfTwo ∈ kUW := kUW_t4 36 (by decide +kernel) rfl
theorem mse_yX1_answerOfTwo : Cond.selects "TaleMachine$Engine" yX1_answerOfTwo yX1_answerOfTwo ∈ kUW := kUW_mem 65 (by decide +kernel) rfl
theorem mcd_yX1_divided : Cond.code yX1_divided cX1_divided 4 (some .int) ∈ kUW := kUW_t4 57 (by decide +kernel) rfl
theorem min_yX1_divided : Cond.initialized yX1_divided.cls ∈ kUW := mini_TaleMachine_Engine
theorem hd_yX1_divided : yX1_divided.cls ≠ "java/lang/invoke/MethodHandle" ∧ yX1_divided.cls ≠ "java/lang/invoke/VarHandle" ∧ (parseMethodDescriptor yX1_divided.desc).map (fun d => d.parameters.length) = some 3 := by decide +kernel
theorem mim_yX1_divided : Cond.instanceMethod yX1_divided ∈ kUW := kUW_t4 56 (by decide +kernel) rfl
theorem mse_yX1_divided : Cond.selects "TaleMachine$Engine" yX1_divided yX1_divided ∈ kUW := kUW_mem 70 (by decide +kernel) rfl
theorem mcd_yX1_performOne : Cond.code yX1_performOne cX1_performOne 3 none ∈ kUW := kUW_t3 238 (by decide +kernel) rfl
theorem min_yX1_performOne : Cond.initialized yX1_performOne.cls ∈ kUW := mini_TaleMachine_Engine
theorem hd_yX1_performOne : yX1_performOne.cls ≠ "java/lang/invoke/MethodHandle" ∧ yX1_performOne.cls ≠ "java/lang/invoke/VarHandle" ∧ (parseMethodDescriptor yX1_performOne.desc).map (fun d => d.parameters.length) = some 2 := by decide +kernel
theorem mim_yX1_performOne : Cond.instanceMethod yX1_performOne ∈ kUW := kUW_t3 237 (by decide +kernel) rfl
theorem mse_yX1_performOne : Cond.selects "TaleMachine$Engine" yX1_performOne yX1_performOne ∈ kUW := kUW_mem 56 (by decide +kernel) rfl
theorem mcd_yX1_performNone : Cond.code yX1_performNone cX1_performNone 2 none ∈ kUW := kUW_t3 128 (by decide +kernel) rfl
theorem min_yX1_performNone : Cond.initialized yX1_performNone.cls ∈ kUW := mini_TaleMachine_Engine
theorem hd_yX1_performNone : yX1_performNone.cls ≠ "java/lang/invoke/MethodHandle" ∧ yX1_performNone.cls ≠ "java/lang/invoke/VarHandle" ∧ (parseMethodDescriptor yX1_performNone.desc).map (fun d => d.parameters.length) = some 1 := by decide +kernel
theorem mim_yX1_performNone : Cond.instanceMethod yX1_performNone ∈ kUW := kUW_t3 127 (by decide +kernel) rfl
theorem mse_yX1_performNone : Cond.selects "TaleMachine$Engine" yX1_performNone yX1_performNone ∈ kUW := kUW_mem 42 (by decide +kernel) rfl
theorem mcd_yX1_newLine : Cond.code yX1_newLine cX1_newLine 1 none ∈ kUW := kUW_t3 234 (by decide +kernel) rfl
theorem min_yX1_newLine : Cond.initialized yX1_newLine.cls ∈ kUW := mini_TaleMachine_Engine
theorem hd_yX1_newLine : yX1_newLine.cls ≠ "java/lang/invoke/MethodHandle" ∧ yX1_newLine.cls ≠ "java/lang/invoke/VarHandle" ∧ (parseMethodDescriptor yX1_newLine.desc).map (fun d => d.parameters.length) = some 0 := by decide +kernel
theorem mim_yX1_newLine : Cond.instanceMethod yX1_newLine ∈ kUW := kUW_t3 233 (by decide +kernel) rfl
theorem mse_yX1_newLine : Cond.selects "TaleMachine$Engine" yX1_newLine yX1_newLine ∈ kUW := kUW_mem 55 (by decide +kernel) rfl
theorem mcd_yX1_performVar : Cond.code yX1_performVar cX1_performVar 3 none ∈ kUW := kUW_t3 33 (by decide +kernel) rfl
theorem min_yX1_performVar : Cond.initialized yX1_performVar.cls ∈ kUW := mini_TaleMachine_Engine
theorem hd_yX1_performVar : yX1_performVar.cls ≠ "java/lang/invoke/MethodHandle" ∧ yX1_performVar.cls ≠ "java/lang/invoke/VarHandle" ∧ (parseMethodDescriptor yX1_performVar.desc).map (fun d => d.parameters.length) = some 1 := by decide +kernel
theorem mim_yX1_performVar : Cond.instanceMethod yX1_performVar ∈ kUW := kUW_t3 32 (by decide +kernel) rfl
theorem mse_yX1_performVar : Cond.selects "TaleMachine$Engine" yX1_performVar yX1_performVar ∈ kUW := kUW_mem 24 (by decide +kernel) rfl
theorem mcd_yX1_call : Cond.code yX1_call cX1_call 6 none ∈ kUW := kUW_t3 37 (by decide +kernel) rfl
theorem min_yX1_call : Cond.initialized yX1_call.cls ∈ kUW := mini_TaleMachine_Engine
theorem hd_yX1_call : yX1_call.cls ≠ "java/lang/invoke/MethodHandle" ∧ yX1_call.cls ≠ "java/lang/invoke/VarHandle" ∧ (parseMethodDescriptor yX1_call.desc).map (fun d => d.parameters.length) = some 1 := by decide +kernel
theorem mim_yX1_call : Cond.instanceMethod yX1_call ∈ kUW := kUW_t3 36 (by decide +kernel) rfl
theorem mse_yX1_call : Cond.selects "TaleMachine$Engine" yX1_call yX1_call ∈ kUW := kUW_mem 25 (by decide +kernel) rfl
theorem mcd_yX1_drawn : Cond.code yX1_drawn cX1_drawn 2 (some .int) ∈ kUW := kUW_t3 116 (by decide +kernel) rfl
theorem min_yX1_drawn : Cond.initialized yX1_drawn.cls ∈ kUW := mini_TaleMachine_Engine
theorem hd_yX1_drawn : yX1_drawn.cls ≠ "java/lang/invoke/MethodHandle" ∧ yX1_drawn.cls ≠ "java/lang/invoke/VarHandle" ∧ (parseMethodDescriptor yX1_drawn.desc).map (fun d => d.parameters.length) = some 1 := by decide +kernel
theorem mim_yX1_drawn : Cond.instanceMethod yX1_drawn ∈ kUW := kUW_t3 115 (by decide +kernel) rfl
theorem mse_yX1_drawn : Cond.selects "TaleMachine$Engine" yX1_drawn yX1_drawn ∈ kUW := kUW_mem 40 (by decide +kernel) rfl
theorem mcd_yX2_init : Cond.code yX2_init cX2_init 2 none ∈ kUW := kUW_t2 3 (by decide +kernel) rfl
theorem min_yX2_init : Cond.initialized yX2_init.cls ∈ kUW := mini_TaleMachine_Forest
theorem hd_yX2_init : yX2_init.cls ≠ "java/lang/invoke/MethodHandle" ∧ yX2_init.cls ≠ "java/lang/invoke/VarHandle" ∧ (parseMethodDescriptor yX2_init.desc).map (fun d => d.parameters.length) = some 1 := by decide +kernel
theorem mim_yX2_init : Cond.instanceMethod yX2_init ∈ kUW := kUW_t2 2 (by decide +kernel) rfl
theorem mcd_yX2_placeOf : Cond.code yX2_placeOf cX2_placeOf 2 (some .int) ∈ kUW := kUW_t3 88 (by decide +kernel) rfl
theorem min_yX2_placeOf : Cond.initialized yX2_placeOf.cls ∈ kUW := mini_TaleMachine_Forest
theorem hd_yX2_placeOf : yX2_placeOf.cls ≠ "java/lang/invoke/MethodHandle" ∧ yX2_placeOf.cls ≠ "java/lang/invoke/VarHandle" ∧ (parseMethodDescriptor yX2_placeOf.desc).map (fun d => d.parameters.length) = some 1 := by decide +kernel
theorem mim_yX2_placeOf : Cond.instanceMethod yX2_placeOf ∈ kUW := kUW_t3 87 (by decide +kernel) rfl
theorem mse_yX2_placeOf : Cond.selects "TaleMachine$Forest" yX2_placeOf yX2_placeOf ∈ kUW := kUW_mem 37 (by decide +kernel) rfl
theorem mcd_yX2_linkOf : Cond.code yX2_linkOf cX2_linkOf 3 (some .int) ∈ kUW := kUW_t4 2 (by decide +kernel) rfl
theorem min_yX2_linkOf : Cond.initialized yX2_linkOf.cls ∈ kUW := mini_TaleMachine_Forest
theorem hd_yX2_linkOf : yX2_linkOf.cls ≠ "java/lang/invoke/MethodHandle" ∧ yX2_linkOf.cls ≠ "java/lang/invoke/VarHandle" ∧ (parseMethodDescriptor yX2_linkOf.desc).map (fun d => d.parameters.length) = some 2 := by decide +kernel
theorem mim_yX2_linkOf : Cond.instanceMethod yX2_linkOf ∈ kUW := kUW_t4 1 (by decide +kernel) rfl
theorem mse_yX2_linkOf : Cond.selects "TaleMachine$Forest" yX2_linkOf yX2_linkOf ∈ kUW := kUW_mem 57 (by decide +kernel) rfl
theorem mcd_yX2_attributePlace : Cond.code yX2_attributePlace cX2_attributePlace 4 (some .int) ∈ kUW := kUW_t4 73 (by decide +kernel) rfl
theorem min_yX2_attributePlace : Cond.initialized yX2_attributePlace.cls ∈ kUW := mini_TaleMachine_Forest
theorem hd_yX2_attributePlace : yX2_attributePlace.cls ≠ "java/lang/invoke/MethodHandle" ∧ yX2_attributePlace.cls ≠ "java/lang/invoke/VarHandle" ∧ (parseMethodDescriptor yX2_attributePlace.desc).map (fun d => d.parameters.length) = some 2 := by decide +kernel
theorem mim_yX2_attributePlace : Cond.instanceMethod yX2_attributePlace ∈ kUW := kUW_t4 72 (by decide +kernel) rfl
theorem mse_yX2_attributePlace : Cond.selects "TaleMachine$Forest" yX2_attributePlace yX2_attributePlace ∈ kUW := kUW_mem 74 (by decide +kernel) rfl
theorem mcd_yX2_hasAttribute : Cond.code yX2_hasAttribute cX2_hasAttribute 4 (some .boolean) ∈ kUW := kUW_t4 69 (by decide +kernel) rfl
theorem min_yX2_hasAttribute : Cond.initialized yX2_hasAttribute.cls ∈ kUW := mini_TaleMachine_Forest
theorem hd_yX2_hasAttribute : yX2_hasAttribute.cls ≠ "java/lang/invoke/MethodHandle" ∧ yX2_hasAttribute.cls ≠ "java/lang/invoke/VarHandle" ∧ (parseMethodDescriptor yX2_hasAttribute.desc).map (fun d => d.parameters.length) = some 2 := by decide +kernel
theorem mim_yX2_hasAttribute : Cond.instanceMethod yX2_hasAttribute ∈ kUW := kUW_t4 68 (by decide +kernel) rfl
theorem mse_yX2_hasAttribute : Cond.selects "TaleMachine$Forest" yX2_hasAttribute yX2_hasAttribute ∈ kUW := kUW_mem 73 (by decide +kernel) rfl
theorem mcd_yX2_setAttribute : Cond.code yX2_setAttribute cX2_setAttribute 7 none ∈ kUW := kUW_t4 77 (by decide +kernel) rfl
theorem min_yX2_setAttribute : Cond.initialized yX2_setAttribute.cls ∈ kUW := mini_TaleMachine_Forest
theorem hd_yX2_setAttribute : yX2_setAttribute.cls ≠ "java/lang/invoke/MethodHandle" ∧ yX2_setAttribute.cls ≠ "java/lang/invoke/VarHandle" ∧ (parseMethodDescriptor yX2_setAttribute.desc).map (fun d => d.parameters.length) = some 3 := by decide +kernel
theorem mim_yX2_setAttribute : Cond.instanceMethod yX2_setAttribute ∈ kUW := kUW_t4 76 (by decide +kernel) rfl
theorem mse_yX2_setAttribute : Cond.selects "TaleMachine$Forest" yX2_setAttribute yX2_setAttribute ∈ kUW := kUW_mem 75 (by decide +kernel) rfl
theorem mcd_yX2_remove : Cond.code yX2_remove cX2_remove 4 none ∈ kUW := kUW_t4 20 (by decide +kernel) rfl
theorem min_yX2_remove : Cond.initialized yX2_remove.cls ∈ kUW := mini_TaleMachine_Forest
theorem hd_yX2_remove : yX2_remove.cls ≠ "java/lang/invoke/MethodHandle" ∧ yX2_remove.cls ≠ "java/lang/invoke/VarHandle" ∧ (parseMethodDescriptor yX2_remove.desc).map (fun d => d.parameters.length) = some 1 := by decide +kernel
theorem mim_yX2_remove : Cond.instanceMethod yX2_remove ∈ kUW := kUW_t4 19 (by decide +kernel) rfl
theorem mse_yX2_remove : Cond.selects "TaleMachine$Forest" yX2_remove yX2_remove ∈ kUW := kUW_mem 61 (by decide +kernel) rfl
theorem mcd_yX2_takeFrom : Cond.code yX2_takeFrom cX2_takeFrom 7 none ∈ kUW := kUW_t4 24 (by decide +kernel) rfl
theorem min_yX2_takeFrom : Cond.initialized yX2_takeFrom.cls ∈ kUW := mini_TaleMachine_Forest
theorem hd_yX2_takeFrom : yX2_takeFrom.cls ≠ "java/lang/invoke/MethodHandle" ∧ yX2_takeFrom.cls ≠ "java/lang/invoke/VarHandle" ∧ (parseMethodDescriptor yX2_takeFrom.desc).map (fun d => d.parameters.length) = some 2 := by decide +kernel
theorem mim_yX2_takeFrom : Cond.instanceMethod yX2_takeFrom ∈ kUW := kUW_t4 23 (by decide +kernel) rfl
theorem mse_yX2_takeFrom : Cond.selects "TaleMachine$Forest" yX2_takeFrom yX2_takeFrom ∈ kUW := kUW_mem 62 (by decide +kernel) rfl
theorem mcd_yX2_insert : Cond.code yX2_insert cX2_insert 5 none ∈ kUW := kUW_t4 81 (by decide +kernel) rfl
theorem min_yX2_insert : Cond.initialized yX2_insert.cls ∈ kUW := mini_TaleMachine_Forest
theorem hd_yX2_insert : yX2_insert.cls ≠ "java/lang/invoke/MethodHandle" ∧ yX2_insert.cls ≠ "java/lang/invoke/VarHandle" ∧ (parseMethodDescriptor yX2_insert.desc).map (fun d => d.parameters.length) = some 2 := by decide +kernel
theorem mim_yX2_insert : Cond.instanceMethod yX2_insert ∈ kUW := kUW_t4 80 (by decide +kernel) rfl
theorem mse_yX2_insert : Cond.selects "TaleMachine$Forest" yX2_insert yX2_insert ∈ kUW := kUW_mem 76 (by decide +kernel) rfl
theorem mcd_yX2_nameOf : Cond.code yX2_nameOf cX2_nameOf 2 (some .int) ∈ kUW := kUW_t4 28 (by decide +kernel) rfl
theorem min_yX2_nameOf : Cond.initialized yX2_nameOf.cls ∈ kUW := mini_TaleMachine_Forest
theorem hd_yX2_nameOf : yX2_nameOf.cls ≠ "java/lang/invoke/MethodHandle" ∧ yX2_nameOf.cls ≠ "java/lang/invoke/VarHandle" ∧ (parseMethodDescriptor yX2_nameOf.desc).map (fun d => d.parameters.length) = some 1 := by decide +kernel
theorem mim_yX2_nameOf : Cond.instanceMethod yX2_nameOf ∈ kUW := kUW_t4 27 (by decide +kernel) rfl
theorem mse_yX2_nameOf : Cond.selects "TaleMachine$Forest" yX2_nameOf yX2_nameOf ∈ kUW := kUW_mem 63 (by decide +kernel) rfl
theorem mcd_yX2_firstProperty : Cond.code yX2_firstProperty cX2_firstProperty 3 (some .int) ∈ kUW := kUW_t3 84 (by decide +kernel) rfl
theorem min_yX2_firstProperty : Cond.initialized yX2_firstProperty.cls ∈ kUW := mini_TaleMachine_Forest
theorem hd_yX2_firstProperty : yX2_firstProperty.cls ≠ "java/lang/invoke/MethodHandle" ∧ yX2_firstProperty.cls ≠ "java/lang/invoke/VarHandle" ∧ (parseMethodDescriptor yX2_firstProperty.desc).map (fun d => d.parameters.length) = some 1 := by decide +kernel
theorem mim_yX2_firstProperty : Cond.instanceMethod yX2_firstProperty ∈ kUW := kUW_t3 83 (by decide +kernel) rfl
theorem mse_yX2_firstProperty : Cond.selects "TaleMachine$Forest" yX2_firstProperty yX2_firstProperty ∈ kUW := kUW_mem 36 (by decide +kernel) rfl
theorem mcd_yX2_sizeBy : Cond.code yX2_sizeBy cX2_sizeBy 1 (some .int) ∈ kUW := kUW_t3 94 (by decide +kernel) rfl
theorem min_yX2_sizeBy : Cond.initialized yX2_sizeBy.cls ∈ kUW := mini_TaleMachine_Forest
theorem hd_yX2_sizeBy : yX2_sizeBy.cls ≠ "java/lang/invoke/MethodHandle" ∧ yX2_sizeBy.cls ≠ "java/lang/invoke/VarHandle" ∧ (parseMethodDescriptor yX2_sizeBy.desc).map (fun d => d.parameters.length) = some 1 := by decide +kernel
theorem mst_yX2_sizeBy : Cond.static yX2_sizeBy ∈ kUW := kUW_t3 93 (by decide +kernel) rfl
theorem mcd_yX2_findProperty : Cond.code yX2_findProperty cX2_findProperty 6 (some .int) ∈ kUW := kUW_t3 80 (by decide +kernel) rfl
theorem min_yX2_findProperty : Cond.initialized yX2_findProperty.cls ∈ kUW := mini_TaleMachine_Forest
theorem hd_yX2_findProperty : yX2_findProperty.cls ≠ "java/lang/invoke/MethodHandle" ∧ yX2_findProperty.cls ≠ "java/lang/invoke/VarHandle" ∧ (parseMethodDescriptor yX2_findProperty.desc).map (fun d => d.parameters.length) = some 2 := by decide +kernel
theorem mim_yX2_findProperty : Cond.instanceMethod yX2_findProperty ∈ kUW := kUW_t3 79 (by decide +kernel) rfl
theorem mse_yX2_findProperty : Cond.selects "TaleMachine$Forest" yX2_findProperty yX2_findProperty ∈ kUW := kUW_mem 35 (by decide +kernel) rfl
theorem mcd_yX2_propertyOf : Cond.code yX2_propertyOf cX2_propertyOf 5 (some .int) ∈ kUW := kUW_t4 41 (by decide +kernel) rfl
theorem min_yX2_propertyOf : Cond.initialized yX2_propertyOf.cls ∈ kUW := mini_TaleMachine_Forest
theorem hd_yX2_propertyOf : yX2_propertyOf.cls ≠ "java/lang/invoke/MethodHandle" ∧ yX2_propertyOf.cls ≠ "java/lang/invoke/VarHandle" ∧ (parseMethodDescriptor yX2_propertyOf.desc).map (fun d => d.parameters.length) = some 2 := by decide +kernel
theorem mim_yX2_propertyOf : Cond.instanceMethod yX2_propertyOf ∈ kUW := kUW_t4 40 (by decide +kernel) rfl
theorem mse_yX2_propertyOf : Cond.selects "TaleMachine$Forest" yX2_propertyOf yX2_propertyOf ∈ kUW := kUW_mem 66 (by decide +kernel) rfl
theorem mcd_yX2_defaultOf : Cond.code yX2_defaultOf cX2_defaultOf 2 (some .int) ∈ kUW := kUW_t4 45 (by decide +kernel) rfl
theorem min_yX2_defaultOf : Cond.initialized yX2_defaultOf.cls ∈ kUW := mini_TaleMachine_Forest
theorem hd_yX2_defaultOf : yX2_defaultOf.cls ≠ "java/lang/invoke/MethodHandle" ∧ yX2_defaultOf.cls ≠ "java/lang/invoke/VarHandle" ∧ (parseMethodDescriptor yX2_defaultOf.desc).map (fun d => d.parameters.length) = some 1 := by decide +kernel
theorem mim_yX2_defaultOf : Cond.instanceMethod yX2_defaultOf ∈ kUW := kUW_t4 44 (by decide +kernel) rfl
theorem mse_yX2_defaultOf : Cond.selects "TaleMachine$Forest" yX2_defaultOf yX2_defaultOf ∈ kUW := kUW_mem 67 (by decide +kernel) rfl
theorem mcd_yX2_setProperty : Cond.code yX2_setProperty cX2_setProperty 6 none ∈ kUW := kUW_t3 76 (by decide +kernel) rfl
theorem min_yX2_setProperty : Cond.initialized yX2_setProperty.cls ∈ kUW := mini_TaleMachine_Forest
theorem hd_yX2_setProperty : yX2_setProperty.cls ≠ "java/lang/invoke/MethodHandle" ∧ yX2_setProperty.cls ≠ "java/lang/invoke/VarHandle" ∧ (parseMethodDescriptor yX2_setProperty.desc).map (fun d => d.parameters.length) = some 3 := by decide +kernel
theorem mim_yX2_setProperty : Cond.instanceMethod yX2_setProperty ∈ kUW := kUW_t3 75 (by decide +kernel) rfl
theorem mse_yX2_setProperty : Cond.selects "TaleMachine$Forest" yX2_setProperty yX2_setProperty ∈ kUW := kUW_mem 34 (by decide +kernel) rfl
theorem mcd_yX2_propertyAddress : Cond.code yX2_propertyAddress cX2_propertyAddress 4 (some .int) ∈ kUW := kUW_t4 49 (by decide +kernel) rfl
theorem min_yX2_propertyAddress : Cond.initialized yX2_propertyAddress.cls ∈ kUW := mini_TaleMachine_Forest
theorem hd_yX2_propertyAddress : yX2_propertyAddress.cls ≠ "java/lang/invoke/MethodHandle" ∧ yX2_propertyAddress.cls ≠ "java/lang/invoke/VarHandle" ∧ (parseMethodDescriptor yX2_propertyAddress.desc).map (fun d => d.parameters.length) = some 2 := by decide +kernel
theorem mim_yX2_propertyAddress : Cond.instanceMethod yX2_propertyAddress ∈ kUW := kUW_t4 48 (by decide +kernel) rfl
theorem mse_yX2_propertyAddress : Cond.selects "TaleMachine$Forest" yX2_propertyAddress yX2_propertyAddress ∈ kUW := kUW_mem 68 (by decide +kernel) rfl
theorem mcd_yX2_propertyLength : Cond.code yX2_propertyLength cX2_propertyLength 2 (some .int) ∈ kUW := kUW_t4 6 (by decide +kernel) rfl
theorem min_yX2_propertyLength : Cond.initialized yX2_propertyLength.cls ∈ kUW := mini_TaleMachine_Forest
theorem hd_yX2_propertyLength : yX2_propertyLength.cls ≠ "java/lang/invoke/MethodHandle" ∧ yX2_propertyLength.cls ≠ "java/lang/invoke/VarHandle" ∧ (parseMethodDescriptor yX2_propertyLength.desc).map (fun d => d.parameters.length) = some 1 := by decide +kernel
theorem mim_yX2_propertyLength : Cond.instanceMethod yX2_propertyLength ∈ kUW := kUW_t4 5 (by decide +kernel) rfl
theorem mse_yX2_propertyLength : Cond.selects "TaleMachine$Forest" yX2_propertyLength yX2_propertyLength ∈ kUW := kUW_mem 58 (by decide +kernel) rfl
theorem mcd_yX2_propertyBehind : Cond.code yX2_propertyBehind cX2_propertyBehind 4 (some .int) ∈ kUW := kUW_t4 53 (by decide +kernel) rfl
theorem min_yX2_propertyBehind : Cond.initialized yX2_propertyBehind.cls ∈ kUW := mini_TaleMachine_Forest
theorem hd_yX2_propertyBehind : yX2_propertyBehind.cls ≠ "java/lang/invoke/MethodHandle" ∧ yX2_propertyBehind.cls ≠ "java/lang/invoke/VarHandle" ∧ (parseMethodDescriptor yX2_propertyBehind.desc).map (fun d => d.parameters.length) = some 2 := by decide +kernel
theorem mim_yX2_propertyBehind : Cond.instanceMethod yX2_propertyBehind ∈ kUW := kUW_t4 52 (by decide +kernel) rfl
theorem mse_yX2_propertyBehind : Cond.selects "TaleMachine$Forest" yX2_propertyBehind yX2_propertyBehind ∈ kUW := kUW_mem 69 (by decide +kernel) rfl
theorem mcd_yX3_init : Cond.code yX3_init cX3_init 1 none ∈ kUW := kUW_t1 87 (by decide +kernel) rfl
theorem min_yX3_init : Cond.initialized yX3_init.cls ∈ kUW := mini_TaleMachine_Frames
theorem hd_yX3_init : yX3_init.cls ≠ "java/lang/invoke/MethodHandle" ∧ yX3_init.cls ≠ "java/lang/invoke/VarHandle" ∧ (parseMethodDescriptor yX3_init.desc).map (fun d => d.parameters.length) = some 0 := by decide +kernel
theorem mim_yX3_init : Cond.instanceMethod yX3_init ∈ kUW := kUW_t1 86 (by decide +kernel) rfl
theorem mcd_yX3_clear : Cond.code yX3_clear cX3_clear 1 none ∈ kUW := kUW_t1 92 (by decide +kernel) rfl
theorem min_yX3_clear : Cond.initialized yX3_clear.cls ∈ kUW := mini_TaleMachine_Frames
theorem hd_yX3_clear : yX3_clear.cls ≠ "java/lang/invoke/MethodHandle" ∧ yX3_clear.cls ≠ "java/lang/invoke/VarHandle" ∧ (parseMethodDescriptor yX3_clear.desc).map (fun d => d.parameters.length) = some 0 := by decide +kernel
theorem mim_yX3_clear : Cond.instanceMethod yX3_clear ∈ kUW := kUW_t1 91 (by decide +kernel) rfl
theorem mse_yX3_clear : Cond.selects "TaleMachine$Frames" yX3_clear yX3_clear ∈ kUW := kUW_mem 0 (by decide +kernel) rfl
theorem mcd_yX3_copyFrom : Cond.code yX3_copyFrom cX3_copyFrom 2 none ∈ kUW := kUW_t5 12 (by decide +kernel) rfl
theorem min_yX3_copyFrom : Cond.initialized yX3_copyFrom.cls ∈ kUW := mini_TaleMachine_Frames
theorem hd_yX3_copyFrom : yX3_copyFrom.cls ≠ "java/lang/invoke/MethodHandle" ∧ yX3_copyFrom.cls ≠ "java/lang/invoke/VarHandle" ∧ (parseMethodDescriptor yX3_copyFrom.desc).map (fun d => d.parameters.length) = some 1 := by decide +kernel
theorem mim_yX3_copyFrom : Cond.instanceMethod yX3_copyFrom ∈ kUW := kUW_t5 11 (by decide +kernel) rfl
theorem mse_yX3_copyFrom : Cond.selects "TaleMachine$Frames" yX3_copyFrom yX3_copyFrom ∈ kUW := kUW_mem 92 (by decide +kernel) rfl
theorem mcd_yX3_isFull : Cond.code yX3_isFull cX3_isFull 1 (some .boolean) ∈ kUW := kUW_t3 58 (by decide +kernel) rfl
theorem min_yX3_isFull : Cond.initialized yX3_isFull.cls ∈ kUW := mini_TaleMachine_Frames
theorem hd_yX3_isFull : yX3_isFull.cls ≠ "java/lang/invoke/MethodHandle" ∧ yX3_isFull.cls ≠ "java/lang/invoke/VarHandle" ∧ (parseMethodDescriptor yX3_isFull.desc).map (fun d => d.parameters.length) = some 0 := by decide +kernel
theorem mim_yX3_isFull : Cond.instanceMethod yX3_isFull ∈ kUW := kUW_t3 57 (by decide +kernel) rfl
theorem mse_yX3_isFull : Cond.selects "TaleMachine$Frames" yX3_isFull yX3_isFull ∈ kUW := kUW_mem 30 (by decide +kernel) rfl
theorem mcd_yX3_hasOwnWord : Cond.code yX3_hasOwnWord cX3_hasOwnWord 1 (some .boolean) ∈ kUW := kUW_t2 237 (by decide +kernel) rfl
theorem min_yX3_hasOwnWord : Cond.initialized yX3_hasOwnWord.cls ∈ kUW := mini_TaleMachine_Frames
theorem hd_yX3_hasOwnWord : yX3_hasOwnWord.cls ≠ "java/lang/invoke/MethodHandle" ∧ yX3_hasOwnWord.cls ≠ "java/lang/invoke/VarHandle" ∧ (parseMethodDescriptor yX3_hasOwnWord.desc).map (fun d => d.parameters.length) = some 0 := by decide +kernel
theorem mim_yX3_hasOwnWord : Cond.instanceMethod yX3_hasOwnWord ∈ kUW := kUW_t2 236 (by decide +kernel) rfl
theorem mse_yX3_hasOwnWord : Cond.selects "TaleMachine$Frames" yX3_hasOwnWord yX3_hasOwnWord ∈ kUW := kUW_mem 18 (by decide +kernel) rfl
theorem mcd_yX3_localCount : Cond.code yX3_localCount cX3_localCount 1 (some .int) ∈ kUW := kUW_t3 10 (by decide +kernel) rfl
theorem min_yX3_localCount : Cond.initialized yX3_localCount.cls ∈ kUW := mini_TaleMachine_Frames
theorem hd_yX3_localCount : yX3_localCount.cls ≠ "java/lang/invoke/MethodHandle" ∧ yX3_localCount.cls ≠ "java/lang/invoke/VarHandle" ∧ (parseMethodDescriptor yX3_localCount.desc).map (fun d => d.parameters.length) = some 0 := by decide +kernel
theorem mim_yX3_localCount : Cond.instanceMethod yX3_localCount ∈ kUW := kUW_t3 9 (by decide +kernel) rfl
theorem mse_yX3_localCount : Cond.selects "TaleMachine$Frames" yX3_localCount yX3_localCount ∈ kUW := kUW_mem 21 (by decide +kernel) rfl
theorem mcd_yX3_localAt : Cond.code yX3_localAt cX3_localAt 2 (some .int) ∈ kUW := kUW_t3 14 (by decide +kernel) rfl
theorem min_yX3_localAt : Cond.initialized yX3_localAt.cls ∈ kUW := mini_TaleMachine_Frames
theorem hd_yX3_localAt : yX3_localAt.cls ≠ "java/lang/invoke/MethodHandle" ∧ yX3_localAt.cls ≠ "java/lang/invoke/VarHandle" ∧ (parseMethodDescriptor yX3_localAt.desc).map (fun d => d.parameters.length) = some 1 := by decide +kernel
theorem mim_yX3_localAt : Cond.instanceMethod yX3_localAt ∈ kUW := kUW_t3 13 (by decide +kernel) rfl
theorem mse_yX3_localAt : Cond.selects "TaleMachine$Frames" yX3_localAt yX3_localAt ∈ kUW := kUW_mem 22 (by decide +kernel) rfl
theorem mcd_yX3_setLocal : Cond.code yX3_setLocal cX3_setLocal 3 none ∈ kUW := kUW_t3 54 (by decide +kernel) rfl
theorem min_yX3_setLocal : Cond.initialized yX3_setLocal.cls ∈ kUW := mini_TaleMachine_Frames
theorem hd_yX3_setLocal : yX3_setLocal.cls ≠ "java/lang/invoke/MethodHandle" ∧ yX3_setLocal.cls ≠ "java/lang/invoke/VarHandle" ∧ (parseMethodDescriptor yX3_setLocal.desc).map (fun d => d.parameters.length) = some 2 := by decide +kernel
theorem mim_yX3_setLocal : Cond.instanceMethod yX3_setLocal ∈ kUW := kUW_t3 53 (by decide +kernel) rfl
theorem mse_yX3_setLocal : Cond.selects "TaleMachine$Frames" yX3_setLocal yX3_setLocal ∈ kUW := kUW_mem 29 (by decide +kernel) rfl
theorem mcd_yX3_prepareLocal : Cond.code yX3_prepareLocal cX3_prepareLocal 3 none ∈ kUW := kUW_t3 63 (by decide +kernel) rfl
theorem min_yX3_prepareLocal : Cond.initialized yX3_prepareLocal.cls ∈ kUW := mini_TaleMachine_Frames
theorem hd_yX3_prepareLocal : yX3_prepareLocal.cls ≠ "java/lang/invoke/MethodHandle" ∧ yX3_prepareLocal.cls ≠ "java/lang/invoke/VarHandle" ∧ (parseMethodDescriptor yX3_prepareLocal.desc).map (fun d => d.parameters.length) = some 2 := by decide +kernel
theorem mim_yX3_prepareLocal : Cond.instanceMethod yX3_prepareLocal ∈ kUW := kUW_t3 62 (by decide +kernel) rfl
theorem mse_yX3_prepareLocal : Cond.selects "TaleMachine$Frames" yX3_prepareLocal yX3_prepareLocal ∈ kUW := kUW_mem 31 (by decide +kernel) rfl
theorem mcd_yX3_enter : Cond.code yX3_enter cX3_enter 4 none ∈ kUW := kUW_t3 67 (by decide +kernel) rfl
theorem min_yX3_enter : Cond.initialized yX3_enter.cls ∈ kUW := mini_TaleMachine_Frames
theorem hd_yX3_enter : yX3_enter.cls ≠ "java/lang/invoke/MethodHandle" ∧ yX3_enter.cls ≠ "java/lang/invoke/VarHandle" ∧ (parseMethodDescriptor yX3_enter.desc).map (fun d => d.parameters.length) = some 3 := by decide +kernel
theorem mim_yX3_enter : Cond.instanceMethod yX3_enter ∈ kUW := kUW_t3 66 (by decide +kernel) rfl
theorem mse_yX3_enter : Cond.selects "TaleMachine$Frames" yX3_enter yX3_enter ∈ kUW := kUW_mem 32 (by decide +kernel) rfl
theorem mcd_yX3_leave : Cond.code yX3_leave cX3_leave 1 none ∈ kUW := kUW_t3 136 (by decide +kernel) rfl
theorem min_yX3_leave : Cond.initialized yX3_leave.cls ∈ kUW := mini_TaleMachine_Frames
theorem hd_yX3_leave : yX3_leave.cls ≠ "java/lang/invoke/MethodHandle" ∧ yX3_leave.cls ≠ "java/lang/invoke/VarHandle" ∧ (parseMethodDescriptor yX3_leave.desc).map (fun d => d.parameters.length) = some 0 := by decide +kernel
theorem mim_yX3_leave : Cond.instanceMethod yX3_leave ∈ kUW := kUW_t3 135 (by decide +kernel) rfl
theorem mse_yX3_leave : Cond.selects "TaleMachine$Frames" yX3_leave yX3_leave ∈ kUW := kUW_mem 44 (by decide +kernel) rfl
theorem mcd_yX4_init : Cond.code yX4_init cX4_init 2 none ∈ kUW := kUW_t1 193 (by decide +kernel) rfl
theorem min_yX4_init : Cond.initialized yX4_init.cls ∈ kUW := mini_TaleMachine_Reader
theorem hd_yX4_init : yX4_init.cls ≠ "java/lang/invoke/MethodHandle" ∧ yX4_init.cls ≠ "java/lang/invoke/VarHandle" ∧ (parseMethodDescriptor yX4_init.desc).map (fun d => d.parameters.length) = some 1 := by decide +kernel
theorem mim_yX4_init : Cond.instanceMethod yX4_init ∈ kUW := kUW_t1 192 (by decide +kernel) rfl
theorem mcd_yX4_hear : Cond.code yX4_hear cX4_hear 7 none ∈ kUW := kUW_t4 103 (by decide +kernel) rfl
theorem min_yX4_hear : Cond.initialized yX4_hear.cls ∈ kUW := mini_TaleMachine_Reader
theorem hd_yX4_hear : yX4_hear.cls ≠ "java/lang/invoke/MethodHandle" ∧ yX4_hear.cls ≠ "java/lang/invoke/VarHandle" ∧ (parseMethodDescriptor yX4_hear.desc).map (fun d => d.parameters.length) = some 2 := by decide +kernel
theorem mim_yX4_hear : Cond.instanceMethod yX4_hear ∈ kUW := kUW_t4 102 (by decide +kernel) rfl
theorem mse_yX4_hear : Cond.selects "TaleMachine$Reader" yX4_hear yX4_hear ∈ kUW := kUW_mem 79 (by decide +kernel) rfl
theorem mcd_yX4_part : Cond.code yX4_part cX4_part 7 (some .int) ∈ kUW := kUW_t4 107 (by decide +kernel) rfl
theorem min_yX4_part : Cond.initialized yX4_part.cls ∈ kUW := mini_TaleMachine_Reader
theorem hd_yX4_part : yX4_part.cls ≠ "java/lang/invoke/MethodHandle" ∧ yX4_part.cls ≠ "java/lang/invoke/VarHandle" ∧ (parseMethodDescriptor yX4_part.desc).map (fun d => d.parameters.length) = some 2 := by decide +kernel
theorem mim_yX4_part : Cond.instanceMethod yX4_part ∈ kUW := kUW_t4 106 (by decide +kernel) rfl
theorem mse_yX4_part : Cond.selects "TaleMachine$Reader" yX4_part yX4_part ∈ kUW := kUW_mem 80 (by decide +kernel) rfl
theorem mcd_yX4_layLine : Cond.code yX4_layLine cX4_layLine 3 none ∈ kUW := kUW_t4 111 (by decide +kernel) rfl
theorem min_yX4_layLine : Cond.initialized yX4_layLine.cls ∈ kUW := mini_TaleMachine_Reader
theorem hd_yX4_layLine : yX4_layLine.cls ≠ "java/lang/invoke/MethodHandle" ∧ yX4_layLine.cls ≠ "java/lang/invoke/VarHandle" ∧ (parseMethodDescriptor yX4_layLine.desc).map (fun d => d.parameters.length) = some 1 := by decide +kernel
theorem mim_yX4_layLine : Cond.instanceMethod yX4_layLine ∈ kUW := kUW_t4 110 (by decide +kernel) rfl
theorem mse_yX4_layLine : Cond.selects "TaleMachine$Reader" yX4_layLine yX4_layLine ∈ kUW := kUW_mem 81 (by decide +kernel) rfl
theorem mcd_yX4_isSeparator : Cond.code yX4_isSeparator cX4_isSeparator 4 (some .boolean) ∈ kUW := kUW_t4 118 (by decide +kernel) rfl
theorem min_yX4_isSeparator : Cond.initialized yX4_isSeparator.cls ∈ kUW := mini_TaleMachine_Reader
theorem hd_yX4_isSeparator : yX4_isSeparator.cls ≠ "java/lang/invoke/MethodHandle" ∧ yX4_isSeparator.cls ≠ "java/lang/invoke/VarHandle" ∧ (parseMethodDescriptor yX4_isSeparator.desc).map (fun d => d.parameters.length) = some 1 := by decide +kernel
theorem mim_yX4_isSeparator : Cond.instanceMethod yX4_isSeparator ∈ kUW := kUW_t4 117 (by decide +kernel) rfl
theorem mse_yX4_isSeparator : Cond.selects "TaleMachine$Reader" yX4_isSeparator yX4_isSeparator ∈ kUW := kUW_mem 82 (by decide +kernel) rfl
theorem mcd_yX4_tellWord : Cond.code yX4_tellWord cX4_tellWord 3 none ∈ kUW := kUW_t4 122 (by decide +kernel) rfl
theorem min_yX4_tellWord : Cond.initialized yX4_tellWord.cls ∈ kUW := mini_TaleMachine_Reader
theorem hd_yX4_tellWord : yX4_tellWord.cls ≠ "java/lang/invoke/MethodHandle" ∧ yX4_tellWord.cls ≠ "java/lang/invoke/VarHandle" ∧ (parseMethodDescriptor yX4_tellWord.desc).map (fun d => d.parameters.length) = some 2 := by decide +kernel
theorem mim_yX4_tellWord : Cond.instanceMethod yX4_tellWord ∈ kUW := kUW_t4 121 (by decide +kernel) rfl
theorem mse_yX4_tellWord : Cond.selects "TaleMachine$Reader" yX4_tellWord yX4_tellWord ∈ kUW := kUW_mem 83 (by decide +kernel) rfl
theorem mcd_yX4_spell : Cond.code yX4_spell cX4_spell 6 none ∈ kUW := kUW_t4 126 (by decide +kernel) rfl
theorem min_yX4_spell : Cond.initialized yX4_spell.cls ∈ kUW := mini_TaleMachine_Reader
theorem hd_yX4_spell : yX4_spell.cls ≠ "java/lang/invoke/MethodHandle" ∧ yX4_spell.cls ≠ "java/lang/invoke/VarHandle" ∧ (parseMethodDescriptor yX4_spell.desc).map (fun d => d.parameters.length) = some 2 := by decide +kernel
theorem mim_yX4_spell : Cond.instanceMethod yX4_spell ∈ kUW := kUW_t4 125 (by decide +kernel) rfl
theorem mse_yX4_spell : Cond.selects "TaleMachine$Reader" yX4_spell yX4_spell ∈ kUW := kUW_mem 84 (by decide +kernel) rfl
theorem mcd_yX4_addLetter : Cond.code yX4_addLetter cX4_addLetter 2 none ∈ kUW := kUW_t4 186 (by decide +kernel) rfl
theorem min_yX4_addLetter : Cond.initialized yX4_addLetter.cls ∈ kUW := mini_TaleMachine_Reader
theorem hd_yX4_addLetter : yX4_addLetter.cls ≠ "java/lang/invoke/MethodHandle" ∧ yX4_addLetter.cls ≠ "java/lang/invoke/VarHandle" ∧ (parseMethodDescriptor yX4_addLetter.desc).map (fun d => d.parameters.length) = some 1 := by decide +kernel
theorem mim_yX4_addLetter : Cond.instanceMethod yX4_addLetter ∈ kUW := kUW_t4 185 (by decide +kernel) rfl
theorem mse_yX4_addLetter : Cond.selects "TaleMachine$Reader" yX4_addLetter yX4_addLetter ∈ kUW := kUW_mem 85 (by decide +kernel) rfl
theorem mcd_yX4_spelledWord : Cond.code yX4_spelledWord cX4_spelledWord 2 (some .int) ∈ kUW := kUW_t4 190 (by decide +kernel) rfl
theorem min_yX4_spelledWord : Cond.initialized yX4_spelledWord.cls ∈ kUW := mini_TaleMachine_Reader
theorem hd_yX4_spelledWord : yX4_spelledWord.cls ≠ "java/lang/invoke/MethodHandle" ∧ yX4_spelledWord.cls ≠ "java/lang/invoke/VarHandle" ∧ (parseMethodDescriptor yX4_spelledWord.desc).map (fun d => d.parameters.length) = some 1 := by decide +kernel
theorem mim_yX4_spelledWord : Cond.instanceMethod yX4_spelledWord ∈ kUW := kUW_t4 189 (by decide +kernel) rfl
theorem mse_yX4_spelledWord : Cond.selects "TaleMachine$Reader" yX4_spelledWord yX4_spelledWord ∈ kUW := kUW_mem 86 (by decide +kernel) rfl
theorem mcd_yX4_entryOf : Cond.code yX4_entryOf cX4_entryOf 10 (some .int) ∈ kUW := kUW_t4 195 (by decide +kernel) rfl
theorem min_yX4_entryOf : Cond.initialized yX4_entryOf.cls ∈ kUW := mini_TaleMachine_Reader
theorem hd_yX4_entryOf : yX4_entryOf.cls ≠ "java/lang/invoke/MethodHandle" ∧ yX4_entryOf.cls ≠ "java/lang/invoke/VarHandle" ∧ (parseMethodDescriptor yX4_entryOf.desc).map (fun d => d.parameters.length) = some 2 := by decide +kernel
theorem mim_yX4_entryOf : Cond.instanceMethod yX4_entryOf ∈ kUW := kUW_t4 194 (by decide +kernel) rfl
theorem mse_yX4_entryOf : Cond.selects "TaleMachine$Reader" yX4_entryOf yX4_entryOf ∈ kUW := kUW_mem 87 (by decide +kernel) rfl
theorem mcd_yX5_init : Cond.code yX5_init cX5_init 1 none ∈ kUW := kUW_t2 75 (by decide +kernel) rfl
theorem min_yX5_init : Cond.initialized yX5_init.cls ∈ kUW := mini_TaleMachine_Slot
theorem hd_yX5_init : yX5_init.cls ≠ "java/lang/invoke/MethodHandle" ∧ yX5_init.cls ≠ "java/lang/invoke/VarHandle" ∧ (parseMethodDescriptor yX5_init.desc).map (fun d => d.parameters.length) = some 0 := by decide +kernel
theorem mim_yX5_init : Cond.instanceMethod yX5_init ∈ kUW := kUW_t2 74 (by decide +kernel) rfl
theorem mcd_yX5_keep : Cond.code yX5_keep cX5_keep 4 none ∈ kUW := kUW_t4 237 (by decide +kernel) rfl
theorem min_yX5_keep : Cond.initialized yX5_keep.cls ∈ kUW := mini_TaleMachine_Slot
theorem hd_yX5_keep : yX5_keep.cls ≠ "java/lang/invoke/MethodHandle" ∧ yX5_keep.cls ≠ "java/lang/invoke/VarHandle" ∧ (parseMethodDescriptor yX5_keep.desc).map (fun d => d.parameters.length) = some 3 := by decide +kernel
theorem mim_yX5_keep : Cond.instanceMethod yX5_keep ∈ kUW := kUW_t4 236 (by decide +kernel) rfl
theorem mse_yX5_keep : Cond.selects "TaleMachine$Slot" yX5_keep yX5_keep ∈ kUW := kUW_mem 89 (by decide +kernel) rfl
theorem mcd_yX5_giveBack : Cond.code yX5_giveBack cX5_giveBack 4 none ∈ kUW := kUW_t5 21 (by decide +kernel) rfl
theorem min_yX5_giveBack : Cond.initialized yX5_giveBack.cls ∈ kUW := mini_TaleMachine_Slot
theorem hd_yX5_giveBack : yX5_giveBack.cls ≠ "java/lang/invoke/MethodHandle" ∧ yX5_giveBack.cls ≠ "java/lang/invoke/VarHandle" ∧ (parseMethodDescriptor yX5_giveBack.desc).map (fun d => d.parameters.length) = some 3 := by decide +kernel
theorem mim_yX5_giveBack : Cond.instanceMethod yX5_giveBack ∈ kUW := kUW_t5 20 (by decide +kernel) rfl
theorem mse_yX5_giveBack : Cond.selects "TaleMachine$Slot" yX5_giveBack yX5_giveBack ∈ kUW := kUW_mem 93 (by decide +kernel) rfl
theorem mcd_yX5_changeAt : Cond.code yX5_changeAt cX5_changeAt 2 (some .int) ∈ kUW := kUW_t5 4 (by decide +kernel) rfl
theorem min_yX5_changeAt : Cond.initialized yX5_changeAt.cls ∈ kUW := mini_TaleMachine_Slot
theorem hd_yX5_changeAt : yX5_changeAt.cls ≠ "java/lang/invoke/MethodHandle" ∧ yX5_changeAt.cls ≠ "java/lang/invoke/VarHandle" ∧ (parseMethodDescriptor yX5_changeAt.desc).map (fun d => d.parameters.length) = some 2 := by decide +kernel
theorem mst_yX5_changeAt : Cond.static yX5_changeAt ∈ kUW := kUW_t5 3 (by decide +kernel) rfl
theorem mcd_yX5_squeeze : Cond.code yX5_squeeze cX5_squeeze 6 none ∈ kUW := kUW_t5 1 (by decide +kernel) rfl
theorem min_yX5_squeeze : Cond.initialized yX5_squeeze.cls ∈ kUW := mini_TaleMachine_Slot
theorem hd_yX5_squeeze : yX5_squeeze.cls ≠ "java/lang/invoke/MethodHandle" ∧ yX5_squeeze.cls ≠ "java/lang/invoke/VarHandle" ∧ (parseMethodDescriptor yX5_squeeze.desc).map (fun d => d.parameters.length) = some 1 := by decide +kernel
theorem mim_yX5_squeeze : Cond.instanceMethod yX5_squeeze ∈ kUW := kUW_t5 0 (by decide +kernel) rfl
theorem mse_yX5_squeeze : Cond.selects "TaleMachine$Slot" yX5_squeeze yX5_squeeze ∈ kUW := kUW_mem 90 (by decide +kernel) rfl
theorem mcd_yX5_add : Cond.code yX5_add cX5_add 2 none ∈ kUW := kUW_t5 8 (by decide +kernel) rfl
theorem min_yX5_add : Cond.initialized yX5_add.cls ∈ kUW := mini_TaleMachine_Slot
theorem hd_yX5_add : yX5_add.cls ≠ "java/lang/invoke/MethodHandle" ∧ yX5_add.cls ≠ "java/lang/invoke/VarHandle" ∧ (parseMethodDescriptor yX5_add.desc).map (fun d => d.parameters.length) = some 1 := by decide +kernel
theorem mim_yX5_add : Cond.instanceMethod yX5_add ∈ kUW := kUW_t5 7 (by decide +kernel) rfl
theorem mse_yX5_add : Cond.selects "TaleMachine$Slot" yX5_add yX5_add ∈ kUW := kUW_mem 91 (by decide +kernel) rfl
theorem mcd_yX5_expand : Cond.code yX5_expand cX5_expand 4 none ∈ kUW := kUW_t5 25 (by decide +kernel) rfl
theorem min_yX5_expand : Cond.initialized yX5_expand.cls ∈ kUW := mini_TaleMachine_Slot
theorem hd_yX5_expand : yX5_expand.cls ≠ "java/lang/invoke/MethodHandle" ∧ yX5_expand.cls ≠ "java/lang/invoke/VarHandle" ∧ (parseMethodDescriptor yX5_expand.desc).map (fun d => d.parameters.length) = some 1 := by decide +kernel
theorem mim_yX5_expand : Cond.instanceMethod yX5_expand ∈ kUW := kUW_t5 24 (by decide +kernel) rfl
theorem mse_yX5_expand : Cond.selects "TaleMachine$Slot" yX5_expand yX5_expand ∈ kUW := kUW_mem 94 (by decide +kernel) rfl
theorem mcd_yX6_init : Cond.code yX6_init cX6_init 1 none ∈ kUW := kUW_t1 31 (by decide +kernel) rfl
theorem min_yX6_init : Cond.initialized yX6_init.cls ∈ kUW := mini_TaleMachine_Store
theorem hd_yX6_init : yX6_init.cls ≠ "java/lang/invoke/MethodHandle" ∧ yX6_init.cls ≠ "java/lang/invoke/VarHandle" ∧ (parseMethodDescriptor yX6_init.desc).map (fun d => d.parameters.length) = some 0 := by decide +kernel
theorem mim_yX6_init : Cond.instanceMethod yX6_init ∈ kUW := kUW_t1 30 (by decide +kernel) rfl
theorem mcd_yX6_take : Cond.code yX6_take cX6_take 3 (some .int) ∈ kUW := kUW_t2 157 (by decide +kernel) rfl
theorem min_yX6_take : Cond.initialized yX6_take.cls ∈ kUW := mini_TaleMachine_Store
theorem hd_yX6_take : yX6_take.cls ≠ "java/lang/invoke/MethodHandle" ∧ yX6_take.cls ≠ "java/lang/invoke/VarHandle" ∧ (parseMethodDescriptor yX6_take.desc).map (fun d => d.parameters.length) = some 2 := by decide +kernel
theorem mim_yX6_take : Cond.instanceMethod yX6_take ∈ kUW := kUW_t2 156 (by decide +kernel) rfl
theorem mse_yX6_take : Cond.selects "TaleMachine$Store" yX6_take yX6_take ∈ kUW := kUW_mem 2 (by decide +kernel) rfl
theorem mcd_yX6_headerFault : Cond.code yX6_headerFault cX6_headerFault 3 (some .int) ∈ kUW := kUW_t2 174 (by decide +kernel) rfl
theorem min_yX6_headerFault : Cond.initialized yX6_headerFault.cls ∈ kUW := mini_TaleMachine_Store
theorem hd_yX6_headerFault : yX6_headerFault.cls ≠ "java/lang/invoke/MethodHandle" ∧ yX6_headerFault.cls ≠ "java/lang/invoke/VarHandle" ∧ (parseMethodDescriptor yX6_headerFault.desc).map (fun d => d.parameters.length) = some 0 := by decide +kernel
theorem mim_yX6_headerFault : Cond.instanceMethod yX6_headerFault ∈ kUW := kUW_t2 173 (by decide +kernel) rfl
theorem mse_yX6_headerFault : Cond.selects "TaleMachine$Store" yX6_headerFault yX6_headerFault ∈ kUW := kUW_mem 4 (by decide +kernel) rfl
theorem mcd_yX6_loadedWord : Cond.code yX6_loadedWord cX6_loadedWord 2 (some .int) ∈ kUW := kUW_t2 170 (by decide +kernel) rfl
theorem min_yX6_loadedWord : Cond.initialized yX6_loadedWord.cls ∈ kUW := mini_TaleMachine_Store
theorem hd_yX6_loadedWord : yX6_loadedWord.cls ≠ "java/lang/invoke/MethodHandle" ∧ yX6_loadedWord.cls ≠ "java/lang/invoke/VarHandle" ∧ (parseMethodDescriptor yX6_loadedWord.desc).map (fun d => d.parameters.length) = some 1 := by decide +kernel
theorem mim_yX6_loadedWord : Cond.instanceMethod yX6_loadedWord ∈ kUW := kUW_t2 169 (by decide +kernel) rfl
theorem mse_yX6_loadedWord : Cond.selects "TaleMachine$Store" yX6_loadedWord yX6_loadedWord ∈ kUW := kUW_mem 3 (by decide +kernel) rfl
theorem mcd_yX6_loadedSum : Cond.code yX6_loadedSum cX6_loadedSum 3 (some .int) ∈ kUW := kUW_t2 178 (by decide +kernel) rfl
theorem min_yX6_loadedSum : Cond.initialized yX6_loadedSum.cls ∈ kUW := mini_TaleMachine_Store
theorem hd_yX6_loadedSum : yX6_loadedSum.cls ≠ "java/lang/invoke/MethodHandle" ∧ yX6_loadedSum.cls ≠ "java/lang/invoke/VarHandle" ∧ (parseMethodDescriptor yX6_loadedSum.desc).map (fun d => d.parameters.length) = some 0 := by decide +kernel
theorem mim_yX6_loadedSum : Cond.instanceMethod yX6_loadedSum ∈ kUW := kUW_t2 177 (by decide +kernel) rfl
theorem mse_yX6_loadedSum : Cond.selects "TaleMachine$Store" yX6_loadedSum yX6_loadedSum ∈ kUW := kUW_mem 5 (by decide +kernel) rfl
theorem mcd_yX6_renew : Cond.code yX6_renew cX6_renew 1 none ∈ kUW := kUW_t2 191 (by decide +kernel) rfl
theorem min_yX6_renew : Cond.initialized yX6_renew.cls ∈ kUW := mini_TaleMachine_Store
theorem hd_yX6_renew : yX6_renew.cls ≠ "java/lang/invoke/MethodHandle" ∧ yX6_renew.cls ≠ "java/lang/invoke/VarHandle" ∧ (parseMethodDescriptor yX6_renew.desc).map (fun d => d.parameters.length) = some 0 := by decide +kernel
theorem mim_yX6_renew : Cond.instanceMethod yX6_renew ∈ kUW := kUW_t2 190 (by decide +kernel) rfl
theorem mse_yX6_renew : Cond.selects "TaleMachine$Store" yX6_renew yX6_renew ∈ kUW := kUW_mem 8 (by decide +kernel) rfl
theorem mcd_yX6_raise : Cond.code yX6_raise cX6_raise 2 none ∈ kUW := kUW_t2 216 (by decide +kernel) rfl
theorem min_yX6_raise : Cond.initialized yX6_raise.cls ∈ kUW := mini_TaleMachine_Store
theorem hd_yX6_raise : yX6_raise.cls ≠ "java/lang/invoke/MethodHandle" ∧ yX6_raise.cls ≠ "java/lang/invoke/VarHandle" ∧ (parseMethodDescriptor yX6_raise.desc).map (fun d => d.parameters.length) = some 1 := by decide +kernel
theorem mim_yX6_raise : Cond.instanceMethod yX6_raise ∈ kUW := kUW_t2 215 (by decide +kernel) rfl
theorem mse_yX6_raise : Cond.selects "TaleMachine$Store" yX6_raise yX6_raise ∈ kUW := kUW_mem 13 (by decide +kernel) rfl
theorem mcd_yX6_byteAt : Cond.code yX6_byteAt cX6_byteAt 3 (some .int) ∈ kUW := kUW_t2 212 (by decide +kernel) rfl
theorem min_yX6_byteAt : Cond.initialized yX6_byteAt.cls ∈ kUW := mini_TaleMachine_Store
theorem hd_yX6_byteAt : yX6_byteAt.cls ≠ "java/lang/invoke/MethodHandle" ∧ yX6_byteAt.cls ≠ "java/lang/invoke/VarHandle" ∧ (parseMethodDescriptor yX6_byteAt.desc).map (fun d => d.parameters.length) = some 1 := by decide +kernel
theorem mim_yX6_byteAt : Cond.instanceMethod yX6_byteAt ∈ kUW := kUW_t2 211 (by decide +kernel) rfl
theorem mse_yX6_byteAt : Cond.selects "TaleMachine$Store" yX6_byteAt yX6_byteAt ∈ kUW := kUW_mem 12 (by decide +kernel) rfl
theorem mcd_yX6_wordAt : Cond.code yX6_wordAt cX6_wordAt 4 (some .int) ∈ kUW := kUW_t3 6 (by decide +kernel) rfl
theorem min_yX6_wordAt : Cond.initialized yX6_wordAt.cls ∈ kUW := mini_TaleMachine_Store
theorem hd_yX6_wordAt : yX6_wordAt.cls ≠ "java/lang/invoke/MethodHandle" ∧ yX6_wordAt.cls ≠ "java/lang/invoke/VarHandle" ∧ (parseMethodDescriptor yX6_wordAt.desc).map (fun d => d.parameters.length) = some 1 := by decide +kernel
theorem mim_yX6_wordAt : Cond.instanceMethod yX6_wordAt ∈ kUW := kUW_t3 5 (by decide +kernel) rfl
theorem mse_yX6_wordAt : Cond.selects "TaleMachine$Store" yX6_wordAt yX6_wordAt ∈ kUW := kUW_mem 20 (by decide +kernel) rfl
theorem mcd_yX6_putByte : Cond.code yX6_putByte cX6_putByte 4 none ∈ kUW := kUW_t3 72 (by decide +kernel) rfl
theorem min_yX6_putByte : Cond.initialized yX6_putByte.cls ∈ kUW := mini_TaleMachine_Store
theorem hd_yX6_putByte : yX6_putByte.cls ≠ "java/lang/invoke/MethodHandle" ∧ yX6_putByte.cls ≠ "java/lang/invoke/VarHandle" ∧ (parseMethodDescriptor yX6_putByte.desc).map (fun d => d.parameters.length) = some 2 := by decide +kernel
theorem mim_yX6_putByte : Cond.instanceMethod yX6_putByte ∈ kUW := kUW_t3 71 (by decide +kernel) rfl
theorem mse_yX6_putByte : Cond.selects "TaleMachine$Store" yX6_putByte yX6_putByte ∈ kUW := kUW_mem 33 (by decide +kernel) rfl
theorem mcd_yX6_putWord : Cond.code yX6_putWord cX6_putWord 5 none ∈ kUW := kUW_t3 50 (by decide +kernel) rfl
theorem min_yX6_putWord : Cond.initialized yX6_putWord.cls ∈ kUW := mini_TaleMachine_Store
theorem hd_yX6_putWord : yX6_putWord.cls ≠ "java/lang/invoke/MethodHandle" ∧ yX6_putWord.cls ≠ "java/lang/invoke/VarHandle" ∧ (parseMethodDescriptor yX6_putWord.desc).map (fun d => d.parameters.length) = some 2 := by decide +kernel
theorem mim_yX6_putWord : Cond.instanceMethod yX6_putWord ∈ kUW := kUW_t3 49 (by decide +kernel) rfl
theorem mse_yX6_putWord : Cond.selects "TaleMachine$Store" yX6_putWord yX6_putWord ∈ kUW := kUW_mem 28 (by decide +kernel) rfl
theorem mcd_yX7_init : Cond.code yX7_init cX7_init 2 none ∈ kUW := kUW_t1 144 (by decide +kernel) rfl
theorem min_yX7_init : Cond.initialized yX7_init.cls ∈ kUW := mini_TaleMachine_Teller
theorem hd_yX7_init : yX7_init.cls ≠ "java/lang/invoke/MethodHandle" ∧ yX7_init.cls ≠ "java/lang/invoke/VarHandle" ∧ (parseMethodDescriptor yX7_init.desc).map (fun d => d.parameters.length) = some 1 := by decide +kernel
theorem mim_yX7_init : Cond.instanceMethod yX7_init ∈ kUW := kUW_t1 143 (by decide +kernel) rfl
theorem mcd_yX7_tell : Cond.code yX7_tell cX7_tell 4 (some .int) ∈ kUW := kUW_t3 140 (by decide +kernel) rfl
theorem min_yX7_tell : Cond.initialized yX7_tell.cls ∈ kUW := mini_TaleMachine_Teller
theorem hd_yX7_tell : yX7_tell.cls ≠ "java/lang/invoke/MethodHandle" ∧ yX7_tell.cls ≠ "java/lang/invoke/VarHandle" ∧ (parseMethodDescriptor yX7_tell.desc).map (fun d => d.parameters.length) = some 2 := by decide +kernel
theorem mim_yX7_tell : Cond.instanceMethod yX7_tell ∈ kUW := kUW_t3 139 (by decide +kernel) rfl
theorem mse_yX7_tell : Cond.selects "TaleMachine$Teller" yX7_tell yX7_tell ∈ kUW := kUW_mem 45 (by decide +kernel) rfl
theorem mcd_yX7_open : Cond.code yX7_open cX7_open 2 none ∈ kUW := kUW_t3 144 (by decide +kernel) rfl
theorem min_yX7_open : Cond.initialized yX7_open.cls ∈ kUW := mini_TaleMachine_Teller
theorem hd_yX7_open : yX7_open.cls ≠ "java/lang/invoke/MethodHandle" ∧ yX7_open.cls ≠ "java/lang/invoke/VarHandle" ∧ (parseMethodDescriptor yX7_open.desc).map (fun d => d.parameters.length) = some 1 := by decide +kernel
theorem mim_yX7_open : Cond.instanceMethod yX7_open ∈ kUW := kUW_t3 143 (by decide +kernel) rfl
theorem mse_yX7_open : Cond.selects "TaleMachine$Teller" yX7_open yX7_open ∈ kUW := kUW_mem 46 (by decide +kernel) rfl
theorem mcd_yX7_nextWord : Cond.code yX7_nextWord cX7_nextWord 1 none ∈ kUW := kUW_t3 225 (by decide +kernel) rfl
theorem min_yX7_nextWord : Cond.initialized yX7_nextWord.cls ∈ kUW := mini_TaleMachine_Teller
theorem hd_yX7_nextWord : yX7_nextWord.cls ≠ "java/lang/invoke/MethodHandle" ∧ yX7_nextWord.cls ≠ "java/lang/invoke/VarHandle" ∧ (parseMethodDescriptor yX7_nextWord.desc).map (fun d => d.parameters.length) = some 0 := by decide +kernel
theorem mim_yX7_nextWord : Cond.instanceMethod yX7_nextWord ∈ kUW := kUW_t3 224 (by decide +kernel) rfl
theorem mse_yX7_nextWord : Cond.selects "TaleMachine$Teller" yX7_nextWord yX7_nextWord ∈ kUW := kUW_mem 53 (by decide +kernel) rfl
theorem mcd_yX7_goOnOutside : Cond.code yX7_goOnOutside cX7_goOnOutside 1 none ∈ kUW := kUW_t3 229 (by decide +kernel) rfl
theorem min_yX7_goOnOutside : Cond.initialized yX7_goOnOutside.cls ∈ kUW := mini_TaleMachine_Teller
theorem hd_yX7_goOnOutside : yX7_goOnOutside.cls ≠ "java/lang/invoke/MethodHandle" ∧ yX7_goOnOutside.cls ≠ "java/lang/invoke/VarHandle" ∧ (parseMethodDescriptor yX7_goOnOutside.desc).map (fun d => d.parameters.length) = some 0 := by decide +kernel
theorem mim_yX7_goOnOutside : Cond.instanceMethod yX7_goOnOutside ∈ kUW := kUW_t3 228 (by decide +kernel) rfl
theorem mse_yX7_goOnOutside : Cond.selects "TaleMachine$Teller" yX7_goOnOutside yX7_goOnOutside ∈ kUW := kUW_mem 54 (by decide +kernel) rfl
theorem mcd_yX7_nextLetter : Cond.code yX7_nextLetter cX7_nextLetter 2 none ∈ kUW := kUW_t3 148 (by decide +kernel) rfl
theorem min_yX7_nextLetter : Cond.initialized yX7_nextLetter.cls ∈ kUW := mini_TaleMachine_Teller
theorem hd_yX7_nextLetter : yX7_nextLetter.cls ≠ "java/lang/invoke/MethodHandle" ∧ yX7_nextLetter.cls ≠ "java/lang/invoke/VarHandle" ∧ (parseMethodDescriptor yX7_nextLetter.desc).map (fun d => d.parameters.length) = some 0 := by decide +kernel
theorem mim_yX7_nextLetter : Cond.instanceMethod yX7_nextLetter ∈ kUW := kUW_t3 147 (by decide +kernel) rfl
theorem mse_yX7_nextLetter : Cond.selects "TaleMachine$Teller" yX7_nextLetter yX7_nextLetter ∈ kUW := kUW_mem 47 (by decide +kernel) rfl
theorem mcd_yX7_plainLetter : Cond.code yX7_plainLetter cX7_plainLetter 3 (some .int) ∈ kUW := kUW_t3 153 (by decide +kernel) rfl
theorem min_yX7_plainLetter : Cond.initialized yX7_plainLetter.cls ∈ kUW := mini_TaleMachine_Teller
theorem hd_yX7_plainLetter : yX7_plainLetter.cls ≠ "java/lang/invoke/MethodHandle" ∧ yX7_plainLetter.cls ≠ "java/lang/invoke/VarHandle" ∧ (parseMethodDescriptor yX7_plainLetter.desc).map (fun d => d.parameters.length) = some 1 := by decide +kernel
theorem mim_yX7_plainLetter : Cond.instanceMethod yX7_plainLetter ∈ kUW := kUW_t3 152 (by decide +kernel) rfl
theorem mse_yX7_plainLetter : Cond.selects "TaleMachine$Teller" yX7_plainLetter yX7_plainLetter ∈ kUW := kUW_mem 48 (by decide +kernel) rfl
theorem mcd_yX7_await : Cond.code yX7_await cX7_await 2 none ∈ kUW := kUW_t3 157 (by decide +kernel) rfl
theorem min_yX7_await : Cond.initialized yX7_await.cls ∈ kUW := mini_TaleMachine_Teller
theorem hd_yX7_await : yX7_await.cls ≠ "java/lang/invoke/MethodHandle" ∧ yX7_await.cls ≠ "java/lang/invoke/VarHandle" ∧ (parseMethodDescriptor yX7_await.desc).map (fun d => d.parameters.length) = some 1 := by decide +kernel
theorem mim_yX7_await : Cond.instanceMethod yX7_await ∈ kUW := kUW_t3 156 (by decide +kernel) rfl
theorem mse_yX7_await : Cond.selects "TaleMachine$Teller" yX7_await yX7_await ∈ kUW := kUW_mem 49 (by decide +kernel) rfl
theorem mcd_yX7_thirdRowLetter : Cond.code yX7_thirdRowLetter cX7_thirdRowLetter 3 (some .int) ∈ kUW := kUW_t3 161 (by decide +kernel) rfl
theorem min_yX7_thirdRowLetter : Cond.initialized yX7_thirdRowLetter.cls ∈ kUW := mini_TaleMachine_Teller
theorem hd_yX7_thirdRowLetter : yX7_thirdRowLetter.cls ≠ "java/lang/invoke/MethodHandle" ∧ yX7_thirdRowLetter.cls ≠ "java/lang/invoke/VarHandle" ∧ (parseMethodDescriptor yX7_thirdRowLetter.desc).map (fun d => d.parameters.length) = some 1 := by decide +kernel
theorem mim_yX7_thirdRowLetter : Cond.instanceMethod yX7_thirdRowLetter ∈ kUW := kUW_t3 160 (by decide +kernel) rfl
theorem mse_yX7_thirdRowLetter : Cond.selects "TaleMachine$Teller" yX7_thirdRowLetter yX7_thirdRowLetter ∈ kUW := kUW_mem 50 (by decide +kernel) rfl
theorem mcd_yX7_abbreviation : Cond.code yX7_abbreviation cX7_abbreviation 3 none ∈ kUW := kUW_t3 219 (by decide +kernel) rfl
theorem min_yX7_abbreviation : Cond.initialized yX7_abbreviation.cls ∈ kUW := mini_TaleMachine_Teller
theorem hd_yX7_abbreviation : yX7_abbreviation.cls ≠ "java/lang/invoke/MethodHandle" ∧ yX7_abbreviation.cls ≠ "java/lang/invoke/VarHandle" ∧ (parseMethodDescriptor yX7_abbreviation.desc).map (fun d => d.parameters.length) = some 1 := by decide +kernel
theorem mim_yX7_abbreviation : Cond.instanceMethod yX7_abbreviation ∈ kUW := kUW_t3 218 (by decide +kernel) rfl
theorem mse_yX7_abbreviation : Cond.selects "TaleMachine$Teller" yX7_abbreviation yX7_abbreviation ∈ kUW := kUW_mem 52 (by decide +kernel) rfl
theorem mcd_yX7_emit : Cond.code yX7_emit cX7_emit 2 none ∈ kUW := kUW_t3 214 (by decide +kernel) rfl
theorem min_yX7_emit : Cond.initialized yX7_emit.cls ∈ kUW := mini_TaleMachine_Teller
theorem hd_yX7_emit : yX7_emit.cls ≠ "java/lang/invoke/MethodHandle" ∧ yX7_emit.cls ≠ "java/lang/invoke/VarHandle" ∧ (parseMethodDescriptor yX7_emit.desc).map (fun d => d.parameters.length) = some 1 := by decide +kernel
theorem mim_yX7_emit : Cond.instanceMethod yX7_emit ∈ kUW := kUW_t3 213 (by decide +kernel) rfl
theorem mse_yX7_emit : Cond.selects "TaleMachine$Teller" yX7_emit yX7_emit ∈ kUW := kUW_mem 51 (by decide +kernel) rfl
theorem mcd_yX8_init : Cond.code yX8_init cX8_init 3 none ∈ kUW := kUW_t1 230 (by decide +kernel) rfl
theorem min_yX8_init : Cond.initialized yX8_init.cls ∈ kUW := mini_TaleMachine_Variables
theorem hd_yX8_init : yX8_init.cls ≠ "java/lang/invoke/MethodHandle" ∧ yX8_init.cls ≠ "java/lang/invoke/VarHandle" ∧ (parseMethodDescriptor yX8_init.desc).map (fun d => d.parameters.length) = some 2 := by decide +kernel
theorem mim_yX8_init : Cond.instanceMethod yX8_init ∈ kUW := kUW_t1 229 (by decide +kernel) rfl
theorem mcd_yX8_valueOf : Cond.code yX8_valueOf cX8_valueOf 2 (some .int) ∈ kUW := kUW_t2 229 (by decide +kernel) rfl
theorem min_yX8_valueOf : Cond.initialized yX8_valueOf.cls ∈ kUW := mini_TaleMachine_Variables
theorem hd_yX8_valueOf : yX8_valueOf.cls ≠ "java/lang/invoke/MethodHandle" ∧ yX8_valueOf.cls ≠ "java/lang/invoke/VarHandle" ∧ (parseMethodDescriptor yX8_valueOf.desc).map (fun d => d.parameters.length) = some 1 := by decide +kernel
theorem mim_yX8_valueOf : Cond.instanceMethod yX8_valueOf ∈ kUW := kUW_t2 228 (by decide +kernel) rfl
theorem mse_yX8_valueOf : Cond.selects "TaleMachine$Variables" yX8_valueOf yX8_valueOf ∈ kUW := kUW_mem 16 (by decide +kernel) rfl
theorem mcd_yX8_assign : Cond.code yX8_assign cX8_assign 3 none ∈ kUW := kUW_t3 41 (by decide +kernel) rfl
theorem min_yX8_assign : Cond.initialized yX8_assign.cls ∈ kUW := mini_TaleMachine_Variables
theorem hd_yX8_assign : yX8_assign.cls ≠ "java/lang/invoke/MethodHandle" ∧ yX8_assign.cls ≠ "java/lang/invoke/VarHandle" ∧ (parseMethodDescriptor yX8_assign.desc).map (fun d => d.parameters.length) = some 2 := by decide +kernel
theorem mim_yX8_assign : Cond.instanceMethod yX8_assign ∈ kUW := kUW_t3 40 (by decide +kernel) rfl
theorem mse_yX8_assign : Cond.selects "TaleMachine$Variables" yX8_assign yX8_assign ∈ kUW := kUW_mem 26 (by decide +kernel) rfl
theorem mcd_yX8_globalAt : Cond.code yX8_globalAt cX8_globalAt 2 (some .int) ∈ kUW := kUW_t3 2 (by decide +kernel) rfl
theorem min_yX8_globalAt : Cond.initialized yX8_globalAt.cls ∈ kUW := mini_TaleMachine_Variables
theorem hd_yX8_globalAt : yX8_globalAt.cls ≠ "java/lang/invoke/MethodHandle" ∧ yX8_globalAt.cls ≠ "java/lang/invoke/VarHandle" ∧ (parseMethodDescriptor yX8_globalAt.desc).map (fun d => d.parameters.length) = some 1 := by decide +kernel
theorem mim_yX8_globalAt : Cond.instanceMethod yX8_globalAt ∈ kUW := kUW_t3 1 (by decide +kernel) rfl
theorem mse_yX8_globalAt : Cond.selects "TaleMachine$Variables" yX8_globalAt yX8_globalAt ∈ kUW := kUW_mem 19 (by decide +kernel) rfl
theorem mcd_yX8_push : Cond.code yX8_push cX8_push 2 none ∈ kUW := kUW_t3 45 (by decide +kernel) rfl
theorem min_yX8_push : Cond.initialized yX8_push.cls ∈ kUW := mini_TaleMachine_Variables
theorem hd_yX8_push : yX8_push.cls ≠ "java/lang/invoke/MethodHandle" ∧ yX8_push.cls ≠ "java/lang/invoke/VarHandle" ∧ (parseMethodDescriptor yX8_push.desc).map (fun d => d.parameters.length) = some 1 := by decide +kernel
theorem mim_yX8_push : Cond.instanceMethod yX8_push ∈ kUW := kUW_t3 44 (by decide +kernel) rfl
theorem mse_yX8_push : Cond.selects "TaleMachine$Variables" yX8_push yX8_push ∈ kUW := kUW_mem 27 (by decide +kernel) rfl
theorem mcd_yX8_pop : Cond.code yX8_pop cX8_pop 1 (some .int) ∈ kUW := kUW_t2 233 (by decide +kernel) rfl
theorem min_yX8_pop : Cond.initialized yX8_pop.cls ∈ kUW := mini_TaleMachine_Variables
theorem hd_yX8_pop : yX8_pop.cls ≠ "java/lang/invoke/MethodHandle" ∧ yX8_pop.cls ≠ "java/lang/invoke/VarHandle" ∧ (parseMethodDescriptor yX8_pop.desc).map (fun d => d.parameters.length) = some 0 := by decide +kernel
theorem mim_yX8_pop : Cond.instanceMethod yX8_pop ∈ kUW := kUW_t2 232 (by decide +kernel) rfl
theorem mse_yX8_pop : Cond.selects "TaleMachine$Variables" yX8_pop yX8_pop ∈ kUW := kUW_mem 17 (by decide +kernel) rfl
theorem mcd_yX8_namedValue : Cond.code yX8_namedValue cX8_namedValue 3 (some .int) ∈ kUW := kUW_t4 14 (by decide +kernel) rfl
theorem min_yX8_namedValue : Cond.initialized yX8_namedValue.cls ∈ kUW := mini_TaleMachine_Variables
theorem hd_yX8_namedValue : yX8_namedValue.cls ≠ "java/lang/invoke/MethodHandle" ∧ yX8_namedValue.cls ≠ "java/lang/invoke/VarHandle" ∧ (parseMethodDescriptor yX8_namedValue.desc).map (fun d => d.parameters.length) = some 1 := by decide +kernel
theorem mim_yX8_namedValue : Cond.instanceMethod yX8_namedValue ∈ kUW := kUW_t4 13 (by decide +kernel) rfl
theorem mse_yX8_namedValue : Cond.selects "TaleMachine$Variables" yX8_namedValue yX8_namedValue ∈ kUW := kUW_mem 60 (by decide +kernel) rfl
theorem mcd_yX8_assignNamed : Cond.code yX8_assignNamed cX8_assignNamed 4 none ∈ kUW := kUW_t3 123 (by decide +kernel) rfl
theorem min_yX8_assignNamed : Cond.initialized yX8_assignNamed.cls ∈ kUW := mini_TaleMachine_Variables
theorem hd_yX8_assignNamed : yX8_assignNamed.cls ≠ "java/lang/invoke/MethodHandle" ∧ yX8_assignNamed.cls ≠ "java/lang/invoke/VarHandle" ∧ (parseMethodDescriptor yX8_assignNamed.desc).map (fun d => d.parameters.length) = some 2 := by decide +kernel
theorem mim_yX8_assignNamed : Cond.instanceMethod yX8_assignNamed ∈ kUW := kUW_t3 122 (by decide +kernel) rfl
theorem mse_yX8_assignNamed : Cond.selects "TaleMachine$Variables" yX8_assignNamed yX8_assignNamed ∈ kUW := kUW_mem 41 (by decide +kernel) rfl
theorem mcd_yX8_stepNamed : Cond.code yX8_stepNamed cX8_stepNamed 4 (some .int) ∈ kUW := kUW_t4 10 (by decide +kernel) rfl
theorem min_yX8_stepNamed : Cond.initialized yX8_stepNamed.cls ∈ kUW := mini_TaleMachine_Variables
theorem hd_yX8_stepNamed : yX8_stepNamed.cls ≠ "java/lang/invoke/MethodHandle" ∧ yX8_stepNamed.cls ≠ "java/lang/invoke/VarHandle" ∧ (parseMethodDescriptor yX8_stepNamed.desc).map (fun d => d.parameters.length) = some 2 := by decide +kernel
theorem mim_yX8_stepNamed : Cond.instanceMethod yX8_stepNamed ∈ kUW := kUW_t4 9 (by decide +kernel) rfl
theorem mse_yX8_stepNamed : Cond.selects "TaleMachine$Variables" yX8_stepNamed yX8_stepNamed ∈ kUW := kUW_mem 59 (by decide +kernel) rfl
theorem mcd_yX9_init : Cond.code yX9_init cX9_init 2 none ∈ kUW := kUW_t1 23 (by decide +kernel) rfl
theorem min_yX9_init : Cond.initialized yX9_init.cls ∈ kUW := mini_TaleMachine
theorem hd_yX9_init : yX9_init.cls ≠ "java/lang/invoke/MethodHandle" ∧ yX9_init.cls ≠ "java/lang/invoke/VarHandle" ∧ (parseMethodDescriptor yX9_init.desc).map (fun d => d.parameters.length) = some 0 := by decide +kernel
theorem mim_yX9_init : Cond.instanceMethod yX9_init ∈ kUW := kUW_t1 22 (by decide +kernel) rfl
theorem mcd_yX9_feed : Cond.code yX9_feed cX9_feed 9 (some .int) ∈ kUW := kUW_t2 141 (by decide +kernel) rfl
theorem min_yX9_feed : Cond.initialized yX9_feed.cls ∈ kUW := mini_TaleMachine
theorem hd_yX9_feed : yX9_feed.cls ≠ "java/lang/invoke/MethodHandle" ∧ yX9_feed.cls ≠ "java/lang/invoke/VarHandle" ∧ (parseMethodDescriptor yX9_feed.desc).map (fun d => d.parameters.length) = some 8 := by decide +kernel
theorem mim_yX9_feed : Cond.instanceMethod yX9_feed ∈ kUW := kUW_t2 139 (by decide +kernel) rfl
theorem mse_yX9_feed : Cond.selects "TaleMachine" yX9_feed yX9_feed ∈ kUW := kUW_t2 140 (by decide +kernel) rfl
theorem mcd_yX9_layOnTape : Cond.code yX9_layOnTape cX9_layOnTape 3 none ∈ kUW := kUW_t2 145 (by decide +kernel) rfl
theorem min_yX9_layOnTape : Cond.initialized yX9_layOnTape.cls ∈ kUW := mini_TaleMachine
theorem hd_yX9_layOnTape : yX9_layOnTape.cls ≠ "java/lang/invoke/MethodHandle" ∧ yX9_layOnTape.cls ≠ "java/lang/invoke/VarHandle" ∧ (parseMethodDescriptor yX9_layOnTape.desc).map (fun d => d.parameters.length) = some 1 := by decide +kernel
theorem mim_yX9_layOnTape : Cond.instanceMethod yX9_layOnTape ∈ kUW := kUW_t2 144 (by decide +kernel) rfl
theorem mse_yX9_layOnTape : Cond.selects "TaleMachine" yX9_layOnTape yX9_layOnTape ∈ kUW := kUW_mem 1 (by decide +kernel) rfl
theorem mcd_yX9_end : Cond.code yX9_end cX9_end 3 (some .int) ∈ kUW := kUW_t2 149 (by decide +kernel) rfl
theorem min_yX9_end : Cond.initialized yX9_end.cls ∈ kUW := mini_TaleMachine
theorem hd_yX9_end : yX9_end.cls ≠ "java/lang/invoke/MethodHandle" ∧ yX9_end.cls ≠ "java/lang/invoke/VarHandle" ∧ (parseMethodDescriptor yX9_end.desc).map (fun d => d.parameters.length) = some 1 := by decide +kernel
theorem mim_yX9_end : Cond.instanceMethod yX9_end ∈ kUW := kUW_t2 147 (by decide +kernel) rfl
theorem mse_yX9_end : Cond.selects "TaleMachine" yX9_end yX9_end ∈ kUW := kUW_t2 148 (by decide +kernel) rfl
theorem mcd_yX9_load : Cond.code yX9_load cX9_load 3 (some .int) ∈ kUW := kUW_t2 153 (by decide +kernel) rfl
theorem min_yX9_load : Cond.initialized yX9_load.cls ∈ kUW := mini_TaleMachine
theorem hd_yX9_load : yX9_load.cls ≠ "java/lang/invoke/MethodHandle" ∧ yX9_load.cls ≠ "java/lang/invoke/VarHandle" ∧ (parseMethodDescriptor yX9_load.desc).map (fun d => d.parameters.length) = some 0 := by decide +kernel
theorem mim_yX9_load : Cond.instanceMethod yX9_load ∈ kUW := kUW_t2 151 (by decide +kernel) rfl
theorem mse_yX9_load : Cond.selects "TaleMachine" yX9_load yX9_load ∈ kUW := kUW_t2 152 (by decide +kernel) rfl
theorem mcd_yX9_run : Cond.code yX9_run cX9_run 3 (some .int) ∈ kUW := kUW_t2 200 (by decide +kernel) rfl
theorem min_yX9_run : Cond.initialized yX9_run.cls ∈ kUW := mini_TaleMachine
theorem hd_yX9_run : yX9_run.cls ≠ "java/lang/invoke/MethodHandle" ∧ yX9_run.cls ≠ "java/lang/invoke/VarHandle" ∧ (parseMethodDescriptor yX9_run.desc).map (fun d => d.parameters.length) = some 1 := by decide +kernel
theorem mim_yX9_run : Cond.instanceMethod yX9_run ∈ kUW := kUW_t2 198 (by decide +kernel) rfl
theorem mse_yX9_run : Cond.selects "TaleMachine" yX9_run yX9_run ∈ kUW := kUW_t2 199 (by decide +kernel) rfl
theorem mcd_yX9_state : Cond.code yX9_state cX9_state 1 (some .int) ∈ kUW := kUW_t4 95 (by decide +kernel) rfl
theorem min_yX9_state : Cond.initialized yX9_state.cls ∈ kUW := mini_TaleMachine
theorem hd_yX9_state : yX9_state.cls ≠ "java/lang/invoke/MethodHandle" ∧ yX9_state.cls ≠ "java/lang/invoke/VarHandle" ∧ (parseMethodDescriptor yX9_state.desc).map (fun d => d.parameters.length) = some 0 := by decide +kernel
theorem mim_yX9_state : Cond.instanceMethod yX9_state ∈ kUW := kUW_t4 93 (by decide +kernel) rfl
theorem mse_yX9_state : Cond.selects "TaleMachine" yX9_state yX9_state ∈ kUW := kUW_t4 94 (by decide +kernel) rfl
theorem mcd_yX9_line : Cond.code yX9_line cX9_line 4 (some .int) ∈ kUW := kUW_t4 99 (by decide +kernel) rfl
theorem min_yX9_line : Cond.initialized yX9_line.cls ∈ kUW := mini_TaleMachine
theorem hd_yX9_line : yX9_line.cls ≠ "java/lang/invoke/MethodHandle" ∧ yX9_line.cls ≠ "java/lang/invoke/VarHandle" ∧ (parseMethodDescriptor yX9_line.desc).map (fun d => d.parameters.length) = some 2 := by decide +kernel
theorem mim_yX9_line : Cond.instanceMethod yX9_line ∈ kUW := kUW_t4 97 (by decide +kernel) rfl
theorem mse_yX9_line : Cond.selects "TaleMachine" yX9_line yX9_line ∈ kUW := kUW_t4 98 (by decide +kernel) rfl
theorem mcd_yX9_start : Cond.code yX9_start cX9_start 1 (some .int) ∈ kUW := kUW_t4 201 (by decide +kernel) rfl
theorem min_yX9_start : Cond.initialized yX9_start.cls ∈ kUW := mini_TaleMachine
theorem hd_yX9_start : yX9_start.cls ≠ "java/lang/invoke/MethodHandle" ∧ yX9_start.cls ≠ "java/lang/invoke/VarHandle" ∧ (parseMethodDescriptor yX9_start.desc).map (fun d => d.parameters.length) = some 0 := by decide +kernel
theorem mim_yX9_start : Cond.instanceMethod yX9_start ∈ kUW := kUW_t4 199 (by decide +kernel) rfl
theorem mse_yX9_start : Cond.selects "TaleMachine" yX9_start yX9_start ∈ kUW := kUW_t4 200 (by decide +kernel) rfl
theorem mcd_yX9_out : Cond.code yX9_out cX9_out 2 (some .int) ∈ kUW := kUW_t4 205 (by decide +kernel) rfl
theorem min_yX9_out : Cond.initialized yX9_out.cls ∈ kUW := mini_TaleMachine
theorem hd_yX9_out : yX9_out.cls ≠ "java/lang/invoke/MethodHandle" ∧ yX9_out.cls ≠ "java/lang/invoke/VarHandle" ∧ (parseMethodDescriptor yX9_out.desc).map (fun d => d.parameters.length) = some 1 := by decide +kernel
theorem mim_yX9_out : Cond.instanceMethod yX9_out ∈ kUW := kUW_t4 203 (by decide +kernel) rfl
theorem mse_yX9_out : Cond.selects "TaleMachine" yX9_out yX9_out ∈ kUW := kUW_t4 204 (by decide +kernel) rfl
theorem mcd_yX9_count : Cond.code yX9_count cX9_count 2 (some .int) ∈ kUW := kUW_t4 213 (by decide +kernel) rfl
theorem min_yX9_count : Cond.initialized yX9_count.cls ∈ kUW := mini_TaleMachine
theorem hd_yX9_count : yX9_count.cls ≠ "java/lang/invoke/MethodHandle" ∧ yX9_count.cls ≠ "java/lang/invoke/VarHandle" ∧ (parseMethodDescriptor yX9_count.desc).map (fun d => d.parameters.length) = some 1 := by decide +kernel
theorem mim_yX9_count : Cond.instanceMethod yX9_count ∈ kUW := kUW_t4 211 (by decide +kernel) rfl
theorem mse_yX9_count : Cond.selects "TaleMachine" yX9_count yX9_count ∈ kUW := kUW_t4 212 (by decide +kernel) rfl
theorem mcd_yX9_peek : Cond.code yX9_peek cX9_peek 2 (some .int) ∈ kUW := kUW_t4 218 (by decide +kernel) rfl
theorem min_yX9_peek : Cond.initialized yX9_peek.cls ∈ kUW := mini_TaleMachine
theorem hd_yX9_peek : yX9_peek.cls ≠ "java/lang/invoke/MethodHandle" ∧ yX9_peek.cls ≠ "java/lang/invoke/VarHandle" ∧ (parseMethodDescriptor yX9_peek.desc).map (fun d => d.parameters.length) = some 1 := by decide +kernel
theorem mim_yX9_peek : Cond.instanceMethod yX9_peek ∈ kUW := kUW_t4 216 (by decide +kernel) rfl
theorem mse_yX9_peek : Cond.selects "TaleMachine" yX9_peek yX9_peek ∈ kUW := kUW_t4 217 (by decide +kernel) rfl
theorem mcd_yX9_word : Cond.code yX9_word cX9_word 3 (some .int) ∈ kUW := kUW_t4 222 (by decide +kernel) rfl
theorem min_yX9_word : Cond.initialized yX9_word.cls ∈ kUW := mini_TaleMachine
theorem hd_yX9_word : yX9_word.cls ≠ "java/lang/invoke/MethodHandle" ∧ yX9_word.cls ≠ "java/lang/invoke/VarHandle" ∧ (parseMethodDescriptor yX9_word.desc).map (fun d => d.parameters.length) = some 2 := by decide +kernel
theorem mim_yX9_word : Cond.instanceMethod yX9_word ∈ kUW := kUW_t4 220 (by decide +kernel) rfl
theorem mse_yX9_word : Cond.selects "TaleMachine" yX9_word yX9_word ∈ kUW := kUW_t4 221 (by decide +kernel) rfl
theorem mcd_yX9_text : Cond.code yX9_text cX9_text 5 (some .int) ∈ kUW := kUW_t4 227 (by decide +kernel) rfl
theorem min_yX9_text : Cond.initialized yX9_text.cls ∈ kUW := mini_TaleMachine
theorem hd_yX9_text : yX9_text.cls ≠ "java/lang/invoke/MethodHandle" ∧ yX9_text.cls ≠ "java/lang/invoke/VarHandle" ∧ (parseMethodDescriptor yX9_text.desc).map (fun d => d.parameters.length) = some 2 := by decide +kernel
theorem mim_yX9_text : Cond.instanceMethod yX9_text ∈ kUW := kUW_t4 225 (by decide +kernel) rfl
theorem mse_yX9_text : Cond.selects "TaleMachine" yX9_text yX9_text ∈ kUW := kUW_t4 226 (by decide +kernel) rfl
theorem mcd_yX9_save : Cond.code yX9_save cX9_save 2 (some .int) ∈ kUW := kUW_t4 233 (by decide +kernel) rfl
theorem min_yX9_save : Cond.initialized yX9_save.cls ∈ kUW := mini_TaleMachine
theorem hd_yX9_save : yX9_save.cls ≠ "java/lang/invoke/MethodHandle" ∧ yX9_save.cls ≠ "java/lang/invoke/VarHandle" ∧ (parseMethodDescriptor yX9_save.desc).map (fun d => d.parameters.length) = some 1 := by decide +kernel
theorem mim_yX9_save : Cond.instanceMethod yX9_save ∈ kUW := kUW_t4 231 (by decide +kernel) rfl
theorem mse_yX9_save : Cond.selects "TaleMachine" yX9_save yX9_save ∈ kUW := kUW_t4 232 (by decide +kernel) rfl
theorem mcd_yX9_restore : Cond.code yX9_restore cX9_restore 2 (some .int) ∈ kUW := kUW_t5 17 (by decide +kernel) rfl
theorem min_yX9_restore : Cond.initialized yX9_restore.cls ∈ kUW := mini_TaleMachine
theorem hd_yX9_restore : yX9_restore.cls ≠ "java/lang/invoke/MethodHandle" ∧ yX9_restore.cls ≠ "java/lang/invoke/VarHandle" ∧ (parseMethodDescriptor yX9_restore.desc).map (fun d => d.parameters.length) = some 1 := by decide +kernel
theorem mim_yX9_restore : Cond.instanceMethod yX9_restore ∈ kUW := kUW_t5 15 (by decide +kernel) rfl
theorem mse_yX9_restore : Cond.selects "TaleMachine" yX9_restore yX9_restore ∈ kUW := kUW_t5 16 (by decide +kernel) rfl
theorem mcd_yX9_squeezed : Cond.code yX9_squeezed cX9_squeezed 3 (some .int) ∈ kUW := kUW_t5 30 (by decide +kernel) rfl
theorem min_yX9_squeezed : Cond.initialized yX9_squeezed.cls ∈ kUW := mini_TaleMachine
theorem hd_yX9_squeezed : yX9_squeezed.cls ≠ "java/lang/invoke/MethodHandle" ∧ yX9_squeezed.cls ≠ "java/lang/invoke/VarHandle" ∧ (parseMethodDescriptor yX9_squeezed.desc).map (fun d => d.parameters.length) = some 2 := by decide +kernel
theorem mim_yX9_squeezed : Cond.instanceMethod yX9_squeezed ∈ kUW := kUW_t5 28 (by decide +kernel) rfl
theorem mse_yX9_squeezed : Cond.selects "TaleMachine" yX9_squeezed yX9_squeezed ∈ kUW := kUW_t5 29 (by decide +kernel) rfl
theorem mcd_yX9_signed : Cond.code yX9_signed cX9_signed 1 (some .int) ∈ kUW := kUW_t3 103 (by decide +kernel) rfl
theorem min_yX9_signed : Cond.initialized yX9_signed.cls ∈ kUW := mini_TaleMachine
theorem hd_yX9_signed : yX9_signed.cls ≠ "java/lang/invoke/MethodHandle" ∧ yX9_signed.cls ≠ "java/lang/invoke/VarHandle" ∧ (parseMethodDescriptor yX9_signed.desc).map (fun d => d.parameters.length) = some 1 := by decide +kernel
theorem mst_yX9_signed : Cond.static yX9_signed ∈ kUW := kUW_t3 102 (by decide +kernel) rfl
theorem mcd_yX10_init : Cond.code yX10_init cX10_init 1 none ∈ kUW := kUW_t5 35 (by decide +kernel) rfl
theorem min_yX10_init : Cond.initialized yX10_init.cls ∈ kUW := mini_TaleMachineModel
theorem hd_yX10_init : yX10_init.cls ≠ "java/lang/invoke/MethodHandle" ∧ yX10_init.cls ≠ "java/lang/invoke/VarHandle" ∧ (parseMethodDescriptor yX10_init.desc).map (fun d => d.parameters.length) = some 0 := by decide +kernel
theorem mim_yX10_init : Cond.instanceMethod yX10_init ∈ kUW := kUW_t5 34 (by decide +kernel) rfl
theorem mcd_yX10_in : Cond.code yX10_in cX10_in 6 (some .boolean) ∈ kUW := kUW_t5 200 (by decide +kernel) rfl
theorem min_yX10_in : Cond.initialized yX10_in.cls ∈ kUW := mini_TaleMachineModel
theorem hd_yX10_in : yX10_in.cls ≠ "java/lang/invoke/MethodHandle" ∧ yX10_in.cls ≠ "java/lang/invoke/VarHandle" ∧ (parseMethodDescriptor yX10_in.desc).map (fun d => d.parameters.length) = some 3 := by decide +kernel
theorem mst_yX10_in : Cond.static yX10_in ∈ kUW := kUW_t5 199 (by decide +kernel) rfl
theorem mcd_yX10_feed : Cond.code yX10_feed cX10_feed 9 (some .int) ∈ kUW := kUW_t5 189 (by decide +kernel) rfl
theorem min_yX10_feed : Cond.initialized yX10_feed.cls ∈ kUW := mini_TaleMachineModel
theorem hd_yX10_feed : yX10_feed.cls ≠ "java/lang/invoke/MethodHandle" ∧ yX10_feed.cls ≠ "java/lang/invoke/VarHandle" ∧ (parseMethodDescriptor yX10_feed.desc).map (fun d => d.parameters.length) = some 8 := by decide +kernel
theorem mim_yX10_feed : Cond.instanceMethod yX10_feed ∈ kUW := kUW_t5 187 (by decide +kernel) rfl
theorem mse_yX10_feed : Cond.selects "TaleMachineModel" yX10_feed yX10_feed ∈ kUW := kUW_t5 188 (by decide +kernel) rfl
theorem mcd_yX10_four : Cond.code yX10_four cX10_four 3 none ∈ kUW := kUW_t5 193 (by decide +kernel) rfl
theorem min_yX10_four : Cond.initialized yX10_four.cls ∈ kUW := mini_TaleMachineModel
theorem hd_yX10_four : yX10_four.cls ≠ "java/lang/invoke/MethodHandle" ∧ yX10_four.cls ≠ "java/lang/invoke/VarHandle" ∧ (parseMethodDescriptor yX10_four.desc).map (fun d => d.parameters.length) = some 1 := by decide +kernel
theorem mim_yX10_four : Cond.instanceMethod yX10_four ∈ kUW := kUW_t5 192 (by decide +kernel) rfl
theorem mse_yX10_four : Cond.selects "TaleMachineModel" yX10_four yX10_four ∈ kUW := kUW_mem 95 (by decide +kernel) rfl
theorem mcd_yX10_end : Cond.code yX10_end cX10_end 3 (some .int) ∈ kUW := kUW_t5 197 (by decide +kernel) rfl
theorem min_yX10_end : Cond.initialized yX10_end.cls ∈ kUW := mini_TaleMachineModel
theorem hd_yX10_end : yX10_end.cls ≠ "java/lang/invoke/MethodHandle" ∧ yX10_end.cls ≠ "java/lang/invoke/VarHandle" ∧ (parseMethodDescriptor yX10_end.desc).map (fun d => d.parameters.length) = some 1 := by decide +kernel
theorem mim_yX10_end : Cond.instanceMethod yX10_end ∈ kUW := kUW_t5 195 (by decide +kernel) rfl
theorem mse_yX10_end : Cond.selects "TaleMachineModel" yX10_end yX10_end ∈ kUW := kUW_t5 196 (by decide +kernel) rfl
theorem mcd_yX10_tapeWord : Cond.code yX10_tapeWord cX10_tapeWord 2 (some .int) ∈ kUW := kUW_t5 212 (by decide +kernel) rfl
theorem min_yX10_tapeWord : Cond.initialized yX10_tapeWord.cls ∈ kUW := mini_TaleMachineModel
theorem hd_yX10_tapeWord : yX10_tapeWord.cls ≠ "java/lang/invoke/MethodHandle" ∧ yX10_tapeWord.cls ≠ "java/lang/invoke/VarHandle" ∧ (parseMethodDescriptor yX10_tapeWord.desc).map (fun d => d.parameters.length) = some 1 := by decide +kernel
theorem mim_yX10_tapeWord : Cond.instanceMethod yX10_tapeWord ∈ kUW := kUW_t5 211 (by decide +kernel) rfl
theorem mse_yX10_tapeWord : Cond.selects "TaleMachineModel" yX10_tapeWord yX10_tapeWord ∈ kUW := kUW_mem 97 (by decide +kernel) rfl
theorem mcd_yX10_faultOf : Cond.code yX10_faultOf cX10_faultOf 5 (some .int) ∈ kUW := kUW_t5 208 (by decide +kernel) rfl
theorem min_yX10_faultOf : Cond.initialized yX10_faultOf.cls ∈ kUW := mini_TaleMachineModel
theorem hd_yX10_faultOf : yX10_faultOf.cls ≠ "java/lang/invoke/MethodHandle" ∧ yX10_faultOf.cls ≠ "java/lang/invoke/VarHandle" ∧ (parseMethodDescriptor yX10_faultOf.desc).map (fun d => d.parameters.length) = some 1 := by decide +kernel
theorem mim_yX10_faultOf : Cond.instanceMethod yX10_faultOf ∈ kUW := kUW_t5 207 (by decide +kernel) rfl
theorem mse_yX10_faultOf : Cond.selects "TaleMachineModel" yX10_faultOf yX10_faultOf ∈ kUW := kUW_mem 96 (by decide +kernel) rfl
theorem mcd_yX10_load : Cond.code yX10_load cX10_load 4 (some .int) ∈ kUW := kUW_t5 204 (by decide +kernel) rfl
theorem min_yX10_load : Cond.initialized yX10_load.cls ∈ kUW := mini_TaleMachineModel
theorem hd_yX10_load : yX10_load.cls ≠ "java/lang/invoke/MethodHandle" ∧ yX10_load.cls ≠ "java/lang/invoke/VarHandle" ∧ (parseMethodDescriptor yX10_load.desc).map (fun d => d.parameters.length) = some 0 := by decide +kernel
theorem mim_yX10_load : Cond.instanceMethod yX10_load ∈ kUW := kUW_t5 202 (by decide +kernel) rfl
theorem mse_yX10_load : Cond.selects "TaleMachineModel" yX10_load yX10_load ∈ kUW := kUW_t5 203 (by decide +kernel) rfl
theorem mcd_yX10_again : Cond.code yX10_again cX10_again 2 none ∈ kUW := kUW_t5 222 (by decide +kernel) rfl
theorem min_yX10_again : Cond.initialized yX10_again.cls ∈ kUW := mini_TaleMachineModel
theorem hd_yX10_again : yX10_again.cls ≠ "java/lang/invoke/MethodHandle" ∧ yX10_again.cls ≠ "java/lang/invoke/VarHandle" ∧ (parseMethodDescriptor yX10_again.desc).map (fun d => d.parameters.length) = some 0 := by decide +kernel
theorem mim_yX10_again : Cond.instanceMethod yX10_again ∈ kUW := kUW_t5 221 (by decide +kernel) rfl
theorem mse_yX10_again : Cond.selects "TaleMachineModel" yX10_again yX10_again ∈ kUW := kUW_mem 99 (by decide +kernel) rfl
theorem mcd_yX10_begins : Cond.code yX10_begins cX10_begins 1 none ∈ kUW := kUW_t5 218 (by decide +kernel) rfl
theorem min_yX10_begins : Cond.initialized yX10_begins.cls ∈ kUW := mini_TaleMachineModel
theorem hd_yX10_begins : yX10_begins.cls ≠ "java/lang/invoke/MethodHandle" ∧ yX10_begins.cls ≠ "java/lang/invoke/VarHandle" ∧ (parseMethodDescriptor yX10_begins.desc).map (fun d => d.parameters.length) = some 0 := by decide +kernel
theorem mim_yX10_begins : Cond.instanceMethod yX10_begins ∈ kUW := kUW_t5 217 (by decide +kernel) rfl
theorem mse_yX10_begins : Cond.selects "TaleMachineModel" yX10_begins yX10_begins ∈ kUW := kUW_mem 98 (by decide +kernel) rfl
theorem mcd_yX10_start : Cond.code yX10_start cX10_start 1 (some .int) ∈ kUW := kUW_t5 226 (by decide +kernel) rfl
theorem min_yX10_start : Cond.initialized yX10_start.cls ∈ kUW := mini_TaleMachineModel
theorem hd_yX10_start : yX10_start.cls ≠ "java/lang/invoke/MethodHandle" ∧ yX10_start.cls ≠ "java/lang/invoke/VarHandle" ∧ (parseMethodDescriptor yX10_start.desc).map (fun d => d.parameters.length) = some 0 := by decide +kernel
theorem mim_yX10_start : Cond.instanceMethod yX10_start ∈ kUW := kUW_t5 224 (by decide +kernel) rfl
theorem mse_yX10_start : Cond.selects "TaleMachineModel" yX10_start yX10_start ∈ kUW := kUW_t5 225 (by decide +kernel) rfl
theorem mcd_yX10_halts : Cond.code yX10_halts cX10_halts 2 none ∈ kUW := kUW_t6 7 (by decide +kernel) rfl
theorem min_yX10_halts : Cond.initialized yX10_halts.cls ∈ kUW := mini_TaleMachineModel
theorem hd_yX10_halts : yX10_halts.cls ≠ "java/lang/invoke/MethodHandle" ∧ yX10_halts.cls ≠ "java/lang/invoke/VarHandle" ∧ (parseMethodDescriptor yX10_halts.desc).map (fun d => d.parameters.length) = some 1 := by decide +kernel
theorem mim_yX10_halts : Cond.instanceMethod yX10_halts ∈ kUW := kUW_t6 6 (by decide +kernel) rfl
theorem mse_yX10_halts : Cond.selects "TaleMachineModel" yX10_halts yX10_halts ∈ kUW := kUW_mem 103 (by decide +kernel) rfl
theorem mcd_yX10_byteAt : Cond.code yX10_byteAt cX10_byteAt 3 (some .int) ∈ kUW := kUW_t6 3 (by decide +kernel) rfl
theorem min_yX10_byteAt : Cond.initialized yX10_byteAt.cls ∈ kUW := mini_TaleMachineModel
theorem hd_yX10_byteAt : yX10_byteAt.cls ≠ "java/lang/invoke/MethodHandle" ∧ yX10_byteAt.cls ≠ "java/lang/invoke/VarHandle" ∧ (parseMethodDescriptor yX10_byteAt.desc).map (fun d => d.parameters.length) = some 1 := by decide +kernel
theorem mim_yX10_byteAt : Cond.instanceMethod yX10_byteAt ∈ kUW := kUW_t6 2 (by decide +kernel) rfl
theorem mse_yX10_byteAt : Cond.selects "TaleMachineModel" yX10_byteAt yX10_byteAt ∈ kUW := kUW_mem 102 (by decide +kernel) rfl
theorem mcd_yX10_wordAt : Cond.code yX10_wordAt cX10_wordAt 3 (some .int) ∈ kUW := kUW_t6 23 (by decide +kernel) rfl
theorem min_yX10_wordAt : Cond.initialized yX10_wordAt.cls ∈ kUW := mini_TaleMachineModel
theorem hd_yX10_wordAt : yX10_wordAt.cls ≠ "java/lang/invoke/MethodHandle" ∧ yX10_wordAt.cls ≠ "java/lang/invoke/VarHandle" ∧ (parseMethodDescriptor yX10_wordAt.desc).map (fun d => d.parameters.length) = some 1 := by decide +kernel
theorem mim_yX10_wordAt : Cond.instanceMethod yX10_wordAt ∈ kUW := kUW_t6 22 (by decide +kernel) rfl
theorem mse_yX10_wordAt : Cond.selects "TaleMachineModel" yX10_wordAt yX10_wordAt ∈ kUW := kUW_mem 107 (by decide +kernel) rfl
theorem mcd_yX10_mayWrite : Cond.code yX10_mayWrite cX10_mayWrite 3 (some .boolean) ∈ kUW := kUW_t6 64 (by decide +kernel) rfl
theorem min_yX10_mayWrite : Cond.initialized yX10_mayWrite.cls ∈ kUW := mini_TaleMachineModel
theorem hd_yX10_mayWrite : yX10_mayWrite.cls ≠ "java/lang/invoke/MethodHandle" ∧ yX10_mayWrite.cls ≠ "java/lang/invoke/VarHandle" ∧ (parseMethodDescriptor yX10_mayWrite.desc).map (fun d => d.parameters.length) = some 1 := by decide +kernel
theorem mim_yX10_mayWrite : Cond.instanceMethod yX10_mayWrite ∈ kUW := kUW_t6 63 (by decide +kernel) rfl
theorem mse_yX10_mayWrite : Cond.selects "TaleMachineModel" yX10_mayWrite yX10_mayWrite ∈ kUW := kUW_mem 117 (by decide +kernel) rfl
theorem mcd_yX10_putByte : Cond.code yX10_putByte cX10_putByte 3 none ∈ kUW := kUW_t6 106 (by decide +kernel) rfl
theorem min_yX10_putByte : Cond.initialized yX10_putByte.cls ∈ kUW := mini_TaleMachineModel
theorem hd_yX10_putByte : yX10_putByte.cls ≠ "java/lang/invoke/MethodHandle" ∧ yX10_putByte.cls ≠ "java/lang/invoke/VarHandle" ∧ (parseMethodDescriptor yX10_putByte.desc).map (fun d => d.parameters.length) = some 2 := by decide +kernel
theorem mim_yX10_putByte : Cond.instanceMethod yX10_putByte ∈ kUW := kUW_t6 105 (by decide +kernel) rfl
theorem mse_yX10_putByte : Cond.selects "TaleMachineModel" yX10_putByte yX10_putByte ∈ kUW := kUW_mem 126 (by decide +kernel) rfl
theorem mcd_yX10_putWord : Cond.code yX10_putWord cX10_putWord 3 none ∈ kUW := kUW_t6 60 (by decide +kernel) rfl
theorem min_yX10_putWord : Cond.initialized yX10_putWord.cls ∈ kUW := mini_TaleMachineModel
theorem hd_yX10_putWord : yX10_putWord.cls ≠ "java/lang/invoke/MethodHandle" ∧ yX10_putWord.cls ≠ "java/lang/invoke/VarHandle" ∧ (parseMethodDescriptor yX10_putWord.desc).map (fun d => d.parameters.length) = some 2 := by decide +kernel
theorem mim_yX10_putWord : Cond.instanceMethod yX10_putWord ∈ kUW := kUW_t6 59 (by decide +kernel) rfl
theorem mse_yX10_putWord : Cond.selects "TaleMachineModel" yX10_putWord yX10_putWord ∈ kUW := kUW_mem 116 (by decide +kernel) rfl
theorem mcd_yX10_next : Cond.code yX10_next cX10_next 2 (some .int) ∈ kUW := kUW_t5 239 (by decide +kernel) rfl
theorem min_yX10_next : Cond.initialized yX10_next.cls ∈ kUW := mini_TaleMachineModel
theorem hd_yX10_next : yX10_next.cls ≠ "java/lang/invoke/MethodHandle" ∧ yX10_next.cls ≠ "java/lang/invoke/VarHandle" ∧ (parseMethodDescriptor yX10_next.desc).map (fun d => d.parameters.length) = some 0 := by decide +kernel
theorem mim_yX10_next : Cond.instanceMethod yX10_next ∈ kUW := kUW_t5 238 (by decide +kernel) rfl
theorem mse_yX10_next : Cond.selects "TaleMachineModel" yX10_next yX10_next ∈ kUW := kUW_mem 101 (by decide +kernel) rfl
theorem mcd_yX10_signed : Cond.code yX10_signed cX10_signed 1 (some .int) ∈ kUW := kUW_t6 67 (by decide +kernel) rfl
theorem min_yX10_signed : Cond.initialized yX10_signed.cls ∈ kUW := mini_TaleMachineModel
theorem hd_yX10_signed : yX10_signed.cls ≠ "java/lang/invoke/MethodHandle" ∧ yX10_signed.cls ≠ "java/lang/invoke/VarHandle" ∧ (parseMethodDescriptor yX10_signed.desc).map (fun d => d.parameters.length) = some 1 := by decide +kernel
theorem mst_yX10_signed : Cond.static yX10_signed ∈ kUW := kUW_t6 66 (by decide +kernel) rfl
theorem mcd_yX10_pop : Cond.code yX10_pop cX10_pop 1 (some .int) ∈ kUW := kUW_t6 19 (by decide +kernel) rfl
theorem min_yX10_pop : Cond.initialized yX10_pop.cls ∈ kUW := mini_TaleMachineModel
theorem hd_yX10_pop : yX10_pop.cls ≠ "java/lang/invoke/MethodHandle" ∧ yX10_pop.cls ≠ "java/lang/invoke/VarHandle" ∧ (parseMethodDescriptor yX10_pop.desc).map (fun d => d.parameters.length) = some 0 := by decide +kernel
theorem mim_yX10_pop : Cond.instanceMethod yX10_pop ∈ kUW := kUW_t6 18 (by decide +kernel) rfl
theorem mse_yX10_pop : Cond.selects "TaleMachineModel" yX10_pop yX10_pop ∈ kUW := kUW_mem 106 (by decide +kernel) rfl
theorem mcd_yX10_push : Cond.code yX10_push cX10_push 2 none ∈ kUW := kUW_t6 56 (by decide +kernel) rfl
theorem min_yX10_push : Cond.initialized yX10_push.cls ∈ kUW := mini_TaleMachineModel
theorem hd_yX10_push : yX10_push.cls ≠ "java/lang/invoke/MethodHandle" ∧ yX10_push.cls ≠ "java/lang/invoke/VarHandle" ∧ (parseMethodDescriptor yX10_push.desc).map (fun d => d.parameters.length) = some 1 := by decide +kernel
theorem mim_yX10_push : Cond.instanceMethod yX10_push ∈ kUW := kUW_t6 55 (by decide +kernel) rfl
theorem mse_yX10_push : Cond.selects "TaleMachineModel" yX10_push yX10_push ∈ kUW := kUW_mem 115 (by decide +kernel) rfl
theorem mcd_yX10_get : Cond.code yX10_get cX10_get 2 (some .int) ∈ kUW := kUW_t6 15 (by decide +kernel) rfl
theorem min_yX10_get : Cond.initialized yX10_get.cls ∈ kUW := mini_TaleMachineModel
theorem hd_yX10_get : yX10_get.cls ≠ "java/lang/invoke/MethodHandle" ∧ yX10_get.cls ≠ "java/lang/invoke/VarHandle" ∧ (parseMethodDescriptor yX10_get.desc).map (fun d => d.parameters.length) = some 1 := by decide +kernel
theorem mim_yX10_get : Cond.instanceMethod yX10_get ∈ kUW := kUW_t6 14 (by decide +kernel) rfl
theorem mse_yX10_get : Cond.selects "TaleMachineModel" yX10_get yX10_get ∈ kUW := kUW_mem 105 (by decide +kernel) rfl
theorem mcd_yX10_set : Cond.code yX10_set cX10_set 4 none ∈ kUW := kUW_t6 52 (by decide +kernel) rfl
theorem min_yX10_set : Cond.initialized yX10_set.cls ∈ kUW := mini_TaleMachineModel
theorem hd_yX10_set : yX10_set.cls ≠ "java/lang/invoke/MethodHandle" ∧ yX10_set.cls ≠ "java/lang/invoke/VarHandle" ∧ (parseMethodDescriptor yX10_set.desc).map (fun d => d.parameters.length) = some 2 := by decide +kernel
theorem mim_yX10_set : Cond.instanceMethod yX10_set ∈ kUW := kUW_t6 51 (by decide +kernel) rfl
theorem mse_yX10_set : Cond.selects "TaleMachineModel" yX10_set yX10_set ∈ kUW := kUW_mem 114 (by decide +kernel) rfl
theorem mcd_yX10_getNamed : Cond.code yX10_getNamed cX10_getNamed 3 (some .int) ∈ kUW := kUW_t6 72 (by decide +kernel) rfl
theorem min_yX10_getNamed : Cond.initialized yX10_getNamed.cls ∈ kUW := mini_TaleMachineModel
theorem hd_yX10_getNamed : yX10_getNamed.cls ≠ "java/lang/invoke/MethodHandle" ∧ yX10_getNamed.cls ≠ "java/lang/invoke/VarHandle" ∧ (parseMethodDescriptor yX10_getNamed.desc).map (fun d => d.parameters.length) = some 1 := by decide +kernel
theorem mim_yX10_getNamed : Cond.instanceMethod yX10_getNamed ∈ kUW := kUW_t6 71 (by decide +kernel) rfl
theorem mse_yX10_getNamed : Cond.selects "TaleMachineModel" yX10_getNamed yX10_getNamed ∈ kUW := kUW_mem 118 (by decide +kernel) rfl
theorem mcd_yX10_setNamed : Cond.code yX10_setNamed cX10_setNamed 4 none ∈ kUW := kUW_t6 76 (by decide +kernel) rfl
theorem min_yX10_setNamed : Cond.initialized yX10_setNamed.cls ∈ kUW := mini_TaleMachineModel
theorem hd_yX10_setNamed : yX10_setNamed.cls ≠ "java/lang/invoke/MethodHandle" ∧ yX10_setNamed.cls ≠ "java/lang/invoke/VarHandle" ∧ (parseMethodDescriptor yX10_setNamed.desc).map (fun d => d.parameters.length) = some 2 := by decide +kernel
theorem mim_yX10_setNamed : Cond.instanceMethod yX10_setNamed ∈ kUW := kUW_t6 75 (by decide +kernel) rfl
theorem mse_yX10_setNamed : Cond.selects "TaleMachineModel" yX10_setNamed yX10_setNamed ∈ kUW := kUW_mem 119 (by decide +kernel) rfl
theorem mcd_yX10_answers : Cond.code yX10_answers cX10_answers 3 none ∈ kUW := kUW_t6 89 (by decide +kernel) rfl
theorem min_yX10_answers : Cond.initialized yX10_answers.cls ∈ kUW := mini_TaleMachineModel
theorem hd_yX10_answers : yX10_answers.cls ≠ "java/lang/invoke/MethodHandle" ∧ yX10_answers.cls ≠ "java/lang/invoke/VarHandle" ∧ (parseMethodDescriptor yX10_answers.desc).map (fun d => d.parameters.length) = some 1 := by decide +kernel
theorem mim_yX10_answers : Cond.instanceMethod yX10_answers ∈ kUW := kUW_t6 88 (by decide +kernel) rfl
theorem mse_yX10_answers : Cond.selects "TaleMachineModel" yX10_answers yX10_answers ∈ kUW := kUW_mem 122 (by decide +kernel) rfl
theorem mcd_yX10_returns : Cond.code yX10_returns cX10_returns 2 none ∈ kUW := kUW_t6 48 (by decide +kernel) rfl
theorem min_yX10_returns : Cond.initialized yX10_returns.cls ∈ kUW := mini_TaleMachineModel
theorem hd_yX10_returns : yX10_returns.cls ≠ "java/lang/invoke/MethodHandle" ∧ yX10_returns.cls ≠ "java/lang/invoke/VarHandle" ∧ (parseMethodDescriptor yX10_returns.desc).map (fun d => d.parameters.length) = some 1 := by decide +kernel
theorem mim_yX10_returns : Cond.instanceMethod yX10_returns ∈ kUW := kUW_t6 47 (by decide +kernel) rfl
theorem mse_yX10_returns : Cond.selects "TaleMachineModel" yX10_returns yX10_returns ∈ kUW := kUW_mem 113 (by decide +kernel) rfl
theorem mcd_yX10_goes : Cond.code yX10_goes cX10_goes 2 none ∈ kUW := kUW_t6 44 (by decide +kernel) rfl
theorem min_yX10_goes : Cond.initialized yX10_goes.cls ∈ kUW := mini_TaleMachineModel
theorem hd_yX10_goes : yX10_goes.cls ≠ "java/lang/invoke/MethodHandle" ∧ yX10_goes.cls ≠ "java/lang/invoke/VarHandle" ∧ (parseMethodDescriptor yX10_goes.desc).map (fun d => d.parameters.length) = some 1 := by decide +kernel
theorem mim_yX10_goes : Cond.instanceMethod yX10_goes ∈ kUW := kUW_t6 43 (by decide +kernel) rfl
theorem mse_yX10_goes : Cond.selects "TaleMachineModel" yX10_goes yX10_goes ∈ kUW := kUW_mem 112 (by decide +kernel) rfl
theorem mcd_yX10_branches : Cond.code yX10_branches cX10_branches 4 none ∈ kUW := kUW_t6 40 (by decide +kernel) rfl
theorem min_yX10_branches : Cond.initialized yX10_branches.cls ∈ kUW := mini_TaleMachineModel
theorem hd_yX10_branches : yX10_branches.cls ≠ "java/lang/invoke/MethodHandle" ∧ yX10_branches.cls ≠ "java/lang/invoke/VarHandle" ∧ (parseMethodDescriptor yX10_branches.desc).map (fun d => d.parameters.length) = some 1 := by decide +kernel
theorem mim_yX10_branches : Cond.instanceMethod yX10_branches ∈ kUW := kUW_t6 39 (by decide +kernel) rfl
theorem mse_yX10_branches : Cond.selects "TaleMachineModel" yX10_branches yX10_branches ∈ kUW := kUW_mem 111 (by decide +kernel) rfl
theorem mcd_yX10_object : Cond.code yX10_object cX10_object 2 (some .int) ∈ kUW := kUW_t6 84 (by decide +kernel) rfl
theorem min_yX10_object : Cond.initialized yX10_object.cls ∈ kUW := mini_TaleMachineModel
theorem hd_yX10_object : yX10_object.cls ≠ "java/lang/invoke/MethodHandle" ∧ yX10_object.cls ≠ "java/lang/invoke/VarHandle" ∧ (parseMethodDescriptor yX10_object.desc).map (fun d => d.parameters.length) = some 1 := by decide +kernel
theorem mim_yX10_object : Cond.instanceMethod yX10_object ∈ kUW := kUW_t6 83 (by decide +kernel) rfl
theorem mse_yX10_object : Cond.selects "TaleMachineModel" yX10_object yX10_object ∈ kUW := kUW_mem 121 (by decide +kernel) rfl
theorem mcd_yX10_kin : Cond.code yX10_kin cX10_kin 4 (some .int) ∈ kUW := kUW_t6 80 (by decide +kernel) rfl
theorem min_yX10_kin : Cond.initialized yX10_kin.cls ∈ kUW := mini_TaleMachineModel
theorem hd_yX10_kin : yX10_kin.cls ≠ "java/lang/invoke/MethodHandle" ∧ yX10_kin.cls ≠ "java/lang/invoke/VarHandle" ∧ (parseMethodDescriptor yX10_kin.desc).map (fun d => d.parameters.length) = some 2 := by decide +kernel
theorem mim_yX10_kin : Cond.instanceMethod yX10_kin ∈ kUW := kUW_t6 79 (by decide +kernel) rfl
theorem mse_yX10_kin : Cond.selects "TaleMachineModel" yX10_kin yX10_kin ∈ kUW := kUW_mem 120 (by decide +kernel) rfl
theorem mcd_yX10_setKin : Cond.code yX10_setKin cX10_setKin 4 none ∈ kUW := kUW_t6 118 (by decide +kernel) rfl
theorem min_yX10_setKin : Cond.initialized yX10_setKin.cls ∈ kUW := mini_TaleMachineModel
theorem hd_yX10_setKin : yX10_setKin.cls ≠ "java/lang/invoke/MethodHandle" ∧ yX10_setKin.cls ≠ "java/lang/invoke/VarHandle" ∧ (parseMethodDescriptor yX10_setKin.desc).map (fun d => d.parameters.length) = some 3 := by decide +kernel
theorem mim_yX10_setKin : Cond.instanceMethod yX10_setKin ∈ kUW := kUW_t6 117 (by decide +kernel) rfl
theorem mse_yX10_setKin : Cond.selects "TaleMachineModel" yX10_setKin yX10_setKin ∈ kUW := kUW_mem 129 (by decide +kernel) rfl
theorem mcd_yX10_removes : Cond.code yX10_removes cX10_removes 7 none ∈ kUW := kUW_t6 114 (by decide +kernel) rfl
theorem min_yX10_removes : Cond.initialized yX10_removes.cls ∈ kUW := mini_TaleMachineModel
theorem hd_yX10_removes : yX10_removes.cls ≠ "java/lang/invoke/MethodHandle" ∧ yX10_removes.cls ≠ "java/lang/invoke/VarHandle" ∧ (parseMethodDescriptor yX10_removes.desc).map (fun d => d.parameters.length) = some 1 := by decide +kernel
theorem mim_yX10_removes : Cond.instanceMethod yX10_removes ∈ kUW := kUW_t6 113 (by decide +kernel) rfl
theorem mse_yX10_removes : Cond.selects "TaleMachineModel" yX10_removes yX10_removes ∈ kUW := kUW_mem 128 (by decide +kernel) rfl
theorem mcd_yX10_inserts : Cond.code yX10_inserts cX10_inserts 6 none ∈ kUW := kUW_t6 110 (by decide +kernel) rfl
theorem min_yX10_inserts : Cond.initialized yX10_inserts.cls ∈ kUW := mini_TaleMachineModel
theorem hd_yX10_inserts : yX10_inserts.cls ≠ "java/lang/invoke/MethodHandle" ∧ yX10_inserts.cls ≠ "java/lang/invoke/VarHandle" ∧ (parseMethodDescriptor yX10_inserts.desc).map (fun d => d.parameters.length) = some 2 := by decide +kernel
theorem mim_yX10_inserts : Cond.instanceMethod yX10_inserts ∈ kUW := kUW_t6 109 (by decide +kernel) rfl
theorem mse_yX10_inserts : Cond.selects "TaleMachineModel" yX10_inserts yX10_inserts ∈ kUW := kUW_mem 127 (by decide +kernel) rfl
theorem mcd_yX10_isAttribute : Cond.code yX10_isAttribute cX10_isAttribute 2 (some .boolean) ∈ kUW := kUW_t6 97 (by decide +kernel) rfl
theorem min_yX10_isAttribute : Cond.initialized yX10_isAttribute.cls ∈ kUW := mini_TaleMachineModel
theorem hd_yX10_isAttribute : yX10_isAttribute.cls ≠ "java/lang/invoke/MethodHandle" ∧ yX10_isAttribute.cls ≠ "java/lang/invoke/VarHandle" ∧ (parseMethodDescriptor yX10_isAttribute.desc).map (fun d => d.parameters.length) = some 1 := by decide +kernel
theorem mim_yX10_isAttribute : Cond.instanceMethod yX10_isAttribute ∈ kUW := kUW_t6 96 (by decide +kernel) rfl
theorem mse_yX10_isAttribute : Cond.selects "TaleMachineModel" yX10_isAttribute yX10_isAttribute ∈ kUW := kUW_mem 124 (by decide +kernel) rfl
theorem mcd_yX10_attribute : Cond.code yX10_attribute cX10_attribute 7 none ∈ kUW := kUW_t6 102 (by decide +kernel) rfl
theorem min_yX10_attribute : Cond.initialized yX10_attribute.cls ∈ kUW := mini_TaleMachineModel
theorem hd_yX10_attribute : yX10_attribute.cls ≠ "java/lang/invoke/MethodHandle" ∧ yX10_attribute.cls ≠ "java/lang/invoke/VarHandle" ∧ (parseMethodDescriptor yX10_attribute.desc).map (fun d => d.parameters.length) = some 3 := by decide +kernel
theorem mim_yX10_attribute : Cond.instanceMethod yX10_attribute ∈ kUW := kUW_t6 101 (by decide +kernel) rfl
theorem mse_yX10_attribute : Cond.selects "TaleMachineModel" yX10_attribute yX10_attribute ∈ kUW := kUW_mem 125 (by decide +kernel) rfl
theorem mcd_yX10_hasAttribute : Cond.code yX10_hasAttribute cX10_hasAttribute 5 none ∈ kUW := kUW_t6 93 (by decide +kernel) rfl
theorem min_yX10_hasAttribute : Cond.initialized yX10_hasAttribute.cls ∈ kUW := mini_TaleMachineModel
theorem hd_yX10_hasAttribute : yX10_hasAttribute.cls ≠ "java/lang/invoke/MethodHandle" ∧ yX10_hasAttribute.cls ≠ "java/lang/invoke/VarHandle" ∧ (parseMethodDescriptor yX10_hasAttribute.desc).map (fun d => d.parameters.length) = some 2 := by decide +kernel
theorem mim_yX10_hasAttribute : Cond.instanceMethod yX10_hasAttribute ∈ kUW := kUW_t6 92 (by decide +kernel) rfl
theorem mse_yX10_hasAttribute : Cond.selects "TaleMachineModel" yX10_hasAttribute yX10_hasAttribute ∈ kUW := kUW_mem 123 (by decide +kernel) rfl
theorem mcd_yX10_properties : Cond.code yX10_properties cX10_properties 5 (some .int) ∈ kUW := kUW_t6 130 (by decide +kernel) rfl
theorem min_yX10_properties : Cond.initialized yX10_properties.cls ∈ kUW := mini_TaleMachineModel
theorem hd_yX10_properties : yX10_properties.cls ≠ "java/lang/invoke/MethodHandle" ∧ yX10_properties.cls ≠ "java/lang/invoke/VarHandle" ∧ (parseMethodDescriptor yX10_properties.desc).map (fun d => d.parameters.length) = some 1 := by decide +kernel
theorem mim_yX10_properties : Cond.instanceMethod yX10_properties ∈ kUW := kUW_t6 129 (by decide +kernel) rfl
theorem mse_yX10_properties : Cond.selects "TaleMachineModel" yX10_properties yX10_properties ∈ kUW := kUW_mem 132 (by decide +kernel) rfl
theorem mcd_yX10_property : Cond.code yX10_property cX10_property 5 (some .int) ∈ kUW := kUW_t6 126 (by decide +kernel) rfl
theorem min_yX10_property : Cond.initialized yX10_property.cls ∈ kUW := mini_TaleMachineModel
theorem hd_yX10_property : yX10_property.cls ≠ "java/lang/invoke/MethodHandle" ∧ yX10_property.cls ≠ "java/lang/invoke/VarHandle" ∧ (parseMethodDescriptor yX10_property.desc).map (fun d => d.parameters.length) = some 2 := by decide +kernel
theorem mim_yX10_property : Cond.instanceMethod yX10_property ∈ kUW := kUW_t6 125 (by decide +kernel) rfl
theorem mse_yX10_property : Cond.selects "TaleMachineModel" yX10_property yX10_property ∈ kUW := kUW_mem 131 (by decide +kernel) rfl
theorem mcd_yX10_getProperty : Cond.code yX10_getProperty cX10_getProperty 6 none ∈ kUW := kUW_t6 122 (by decide +kernel) rfl
theorem min_yX10_getProperty : Cond.initialized yX10_getProperty.cls ∈ kUW := mini_TaleMachineModel
theorem hd_yX10_getProperty : yX10_getProperty.cls ≠ "java/lang/invoke/MethodHandle" ∧ yX10_getProperty.cls ≠ "java/lang/invoke/VarHandle" ∧ (parseMethodDescriptor yX10_getProperty.desc).map (fun d => d.parameters.length) = some 2 := by decide +kernel
theorem mim_yX10_getProperty : Cond.instanceMethod yX10_getProperty ∈ kUW := kUW_t6 121 (by decide +kernel) rfl
theorem mse_yX10_getProperty : Cond.selects "TaleMachineModel" yX10_getProperty yX10_getProperty ∈ kUW := kUW_mem 130 (by decide +kernel) rfl
theorem mcd_yX10_putProperty : Cond.code yX10_putProperty cX10_putProperty 6 none ∈ kUW := kUW_t6 150 (by decide +kernel) rfl
theorem min_yX10_putProperty : Cond.initialized yX10_putProperty.cls ∈ kUW := mini_TaleMachineModel
theorem hd_yX10_putProperty : yX10_putProperty.cls ≠ "java/lang/invoke/MethodHandle" ∧ yX10_putProperty.cls ≠ "java/lang/invoke/VarHandle" ∧ (parseMethodDescriptor yX10_putProperty.desc).map (fun d => d.parameters.length) = some 3 := by decide +kernel
theorem mim_yX10_putProperty : Cond.instanceMethod yX10_putProperty ∈ kUW := kUW_t6 149 (by decide +kernel) rfl
theorem mse_yX10_putProperty : Cond.selects "TaleMachineModel" yX10_putProperty yX10_putProperty ∈ kUW := kUW_mem 137 (by decide +kernel) rfl
theorem mcd_yX10_nextProperty : Cond.code yX10_nextProperty cX10_nextProperty 5 none ∈ kUW := kUW_t6 134 (by decide +kernel) rfl
theorem min_yX10_nextProperty : Cond.initialized yX10_nextProperty.cls ∈ kUW := mini_TaleMachineModel
theorem hd_yX10_nextProperty : yX10_nextProperty.cls ≠ "java/lang/invoke/MethodHandle" ∧ yX10_nextProperty.cls ≠ "java/lang/invoke/VarHandle" ∧ (parseMethodDescriptor yX10_nextProperty.desc).map (fun d => d.parameters.length) = some 2 := by decide +kernel
theorem mim_yX10_nextProperty : Cond.instanceMethod yX10_nextProperty ∈ kUW := kUW_t6 133 (by decide +kernel) rfl
theorem mse_yX10_nextProperty : Cond.selects "TaleMachineModel" yX10_nextProperty yX10_nextProperty ∈ kUW := kUW_mem 133 (by decide +kernel) rfl
theorem mcd_yX10_tells : Cond.code yX10_tells cX10_tells 3 none ∈ kUW := kUW_t6 154 (by decide +kernel) rfl
theorem min_yX10_tells : Cond.initialized yX10_tells.cls ∈ kUW := mini_TaleMachineModel
theorem hd_yX10_tells : yX10_tells.cls ≠ "java/lang/invoke/MethodHandle" ∧ yX10_tells.cls ≠ "java/lang/invoke/VarHandle" ∧ (parseMethodDescriptor yX10_tells.desc).map (fun d => d.parameters.length) = some 1 := by decide +kernel
theorem mim_yX10_tells : Cond.instanceMethod yX10_tells ∈ kUW := kUW_t6 153 (by decide +kernel) rfl
theorem mse_yX10_tells : Cond.selects "TaleMachineModel" yX10_tells yX10_tells ∈ kUW := kUW_mem 138 (by decide +kernel) rfl
theorem mcd_yX10_tellsOf : Cond.code yX10_tellsOf cX10_tellsOf 2 none ∈ kUW := kUW_t6 177 (by decide +kernel) rfl
theorem min_yX10_tellsOf : Cond.initialized yX10_tellsOf.cls ∈ kUW := mini_TaleMachineModel
theorem hd_yX10_tellsOf : yX10_tellsOf.cls ≠ "java/lang/invoke/MethodHandle" ∧ yX10_tellsOf.cls ≠ "java/lang/invoke/VarHandle" ∧ (parseMethodDescriptor yX10_tellsOf.desc).map (fun d => d.parameters.length) = some 1 := by decide +kernel
theorem mim_yX10_tellsOf : Cond.instanceMethod yX10_tellsOf ∈ kUW := kUW_t6 176 (by decide +kernel) rfl
theorem mse_yX10_tellsOf : Cond.selects "TaleMachineModel" yX10_tellsOf yX10_tellsOf ∈ kUW := kUW_mem 143 (by decide +kernel) rfl
theorem mcd_yX10_tellsText : Cond.code yX10_tellsText cX10_tellsText 10 (some .int) ∈ kUW := kUW_t6 173 (by decide +kernel) rfl
theorem min_yX10_tellsText : Cond.initialized yX10_tellsText.cls ∈ kUW := mini_TaleMachineModel
theorem hd_yX10_tellsText : yX10_tellsText.cls ≠ "java/lang/invoke/MethodHandle" ∧ yX10_tellsText.cls ≠ "java/lang/invoke/VarHandle" ∧ (parseMethodDescriptor yX10_tellsText.desc).map (fun d => d.parameters.length) = some 1 := by decide +kernel
theorem mim_yX10_tellsText : Cond.instanceMethod yX10_tellsText ∈ kUW := kUW_t6 172 (by decide +kernel) rfl
theorem mse_yX10_tellsText : Cond.selects "TaleMachineModel" yX10_tellsText yX10_tellsText ∈ kUW := kUW_mem 142 (by decide +kernel) rfl
theorem mcd_yX10_tellsNumber : Cond.code yX10_tellsNumber cX10_tellsNumber 4 none ∈ kUW := kUW_t6 160 (by decide +kernel) rfl
theorem min_yX10_tellsNumber : Cond.initialized yX10_tellsNumber.cls ∈ kUW := mini_TaleMachineModel
theorem hd_yX10_tellsNumber : yX10_tellsNumber.cls ≠ "java/lang/invoke/MethodHandle" ∧ yX10_tellsNumber.cls ≠ "java/lang/invoke/VarHandle" ∧ (parseMethodDescriptor yX10_tellsNumber.desc).map (fun d => d.parameters.length) = some 1 := by decide +kernel
theorem mim_yX10_tellsNumber : Cond.instanceMethod yX10_tellsNumber ∈ kUW := kUW_t6 159 (by decide +kernel) rfl
theorem mse_yX10_tellsNumber : Cond.selects "TaleMachineModel" yX10_tellsNumber yX10_tellsNumber ∈ kUW := kUW_mem 139 (by decide +kernel) rfl
theorem mcd_yX10_operand : Cond.code yX10_operand cX10_operand 3 none ∈ kUW := kUW_t6 11 (by decide +kernel) rfl
theorem min_yX10_operand : Cond.initialized yX10_operand.cls ∈ kUW := mini_TaleMachineModel
theorem hd_yX10_operand : yX10_operand.cls ≠ "java/lang/invoke/MethodHandle" ∧ yX10_operand.cls ≠ "java/lang/invoke/VarHandle" ∧ (parseMethodDescriptor yX10_operand.desc).map (fun d => d.parameters.length) = some 1 := by decide +kernel
theorem mim_yX10_operand : Cond.instanceMethod yX10_operand ∈ kUW := kUW_t6 10 (by decide +kernel) rfl
theorem mse_yX10_operand : Cond.selects "TaleMachineModel" yX10_operand yX10_operand ∈ kUW := kUW_mem 104 (by decide +kernel) rfl
theorem mcd_yX10_has : Cond.code yX10_has cX10_has 2 (some .boolean) ∈ kUW := kUW_t6 32 (by decide +kernel) rfl
theorem min_yX10_has : Cond.initialized yX10_has.cls ∈ kUW := mini_TaleMachineModel
theorem hd_yX10_has : yX10_has.cls ≠ "java/lang/invoke/MethodHandle" ∧ yX10_has.cls ≠ "java/lang/invoke/VarHandle" ∧ (parseMethodDescriptor yX10_has.desc).map (fun d => d.parameters.length) = some 1 := by decide +kernel
theorem mim_yX10_has : Cond.instanceMethod yX10_has ∈ kUW := kUW_t6 31 (by decide +kernel) rfl
theorem mse_yX10_has : Cond.selects "TaleMachineModel" yX10_has yX10_has ∈ kUW := kUW_mem 109 (by decide +kernel) rfl
theorem mcd_yX10_order : Cond.code yX10_order cX10_order 4 none ∈ kUW := kUW_t5 235 (by decide +kernel) rfl
theorem min_yX10_order : Cond.initialized yX10_order.cls ∈ kUW := mini_TaleMachineModel
theorem hd_yX10_order : yX10_order.cls ≠ "java/lang/invoke/MethodHandle" ∧ yX10_order.cls ≠ "java/lang/invoke/VarHandle" ∧ (parseMethodDescriptor yX10_order.desc).map (fun d => d.parameters.length) = some 0 := by decide +kernel
theorem mim_yX10_order : Cond.instanceMethod yX10_order ∈ kUW := kUW_t5 234 (by decide +kernel) rfl
theorem mse_yX10_order : Cond.selects "TaleMachineModel" yX10_order yX10_order ∈ kUW := kUW_mem 100 (by decide +kernel) rfl
theorem mcd_yX10_isOneOf : Cond.code yX10_isOneOf cX10_isOneOf 4 (some .boolean) ∈ kUW := kUW_t6 36 (by decide +kernel) rfl
theorem min_yX10_isOneOf : Cond.initialized yX10_isOneOf.cls ∈ kUW := mini_TaleMachineModel
theorem hd_yX10_isOneOf : yX10_isOneOf.cls ≠ "java/lang/invoke/MethodHandle" ∧ yX10_isOneOf.cls ≠ "java/lang/invoke/VarHandle" ∧ (parseMethodDescriptor yX10_isOneOf.desc).map (fun d => d.parameters.length) = some 1 := by decide +kernel
theorem mim_yX10_isOneOf : Cond.instanceMethod yX10_isOneOf ∈ kUW := kUW_t6 35 (by decide +kernel) rfl
theorem mse_yX10_isOneOf : Cond.selects "TaleMachineModel" yX10_isOneOf yX10_isOneOf ∈ kUW := kUW_mem 110 (by decide +kernel) rfl
theorem mcd_yX10_two : Cond.code yX10_two cX10_two 5 none ∈ kUW := kUW_t6 27 (by decide +kernel) rfl
theorem min_yX10_two : Cond.initialized yX10_two.cls ∈ kUW := mini_TaleMachineModel
theorem hd_yX10_two : yX10_two.cls ≠ "java/lang/invoke/MethodHandle" ∧ yX10_two.cls ≠ "java/lang/invoke/VarHandle" ∧ (parseMethodDescriptor yX10_two.desc).map (fun d => d.parameters.length) = some 1 := by decide +kernel
theorem mim_yX10_two : Cond.instanceMethod yX10_two ∈ kUW := kUW_t6 26 (by decide +kernel) rfl
theorem mse_yX10_two : Cond.selects "TaleMachineModel" yX10_two yX10_two ∈ kUW := kUW_mem 108 (by decide +kernel) rfl
theorem mcd_yX10_works : Cond.code yX10_works cX10_works 6 none ∈ kUW := kUW_t6 138 (by decide +kernel) rfl
theorem min_yX10_works : Cond.initialized yX10_works.cls ∈ kUW := mini_TaleMachineModel
theorem hd_yX10_works : yX10_works.cls ≠ "java/lang/invoke/MethodHandle" ∧ yX10_works.cls ≠ "java/lang/invoke/VarHandle" ∧ (parseMethodDescriptor yX10_works.desc).map (fun d => d.parameters.length) = some 3 := by decide +kernel
theorem mim_yX10_works : Cond.instanceMethod yX10_works ∈ kUW := kUW_t6 137 (by decide +kernel) rfl
theorem mse_yX10_works : Cond.selects "TaleMachineModel" yX10_works yX10_works ∈ kUW := kUW_mem 134 (by decide +kernel) rfl
theorem mcd_yX10_one : Cond.code yX10_one cX10_one 4 none ∈ kUW := kUW_t6 182 (by decide +kernel) rfl
theorem min_yX10_one : Cond.initialized yX10_one.cls ∈ kUW := mini_TaleMachineModel
theorem hd_yX10_one : yX10_one.cls ≠ "java/lang/invoke/MethodHandle" ∧ yX10_one.cls ≠ "java/lang/invoke/VarHandle" ∧ (parseMethodDescriptor yX10_one.desc).map (fun d => d.parameters.length) = some 2 := by decide +kernel
theorem mim_yX10_one : Cond.instanceMethod yX10_one ∈ kUW := kUW_t6 181 (by decide +kernel) rfl
theorem mse_yX10_one : Cond.selects "TaleMachineModel" yX10_one yX10_one ∈ kUW := kUW_mem 144 (by decide +kernel) rfl
theorem mcd_yX10_none : Cond.code yX10_none cX10_none 3 none ∈ kUW := kUW_t6 169 (by decide +kernel) rfl
theorem min_yX10_none : Cond.initialized yX10_none.cls ∈ kUW := mini_TaleMachineModel
theorem hd_yX10_none : yX10_none.cls ≠ "java/lang/invoke/MethodHandle" ∧ yX10_none.cls ≠ "java/lang/invoke/VarHandle" ∧ (parseMethodDescriptor yX10_none.desc).map (fun d => d.parameters.length) = some 1 := by decide +kernel
theorem mim_yX10_none : Cond.instanceMethod yX10_none ∈ kUW := kUW_t6 168 (by decide +kernel) rfl
theorem mse_yX10_none : Cond.selects "TaleMachineModel" yX10_none yX10_none ∈ kUW := kUW_mem 141 (by decide +kernel) rfl
theorem mcd_yX10_var : Cond.code yX10_var cX10_var 4 none ∈ kUW := kUW_t6 142 (by decide +kernel) rfl
theorem min_yX10_var : Cond.initialized yX10_var.cls ∈ kUW := mini_TaleMachineModel
theorem hd_yX10_var : yX10_var.cls ≠ "java/lang/invoke/MethodHandle" ∧ yX10_var.cls ≠ "java/lang/invoke/VarHandle" ∧ (parseMethodDescriptor yX10_var.desc).map (fun d => d.parameters.length) = some 1 := by decide +kernel
theorem mim_yX10_var : Cond.instanceMethod yX10_var ∈ kUW := kUW_t6 141 (by decide +kernel) rfl
theorem mse_yX10_var : Cond.selects "TaleMachineModel" yX10_var yX10_var ∈ kUW := kUW_mem 135 (by decide +kernel) rfl
theorem mcd_yX10_draws : Cond.code yX10_draws cX10_draws 3 none ∈ kUW := kUW_t6 164 (by decide +kernel) rfl
theorem min_yX10_draws : Cond.initialized yX10_draws.cls ∈ kUW := mini_TaleMachineModel
theorem hd_yX10_draws : yX10_draws.cls ≠ "java/lang/invoke/MethodHandle" ∧ yX10_draws.cls ≠ "java/lang/invoke/VarHandle" ∧ (parseMethodDescriptor yX10_draws.desc).map (fun d => d.parameters.length) = some 1 := by decide +kernel
theorem mim_yX10_draws : Cond.instanceMethod yX10_draws ∈ kUW := kUW_t6 163 (by decide +kernel) rfl
theorem mse_yX10_draws : Cond.selects "TaleMachineModel" yX10_draws yX10_draws ∈ kUW := kUW_mem 140 (by decide +kernel) rfl
theorem mcd_yX10_calls : Cond.code yX10_calls cX10_calls 7 none ∈ kUW := kUW_t6 146 (by decide +kernel) rfl
theorem min_yX10_calls : Cond.initialized yX10_calls.cls ∈ kUW := mini_TaleMachineModel
theorem hd_yX10_calls : yX10_calls.cls ≠ "java/lang/invoke/MethodHandle" ∧ yX10_calls.cls ≠ "java/lang/invoke/VarHandle" ∧ (parseMethodDescriptor yX10_calls.desc).map (fun d => d.parameters.length) = some 1 := by decide +kernel
theorem mim_yX10_calls : Cond.instanceMethod yX10_calls ∈ kUW := kUW_t6 145 (by decide +kernel) rfl
theorem mse_yX10_calls : Cond.selects "TaleMachineModel" yX10_calls yX10_calls ∈ kUW := kUW_mem 136 (by decide +kernel) rfl
theorem mcd_yX10_run : Cond.code yX10_run cX10_run 3 (some .int) ∈ kUW := kUW_t5 230 (by decide +kernel) rfl
theorem min_yX10_run : Cond.initialized yX10_run.cls ∈ kUW := mini_TaleMachineModel
theorem hd_yX10_run : yX10_run.cls ≠ "java/lang/invoke/MethodHandle" ∧ yX10_run.cls ≠ "java/lang/invoke/VarHandle" ∧ (parseMethodDescriptor yX10_run.desc).map (fun d => d.parameters.length) = some 1 := by decide +kernel
theorem mim_yX10_run : Cond.instanceMethod yX10_run ∈ kUW := kUW_t5 228 (by decide +kernel) rfl
theorem mse_yX10_run : Cond.selects "TaleMachineModel" yX10_run yX10_run ∈ kUW := kUW_t5 229 (by decide +kernel) rfl
theorem mcd_yX10_state : Cond.code yX10_state cX10_state 1 (some .int) ∈ kUW := kUW_t6 186 (by decide +kernel) rfl
theorem min_yX10_state : Cond.initialized yX10_state.cls ∈ kUW := mini_TaleMachineModel
theorem hd_yX10_state : yX10_state.cls ≠ "java/lang/invoke/MethodHandle" ∧ yX10_state.cls ≠ "java/lang/invoke/VarHandle" ∧ (parseMethodDescriptor yX10_state.desc).map (fun d => d.parameters.length) = some 0 := by decide +kernel
theorem mim_yX10_state : Cond.instanceMethod yX10_state ∈ kUW := kUW_t6 184 (by decide +kernel) rfl
theorem mse_yX10_state : Cond.selects "TaleMachineModel" yX10_state yX10_state ∈ kUW := kUW_t6 185 (by decide +kernel) rfl
theorem mcd_yX10_isSeparator : Cond.code yX10_isSeparator cX10_isSeparator 6 (some .boolean) ∈ kUW := kUW_t6 196 (by decide +kernel) rfl
theorem min_yX10_isSeparator : Cond.initialized yX10_isSeparator.cls ∈ kUW := mini_TaleMachineModel
theorem hd_yX10_isSeparator : yX10_isSeparator.cls ≠ "java/lang/invoke/MethodHandle" ∧ yX10_isSeparator.cls ≠ "java/lang/invoke/VarHandle" ∧ (parseMethodDescriptor yX10_isSeparator.desc).map (fun d => d.parameters.length) = some 1 := by decide +kernel
theorem mim_yX10_isSeparator : Cond.instanceMethod yX10_isSeparator ∈ kUW := kUW_t6 195 (by decide +kernel) rfl
theorem mse_yX10_isSeparator : Cond.selects "TaleMachineModel" yX10_isSeparator yX10_isSeparator ∈ kUW := kUW_mem 145 (by decide +kernel) rfl
theorem mcd_yX10_letter : Cond.code yX10_letter cX10_letter 2 none ∈ kUW := kUW_t6 210 (by decide +kernel) rfl
theorem min_yX10_letter : Cond.initialized yX10_letter.cls ∈ kUW := mini_TaleMachineModel
theorem hd_yX10_letter : yX10_letter.cls ≠ "java/lang/invoke/MethodHandle" ∧ yX10_letter.cls ≠ "java/lang/invoke/VarHandle" ∧ (parseMethodDescriptor yX10_letter.desc).map (fun d => d.parameters.length) = some 1 := by decide +kernel
theorem mim_yX10_letter : Cond.instanceMethod yX10_letter ∈ kUW := kUW_t6 209 (by decide +kernel) rfl
theorem mse_yX10_letter : Cond.selects "TaleMachineModel" yX10_letter yX10_letter ∈ kUW := kUW_mem 148 (by decide +kernel) rfl
theorem mcd_yX10_letters : Cond.code yX10_letters cX10_letters 3 none ∈ kUW := kUW_t6 204 (by decide +kernel) rfl
theorem min_yX10_letters : Cond.initialized yX10_letters.cls ∈ kUW := mini_TaleMachineModel
theorem hd_yX10_letters : yX10_letters.cls ≠ "java/lang/invoke/MethodHandle" ∧ yX10_letters.cls ≠ "java/lang/invoke/VarHandle" ∧ (parseMethodDescriptor yX10_letters.desc).map (fun d => d.parameters.length) = some 1 := by decide +kernel
theorem mim_yX10_letters : Cond.instanceMethod yX10_letters ∈ kUW := kUW_t6 203 (by decide +kernel) rfl
theorem mse_yX10_letters : Cond.selects "TaleMachineModel" yX10_letters yX10_letters ∈ kUW := kUW_mem 147 (by decide +kernel) rfl
theorem mcd_yX10_looked : Cond.code yX10_looked cX10_looked 12 (some .int) ∈ kUW := kUW_t6 200 (by decide +kernel) rfl
theorem min_yX10_looked : Cond.initialized yX10_looked.cls ∈ kUW := mini_TaleMachineModel
theorem hd_yX10_looked : yX10_looked.cls ≠ "java/lang/invoke/MethodHandle" ∧ yX10_looked.cls ≠ "java/lang/invoke/VarHandle" ∧ (parseMethodDescriptor yX10_looked.desc).map (fun d => d.parameters.length) = some 2 := by decide +kernel
theorem mim_yX10_looked : Cond.instanceMethod yX10_looked ∈ kUW := kUW_t6 199 (by decide +kernel) rfl
theorem mse_yX10_looked : Cond.selects "TaleMachineModel" yX10_looked yX10_looked ∈ kUW := kUW_mem 146 (by decide +kernel) rfl
theorem mcd_yX10_line : Cond.code yX10_line cX10_line 11 (some .int) ∈ kUW := kUW_t6 190 (by decide +kernel) rfl
theorem min_yX10_line : Cond.initialized yX10_line.cls ∈ kUW := mini_TaleMachineModel
theorem hd_yX10_line : yX10_line.cls ≠ "java/lang/invoke/MethodHandle" ∧ yX10_line.cls ≠ "java/lang/invoke/VarHandle" ∧ (parseMethodDescriptor yX10_line.desc).map (fun d => d.parameters.length) = some 2 := by decide +kernel
theorem mim_yX10_line : Cond.instanceMethod yX10_line ∈ kUW := kUW_t6 188 (by decide +kernel) rfl
theorem mse_yX10_line : Cond.selects "TaleMachineModel" yX10_line yX10_line ∈ kUW := kUW_t6 189 (by decide +kernel) rfl
theorem mcd_yX10_out : Cond.code yX10_out cX10_out 2 (some .int) ∈ kUW := kUW_t6 215 (by decide +kernel) rfl
theorem min_yX10_out : Cond.initialized yX10_out.cls ∈ kUW := mini_TaleMachineModel
theorem hd_yX10_out : yX10_out.cls ≠ "java/lang/invoke/MethodHandle" ∧ yX10_out.cls ≠ "java/lang/invoke/VarHandle" ∧ (parseMethodDescriptor yX10_out.desc).map (fun d => d.parameters.length) = some 1 := by decide +kernel
theorem mim_yX10_out : Cond.instanceMethod yX10_out ∈ kUW := kUW_t6 213 (by decide +kernel) rfl
theorem mse_yX10_out : Cond.selects "TaleMachineModel" yX10_out yX10_out ∈ kUW := kUW_t6 214 (by decide +kernel) rfl
theorem mcd_yX10_count : Cond.code yX10_count cX10_count 2 (some .int) ∈ kUW := kUW_t6 219 (by decide +kernel) rfl
theorem min_yX10_count : Cond.initialized yX10_count.cls ∈ kUW := mini_TaleMachineModel
theorem hd_yX10_count : yX10_count.cls ≠ "java/lang/invoke/MethodHandle" ∧ yX10_count.cls ≠ "java/lang/invoke/VarHandle" ∧ (parseMethodDescriptor yX10_count.desc).map (fun d => d.parameters.length) = some 1 := by decide +kernel
theorem mim_yX10_count : Cond.instanceMethod yX10_count ∈ kUW := kUW_t6 217 (by decide +kernel) rfl
theorem mse_yX10_count : Cond.selects "TaleMachineModel" yX10_count yX10_count ∈ kUW := kUW_t6 218 (by decide +kernel) rfl
theorem mcd_yX10_peek : Cond.code yX10_peek cX10_peek 2 (some .int) ∈ kUW := kUW_t6 224 (by decide +kernel) rfl
theorem min_yX10_peek : Cond.initialized yX10_peek.cls ∈ kUW := mini_TaleMachineModel
theorem hd_yX10_peek : yX10_peek.cls ≠ "java/lang/invoke/MethodHandle" ∧ yX10_peek.cls ≠ "java/lang/invoke/VarHandle" ∧ (parseMethodDescriptor yX10_peek.desc).map (fun d => d.parameters.length) = some 1 := by decide +kernel
theorem mim_yX10_peek : Cond.instanceMethod yX10_peek ∈ kUW := kUW_t6 222 (by decide +kernel) rfl
theorem mse_yX10_peek : Cond.selects "TaleMachineModel" yX10_peek yX10_peek ∈ kUW := kUW_t6 223 (by decide +kernel) rfl
theorem mcd_yX10_word : Cond.code yX10_word cX10_word 3 (some .int) ∈ kUW := kUW_t6 228 (by decide +kernel) rfl
theorem min_yX10_word : Cond.initialized yX10_word.cls ∈ kUW := mini_TaleMachineModel
theorem hd_yX10_word : yX10_word.cls ≠ "java/lang/invoke/MethodHandle" ∧ yX10_word.cls ≠ "java/lang/invoke/VarHandle" ∧ (parseMethodDescriptor yX10_word.desc).map (fun d => d.parameters.length) = some 2 := by decide +kernel
theorem mim_yX10_word : Cond.instanceMethod yX10_word ∈ kUW := kUW_t6 226 (by decide +kernel) rfl
theorem mse_yX10_word : Cond.selects "TaleMachineModel" yX10_word yX10_word ∈ kUW := kUW_t6 227 (by decide +kernel) rfl
theorem mcd_yX10_text : Cond.code yX10_text cX10_text 6 (some .int) ∈ kUW := kUW_t6 232 (by decide +kernel) rfl
theorem min_yX10_text : Cond.initialized yX10_text.cls ∈ kUW := mini_TaleMachineModel
theorem hd_yX10_text : yX10_text.cls ≠ "java/lang/invoke/MethodHandle" ∧ yX10_text.cls ≠ "java/lang/invoke/VarHandle" ∧ (parseMethodDescriptor yX10_text.desc).map (fun d => d.parameters.length) = some 2 := by decide +kernel
theorem mim_yX10_text : Cond.instanceMethod yX10_text ∈ kUW := kUW_t6 230 (by decide +kernel) rfl
theorem mse_yX10_text : Cond.selects "TaleMachineModel" yX10_text yX10_text ∈ kUW := kUW_t6 231 (by decide +kernel) rfl
theorem mcd_yX10_squeeze : Cond.code yX10_squeeze cX10_squeeze 7 none ∈ kUW := kUW_t7 0 (by decide +kernel) rfl
theorem min_yX10_squeeze : Cond.initialized yX10_squeeze.cls ∈ kUW := mini_TaleMachineModel
theorem hd_yX10_squeeze : yX10_squeeze.cls ≠ "java/lang/invoke/MethodHandle" ∧ yX10_squeeze.cls ≠ "java/lang/invoke/VarHandle" ∧ (parseMethodDescriptor yX10_squeeze.desc).map (fun d => d.parameters.length) = some 1 := by decide +kernel
theorem mim_yX10_squeeze : Cond.instanceMethod yX10_squeeze ∈ kUW := kUW_t6 239 (by decide +kernel) rfl
theorem mse_yX10_squeeze : Cond.selects "TaleMachineModel" yX10_squeeze yX10_squeeze ∈ kUW := kUW_mem 149 (by decide +kernel) rfl
theorem mcd_yX10_save : Cond.code yX10_save cX10_save 5 (some .int) ∈ kUW := kUW_t6 236 (by decide +kernel) rfl
theorem min_yX10_save : Cond.initialized yX10_save.cls ∈ kUW := mini_TaleMachineModel
theorem hd_yX10_save : yX10_save.cls ≠ "java/lang/invoke/MethodHandle" ∧ yX10_save.cls ≠ "java/lang/invoke/VarHandle" ∧ (parseMethodDescriptor yX10_save.desc).map (fun d => d.parameters.length) = some 1 := by decide +kernel
theorem mim_yX10_save : Cond.instanceMethod yX10_save ∈ kUW := kUW_t6 234 (by decide +kernel) rfl
theorem mse_yX10_save : Cond.selects "TaleMachineModel" yX10_save yX10_save ∈ kUW := kUW_t6 235 (by decide +kernel) rfl
theorem mcd_yX10_restore : Cond.code yX10_restore cX10_restore 5 (some .int) ∈ kUW := kUW_t7 4 (by decide +kernel) rfl
theorem min_yX10_restore : Cond.initialized yX10_restore.cls ∈ kUW := mini_TaleMachineModel
theorem hd_yX10_restore : yX10_restore.cls ≠ "java/lang/invoke/MethodHandle" ∧ yX10_restore.cls ≠ "java/lang/invoke/VarHandle" ∧ (parseMethodDescriptor yX10_restore.desc).map (fun d => d.parameters.length) = some 1 := by decide +kernel
theorem mim_yX10_restore : Cond.instanceMethod yX10_restore ∈ kUW := kUW_t7 2 (by decide +kernel) rfl
theorem mse_yX10_restore : Cond.selects "TaleMachineModel" yX10_restore yX10_restore ∈ kUW := kUW_t7 3 (by decide +kernel) rfl
theorem mcd_yX10_squeezed : Cond.code yX10_squeezed cX10_squeezed 3 (some .int) ∈ kUW := kUW_t7 8 (by decide +kernel) rfl
theorem min_yX10_squeezed : Cond.initialized yX10_squeezed.cls ∈ kUW := mini_TaleMachineModel
theorem hd_yX10_squeezed : yX10_squeezed.cls ≠ "java/lang/invoke/MethodHandle" ∧ yX10_squeezed.cls ≠ "java/lang/invoke/VarHandle" ∧ (parseMethodDescriptor yX10_squeezed.desc).map (fun d => d.parameters.length) = some 2 := by decide +kernel
theorem mim_yX10_squeezed : Cond.instanceMethod yX10_squeezed ∈ kUW := kUW_t7 6 (by decide +kernel) rfl
theorem mse_yX10_squeezed : Cond.selects "TaleMachineModel" yX10_squeezed yX10_squeezed ∈ kUW := kUW_t7 7 (by decide +kernel) rfl
theorem jm_max_c : Cond.code Lib.Math.max.name Lib.Math.max.code 2 (some .int) ∈ kUW := kUW_t2 163 (by decide +kernel) rfl
theorem jm_max_s : Cond.static Lib.Math.max.name ∈ kUW := kUW_t2 162 (by decide +kernel) rfl
theorem jm_min_c : Cond.code Lib.Math.min.name Lib.Math.min.code 2 (some .int) ∈ kUW := kUW_t2 160 (by decide +kernel) rfl
theorem jm_min_s : Cond.static Lib.Math.min.name ∈ kUW := kUW_t2 159 (by decide +kernel) rfl
theorem jm_abs_c : Cond.code Lib.Math.abs.name Lib.Math.abs.code 1 (some .int) ∈ kUW := kUW_t3 112 (by decide +kernel) rfl
theorem jm_abs_s : Cond.static Lib.Math.abs.name ∈ kUW := kUW_t3 111 (by decide +kernel) rfl
theorem jm_init : Cond.initialized "java/lang/Math" ∈ kUW := mini_java_lang_Math
theorem jc_n : Cond.native arraycopyName ∈ kUW := kUW_t2 166 (by decide +kernel) rfl
theorem jc_s : Cond.static arraycopyName ∈ kUW := kUW_t2 165 (by decide +kernel) rfl
theorem jc_i : Cond.initialized "java/lang/System" ∈ kUW := mini_java_lang_System
set_option maxRecDepth 20000 in
theorem inX0 : ∀ w ∈ u_ws RX0 TX0 2, w ∈ kUW := by decide +kernel
set_option maxRecDepth 20000 in
theorem inX1 : ∀ w ∈ u_ws RX1 TX1 17, w ∈ kUW := by decide +kernel
set_option maxRecDepth 20000 in
theorem inX2 : ∀ w ∈ u_ws RX2 TX2 1, w ∈ kUW := by decide +kernel
set_option maxRecDepth 20000 in
theorem inX3 : ∀ w ∈ u_ws RX3 TX3 8, w ∈ kUW := by decide +kernel
set_option maxRecDepth 20000 in
theorem inX4 : ∀ w ∈ u_ws RX4 TX4 8, w ∈ kUW := by decide +kernel
set_option maxRecDepth 20000 in
theorem inX5 : ∀ w ∈ u_ws RX5 TX5 8, w ∈ kUW := by decide +kernel
set_option maxRecDepth 20000 in
theorem inX6 : ∀ w ∈ u_ws RX6 TX6 10, w ∈ kUW := by decide +kernel
set_option maxRecDepth 20000 in
theorem inX7 : ∀ w ∈ u_ws RX7 TX7 14, w ∈ kUW := by decide +kernel
set_option maxRecDepth 20000 in
theorem inX8 : ∀ w ∈ u_ws RX8 TX8 2, w ∈ kUW := by decide +kernel
set_option maxRecDepth 20000 in
theorem inX9 : ∀ w ∈ u_ws RX9 TX9 10, w ∈ kUW := by decide +kernel
set_option maxRecDepth 20000 in
theorem inX10 : ∀ w ∈ u_ws RX10 TX10 49, w ∈ kUW := by decide +kernel
