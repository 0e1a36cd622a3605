def RJ0 : String := "java/lang/String"
def RJ1 : String := "java/lang/StringLatin1"
def RJ10 : String := "java/lang/System"
def RJ11 : String := "java/lang/Character"
def RJ2 : String := "java/lang/StringUTF16"
def RJ3 : String := "jdk/internal/util/Preconditions"
def RJ9 : String := "java/lang/Math"
abbrev cJ0_length_8abf5 : ByteArray := prog_15_method_54_code
def yJ0_length_8abf5 : MethodName := ⟨"java/lang/String", "length", "()I"⟩
def dt_cJ0_length_8abf5 : List (Nat × Instr × Nat) := [(0, .aload_n 0, 1), (1, .getfield 9, 3), (4, .arraylength, 1), (5, .aload_n 0, 1), (6, .invokevirtual 335, 3), (9, .ishr, 1), (10, .ireturn, 1)]
theorem dk_cJ0_length_8abf5 : ∀ q ∈ dt_cJ0_length_8abf5, decode cJ0_length_8abf5 q.1 = .ok (q.2.1, q.2.2) := by decide +kernel
theorem mcd_yJ0_length_8abf5 : Cond.code yJ0_length_8abf5 cJ0_length_8abf5 1 (some .int) ∈ kUW := kUW_t3 166 (by decide +kernel) rfl
theorem min_yJ0_length_8abf5 : Cond.initialized yJ0_length_8abf5.cls ∈ kUW := mini_java_lang_String
theorem hd_yJ0_length_8abf5 : yJ0_length_8abf5.cls ≠ "java/lang/invoke/MethodHandle" ∧ yJ0_length_8abf5.cls ≠ "java/lang/invoke/VarHandle" ∧ (parseMethodDescriptor yJ0_length_8abf5.desc).map (fun d => d.parameters.length) = some 0 := by decide +kernel
theorem mim_yJ0_length_8abf5 : Cond.instanceMethod yJ0_length_8abf5 ∈ kUW := kUW_t3 164 (by decide +kernel) rfl
theorem mse_yJ0_length_8abf5 : Cond.selects "java/lang/String" yJ0_length_8abf5 yJ0_length_8abf5 ∈ kUW := kUW_t3 165 (by decide +kernel) rfl
abbrev cJ0_charAt_5068e : ByteArray := prog_15_method_56_code
def yJ0_charAt_5068e : MethodName := ⟨"java/lang/String", "charAt", "(I)C"⟩
def dt_cJ0_charAt_5068e : List (Nat × Instr × Nat) := [(0, .aload_n 0, 1), (1, .invokevirtual 492, 3), (4, .ifCond .eq 12, 3), (7, .aload_n 0, 1), (8, .getfield 9, 3), (11, .iload_n 1, 1), (12, .invokestatic 495, 3), (15, .ireturn, 1), (16, .aload_n 0, 1), (17, .getfield 9, 3), (20, .iload_n 1, 1), (21, .invokestatic 498, 3), (24, .ireturn, 1)]
theorem dk_cJ0_charAt_5068e : ∀ q ∈ dt_cJ0_charAt_5068e, decode cJ0_charAt_5068e q.1 = .ok (q.2.1, q.2.2) := by decide +kernel
theorem mcd_yJ0_charAt_5068e : Cond.code yJ0_charAt_5068e cJ0_charAt_5068e 2 (some .char) ∈ kUW := kUW_t3 176 (by decide +kernel) rfl
theorem min_yJ0_charAt_5068e : Cond.initialized yJ0_charAt_5068e.cls ∈ kUW := mini_java_lang_String
theorem hd_yJ0_charAt_5068e : yJ0_charAt_5068e.cls ≠ "java/lang/invoke/MethodHandle" ∧ yJ0_charAt_5068e.cls ≠ "java/lang/invoke/VarHandle" ∧ (parseMethodDescriptor yJ0_charAt_5068e.desc).map (fun d => d.parameters.length) = some 1 := by decide +kernel
theorem mim_yJ0_charAt_5068e : Cond.instanceMethod yJ0_charAt_5068e ∈ kUW := kUW_t3 174 (by decide +kernel) rfl
theorem mse_yJ0_charAt_5068e : Cond.selects "java/lang/String" yJ0_charAt_5068e yJ0_charAt_5068e ∈ kUW := kUW_t3 175 (by decide +kernel) rfl
abbrev cJ0_indexOf_0f7a4 : ByteArray := prog_15_method_79_code
def yJ0_indexOf_0f7a4 : MethodName := ⟨"java/lang/String", "indexOf", "(I)I"⟩
def dt_cJ0_indexOf_0f7a4 : List (Nat × Instr × Nat) := [(0, .aload_n 0, 1), (1, .iload_n 1, 1), (2, .iconst 0, 1), (3, .invokevirtual 633, 3), (6, .ireturn, 1)]
theorem dk_cJ0_indexOf_0f7a4 : ∀ q ∈ dt_cJ0_indexOf_0f7a4, decode cJ0_indexOf_0f7a4 q.1 = .ok (q.2.1, q.2.2) := by decide +kernel
theorem mcd_yJ0_indexOf_0f7a4 : Cond.code yJ0_indexOf_0f7a4 cJ0_indexOf_0f7a4 2 (some .int) ∈ kUW := kUW_t4 131 (by decide +kernel) rfl
theorem min_yJ0_indexOf_0f7a4 : Cond.initialized yJ0_indexOf_0f7a4.cls ∈ kUW := mini_java_lang_String
theorem hd_yJ0_indexOf_0f7a4 : yJ0_indexOf_0f7a4.cls ≠ "java/lang/invoke/MethodHandle" ∧ yJ0_indexOf_0f7a4.cls ≠ "java/lang/invoke/VarHandle" ∧ (parseMethodDescriptor yJ0_indexOf_0f7a4.desc).map (fun d => d.parameters.length) = some 1 := by decide +kernel
theorem mim_yJ0_indexOf_0f7a4 : Cond.instanceMethod yJ0_indexOf_0f7a4 ∈ kUW := kUW_t4 129 (by decide +kernel) rfl
theorem mse_yJ0_indexOf_0f7a4 : Cond.selects "java/lang/String" yJ0_indexOf_0f7a4 yJ0_indexOf_0f7a4 ∈ kUW := kUW_t4 130 (by decide +kernel) rfl
abbrev cJ0_indexOf_7cf53 : ByteArray := prog_15_method_80_code
def yJ0_indexOf_7cf53 : MethodName := ⟨"java/lang/String", "indexOf", "(II)I"⟩
def dt_cJ0_indexOf_7cf53 : List (Nat × Instr × Nat) := [(0, .aload_n 0, 1), (1, .invokevirtual 492, 3), (4, .ifCond .eq 19, 3), (7, .aload_n 0, 1), (8, .getfield 9, 3), (11, .iload_n 1, 1), (12, .iload_n 2, 1), (13, .aload_n 0, 1), (14, .invokevirtual 505, 3), (17, .invokestatic 637, 3), (20, .goto 16, 3), (23, .aload_n 0, 1), (24, .getfield 9, 3), (27, .iload_n 1, 1), (28, .iload_n 2, 1), (29, .aload_n 0, 1), (30, .invokevirtual 505, 3), (33, .invokestatic 640, 3), (36, .ireturn, 1)]
theorem dk_cJ0_indexOf_7cf53 : ∀ q ∈ dt_cJ0_indexOf_7cf53, decode cJ0_indexOf_7cf53 q.1 = .ok (q.2.1, q.2.2) := by decide +kernel
theorem mcd_yJ0_indexOf_7cf53 : Cond.code yJ0_indexOf_7cf53 cJ0_indexOf_7cf53 3 (some .int) ∈ kUW := kUW_t4 135 (by decide +kernel) rfl
theorem min_yJ0_indexOf_7cf53 : Cond.initialized yJ0_indexOf_7cf53.cls ∈ kUW := mini_java_lang_String
theorem hd_yJ0_indexOf_7cf53 : yJ0_indexOf_7cf53.cls ≠ "java/lang/invoke/MethodHandle" ∧ yJ0_indexOf_7cf53.cls ≠ "java/lang/invoke/VarHandle" ∧ (parseMethodDescriptor yJ0_indexOf_7cf53.desc).map (fun d => d.parameters.length) = some 2 := by decide +kernel
theorem mim_yJ0_indexOf_7cf53 : Cond.instanceMethod yJ0_indexOf_7cf53 ∈ kUW := kUW_t4 133 (by decide +kernel) rfl
theorem mse_yJ0_indexOf_7cf53 : Cond.selects "java/lang/String" yJ0_indexOf_7cf53 yJ0_indexOf_7cf53 ∈ kUW := kUW_t4 134 (by decide +kernel) rfl
abbrev cJ0_coder_7d493 : ByteArray := prog_15_method_152_code
def yJ0_coder_7d493 : MethodName := ⟨"java/lang/String", "coder", "()B"⟩
def dt_cJ0_coder_7d493 : List (Nat × Instr × Nat) := [(0, .getstatic 38, 3), (3, .ifCond .eq 10, 3), (6, .aload_n 0, 1), (7, .getfield 15, 3), (10, .goto 4, 3), (13, .iconst 1, 1), (14, .ireturn, 1)]
theorem dk_cJ0_coder_7d493 : ∀ q ∈ dt_cJ0_coder_7d493, decode cJ0_coder_7d493 q.1 = .ok (q.2.1, q.2.2) := by decide +kernel
theorem mcd_yJ0_coder_7d493 : Cond.code yJ0_coder_7d493 cJ0_coder_7d493 1 (some .byte) ∈ kUW := kUW_t3 170 (by decide +kernel) rfl
theorem min_yJ0_coder_7d493 : Cond.initialized yJ0_coder_7d493.cls ∈ kUW := mini_java_lang_String
theorem hd_yJ0_coder_7d493 : yJ0_coder_7d493.cls ≠ "java/lang/invoke/MethodHandle" ∧ yJ0_coder_7d493.cls ≠ "java/lang/invoke/VarHandle" ∧ (parseMethodDescriptor yJ0_coder_7d493.desc).map (fun d => d.parameters.length) = some 0 := by decide +kernel
theorem mim_yJ0_coder_7d493 : Cond.instanceMethod yJ0_coder_7d493 ∈ kUW := kUW_t3 168 (by decide +kernel) rfl
theorem mse_yJ0_coder_7d493 : Cond.selects "java/lang/String" yJ0_coder_7d493 yJ0_coder_7d493 ∈ kUW := kUW_t3 169 (by decide +kernel) rfl
abbrev cJ0_isLatin1_aae02 : ByteArray := prog_15_method_154_code
def yJ0_isLatin1_aae02 : MethodName := ⟨"java/lang/String", "isLatin1", "()Z"⟩
def dt_cJ0_isLatin1_aae02 : List (Nat × Instr × Nat) := [(0, .getstatic 38, 3), (3, .ifCond .eq 14, 3), (6, .aload_n 0, 1), (7, .getfield 15, 3), (10, .ifCond .ne 7, 3), (13, .iconst 1, 1), (14, .goto 4, 3), (17, .iconst 0, 1), (18, .ireturn, 1)]
theorem dk_cJ0_isLatin1_aae02 : ∀ q ∈ dt_cJ0_isLatin1_aae02, decode cJ0_isLatin1_aae02 q.1 = .ok (q.2.1, q.2.2) := by decide +kernel
theorem mcd_yJ0_isLatin1_aae02 : Cond.code yJ0_isLatin1_aae02 cJ0_isLatin1_aae02 1 (some .boolean) ∈ kUW := kUW_t3 180 (by decide +kernel) rfl
theorem min_yJ0_isLatin1_aae02 : Cond.initialized yJ0_isLatin1_aae02.cls ∈ kUW := mini_java_lang_String
theorem hd_yJ0_isLatin1_aae02 : yJ0_isLatin1_aae02.cls ≠ "java/lang/invoke/MethodHandle" ∧ yJ0_isLatin1_aae02.cls ≠ "java/lang/invoke/VarHandle" ∧ (parseMethodDescriptor yJ0_isLatin1_aae02.desc).map (fun d => d.parameters.length) = some 0 := by decide +kernel
theorem mim_yJ0_isLatin1_aae02 : Cond.instanceMethod yJ0_isLatin1_aae02 ∈ kUW := kUW_t3 178 (by decide +kernel) rfl
theorem mse_yJ0_isLatin1_aae02 : Cond.selects "java/lang/String" yJ0_isLatin1_aae02 yJ0_isLatin1_aae02 ∈ kUW := kUW_t3 179 (by decide +kernel) rfl
abbrev cJ0_checkIndex_df160 : ByteArray := prog_15_method_155_code
def yJ0_checkIndex_df160 : MethodName := ⟨"java/lang/String", "checkIndex", "(II)V"⟩
def dt_cJ0_checkIndex_df160 : List (Nat × Instr × Nat) := [(0, .iload_n 0, 1), (1, .iload_n 1, 1), (2, .getstatic 1053, 3), (5, .invokestatic 1059, 3), (8, .pop, 1), (9, .return_, 1)]
theorem dk_cJ0_checkIndex_df160 : ∀ q ∈ dt_cJ0_checkIndex_df160, decode cJ0_checkIndex_df160 q.1 = .ok (q.2.1, q.2.2) := by decide +kernel
theorem mcd_yJ0_checkIndex_df160 : Cond.code yJ0_checkIndex_df160 cJ0_checkIndex_df160 2 none ∈ kUW := kUW_t3 186 (by decide +kernel) rfl
theorem min_yJ0_checkIndex_df160 : Cond.initialized yJ0_checkIndex_df160.cls ∈ kUW := mini_java_lang_String
theorem hd_yJ0_checkIndex_df160 : yJ0_checkIndex_df160.cls ≠ "java/lang/invoke/MethodHandle" ∧ yJ0_checkIndex_df160.cls ≠ "java/lang/invoke/VarHandle" ∧ (parseMethodDescriptor yJ0_checkIndex_df160.desc).map (fun d => d.parameters.length) = some 2 := by decide +kernel
theorem mst_yJ0_checkIndex_df160 : Cond.static yJ0_checkIndex_df160 ∈ kUW := kUW_t3 185 (by decide +kernel) rfl
abbrev cJ1_charAt_3b067 : ByteArray := prog_16_method_2_code
def yJ1_charAt_3b067 : MethodName := ⟨"java/lang/StringLatin1", "charAt", "([BI)C"⟩
def dt_cJ1_charAt_3b067 : List (Nat × Instr × Nat) := [(0, .iload_n 1, 1), (1, .aload_n 0, 1), (2, .arraylength, 1), (3, .invokestatic 9, 3), (6, .aload_n 0, 1), (7, .iload_n 1, 1), (8, .baload, 1), (9, .sipush 255, 3), (12, .iand, 1), (13, .i2c, 1), (14, .ireturn, 1)]
theorem dk_cJ1_charAt_3b067 : ∀ q ∈ dt_cJ1_charAt_3b067, decode cJ1_charAt_3b067 q.1 = .ok (q.2.1, q.2.2) := by decide +kernel
theorem mcd_yJ1_charAt_3b067 : Cond.code yJ1_charAt_3b067 cJ1_charAt_3b067 2 (some .char) ∈ kUW := kUW_t3 183 (by decide +kernel) rfl
theorem min_yJ1_charAt_3b067 : Cond.initialized yJ1_charAt_3b067.cls ∈ kUW := mini_java_lang_StringLatin1
theorem hd_yJ1_charAt_3b067 : yJ1_charAt_3b067.cls ≠ "java/lang/invoke/MethodHandle" ∧ yJ1_charAt_3b067.cls ≠ "java/lang/invoke/VarHandle" ∧ (parseMethodDescriptor yJ1_charAt_3b067.desc).map (fun d => d.parameters.length) = some 2 := by decide +kernel
theorem mst_yJ1_charAt_3b067 : Cond.static yJ1_charAt_3b067 ∈ kUW := kUW_t3 182 (by decide +kernel) rfl
abbrev cJ1_canEncode_9a6ad : ByteArray := prog_16_method_4_code
def yJ1_canEncode_9a6ad : MethodName := ⟨"java/lang/StringLatin1", "canEncode", "(I)Z"⟩
def dt_cJ1_canEncode_9a6ad : List (Nat × Instr × Nat) := [(0, .iload_n 0, 1), (1, .ifCond .lt 14, 3), (4, .iload_n 0, 1), (5, .sipush 255, 3), (8, .if_icmp .gt 7, 3), (11, .iconst 1, 1), (12, .goto 4, 3), (15, .iconst 0, 1), (16, .ireturn, 1)]
theorem dk_cJ1_canEncode_9a6ad : ∀ q ∈ dt_cJ1_canEncode_9a6ad, decode cJ1_canEncode_9a6ad q.1 = .ok (q.2.1, q.2.2) := by decide +kernel
theorem mcd_yJ1_canEncode_9a6ad : Cond.code yJ1_canEncode_9a6ad cJ1_canEncode_9a6ad 1 (some .boolean) ∈ kUW := kUW_t4 142 (by decide +kernel) rfl
theorem min_yJ1_canEncode_9a6ad : Cond.initialized yJ1_canEncode_9a6ad.cls ∈ kUW := mini_java_lang_StringLatin1
theorem hd_yJ1_canEncode_9a6ad : yJ1_canEncode_9a6ad.cls ≠ "java/lang/invoke/MethodHandle" ∧ yJ1_canEncode_9a6ad.cls ≠ "java/lang/invoke/VarHandle" ∧ (parseMethodDescriptor yJ1_canEncode_9a6ad.desc).map (fun d => d.parameters.length) = some 1 := by decide +kernel
theorem mst_yJ1_canEncode_9a6ad : Cond.static yJ1_canEncode_9a6ad ∈ kUW := kUW_t4 141 (by decide +kernel) rfl
abbrev cJ1_indexOf_4cfef : ByteArray := prog_16_method_22_code
def yJ1_indexOf_4cfef : MethodName := ⟨"java/lang/StringLatin1", "indexOf", "([BIII)I"⟩
def dt_cJ1_indexOf_4cfef : List (Nat × Instr × Nat) := [(0, .iload_n 1, 1), (1, .invokestatic 88, 3), (4, .ifCond .ne 5, 3), (7, .iconst (-1), 1), (8, .ireturn, 1), (9, .iload_n 2, 1), (10, .iconst 0, 1), (11, .invokestatic 92, 3), (14, .istore_n 2, 1), (15, .iload_n 3, 1), (16, .aload_n 0, 1), (17, .arraylength, 1), (18, .invokestatic 38, 3), (21, .istore_n 3, 1), (22, .iload_n 2, 1), (23, .iload_n 3, 1), (24, .if_icmp .lt 5, 3), (27, .iconst (-1), 1), (28, .ireturn, 1), (29, .aload_n 0, 1), (30, .iload_n 1, 1), (31, .iload_n 2, 1), (32, .iload_n 3, 1), (33, .invokestatic 95, 3), (36, .ireturn, 1)]
theorem dk_cJ1_indexOf_4cfef : ∀ q ∈ dt_cJ1_indexOf_4cfef, decode cJ1_indexOf_4cfef q.1 = .ok (q.2.1, q.2.2) := by decide +kernel
theorem mcd_yJ1_indexOf_4cfef : Cond.code yJ1_indexOf_4cfef cJ1_indexOf_4cfef 4 (some .int) ∈ kUW := kUW_t4 139 (by decide +kernel) rfl
theorem min_yJ1_indexOf_4cfef : Cond.initialized yJ1_indexOf_4cfef.cls ∈ kUW := mini_java_lang_StringLatin1
theorem hd_yJ1_indexOf_4cfef : yJ1_indexOf_4cfef.cls ≠ "java/lang/invoke/MethodHandle" ∧ yJ1_indexOf_4cfef.cls ≠ "java/lang/invoke/VarHandle" ∧ (parseMethodDescriptor yJ1_indexOf_4cfef.desc).map (fun d => d.parameters.length) = some 4 := by decide +kernel
theorem mst_yJ1_indexOf_4cfef : Cond.static yJ1_indexOf_4cfef ∈ kUW := kUW_t4 138 (by decide +kernel) rfl
abbrev cJ1_indexOfChar_4cfef : ByteArray := prog_16_method_23_code
def yJ1_indexOfChar_4cfef : MethodName := ⟨"java/lang/StringLatin1", "indexOfChar", "([BIII)I"⟩
def dt_cJ1_indexOfChar_4cfef : List (Nat × Instr × Nat) := [(0, .iload_n 1, 1), (1, .i2b, 1), (2, .istore 4, 2), (4, .iload_n 2, 1), (5, .istore 5, 2), (7, .iload 5, 2), (9, .iload_n 3, 1), (10, .if_icmp .ge 21, 3), (13, .aload_n 0, 1), (14, .iload 5, 2), (16, .baload, 1), (17, .iload 4, 2), (19, .if_icmp .ne 6, 3), (22, .iload 5, 2), (24, .ireturn, 1), (25, .iinc 5 1, 3), (28, .goto (-21), 3), (31, .iconst (-1), 1), (32, .ireturn, 1)]
theorem dk_cJ1_indexOfChar_4cfef : ∀ q ∈ dt_cJ1_indexOfChar_4cfef, decode cJ1_indexOfChar_4cfef q.1 = .ok (q.2.1, q.2.2) := by decide +kernel
theorem mcd_yJ1_indexOfChar_4cfef : Cond.code yJ1_indexOfChar_4cfef cJ1_indexOfChar_4cfef 6 (some .int) ∈ kUW := kUW_t4 147 (by decide +kernel) rfl
theorem min_yJ1_indexOfChar_4cfef : Cond.initialized yJ1_indexOfChar_4cfef.cls ∈ kUW := mini_java_lang_StringLatin1
theorem hd_yJ1_indexOfChar_4cfef : yJ1_indexOfChar_4cfef.cls ≠ "java/lang/invoke/MethodHandle" ∧ yJ1_indexOfChar_4cfef.cls ≠ "java/lang/invoke/VarHandle" ∧ (parseMethodDescriptor yJ1_indexOfChar_4cfef.desc).map (fun d => d.parameters.length) = some 4 := by decide +kernel
theorem mst_yJ1_indexOfChar_4cfef : Cond.static yJ1_indexOfChar_4cfef ∈ kUW := kUW_t4 146 (by decide +kernel) rfl
abbrev cJ3_checkIndex_8e157 : ByteArray := prog_19_method_11_code
def yJ3_checkIndex_8e157 : MethodName := ⟨"jdk/internal/util/Preconditions", "checkIndex", "(IILjava/util/function/BiFunction;)I"⟩
def dt_cJ3_checkIndex_8e157 : List (Nat × Instr × Nat) := [(0, .iload_n 0, 1), (1, .ifCond .lt 8, 3), (4, .iload_n 0, 1), (5, .iload_n 1, 1), (6, .if_icmp .lt 10, 3), (9, .aload_n 2, 1), (10, .iload_n 0, 1), (11, .iload_n 1, 1), (12, .invokestatic 95, 3), (15, .athrow, 1), (16, .iload_n 0, 1), (17, .ireturn, 1)]
theorem dk_cJ3_checkIndex_8e157 : ∀ q ∈ dt_cJ3_checkIndex_8e157, decode cJ3_checkIndex_8e157 q.1 = .ok (q.2.1, q.2.2) := by decide +kernel
theorem mcd_yJ3_checkIndex_8e157 : Cond.code yJ3_checkIndex_8e157 cJ3_checkIndex_8e157 3 (some .int) ∈ kUW := kUW_t3 191 (by decide +kernel) rfl
theorem min_yJ3_checkIndex_8e157 : Cond.initialized yJ3_checkIndex_8e157.cls ∈ kUW := mini_jdk_internal_util_Preconditions
theorem hd_yJ3_checkIndex_8e157 : yJ3_checkIndex_8e157.cls ≠ "java/lang/invoke/MethodHandle" ∧ yJ3_checkIndex_8e157.cls ≠ "java/lang/invoke/VarHandle" ∧ (parseMethodDescriptor yJ3_checkIndex_8e157.desc).map (fun d => d.parameters.length) = some 3 := by decide +kernel
theorem mst_yJ3_checkIndex_8e157 : Cond.static yJ3_checkIndex_8e157 ∈ kUW := kUW_t3 190 (by decide +kernel) rfl
