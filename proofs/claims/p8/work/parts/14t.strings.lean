set_option maxHeartbeats 4000000 in
set_option maxRecDepth 100000 in
theorem k_j_coder (l : Launch) (D : va_G) (τ : Nat → ClassId) (ρ σ : Nat → Nat) (w : kw)  (hI : kI true w)  :
    kM l D τ ρ σ yJ0_coder_7d493 cJ0_coder_7d493 1 (some .byte) { frames := 0, cells := 0, slots := 0, locals := 0 } [.ref (σ 5)] w
      (fun o w' => ∃ r : Int32, o = some (.int r) ∧ kI true w' ∧ kF [] w w' ∧ (r.toInt = 0)) := by
  refine kM_of (own := "java/lang/String") rfl (by decide) (Nat.le_of_ble_eq_true rfl) ?_
  intro p e s m args below meth c C hr hlk
  have hF0 : kF [] w w := kF.rf
  have c_0 : (0 : Int32).toInt = 0 := by decide
  have c_1 : (1 : Int32).toInt = 1 := by decide
  refine kV.L (L' := [(0, .ref (σ 5))]) rfl ?_
  refine kv_gCS C 3 rfl mfl_java_lang_String_38 (kdec dk_cJ0_coder_7d493 0 rfl) ?_
  refine kv_if_eq C 6 rfl 13 (kdec dk_cJ0_coder_7d493 1 rfl) (by decide) (fun d1 => ?_) (fun d1 => ?_)
  · exfalso; omega
  · skip
    refine kv_aload_n C 7 rfl 0 (kdec dk_cJ0_coder_7d493 2 rfl) rfl rfl ?_
    refine kv_sgetc C 10 rfl mfl_java_lang_String_15 (kdec dk_cJ0_coder_7d493 3 rfl) ?_
    refine kv_goto C 14 (kdec dk_cJ0_coder_7d493 4 rfl) (by decide) ?_
    exact kv_zret C hr hlk (kdec dk_cJ0_coder_7d493 6 rfl) rfl ⟨_, rfl, hI, hF0, (by omega)⟩

set_option maxHeartbeats 4000000 in
set_option maxRecDepth 100000 in
theorem k_j_isLatin1 (l : Launch) (D : va_G) (τ : Nat → ClassId) (ρ σ : Nat → Nat) (w : kw)  (hI : kI true w)  :
    kM l D τ ρ σ yJ0_isLatin1_aae02 cJ0_isLatin1_aae02 1 (some .boolean) { frames := 0, cells := 0, slots := 0, locals := 0 } [.ref (σ 5)] w
      (fun o w' => ∃ r : Int32, o = some (.int r) ∧ kI true w' ∧ kF [] w w' ∧ (r.toInt = 1) ∧ (0 ≤ r.toInt ∧ r.toInt ≤ 1)) := by
  refine kM_of (own := "java/lang/String") rfl (by decide) (Nat.le_of_ble_eq_true rfl) ?_
  intro p e s m args below meth c C hr hlk
  have hF0 : kF [] w w := kF.rf
  have c_0 : (0 : Int32).toInt = 0 := by decide
  have c_1 : (1 : Int32).toInt = 1 := by decide
  refine kV.L (L' := [(0, .ref (σ 5))]) rfl ?_
  refine kv_gCS C 3 rfl mfl_java_lang_String_38 (kdec dk_cJ0_isLatin1_aae02 0 rfl) ?_
  refine kv_if_eq C 6 rfl 17 (kdec dk_cJ0_isLatin1_aae02 1 rfl) (by decide) (fun d1 => ?_) (fun d1 => ?_)
  · exfalso; omega
  · skip
    refine kv_aload_n C 7 rfl 0 (kdec dk_cJ0_isLatin1_aae02 2 rfl) rfl rfl ?_
    refine kv_sgetc C 10 rfl mfl_java_lang_String_15 (kdec dk_cJ0_isLatin1_aae02 3 rfl) ?_
    refine kv_if_ne C 13 rfl 17 (kdec dk_cJ0_isLatin1_aae02 4 rfl) (by decide) (fun d2 => ?_) (fun d2 => ?_)
    · exfalso; omega
    · skip
      refine kv_iconst C 14 rfl 1 (kdec dk_cJ0_isLatin1_aae02 5 rfl) rfl ?_
      refine kv_goto C 18 (kdec dk_cJ0_isLatin1_aae02 6 rfl) (by decide) ?_
      exact kv_zret C hr hlk (kdec dk_cJ0_isLatin1_aae02 8 rfl) (kf_bool (by decide)) ⟨_, rfl, hI, hF0, (by omega), (by omega)⟩

set_option maxHeartbeats 4000000 in
set_option maxRecDepth 100000 in
theorem k_j_length (l : Launch) (D : va_G) (τ : Nat → ClassId) (ρ σ : Nat → Nat) (w : kw)  (hI : kI true w)  :
    kM l D τ ρ σ yJ0_length_8abf5 cJ0_length_8abf5 1 (some .int) { frames := 1, cells := 0, slots := 0, locals := 36 } [.ref (σ 5)] w
      (fun o w' => ∃ r : Int32, o = some (.int r) ∧ kI true w' ∧ kF [] w w' ∧ (r.toInt = 24)) := by
  refine kM_of (own := "java/lang/String") rfl (by decide) (Nat.le_of_ble_eq_true rfl) ?_
  intro p e s m args below meth c C hr hlk
  have hF0 : kF [] w w := kF.rf
  have c_24 : (24 : Int32).toInt = 24 := by decide
  refine kV.L (L' := [(0, .ref (σ 5))]) rfl ?_
  refine kv_aload_n C 1 rfl 0 (kdec dk_cJ0_length_8abf5 0 rfl) rfl rfl ?_
  refine kv_sgetv C 4 rfl mfl_java_lang_String_9 (kdec dk_cJ0_length_8abf5 1 rfl) ?_
  refine kv_tlen C 5 rfl (kdec dk_cJ0_length_8abf5 2 rfl) ?_
  refine kv_aload_n C 6 rfl 0 (kdec dk_cJ0_length_8abf5 3 rfl) rfl rfl ?_
  refine kv_callStri (As := []) (rest := [.int 24]) C 9 rfl (k_j_coder l D τ ρ σ w  hI ) mml_java_lang_String_335 mim_yJ0_coder_7d493 mse_yJ0_coder_7d493 mcd_yJ0_coder_7d493 min_yJ0_coder_7d493 hd_yJ0_coder_7d493 rfl rfl rfl (by decide) rfl (Nat.le_of_ble_eq_true rfl) (kdec dk_cJ0_length_8abf5 4 rfl) (fun x5 w1 h2 => ?_)
  obtain ⟨I3, f4, p6⟩ := h2
  have F7 : kF [] w w1 := kF_call hF0 f4 (by decide)
  have g8 := kf_rng x5
  refine kv_ishr C 10 rfl (kdec dk_cJ0_length_8abf5 5 rfl) (fun x9 h10e h10l h10u => ?_)
  have h10n := kf_shr0 h10e (by omega)
  exact kv_iret C hr hlk (kdec dk_cJ0_length_8abf5 6 rfl) ⟨_, rfl, I3, F7, (by omega)⟩

set_option maxHeartbeats 4000000 in
set_option maxRecDepth 100000 in
theorem k_j_pcN (l : Launch) (D : va_G) (τ : Nat → ClassId) (ρ σ : Nat → Nat) (w : kw) (a1 : Int32) (a2 : Int32) (hI : kI true w) (hp0 : 0 ≤ a1.toInt ∧ a1.toInt < a2.toInt) :
    kM l D τ ρ σ yJ3_checkIndex_8e157 cJ3_checkIndex_8e157 3 (some .int) { frames := 0, cells := 0, slots := 0, locals := 0 } [.int a1, .int a2, .null] w
      (fun o w' => ∃ r : Int32, o = some (.int r) ∧ kI true w' ∧ kF [] w w') := by
  refine kM_of (own := "jdk/internal/util/Preconditions") rfl (by decide) (Nat.le_of_ble_eq_true rfl) ?_
  intro p e s m args below meth c C hr hlk
  have hF0 : kF [] w w := kF.rf
  refine kV.L (L' := [(0, .int a1), (1, .int a2), (2, .null)]) rfl ?_
  have g1 := kf_rng a1
  have g2 := kf_rng a2
  refine kv_iload_n C 1 rfl 0 (kdec dk_cJ3_checkIndex_8e157 0 rfl) rfl rfl ?_
  refine kv_if_lt C 4 rfl 9 (kdec dk_cJ3_checkIndex_8e157 1 rfl) (by decide) (fun d3 => ?_) (fun d3 => ?_)
  · exfalso; omega
  · skip
    refine kv_iload_n C 5 rfl 0 (kdec dk_cJ3_checkIndex_8e157 2 rfl) rfl rfl ?_
    refine kv_iload_n C 6 rfl 1 (kdec dk_cJ3_checkIndex_8e157 3 rfl) rfl rfl ?_
    refine kv_icmp_lt C 9 rfl 16 (kdec dk_cJ3_checkIndex_8e157 4 rfl) (by decide) (fun d4 => ?_) (fun d4 => ?_)
    · skip
      refine kv_iload_n C 17 rfl 0 (kdec dk_cJ3_checkIndex_8e157 10 rfl) rfl rfl ?_
      exact kv_iret C hr hlk (kdec dk_cJ3_checkIndex_8e157 11 rfl) ⟨_, rfl, hI, hF0⟩
    · exfalso; omega

set_option maxHeartbeats 4000000 in
set_option maxRecDepth 100000 in
theorem k_j_pcX (l : Launch) (D : va_G) (τ : Nat → ClassId) (ρ σ : Nat → Nat) (w : kw) (a1 : Int32) (a2 : Int32) (t0 : Nat) (hI : kI true w) (hp0 : 0 ≤ a1.toInt ∧ a1.toInt < a2.toInt) :
    kM l D τ ρ σ yJ3_checkIndex_8e157 cJ3_checkIndex_8e157 3 (some .int) { frames := 0, cells := 0, slots := 0, locals := 0 } [.int a1, .int a2, .ref t0] w
      (fun o w' => ∃ r : Int32, o = some (.int r) ∧ kI true w' ∧ kF [] w w') := by
  refine kM_of (own := "jdk/internal/util/Preconditions") rfl (by decide) (Nat.le_of_ble_eq_true rfl) ?_
  intro p e s m args below meth c C hr hlk
  have hF0 : kF [] w w := kF.rf
  refine kV.L (L' := [(0, .int a1), (1, .int a2), (2, .ref t0)]) rfl ?_
  have g1 := kf_rng a1
  have g2 := kf_rng a2
  refine kv_iload_n C 1 rfl 0 (kdec dk_cJ3_checkIndex_8e157 0 rfl) rfl rfl ?_
  refine kv_if_lt C 4 rfl 9 (kdec dk_cJ3_checkIndex_8e157 1 rfl) (by decide) (fun d3 => ?_) (fun d3 => ?_)
  · exfalso; omega
  · skip
    refine kv_iload_n C 5 rfl 0 (kdec dk_cJ3_checkIndex_8e157 2 rfl) rfl rfl ?_
    refine kv_iload_n C 6 rfl 1 (kdec dk_cJ3_checkIndex_8e157 3 rfl) rfl rfl ?_
    refine kv_icmp_lt C 9 rfl 16 (kdec dk_cJ3_checkIndex_8e157 4 rfl) (by decide) (fun d4 => ?_) (fun d4 => ?_)
    · skip
      refine kv_iload_n C 17 rfl 0 (kdec dk_cJ3_checkIndex_8e157 10 rfl) rfl rfl ?_
      exact kv_iret C hr hlk (kdec dk_cJ3_checkIndex_8e157 11 rfl) ⟨_, rfl, hI, hF0⟩
    · exfalso; omega

set_option maxHeartbeats 4000000 in
set_option maxRecDepth 100000 in
theorem k_j_checkIndex (l : Launch) (D : va_G) (τ : Nat → ClassId) (ρ σ : Nat → Nat) (w : kw) (a1 : Int32) (a2 : Int32) (hI : kI true w) (hp0 : 0 ≤ a1.toInt ∧ a1.toInt < a2.toInt) :
    kM l D τ ρ σ yJ0_checkIndex_df160 cJ0_checkIndex_df160 2 none { frames := 1, cells := 0, slots := 0, locals := 36 } [.int a1, .int a2] w
      (fun o w' => o = none ∧ kI true w' ∧ kF [] w w') := by
  refine kM_of (own := "java/lang/String") rfl (by decide) (Nat.le_of_ble_eq_true rfl) ?_
  intro p e s m args below meth c C hr hlk
  have hF0 : kF [] w w := kF.rf
  refine kV.L (L' := [(0, .int a1), (1, .int a2)]) rfl ?_
  have g1 := kf_rng a1
  have g2 := kf_rng a2
  refine kv_iload_n C 1 rfl 0 (kdec dk_cJ0_checkIndex_df160 0 rfl) rfl rfl ?_
  refine kv_iload_n C 2 rfl 1 (kdec dk_cJ0_checkIndex_df160 1 rfl) rfl rfl ?_
  refine kv_gSF C 5 rfl mfl_java_lang_String_1053 (kdec dk_cJ0_checkIndex_df160 2 rfl) ?_ (fun t3 => ?_)
  · skip
    refine kv_callSi (As := [.int a1, .int a2, .null]) (rest := []) C 8 rfl (k_j_pcN l D τ ρ σ w a1 a2 hI (by omega)) mml_java_lang_String_1059 mst_yJ3_checkIndex_8e157 mcd_yJ3_checkIndex_8e157 min_yJ3_checkIndex_8e157 hd_yJ3_checkIndex_8e157 rfl rfl rfl (by decide) rfl (Nat.le_of_ble_eq_true rfl) (kdec dk_cJ0_checkIndex_df160 3 rfl) (fun x8 w4 h5 => ?_)
    obtain ⟨I6, f7⟩ := h5
    have F9 : kF [] w w4 := kF_call hF0 f7 (by decide)
    have g10 := kf_rng x8
    refine kv_pop C 9 rfl (kdec dk_cJ0_checkIndex_df160 4 rfl) rfl ?_
    exact kv_vret C hr hlk (kdec dk_cJ0_checkIndex_df160 5 rfl) ⟨rfl, I6, F9⟩
  · skip
    refine kv_callSi (As := [.int a1, .int a2, .ref t3]) (rest := []) C 8 rfl (k_j_pcX l D τ ρ σ w a1 a2 t3 hI (by omega)) mml_java_lang_String_1059 mst_yJ3_checkIndex_8e157 mcd_yJ3_checkIndex_8e157 min_yJ3_checkIndex_8e157 hd_yJ3_checkIndex_8e157 rfl rfl rfl (by decide) rfl (Nat.le_of_ble_eq_true rfl) (kdec dk_cJ0_checkIndex_df160 3 rfl) (fun x15 w11 h12 => ?_)
    obtain ⟨I13, f14⟩ := h12
    have F16 : kF [] w w11 := kF_call hF0 f14 (by decide)
    have g17 := kf_rng x15
    refine kv_pop C 9 rfl (kdec dk_cJ0_checkIndex_df160 4 rfl) rfl ?_
    exact kv_vret C hr hlk (kdec dk_cJ0_checkIndex_df160 5 rfl) ⟨rfl, I13, F16⟩

set_option maxHeartbeats 4000000 in
set_option maxRecDepth 100000 in
theorem k_j_lcharAt (l : Launch) (D : va_G) (τ : Nat → ClassId) (ρ σ : Nat → Nat) (w : kw) (a2 : Int32) (hI : kI true w) (hp0 : 0 ≤ a2.toInt ∧ a2.toInt < 24) :
    kM l D τ ρ σ yJ1_charAt_3b067 cJ1_charAt_3b067 2 (some .char) { frames := 2, cells := 0, slots := 0, locals := 72 } [.ref (σ 6), .int a2] w
      (fun o w' => ∃ r : Int32, o = some (.int r) ∧ kI true w' ∧ kF [] w w' ∧ (0 ≤ r.toInt ∧ r.toInt ≤ 65535)) := by
  refine kM_of (own := "java/lang/StringLatin1") rfl (by decide) (Nat.le_of_ble_eq_true rfl) ?_
  intro p e s m args below meth c C hr hlk
  have hF0 : kF [] w w := kF.rf
  have c_24 : (24 : Int32).toInt = 24 := by decide
  have c_255 : (255 : Int32).toInt = 255 := by decide
  refine kV.L (L' := [(0, .ref (σ 6)), (1, .int a2)]) rfl ?_
  have g1 := kf_rng a2
  refine kv_iload_n C 1 rfl 1 (kdec dk_cJ1_charAt_3b067 0 rfl) rfl rfl ?_
  refine kv_aload_n C 2 rfl 0 (kdec dk_cJ1_charAt_3b067 1 rfl) rfl rfl ?_
  refine kv_tlen C 3 rfl (kdec dk_cJ1_charAt_3b067 2 rfl) ?_
  refine kv_callSv (As := [.int a2, .int 24]) (rest := []) C 6 rfl (k_j_checkIndex l D τ ρ σ w a2 24 hI (by omega)) mml_java_lang_StringLatin1_9 mst_yJ0_checkIndex_df160 mcd_yJ0_checkIndex_df160 min_yJ0_checkIndex_df160 hd_yJ0_checkIndex_df160 rfl rfl rfl (by decide) rfl (Nat.le_of_ble_eq_true rfl) (kdec dk_cJ1_charAt_3b067 3 rfl) (fun w2 h3 => ?_)
  obtain ⟨I4, f5⟩ := h3
  have F7 : kF [] w w2 := kF_call hF0 f5 (by decide)
  refine kv_aload_n C 7 rfl 0 (kdec dk_cJ1_charAt_3b067 4 rfl) rfl rfl ?_
  refine kv_iload_n C 8 rfl 1 (kdec dk_cJ1_charAt_3b067 5 rfl) rfl rfl ?_
  refine kv_tbal C 9 rfl (by omega) (by omega) (kdec dk_cJ1_charAt_3b067 6 rfl) (fun x8 => ?_)
  refine kv_sipush C 12 rfl 255 (kdec dk_cJ1_charAt_3b067 7 rfl) rfl ?_
  refine kv_iand C 13 rfl (kdec dk_cJ1_charAt_3b067 8 rfl) (fun x9 h10e h10l h10u => ?_)
  have g11 := kf_and255 h10e
  refine kv_i2c C 14 rfl (kdec dk_cJ1_charAt_3b067 9 rfl) (fun x12 h13e h13l h13u => ?_)
  have h13n := kf_i2c h13e
  exact kv_zret C hr hlk (kdec dk_cJ1_charAt_3b067 10 rfl) (kf_char (by omega) (by omega)) ⟨_, rfl, I4, F7, (by omega)⟩

set_option maxHeartbeats 4000000 in
set_option maxRecDepth 100000 in
theorem k_j_charAt (l : Launch) (D : va_G) (τ : Nat → ClassId) (ρ σ : Nat → Nat) (w : kw) (a1 : Int32) (hI : kI true w) (hp0 : 0 ≤ a1.toInt ∧ a1.toInt < 24) :
    kM l D τ ρ σ yJ0_charAt_5068e cJ0_charAt_5068e 2 (some .char) { frames := 3, cells := 0, slots := 0, locals := 108 } [.ref (σ 5), .int a1] w
      (fun o w' => ∃ r : Int32, o = some (.int r) ∧ kI true w' ∧ kF [] w w' ∧ (0 ≤ r.toInt ∧ r.toInt ≤ 65535)) := by
  refine kM_of (own := "java/lang/String") rfl (by decide) (Nat.le_of_ble_eq_true rfl) ?_
  intro p e s m args below meth c C hr hlk
  have hF0 : kF [] w w := kF.rf
  refine kV.L (L' := [(0, .ref (σ 5)), (1, .int a1)]) rfl ?_
  have g1 := kf_rng a1
  refine kv_aload_n C 1 rfl 0 (kdec dk_cJ0_charAt_5068e 0 rfl) rfl rfl ?_
  refine kv_callStri (As := []) (rest := []) C 4 rfl (k_j_isLatin1 l D τ ρ σ w  hI ) mml_java_lang_String_492 mim_yJ0_isLatin1_aae02 mse_yJ0_isLatin1_aae02 mcd_yJ0_isLatin1_aae02 min_yJ0_isLatin1_aae02 hd_yJ0_isLatin1_aae02 rfl rfl rfl (by decide) rfl (Nat.le_of_ble_eq_true rfl) (kdec dk_cJ0_charAt_5068e 1 rfl) (fun x6 w2 h3 => ?_)
  obtain ⟨I4, f5, p7, p8⟩ := h3
  have F9 : kF [] w w2 := kF_call hF0 f5 (by decide)
  have g10 := kf_rng x6
  refine kv_if_eq C 7 rfl 16 (kdec dk_cJ0_charAt_5068e 2 rfl) (by decide) (fun d11 => ?_) (fun d11 => ?_)
  · exfalso; omega
  · skip
    refine kv_aload_n C 8 rfl 0 (kdec dk_cJ0_charAt_5068e 3 rfl) rfl rfl ?_
    refine kv_sgetv C 11 rfl mfl_java_lang_String_9 (kdec dk_cJ0_charAt_5068e 4 rfl) ?_
    refine kv_iload_n C 12 rfl 1 (kdec dk_cJ0_charAt_5068e 5 rfl) rfl rfl ?_
    refine kv_callSi (As := [.ref (σ 6), .int a1]) (rest := []) C 15 rfl (k_j_lcharAt l D τ ρ σ w2 a1 I4 (by omega)) mml_java_lang_String_495 mst_yJ1_charAt_3b067 mcd_yJ1_charAt_3b067 min_yJ1_charAt_3b067 hd_yJ1_charAt_3b067 rfl rfl rfl (by decide) rfl (Nat.le_of_ble_eq_true rfl) (kdec dk_cJ0_charAt_5068e 6 rfl) (fun x16 w12 h13 => ?_)
    obtain ⟨I14, f15, p17⟩ := h13
    have F18 : kF [] w w12 := kF_call F9 f15 (by decide)
    have g19 := kf_rng x16
    exact kv_zret C hr hlk (kdec dk_cJ0_charAt_5068e 7 rfl) (kf_char (by omega) (by omega)) ⟨_, rfl, I14, F18, (by omega)⟩

set_option maxHeartbeats 4000000 in
set_option maxRecDepth 100000 in
theorem k_j_canEncode (l : Launch) (D : va_G) (τ : Nat → ClassId) (ρ σ : Nat → Nat) (w : kw) (a1 : Int32) (hI : kI true w)  :
    kM l D τ ρ σ yJ1_canEncode_9a6ad cJ1_canEncode_9a6ad 1 (some .boolean) { frames := 0, cells := 0, slots := 0, locals := 0 } [.int a1] w
      (fun o w' => ∃ r : Int32, o = some (.int r) ∧ kI true w' ∧ kF [] w w' ∧ (0 ≤ r.toInt ∧ r.toInt ≤ 1)) := by
  refine kM_of (own := "java/lang/StringLatin1") rfl (by decide) (Nat.le_of_ble_eq_true rfl) ?_
  intro p e s m args below meth c C hr hlk
  have hF0 : kF [] w w := kF.rf
  have c_0 : (0 : Int32).toInt = 0 := by decide
  have c_1 : (1 : Int32).toInt = 1 := by decide
  have c_255 : (255 : Int32).toInt = 255 := by decide
  refine kV.L (L' := [(0, .int a1)]) rfl ?_
  have g1 := kf_rng a1
  refine kv_iload_n C 1 rfl 0 (kdec dk_cJ1_canEncode_9a6ad 0 rfl) rfl rfl ?_
  refine kv_if_lt C 4 rfl 15 (kdec dk_cJ1_canEncode_9a6ad 1 rfl) (by decide) (fun d2 => ?_) (fun d2 => ?_)
  · skip
    refine kv_iconst C 16 rfl 0 (kdec dk_cJ1_canEncode_9a6ad 7 rfl) rfl ?_
    exact kv_zret C hr hlk (kdec dk_cJ1_canEncode_9a6ad 8 rfl) (kf_bool (by decide)) ⟨_, rfl, hI, hF0, (by omega)⟩
  · skip
    refine kv_iload_n C 5 rfl 0 (kdec dk_cJ1_canEncode_9a6ad 2 rfl) rfl rfl ?_
    refine kv_sipush C 8 rfl 255 (kdec dk_cJ1_canEncode_9a6ad 3 rfl) rfl ?_
    refine kv_icmp_gt C 11 rfl 15 (kdec dk_cJ1_canEncode_9a6ad 4 rfl) (by decide) (fun d3 => ?_) (fun d3 => ?_)
    · skip
      refine kv_iconst C 16 rfl 0 (kdec dk_cJ1_canEncode_9a6ad 7 rfl) rfl ?_
      exact kv_zret C hr hlk (kdec dk_cJ1_canEncode_9a6ad 8 rfl) (kf_bool (by decide)) ⟨_, rfl, hI, hF0, (by omega)⟩
    · skip
      refine kv_iconst C 12 rfl 1 (kdec dk_cJ1_canEncode_9a6ad 5 rfl) rfl ?_
      refine kv_goto C 16 (kdec dk_cJ1_canEncode_9a6ad 6 rfl) (by decide) ?_
      exact kv_zret C hr hlk (kdec dk_cJ1_canEncode_9a6ad 8 rfl) (kf_bool (by decide)) ⟨_, rfl, hI, hF0, (by omega)⟩

set_option maxHeartbeats 4000000 in
set_option maxRecDepth 100000 in
theorem k_j_indexOfChar (l : Launch) (D : va_G) (τ : Nat → ClassId) (ρ σ : Nat → Nat) (w : kw) (a2 : Int32) (a3 : Int32) (a4 : Int32) (hI : kI true w) (hp0 : 0 ≤ a3.toInt) (hp1 : a4.toInt ≤ 24) :
    kM l D τ ρ σ yJ1_indexOfChar_4cfef cJ1_indexOfChar_4cfef 6 (some .int) { frames := 0, cells := 0, slots := 0, locals := 0 } [.ref (σ 6), .int a2, .int a3, .int a4] w
      (fun o w' => ∃ r : Int32, o = some (.int r) ∧ kI true w' ∧ kF [] w w') := by
  refine kM_of (own := "java/lang/StringLatin1") rfl (by decide) (Nat.le_of_ble_eq_true rfl) ?_
  intro p e s m args below meth c C hr hlk
  have hF0 : kF [] w w := kF.rf
  have c_m1 : (-1 : Int32).toInt = -1 := by decide
  refine kV.L (L' := [(0, .ref (σ 6)), (1, .int a2), (2, .int a3), (3, .int a4)]) rfl ?_
  have g1 := kf_rng a2
  have g2 := kf_rng a3
  have g3 := kf_rng a4
  have cut7 : ∀ (n_7 : Nat) (w_7 : kw) (l1_7 l2_7 l3_7 l4_7 l5_7 : Int32), kI true w_7 → kF [] w w_7 → (0 ≤ l5_7.toInt ∧ (l5_7.toInt ≤ 24 ∨ l5_7.toInt = a3.toInt)) → (l3_7.toInt ≤ 24) → ((2147483648 - l5_7.toInt) : Int) < (n_7 : Int) → kV p l e { frames := 0, cells := 0, slots := 0, locals := 0 } s m args below meth c (kQ below args s D τ ρ (fun o w' => ∃ r : Int32, o = some (.int r) ∧ kI true w' ∧ kF [] w w')) 6 D τ ρ 7 [(0, .ref (σ 6)), (1, .int l1_7), (2, .int l2_7), (3, .int l3_7), (4, .int l4_7), (5, .int l5_7)] [] w_7 := by
    intro n_7
    induction n_7 with
    | zero => intro w_7 l1_7 l2_7 l3_7 l4_7 l5_7 I_7 F_7 k7_0 k7_1 hmz; exfalso; omega
    | succ n_7 ih7 =>
      intro w_7 l1_7 l2_7 l3_7 l4_7 l5_7 I_7 F_7 k7_0 k7_1 hm7
      have gl1_7 := kf_rng l1_7
      have gl2_7 := kf_rng l2_7
      have gl3_7 := kf_rng l3_7
      have gl4_7 := kf_rng l4_7
      have gl5_7 := kf_rng l5_7
      refine kv_iload C 9 rfl 5 (kdec dk_cJ1_indexOfChar_4cfef 5 rfl) rfl ?_
      refine kv_iload_n C 10 rfl 3 (kdec dk_cJ1_indexOfChar_4cfef 6 rfl) rfl rfl ?_
      refine kv_icmp_ge C 13 rfl 31 (kdec dk_cJ1_indexOfChar_4cfef 7 rfl) (by decide) (fun d4 => ?_) (fun d4 => ?_)
      · skip
        refine kv_iconst C 32 rfl (-1) (kdec dk_cJ1_indexOfChar_4cfef 17 rfl) rfl ?_
        exact kv_iret C hr hlk (kdec dk_cJ1_indexOfChar_4cfef 18 rfl) ⟨_, rfl, I_7, F_7⟩
      · skip
        refine kv_aload_n C 14 rfl 0 (kdec dk_cJ1_indexOfChar_4cfef 8 rfl) rfl rfl ?_
        refine kv_iload C 16 rfl 5 (kdec dk_cJ1_indexOfChar_4cfef 9 rfl) rfl ?_
        refine kv_tbal C 17 rfl (by omega) (by omega) (kdec dk_cJ1_indexOfChar_4cfef 10 rfl) (fun x5 => ?_)
        refine kv_iload C 19 rfl 4 (kdec dk_cJ1_indexOfChar_4cfef 11 rfl) rfl ?_
        refine kv_icmp_ne C 22 rfl 25 (kdec dk_cJ1_indexOfChar_4cfef 12 rfl) (by decide) (fun d6 => ?_) (fun d6 => ?_)
        · skip
          refine kv_iinc C 28 rfl 5 5 [1, 2, 3, 4, 5, 0] (fun v9 => [(0, .ref (σ 6)), (1, .int l1_7), (2, .int l2_7), (3, .int l3_7), (4, .int l4_7), (5, .int v9)]) (kdec dk_cJ1_indexOfChar_4cfef 15 rfl) rfl (by decide) (fun _ => rfl) 1 rfl (fun x7 q8 h9e h9 h9l h9u => ?_)
          try have h9n : x7.toInt = l5_7.toInt + 1 := by omega
          clear h9 q8
          refine kv_goto C 7 (kdec dk_cJ1_indexOfChar_4cfef 16 rfl) (by decide) ?_
          exact ih7 w_7 l1_7 l2_7 l3_7 l4_7 x7 I_7 F_7 (by omega) (by omega) (by omega)
        · skip
          refine kv_iload C 24 rfl 5 (kdec dk_cJ1_indexOfChar_4cfef 13 rfl) rfl ?_
          exact kv_iret C hr hlk (kdec dk_cJ1_indexOfChar_4cfef 14 rfl) ⟨_, rfl, I_7, F_7⟩
  refine kv_iload_n C 1 rfl 1 (kdec dk_cJ1_indexOfChar_4cfef 0 rfl) rfl rfl ?_
  refine kv_i2b C 2 rfl (kdec dk_cJ1_indexOfChar_4cfef 1 rfl) (fun x10 => ?_)
  refine kv_istore C 4 rfl 4 [1, 2, 3, 4, 0] [(0, .ref (σ 6)), (1, .int a2), (2, .int a3), (3, .int a4), (4, .int x10)] (kdec dk_cJ1_indexOfChar_4cfef 2 rfl) (by decide) rfl ?_
  refine kv_iload_n C 5 rfl 2 (kdec dk_cJ1_indexOfChar_4cfef 3 rfl) rfl rfl ?_
  refine kv_istore C 7 rfl 5 [1, 2, 3, 4, 5, 0] [(0, .ref (σ 6)), (1, .int a2), (2, .int a3), (3, .int a4), (4, .int x10), (5, .int a3)] (kdec dk_cJ1_indexOfChar_4cfef 4 rfl) (by decide) rfl ?_
  exact cut7 ((((2147483648 - (a3 : Int32).toInt)) : Int).toNat + 1) w a2 a3 a4 x10 a3 hI hF0 (by omega) (by omega) (by omega)

set_option maxHeartbeats 4000000 in
set_option maxRecDepth 100000 in
theorem k_j_lindexOf (l : Launch) (D : va_G) (τ : Nat → ClassId) (ρ σ : Nat → Nat) (w : kw) (a2 : Int32) (a3 : Int32) (a4 : Int32) (hI : kI true w)  :
    kM l D τ ρ σ yJ1_indexOf_4cfef cJ1_indexOf_4cfef 4 (some .int) { frames := 1, cells := 0, slots := 0, locals := 36 } [.ref (σ 6), .int a2, .int a3, .int a4] w
      (fun o w' => ∃ r : Int32, o = some (.int r) ∧ kI true w' ∧ kF [] w w') := by
  refine kM_of (own := "java/lang/StringLatin1") rfl (by decide) (Nat.le_of_ble_eq_true rfl) ?_
  intro p e s m args below meth c C hr hlk
  have hF0 : kF [] w w := kF.rf
  have c_m1 : (-1 : Int32).toInt = -1 := by decide
  have c_0 : (0 : Int32).toInt = 0 := by decide
  have c_24 : (24 : Int32).toInt = 24 := by decide
  refine kV.L (L' := [(0, .ref (σ 6)), (1, .int a2), (2, .int a3), (3, .int a4)]) rfl ?_
  have g1 := kf_rng a2
  have g2 := kf_rng a3
  have g3 := kf_rng a4
  refine kv_iload_n C 1 rfl 1 (kdec dk_cJ1_indexOf_4cfef 0 rfl) rfl rfl ?_
  refine kv_callSi (As := [.int a2]) (rest := []) C 4 rfl (k_j_canEncode l D τ ρ σ w a2 hI ) mml_java_lang_StringLatin1_88 mst_yJ1_canEncode_9a6ad mcd_yJ1_canEncode_9a6ad min_yJ1_canEncode_9a6ad hd_yJ1_canEncode_9a6ad rfl rfl rfl (by decide) rfl (Nat.le_of_ble_eq_true rfl) (kdec dk_cJ1_indexOf_4cfef 1 rfl) (fun x8 w4 h5 => ?_)
  obtain ⟨I6, f7, p9⟩ := h5
  have F10 : kF [] w w4 := kF_call hF0 f7 (by decide)
  have g11 := kf_rng x8
  refine kv_if_ne C 7 rfl 9 (kdec dk_cJ1_indexOf_4cfef 2 rfl) (by decide) (fun d12 => ?_) (fun d12 => ?_)
  · skip
    refine kv_iload_n C 10 rfl 2 (kdec dk_cJ1_indexOf_4cfef 5 rfl) rfl rfl ?_
    refine kv_iconst C 11 rfl 0 (kdec dk_cJ1_indexOf_4cfef 6 rfl) rfl ?_
    refine kv_max C 14 rfl mml_java_lang_StringLatin1_92 jm_max_s jm_init jm_max_c (by decide) (Nat.le_of_ble_eq_true rfl) (kdec dk_cJ1_indexOf_4cfef 7 rfl) (fun x13 h14 => ?_)
    have g15 := kf_rng x13
    refine kv_istore_n C 15 rfl 2 [1, 2, 0, 3] [(0, .ref (σ 6)), (1, .int a2), (2, .int x13), (3, .int a4)] (kdec dk_cJ1_indexOf_4cfef 8 rfl) rfl (by decide) rfl ?_
    refine kv_iload_n C 16 rfl 3 (kdec dk_cJ1_indexOf_4cfef 9 rfl) rfl rfl ?_
    refine kv_aload_n C 17 rfl 0 (kdec dk_cJ1_indexOf_4cfef 10 rfl) rfl rfl ?_
    refine kv_tlen C 18 rfl (kdec dk_cJ1_indexOf_4cfef 11 rfl) ?_
    refine kv_min C 21 rfl mml_java_lang_StringLatin1_38 jm_min_s jm_init jm_min_c (by decide) (Nat.le_of_ble_eq_true rfl) (kdec dk_cJ1_indexOf_4cfef 12 rfl) (fun x16 h17 => ?_)
    have g18 := kf_rng x16
    refine kv_istore_n C 22 rfl 3 [1, 2, 3, 0] [(0, .ref (σ 6)), (1, .int a2), (2, .int x13), (3, .int x16)] (kdec dk_cJ1_indexOf_4cfef 13 rfl) rfl (by decide) rfl ?_
    refine kv_iload_n C 23 rfl 2 (kdec dk_cJ1_indexOf_4cfef 14 rfl) rfl rfl ?_
    refine kv_iload_n C 24 rfl 3 (kdec dk_cJ1_indexOf_4cfef 15 rfl) rfl rfl ?_
    refine kv_icmp_lt C 27 rfl 29 (kdec dk_cJ1_indexOf_4cfef 16 rfl) (by decide) (fun d19 => ?_) (fun d19 => ?_)
    · skip
      refine kv_aload_n C 30 rfl 0 (kdec dk_cJ1_indexOf_4cfef 19 rfl) rfl rfl ?_
      refine kv_iload_n C 31 rfl 1 (kdec dk_cJ1_indexOf_4cfef 20 rfl) rfl rfl ?_
      refine kv_iload_n C 32 rfl 2 (kdec dk_cJ1_indexOf_4cfef 21 rfl) rfl rfl ?_
      refine kv_iload_n C 33 rfl 3 (kdec dk_cJ1_indexOf_4cfef 22 rfl) rfl rfl ?_
      refine kv_callSi (As := [.ref (σ 6), .int a2, .int x13, .int x16]) (rest := []) C 36 rfl (k_j_indexOfChar l D τ ρ σ w4 a2 x13 x16 I6 (by omega) (by omega)) mml_java_lang_StringLatin1_95 mst_yJ1_indexOfChar_4cfef mcd_yJ1_indexOfChar_4cfef min_yJ1_indexOfChar_4cfef hd_yJ1_indexOfChar_4cfef rfl rfl rfl (by decide) rfl (Nat.le_of_ble_eq_true rfl) (kdec dk_cJ1_indexOf_4cfef 23 rfl) (fun x24 w20 h21 => ?_)
      obtain ⟨I22, f23⟩ := h21
      have F25 : kF [] w w20 := kF_call F10 f23 (by decide)
      have g26 := kf_rng x24
      exact kv_iret C hr hlk (kdec dk_cJ1_indexOf_4cfef 24 rfl) ⟨_, rfl, I22, F25⟩
    · skip
      refine kv_iconst C 28 rfl (-1) (kdec dk_cJ1_indexOf_4cfef 17 rfl) rfl ?_
      exact kv_iret C hr hlk (kdec dk_cJ1_indexOf_4cfef 18 rfl) ⟨_, rfl, I6, F10⟩
  · skip
    refine kv_iconst C 8 rfl (-1) (kdec dk_cJ1_indexOf_4cfef 3 rfl) rfl ?_
    exact kv_iret C hr hlk (kdec dk_cJ1_indexOf_4cfef 4 rfl) ⟨_, rfl, I6, F10⟩

set_option maxHeartbeats 4000000 in
set_option maxRecDepth 100000 in
theorem k_j_indexOf2 (l : Launch) (D : va_G) (τ : Nat → ClassId) (ρ σ : Nat → Nat) (w : kw) (a1 : Int32) (a2 : Int32) (hI : kI true w)  :
    kM l D τ ρ σ yJ0_indexOf_7cf53 cJ0_indexOf_7cf53 3 (some .int) { frames := 2, cells := 0, slots := 0, locals := 72 } [.ref (σ 5), .int a1, .int a2] w
      (fun o w' => ∃ r : Int32, o = some (.int r) ∧ kI true w' ∧ kF [] w w') := by
  refine kM_of (own := "java/lang/String") rfl (by decide) (Nat.le_of_ble_eq_true rfl) ?_
  intro p e s m args below meth c C hr hlk
  have hF0 : kF [] w w := kF.rf
  refine kV.L (L' := [(0, .ref (σ 5)), (1, .int a1), (2, .int a2)]) rfl ?_
  have g1 := kf_rng a1
  have g2 := kf_rng a2
  refine kv_aload_n C 1 rfl 0 (kdec dk_cJ0_indexOf_7cf53 0 rfl) rfl rfl ?_
  refine kv_callStri (As := []) (rest := []) C 4 rfl (k_j_isLatin1 l D τ ρ σ w  hI ) mml_java_lang_String_492 mim_yJ0_isLatin1_aae02 mse_yJ0_isLatin1_aae02 mcd_yJ0_isLatin1_aae02 min_yJ0_isLatin1_aae02 hd_yJ0_isLatin1_aae02 rfl rfl rfl (by decide) rfl (Nat.le_of_ble_eq_true rfl) (kdec dk_cJ0_indexOf_7cf53 1 rfl) (fun x7 w3 h4 => ?_)
  obtain ⟨I5, f6, p8, p9⟩ := h4
  have F10 : kF [] w w3 := kF_call hF0 f6 (by decide)
  have g11 := kf_rng x7
  refine kv_if_eq C 7 rfl 23 (kdec dk_cJ0_indexOf_7cf53 2 rfl) (by decide) (fun d12 => ?_) (fun d12 => ?_)
  · exfalso; omega
  · skip
    refine kv_aload_n C 8 rfl 0 (kdec dk_cJ0_indexOf_7cf53 3 rfl) rfl rfl ?_
    refine kv_sgetv C 11 rfl mfl_java_lang_String_9 (kdec dk_cJ0_indexOf_7cf53 4 rfl) ?_
    refine kv_iload_n C 12 rfl 1 (kdec dk_cJ0_indexOf_7cf53 5 rfl) rfl rfl ?_
    refine kv_iload_n C 13 rfl 2 (kdec dk_cJ0_indexOf_7cf53 6 rfl) rfl rfl ?_
    refine kv_aload_n C 14 rfl 0 (kdec dk_cJ0_indexOf_7cf53 7 rfl) rfl rfl ?_
    refine kv_callStri (As := []) (rest := [.int a2, .int a1, .ref (σ 6)]) C 17 rfl (k_j_length l D τ ρ σ w3  I5 ) mml_java_lang_String_505 mim_yJ0_length_8abf5 mse_yJ0_length_8abf5 mcd_yJ0_length_8abf5 min_yJ0_length_8abf5 hd_yJ0_length_8abf5 rfl rfl rfl (by decide) rfl (Nat.le_of_ble_eq_true rfl) (kdec dk_cJ0_indexOf_7cf53 8 rfl) (fun x17 w13 h14 => ?_)
    obtain ⟨I15, f16, p18⟩ := h14
    have F19 : kF [] w w13 := kF_call F10 f16 (by decide)
    have g20 := kf_rng x17
    refine kv_callSi (As := [.ref (σ 6), .int a1, .int a2, .int x17]) (rest := []) C 20 rfl (k_j_lindexOf l D τ ρ σ w13 a1 a2 x17 I15 ) mml_java_lang_String_637 mst_yJ1_indexOf_4cfef mcd_yJ1_indexOf_4cfef min_yJ1_indexOf_4cfef hd_yJ1_indexOf_4cfef rfl rfl rfl (by decide) rfl (Nat.le_of_ble_eq_true rfl) (kdec dk_cJ0_indexOf_7cf53 9 rfl) (fun x25 w21 h22 => ?_)
    obtain ⟨I23, f24⟩ := h22
    have F26 : kF [] w w21 := kF_call F19 f24 (by decide)
    have g27 := kf_rng x25
    refine kv_goto C 36 (kdec dk_cJ0_indexOf_7cf53 10 rfl) (by decide) ?_
    exact kv_iret C hr hlk (kdec dk_cJ0_indexOf_7cf53 18 rfl) ⟨_, rfl, I23, F26⟩

set_option maxHeartbeats 4000000 in
set_option maxRecDepth 100000 in
theorem k_j_indexOf (l : Launch) (D : va_G) (τ : Nat → ClassId) (ρ σ : Nat → Nat) (w : kw) (a1 : Int32) (hI : kI true w)  :
    kM l D τ ρ σ yJ0_indexOf_0f7a4 cJ0_indexOf_0f7a4 2 (some .int) { frames := 3, cells := 0, slots := 0, locals := 108 } [.ref (σ 5), .int a1] w
      (fun o w' => ∃ r : Int32, o = some (.int r) ∧ kI true w' ∧ kF [] w w') := by
  refine kM_of (own := "java/lang/String") rfl (by decide) (Nat.le_of_ble_eq_true rfl) ?_
  intro p e s m args below meth c C hr hlk
  have hF0 : kF [] w w := kF.rf
  have c_0 : (0 : Int32).toInt = 0 := by decide
  refine kV.L (L' := [(0, .ref (σ 5)), (1, .int a1)]) rfl ?_
  have g1 := kf_rng a1
  refine kv_aload_n C 1 rfl 0 (kdec dk_cJ0_indexOf_0f7a4 0 rfl) rfl rfl ?_
  refine kv_iload_n C 2 rfl 1 (kdec dk_cJ0_indexOf_0f7a4 1 rfl) rfl rfl ?_
  refine kv_iconst C 3 rfl 0 (kdec dk_cJ0_indexOf_0f7a4 2 rfl) rfl ?_
  refine kv_callStri (As := [.int a1, .int 0]) (rest := []) C 6 rfl (k_j_indexOf2 l D τ ρ σ w a1 0 hI ) mml_java_lang_String_633 mim_yJ0_indexOf_7cf53 mse_yJ0_indexOf_7cf53 mcd_yJ0_indexOf_7cf53 min_yJ0_indexOf_7cf53 hd_yJ0_indexOf_7cf53 rfl rfl rfl (by decide) rfl (Nat.le_of_ble_eq_true rfl) (kdec dk_cJ0_indexOf_0f7a4 3 rfl) (fun x6 w2 h3 => ?_)
  obtain ⟨I4, f5⟩ := h3
  have F7 : kF [] w w2 := kF_call hF0 f5 (by decide)
  have g8 := kf_rng x6
  exact kv_iret C hr hlk (kdec dk_cJ0_indexOf_0f7a4 4 rfl) ⟨_, rfl, I4, F7⟩
