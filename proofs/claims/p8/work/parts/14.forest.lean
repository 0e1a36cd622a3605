set_option maxHeartbeats 4000000 in
set_option maxRecDepth 100000 in
theorem k_placeOf (l : Launch) (D : va_G) (τ : Nat → ClassId) (ρ σ : Nat → Nat) (w : kw) (a1 : Int32) (hI : kI true w)  :
    kM l D τ ρ σ yX2_placeOf cX2_placeOf 2 (some .int) { frames := 1, cells := 0, slots := 0, locals := 36 } [.ref (ρ 22), .int a1] w
      (fun o w' => ∃ r : Int32, o = some (.int r) ∧ kI true w' ∧ kF [(2, some 9)] w w') := by
  refine kM_of (own := "TaleMachine$Forest") rfl (by decide) (Nat.le_of_ble_eq_true rfl) ?_
  intro p e s m args below meth c C hr hlk
  have hF0 : kF [(2, some 9)] w w := kF.rf
  have c_1 : (1 : Int32).toInt = 1 := by decide
  have c_9 : (9 : Int32).toInt = 9 := by decide
  have c_62 : (62 : Int32).toInt = 62 := by decide
  have c_255 : (255 : Int32).toInt = 255 := by decide
  refine kV.L (L' := [(0, .ref (ρ 22)), (1, .int a1)]) rfl ?_
  have g1 := kf_rng a1
  refine kv_iload_n C 1 rfl 1 (kdec dk_cX2_placeOf 0 rfl) rfl rfl ?_
  refine kv_iconst C 2 rfl 1 (kdec dk_cX2_placeOf 1 rfl) rfl ?_
  refine kv_icmp_lt C 5 rfl 12 (kdec dk_cX2_placeOf 2 rfl) (by decide) (fun d2 => ?_) (fun d2 => ?_)
  · skip
    refine kv_aload_n C 13 rfl 0 (kdec dk_cX2_placeOf 6 rfl) rfl rfl ?_
    refine kv_getr C 16 rfl 22 0 rfl rfl inX2 (by decide) mfl_TaleMachine_Forest_9 rfl rfl (kdec dk_cX2_placeOf 7 rfl) ?_
    refine kv_bipush C 18 rfl 9 (kdec dk_cX2_placeOf 8 rfl) rfl ?_
    refine kv_callVNv (As := [.int 9]) (rest := []) C 21 rfl 2 (k_raise l D τ ρ σ w 9 hI (by omega)) rfl rfl mmn_TaleMachine_Forest_15 mim_yX6_raise mse_yX6_raise mcd_yX6_raise min_yX6_raise hd_yX6_raise rfl rfl rfl (by decide) rfl (Nat.le_of_ble_eq_true rfl) (kdec dk_cX2_placeOf 9 rfl) (fun w3 h4 => ?_)
    obtain ⟨I5, f6, p8⟩ := h4
    have F9 : kF [(2, some 9)] w w3 := kF_call hF0 f6 (by decide)
    obtain ⟨x10, e11⟩ : ∃ z : Int32, w 2 9 = z := ⟨_, rfl⟩
    have b12 : (0 : Int) ≤ x10.toInt ∧ x10.toInt ≤ 13 := by rw [← e11]; exact hI 2 9
    obtain ⟨x13, e14⟩ : ∃ z : Int32, w3 2 9 = z := ⟨_, rfl⟩
    have b15 : (0 : Int) ≤ x13.toInt ∧ x13.toInt ≤ 13 := by rw [← e14]; exact I5 2 9
    rw [e11, e14] at p8
    refine kv_aload_n C 22 rfl 0 (kdec dk_cX2_placeOf 10 rfl) rfl rfl ?_
    refine kv_getr C 25 rfl 22 0 rfl rfl inX2 (by decide) mfl_TaleMachine_Forest_9 rfl rfl (kdec dk_cX2_placeOf 11 rfl) ?_
    obtain ⟨x16, e17⟩ : ∃ z : Int32, w 2 6 = z := ⟨_, rfl⟩
    have b18 : (0 : Int) ≤ x16.toInt ∧ x16.toInt ≤ 65535 := by rw [← e17]; exact hI 2 6
    have e19 : w3 2 6 = x16 := ((f6 2 6 rfl : w3 2 6 = w 2 6).trans e17)
    refine kv_getN C 28 rfl 2 6 rfl rfl inX6 (by decide) mfn_TaleMachine_Forest_21 rfl rfl (kdec dk_cX2_placeOf 12 rfl) e19 ?_
    refine kv_bipush C 30 rfl 62 (kdec dk_cX2_placeOf 13 rfl) rfl ?_
    refine kv_iadd C 31 rfl (kdec dk_cX2_placeOf 14 rfl) (fun x20 q22 h21e h21 h21l h21u => ?_)
    try have h21n : x20.toInt = x16.toInt + (62 : Int32).toInt := by omega
    clear h21 q22
    refine kv_bipush C 33 rfl 9 (kdec dk_cX2_placeOf 15 rfl) rfl ?_
    refine kv_iload_n C 34 rfl 1 (kdec dk_cX2_placeOf 16 rfl) rfl rfl ?_
    refine kv_iconst C 35 rfl 1 (kdec dk_cX2_placeOf 17 rfl) rfl ?_
    refine kv_isub C 36 rfl (kdec dk_cX2_placeOf 18 rfl) (fun x23 q25 h24e h24 h24l h24u => ?_)
    try have h24n : x23.toInt = a1.toInt - (1 : Int32).toInt := by omega
    clear h24 q25
    refine kv_imul C 37 rfl (kdec dk_cX2_placeOf 19 rfl) (fun x26 h27e h27l h27u => ?_)
    obtain ⟨q28, g29⟩ := kf_mul 9 x23
    rw [← h27e, c_9] at g29
    try have h27n : x26.toInt = 9 * x23.toInt := by omega
    clear g29 q28
    refine kv_iadd C 38 rfl (kdec dk_cX2_placeOf 20 rfl) (fun x30 q32 h31e h31 h31l h31u => ?_)
    try have h31n : x30.toInt = x20.toInt + x26.toInt := by omega
    clear h31 q32
    exact kv_iret C hr hlk (kdec dk_cX2_placeOf 21 rfl) ⟨_, rfl, I5, F9⟩
  · skip
    refine kv_iload_n C 6 rfl 1 (kdec dk_cX2_placeOf 3 rfl) rfl rfl ?_
    refine kv_sipush C 9 rfl 255 (kdec dk_cX2_placeOf 4 rfl) rfl ?_
    refine kv_icmp_le C 12 rfl 21 (kdec dk_cX2_placeOf 5 rfl) (by decide) (fun d33 => ?_) (fun d33 => ?_)
    · skip
      refine kv_aload_n C 22 rfl 0 (kdec dk_cX2_placeOf 10 rfl) rfl rfl ?_
      refine kv_getr C 25 rfl 22 0 rfl rfl inX2 (by decide) mfl_TaleMachine_Forest_9 rfl rfl (kdec dk_cX2_placeOf 11 rfl) ?_
      obtain ⟨x34, e35⟩ : ∃ z : Int32, w 2 6 = z := ⟨_, rfl⟩
      have b36 : (0 : Int) ≤ x34.toInt ∧ x34.toInt ≤ 65535 := by rw [← e35]; exact hI 2 6
      refine kv_getN C 28 rfl 2 6 rfl rfl inX6 (by decide) mfn_TaleMachine_Forest_21 rfl rfl (kdec dk_cX2_placeOf 12 rfl) e35 ?_
      refine kv_bipush C 30 rfl 62 (kdec dk_cX2_placeOf 13 rfl) rfl ?_
      refine kv_iadd C 31 rfl (kdec dk_cX2_placeOf 14 rfl) (fun x37 q39 h38e h38 h38l h38u => ?_)
      try have h38n : x37.toInt = x34.toInt + (62 : Int32).toInt := by omega
      clear h38 q39
      refine kv_bipush C 33 rfl 9 (kdec dk_cX2_placeOf 15 rfl) rfl ?_
      refine kv_iload_n C 34 rfl 1 (kdec dk_cX2_placeOf 16 rfl) rfl rfl ?_
      refine kv_iconst C 35 rfl 1 (kdec dk_cX2_placeOf 17 rfl) rfl ?_
      refine kv_isub C 36 rfl (kdec dk_cX2_placeOf 18 rfl) (fun x40 q42 h41e h41 h41l h41u => ?_)
      try have h41n : x40.toInt = a1.toInt - (1 : Int32).toInt := by omega
      clear h41 q42
      refine kv_imul C 37 rfl (kdec dk_cX2_placeOf 19 rfl) (fun x43 h44e h44l h44u => ?_)
      obtain ⟨q45, g46⟩ := kf_mul 9 x40
      rw [← h44e, c_9] at g46
      try have h44n : x43.toInt = 9 * x40.toInt := by omega
      clear g46 q45
      refine kv_iadd C 38 rfl (kdec dk_cX2_placeOf 20 rfl) (fun x47 q49 h48e h48 h48l h48u => ?_)
      try have h48n : x47.toInt = x37.toInt + x43.toInt := by omega
      clear h48 q49
      exact kv_iret C hr hlk (kdec dk_cX2_placeOf 21 rfl) ⟨_, rfl, hI, hF0⟩
    · skip
      refine kv_aload_n C 13 rfl 0 (kdec dk_cX2_placeOf 6 rfl) rfl rfl ?_
      refine kv_getr C 16 rfl 22 0 rfl rfl inX2 (by decide) mfl_TaleMachine_Forest_9 rfl rfl (kdec dk_cX2_placeOf 7 rfl) ?_
      refine kv_bipush C 18 rfl 9 (kdec dk_cX2_placeOf 8 rfl) rfl ?_
      refine kv_callVNv (As := [.int 9]) (rest := []) C 21 rfl 2 (k_raise l D τ ρ σ w 9 hI (by omega)) rfl rfl mmn_TaleMachine_Forest_15 mim_yX6_raise mse_yX6_raise mcd_yX6_raise min_yX6_raise hd_yX6_raise rfl rfl rfl (by decide) rfl (Nat.le_of_ble_eq_true rfl) (kdec dk_cX2_placeOf 9 rfl) (fun w50 h51 => ?_)
      obtain ⟨I52, f53, p55⟩ := h51
      have F56 : kF [(2, some 9)] w w50 := kF_call hF0 f53 (by decide)
      obtain ⟨x57, e58⟩ : ∃ z : Int32, w 2 9 = z := ⟨_, rfl⟩
      have b59 : (0 : Int) ≤ x57.toInt ∧ x57.toInt ≤ 13 := by rw [← e58]; exact hI 2 9
      obtain ⟨x60, e61⟩ : ∃ z : Int32, w50 2 9 = z := ⟨_, rfl⟩
      have b62 : (0 : Int) ≤ x60.toInt ∧ x60.toInt ≤ 13 := by rw [← e61]; exact I52 2 9
      rw [e58, e61] at p55
      refine kv_aload_n C 22 rfl 0 (kdec dk_cX2_placeOf 10 rfl) rfl rfl ?_
      refine kv_getr C 25 rfl 22 0 rfl rfl inX2 (by decide) mfl_TaleMachine_Forest_9 rfl rfl (kdec dk_cX2_placeOf 11 rfl) ?_
      obtain ⟨x63, e64⟩ : ∃ z : Int32, w 2 6 = z := ⟨_, rfl⟩
      have b65 : (0 : Int) ≤ x63.toInt ∧ x63.toInt ≤ 65535 := by rw [← e64]; exact hI 2 6
      have e66 : w50 2 6 = x63 := ((f53 2 6 rfl : w50 2 6 = w 2 6).trans e64)
      refine kv_getN C 28 rfl 2 6 rfl rfl inX6 (by decide) mfn_TaleMachine_Forest_21 rfl rfl (kdec dk_cX2_placeOf 12 rfl) e66 ?_
      refine kv_bipush C 30 rfl 62 (kdec dk_cX2_placeOf 13 rfl) rfl ?_
      refine kv_iadd C 31 rfl (kdec dk_cX2_placeOf 14 rfl) (fun x67 q69 h68e h68 h68l h68u => ?_)
      try have h68n : x67.toInt = x63.toInt + (62 : Int32).toInt := by omega
      clear h68 q69
      refine kv_bipush C 33 rfl 9 (kdec dk_cX2_placeOf 15 rfl) rfl ?_
      refine kv_iload_n C 34 rfl 1 (kdec dk_cX2_placeOf 16 rfl) rfl rfl ?_
      refine kv_iconst C 35 rfl 1 (kdec dk_cX2_placeOf 17 rfl) rfl ?_
      refine kv_isub C 36 rfl (kdec dk_cX2_placeOf 18 rfl) (fun x70 q72 h71e h71 h71l h71u => ?_)
      try have h71n : x70.toInt = a1.toInt - (1 : Int32).toInt := by omega
      clear h71 q72
      refine kv_imul C 37 rfl (kdec dk_cX2_placeOf 19 rfl) (fun x73 h74e h74l h74u => ?_)
      obtain ⟨q75, g76⟩ := kf_mul 9 x70
      rw [← h74e, c_9] at g76
      try have h74n : x73.toInt = 9 * x70.toInt := by omega
      clear g76 q75
      refine kv_iadd C 38 rfl (kdec dk_cX2_placeOf 20 rfl) (fun x77 q79 h78e h78 h78l h78u => ?_)
      try have h78n : x77.toInt = x67.toInt + x73.toInt := by omega
      clear h78 q79
      exact kv_iret C hr hlk (kdec dk_cX2_placeOf 21 rfl) ⟨_, rfl, I52, F56⟩

set_option maxHeartbeats 4000000 in
set_option maxRecDepth 100000 in
theorem k_linkOf (l : Launch) (D : va_G) (τ : Nat → ClassId) (ρ σ : Nat → Nat) (w : kw) (a1 : Int32) (a2 : Int32) (hI : kI true w)  :
    kM l D τ ρ σ yX2_linkOf cX2_linkOf 3 (some .int) { frames := 2, cells := 0, slots := 0, locals := 72 } [.ref (ρ 22), .int a1, .int a2] w
      (fun o w' => ∃ r : Int32, o = some (.int r) ∧ kI true w' ∧ kF [(2, some 9)] w w') := by
  refine kM_of (own := "TaleMachine$Forest") rfl (by decide) (Nat.le_of_ble_eq_true rfl) ?_
  intro p e s m args below meth c C hr hlk
  have hF0 : kF [(2, some 9)] w w := kF.rf
  refine kV.L (L' := [(0, .ref (ρ 22)), (1, .int a1), (2, .int a2)]) rfl ?_
  have g1 := kf_rng a1
  have g2 := kf_rng a2
  refine kv_aload_n C 1 rfl 0 (kdec dk_cX2_linkOf 0 rfl) rfl rfl ?_
  refine kv_getr C 4 rfl 22 0 rfl rfl inX2 (by decide) mfl_TaleMachine_Forest_9 rfl rfl (kdec dk_cX2_linkOf 1 rfl) ?_
  refine kv_aload_n C 5 rfl 0 (kdec dk_cX2_linkOf 2 rfl) rfl rfl ?_
  refine kv_iload_n C 6 rfl 1 (kdec dk_cX2_linkOf 3 rfl) rfl rfl ?_
  refine kv_callVi (As := [.int a1]) (rest := [.ref (ρ 2)]) C 9 rfl 22 (k_placeOf l D τ ρ σ w a1 hI ) rfl rfl mml_TaleMachine_Forest_25 mim_yX2_placeOf mse_yX2_placeOf mcd_yX2_placeOf min_yX2_placeOf hd_yX2_placeOf rfl rfl rfl (by decide) rfl (Nat.le_of_ble_eq_true rfl) (kdec dk_cX2_linkOf 4 rfl) (fun x7 w3 h4 => ?_)
  obtain ⟨I5, f6⟩ := h4
  have F8 : kF [(2, some 9)] w w3 := kF_call hF0 f6 (by decide)
  have g9 := kf_rng x7
  refine kv_iload_n C 10 rfl 2 (kdec dk_cX2_linkOf 5 rfl) rfl rfl ?_
  refine kv_iadd C 11 rfl (kdec dk_cX2_linkOf 6 rfl) (fun x10 q12 h11e h11 h11l h11u => ?_)
  try have h11n : x10.toInt = x7.toInt + a2.toInt := by omega
  clear h11 q12
  refine kv_callVNi (As := [.int x10]) (rest := []) C 14 rfl 2 (k_byteAt l D τ ρ σ w3 x10 I5 ) rfl rfl mmn_TaleMachine_Forest_29 mim_yX6_byteAt mse_yX6_byteAt mcd_yX6_byteAt min_yX6_byteAt hd_yX6_byteAt rfl rfl rfl (by decide) rfl (Nat.le_of_ble_eq_true rfl) (kdec dk_cX2_linkOf 7 rfl) (fun x17 w13 h14 => ?_)
  obtain ⟨I15, f16, p18, p19⟩ := h14
  have F20 : kF [(2, some 9)] w w13 := kF_call F8 f16 (by decide)
  have g21 := kf_rng x17
  obtain ⟨x22, e23⟩ : ∃ z : Int32, w3 2 9 = z := ⟨_, rfl⟩
  have b24 : (0 : Int) ≤ x22.toInt ∧ x22.toInt ≤ 13 := by rw [← e23]; exact I5 2 9
  obtain ⟨x25, e26⟩ : ∃ z : Int32, w13 2 9 = z := ⟨_, rfl⟩
  have b27 : (0 : Int) ≤ x25.toInt ∧ x25.toInt ≤ 13 := by rw [← e26]; exact I15 2 9
  rw [e23, e26] at p19
  exact kv_iret C hr hlk (kdec dk_cX2_linkOf 8 rfl) ⟨_, rfl, I15, F20⟩

set_option maxHeartbeats 4000000 in
set_option maxRecDepth 100000 in
theorem k_attributePlace (l : Launch) (D : va_G) (τ : Nat → ClassId) (ρ σ : Nat → Nat) (w : kw) (a1 : Int32) (a2 : Int32) (hI : kI true w)  :
    kM l D τ ρ σ yX2_attributePlace cX2_attributePlace 4 (some .int) { frames := 2, cells := 0, slots := 0, locals := 72 } [.ref (ρ 22), .int a1, .int a2] w
      (fun o w' => ∃ r : Int32, o = some (.int r) ∧ kI true w' ∧ kF [(2, some 9)] w w') := by
  refine kM_of (own := "TaleMachine$Forest") rfl (by decide) (Nat.le_of_ble_eq_true rfl) ?_
  intro p e s m args below meth c C hr hlk
  have hF0 : kF [(2, some 9)] w w := kF.rf
  have c_8 : (8 : Int32).toInt = 8 := by decide
  have c_9 : (9 : Int32).toInt = 9 := by decide
  have c_31 : (31 : Int32).toInt = 31 := by decide
  refine kV.L (L' := [(0, .ref (ρ 22)), (1, .int a1), (2, .int a2)]) rfl ?_
  have g1 := kf_rng a1
  have g2 := kf_rng a2
  refine kv_aload_n C 1 rfl 0 (kdec dk_cX2_attributePlace 0 rfl) rfl rfl ?_
  refine kv_iload_n C 2 rfl 1 (kdec dk_cX2_attributePlace 1 rfl) rfl rfl ?_
  refine kv_callVi (As := [.int a1]) (rest := []) C 5 rfl 22 (k_placeOf l D τ ρ σ w a1 hI ) rfl rfl mml_TaleMachine_Forest_25 mim_yX2_placeOf mse_yX2_placeOf mcd_yX2_placeOf min_yX2_placeOf hd_yX2_placeOf rfl rfl rfl (by decide) rfl (Nat.le_of_ble_eq_true rfl) (kdec dk_cX2_attributePlace 2 rfl) (fun x7 w3 h4 => ?_)
  obtain ⟨I5, f6⟩ := h4
  have F8 : kF [(2, some 9)] w w3 := kF_call hF0 f6 (by decide)
  have g9 := kf_rng x7
  refine kv_istore_n C 6 rfl 3 [1, 2, 3, 0] [(0, .ref (ρ 22)), (1, .int a1), (2, .int a2), (3, .int x7)] (kdec dk_cX2_attributePlace 3 rfl) rfl (by decide) rfl ?_
  refine kv_iload_n C 7 rfl 2 (kdec dk_cX2_attributePlace 4 rfl) rfl rfl ?_
  refine kv_if_lt C 10 rfl 16 (kdec dk_cX2_attributePlace 5 rfl) (by decide) (fun d10 => ?_) (fun d10 => ?_)
  · skip
    refine kv_aload_n C 17 rfl 0 (kdec dk_cX2_attributePlace 9 rfl) rfl rfl ?_
    refine kv_getr C 20 rfl 22 0 rfl rfl inX2 (by decide) mfl_TaleMachine_Forest_9 rfl rfl (kdec dk_cX2_attributePlace 10 rfl) ?_
    refine kv_bipush C 22 rfl 9 (kdec dk_cX2_attributePlace 11 rfl) rfl ?_
    refine kv_callVNv (As := [.int 9]) (rest := []) C 25 rfl 2 (k_raise l D τ ρ σ w3 9 I5 (by omega)) rfl rfl mmn_TaleMachine_Forest_15 mim_yX6_raise mse_yX6_raise mcd_yX6_raise min_yX6_raise hd_yX6_raise rfl rfl rfl (by decide) rfl (Nat.le_of_ble_eq_true rfl) (kdec dk_cX2_attributePlace 12 rfl) (fun w11 h12 => ?_)
    obtain ⟨I13, f14, p16⟩ := h12
    have F17 : kF [(2, some 9)] w w11 := kF_call F8 f14 (by decide)
    obtain ⟨x18, e19⟩ : ∃ z : Int32, w3 2 9 = z := ⟨_, rfl⟩
    have b20 : (0 : Int) ≤ x18.toInt ∧ x18.toInt ≤ 13 := by rw [← e19]; exact I5 2 9
    obtain ⟨x21, e22⟩ : ∃ z : Int32, w11 2 9 = z := ⟨_, rfl⟩
    have b23 : (0 : Int) ≤ x21.toInt ∧ x21.toInt ≤ 13 := by rw [← e22]; exact I13 2 9
    rw [e19, e22] at p16
    refine kv_iload_n C 26 rfl 3 (kdec dk_cX2_attributePlace 13 rfl) rfl rfl ?_
    refine kv_iload_n C 27 rfl 2 (kdec dk_cX2_attributePlace 14 rfl) rfl rfl ?_
    refine kv_bipush C 29 rfl 8 (kdec dk_cX2_attributePlace 15 rfl) rfl ?_
    refine kv_idiv C 30 rfl (kdec dk_cX2_attributePlace 16 rfl) (by decide) (fun x24 h25e h25l h25u => ?_)
    refine kv_iadd C 31 rfl (kdec dk_cX2_attributePlace 17 rfl) (fun x26 q28 h27e h27 h27l h27u => ?_)
    try have h27n : x26.toInt = x7.toInt + x24.toInt := by omega
    clear h27 q28
    exact kv_iret C hr hlk (kdec dk_cX2_attributePlace 18 rfl) ⟨_, rfl, I13, F17⟩
  · skip
    refine kv_iload_n C 11 rfl 2 (kdec dk_cX2_attributePlace 6 rfl) rfl rfl ?_
    refine kv_bipush C 13 rfl 31 (kdec dk_cX2_attributePlace 7 rfl) rfl ?_
    refine kv_icmp_le C 16 rfl 25 (kdec dk_cX2_attributePlace 8 rfl) (by decide) (fun d29 => ?_) (fun d29 => ?_)
    · skip
      refine kv_iload_n C 26 rfl 3 (kdec dk_cX2_attributePlace 13 rfl) rfl rfl ?_
      refine kv_iload_n C 27 rfl 2 (kdec dk_cX2_attributePlace 14 rfl) rfl rfl ?_
      refine kv_bipush C 29 rfl 8 (kdec dk_cX2_attributePlace 15 rfl) rfl ?_
      refine kv_idiv C 30 rfl (kdec dk_cX2_attributePlace 16 rfl) (by decide) (fun x30 h31e h31l h31u => ?_)
      refine kv_iadd C 31 rfl (kdec dk_cX2_attributePlace 17 rfl) (fun x32 q34 h33e h33 h33l h33u => ?_)
      try have h33n : x32.toInt = x7.toInt + x30.toInt := by omega
      clear h33 q34
      exact kv_iret C hr hlk (kdec dk_cX2_attributePlace 18 rfl) ⟨_, rfl, I5, F8⟩
    · skip
      refine kv_aload_n C 17 rfl 0 (kdec dk_cX2_attributePlace 9 rfl) rfl rfl ?_
      refine kv_getr C 20 rfl 22 0 rfl rfl inX2 (by decide) mfl_TaleMachine_Forest_9 rfl rfl (kdec dk_cX2_attributePlace 10 rfl) ?_
      refine kv_bipush C 22 rfl 9 (kdec dk_cX2_attributePlace 11 rfl) rfl ?_
      refine kv_callVNv (As := [.int 9]) (rest := []) C 25 rfl 2 (k_raise l D τ ρ σ w3 9 I5 (by omega)) rfl rfl mmn_TaleMachine_Forest_15 mim_yX6_raise mse_yX6_raise mcd_yX6_raise min_yX6_raise hd_yX6_raise rfl rfl rfl (by decide) rfl (Nat.le_of_ble_eq_true rfl) (kdec dk_cX2_attributePlace 12 rfl) (fun w35 h36 => ?_)
      obtain ⟨I37, f38, p40⟩ := h36
      have F41 : kF [(2, some 9)] w w35 := kF_call F8 f38 (by decide)
      obtain ⟨x42, e43⟩ : ∃ z : Int32, w3 2 9 = z := ⟨_, rfl⟩
      have b44 : (0 : Int) ≤ x42.toInt ∧ x42.toInt ≤ 13 := by rw [← e43]; exact I5 2 9
      obtain ⟨x45, e46⟩ : ∃ z : Int32, w35 2 9 = z := ⟨_, rfl⟩
      have b47 : (0 : Int) ≤ x45.toInt ∧ x45.toInt ≤ 13 := by rw [← e46]; exact I37 2 9
      rw [e43, e46] at p40
      refine kv_iload_n C 26 rfl 3 (kdec dk_cX2_attributePlace 13 rfl) rfl rfl ?_
      refine kv_iload_n C 27 rfl 2 (kdec dk_cX2_attributePlace 14 rfl) rfl rfl ?_
      refine kv_bipush C 29 rfl 8 (kdec dk_cX2_attributePlace 15 rfl) rfl ?_
      refine kv_idiv C 30 rfl (kdec dk_cX2_attributePlace 16 rfl) (by decide) (fun x48 h49e h49l h49u => ?_)
      refine kv_iadd C 31 rfl (kdec dk_cX2_attributePlace 17 rfl) (fun x50 q52 h51e h51 h51l h51u => ?_)
      try have h51n : x50.toInt = x7.toInt + x48.toInt := by omega
      clear h51 q52
      exact kv_iret C hr hlk (kdec dk_cX2_attributePlace 18 rfl) ⟨_, rfl, I37, F41⟩

set_option maxHeartbeats 4000000 in
set_option maxRecDepth 100000 in
theorem k_hasAttribute (l : Launch) (D : va_G) (τ : Nat → ClassId) (ρ σ : Nat → Nat) (w : kw) (a1 : Int32) (a2 : Int32) (hI : kI true w)  :
    kM l D τ ρ σ yX2_hasAttribute cX2_hasAttribute 4 (some .boolean) { frames := 3, cells := 0, slots := 0, locals := 108 } [.ref (ρ 22), .int a1, .int a2] w
      (fun o w' => ∃ r : Int32, o = some (.int r) ∧ kI true w' ∧ kF [(2, some 9)] w w' ∧ (0 ≤ r.toInt ∧ r.toInt ≤ 1)) := by
  refine kM_of (own := "TaleMachine$Forest") rfl (by decide) (Nat.le_of_ble_eq_true rfl) ?_
  intro p e s m args below meth c C hr hlk
  have hF0 : kF [(2, some 9)] w w := kF.rf
  have c_0 : (0 : Int32).toInt = 0 := by decide
  have c_1 : (1 : Int32).toInt = 1 := by decide
  have c_7 : (7 : Int32).toInt = 7 := by decide
  have c_128 : (128 : Int32).toInt = 128 := by decide
  refine kV.L (L' := [(0, .ref (ρ 22)), (1, .int a1), (2, .int a2)]) rfl ?_
  have g1 := kf_rng a1
  have g2 := kf_rng a2
  refine kv_aload_n C 1 rfl 0 (kdec dk_cX2_hasAttribute 0 rfl) rfl rfl ?_
  refine kv_iload_n C 2 rfl 1 (kdec dk_cX2_hasAttribute 1 rfl) rfl rfl ?_
  refine kv_iload_n C 3 rfl 2 (kdec dk_cX2_hasAttribute 2 rfl) rfl rfl ?_
  refine kv_callVi (As := [.int a1, .int a2]) (rest := []) C 6 rfl 22 (k_attributePlace l D τ ρ σ w a1 a2 hI ) rfl rfl mml_TaleMachine_Forest_32 mim_yX2_attributePlace mse_yX2_attributePlace mcd_yX2_attributePlace min_yX2_attributePlace hd_yX2_attributePlace rfl rfl rfl (by decide) rfl (Nat.le_of_ble_eq_true rfl) (kdec dk_cX2_hasAttribute 3 rfl) (fun x7 w3 h4 => ?_)
  obtain ⟨I5, f6⟩ := h4
  have F8 : kF [(2, some 9)] w w3 := kF_call hF0 f6 (by decide)
  have g9 := kf_rng x7
  refine kv_istore_n C 7 rfl 3 [1, 2, 3, 0] [(0, .ref (ρ 22)), (1, .int a1), (2, .int a2), (3, .int x7)] (kdec dk_cX2_hasAttribute 4 rfl) rfl (by decide) rfl ?_
  refine kv_aload_n C 8 rfl 0 (kdec dk_cX2_hasAttribute 5 rfl) rfl rfl ?_
  refine kv_getr C 11 rfl 22 0 rfl rfl inX2 (by decide) mfl_TaleMachine_Forest_9 rfl rfl (kdec dk_cX2_hasAttribute 6 rfl) ?_
  refine kv_iload_n C 12 rfl 3 (kdec dk_cX2_hasAttribute 7 rfl) rfl rfl ?_
  refine kv_callVNi (As := [.int x7]) (rest := []) C 15 rfl 2 (k_byteAt l D τ ρ σ w3 x7 I5 ) rfl rfl mmn_TaleMachine_Forest_29 mim_yX6_byteAt mse_yX6_byteAt mcd_yX6_byteAt min_yX6_byteAt hd_yX6_byteAt rfl rfl rfl (by decide) rfl (Nat.le_of_ble_eq_true rfl) (kdec dk_cX2_hasAttribute 8 rfl) (fun x14 w10 h11 => ?_)
  obtain ⟨I12, f13, p15, p16⟩ := h11
  have F17 : kF [(2, some 9)] w w10 := kF_call F8 f13 (by decide)
  have g18 := kf_rng x14
  obtain ⟨x19, e20⟩ : ∃ z : Int32, w3 2 9 = z := ⟨_, rfl⟩
  have b21 : (0 : Int) ≤ x19.toInt ∧ x19.toInt ≤ 13 := by rw [← e20]; exact I5 2 9
  obtain ⟨x22, e23⟩ : ∃ z : Int32, w10 2 9 = z := ⟨_, rfl⟩
  have b24 : (0 : Int) ≤ x22.toInt ∧ x22.toInt ≤ 13 := by rw [← e23]; exact I12 2 9
  rw [e20, e23] at p16
  refine kv_sipush C 18 rfl 128 (kdec dk_cX2_hasAttribute 9 rfl) rfl ?_
  refine kv_iload_n C 19 rfl 2 (kdec dk_cX2_hasAttribute 10 rfl) rfl rfl ?_
  refine kv_bipush C 21 rfl 7 (kdec dk_cX2_hasAttribute 11 rfl) rfl ?_
  refine kv_iand C 22 rfl (kdec dk_cX2_hasAttribute 12 rfl) (fun x25 h26e h26l h26u => ?_)
  have g27 := kf_and7 h26e
  refine kv_ishr C 23 rfl (kdec dk_cX2_hasAttribute 13 rfl) (fun x28 h29e h29l h29u => ?_)
  refine kv_iand C 24 rfl (kdec dk_cX2_hasAttribute 14 rfl) (fun x30 h31e h31l h31u => ?_)
  refine kv_if_eq C 27 rfl 31 (kdec dk_cX2_hasAttribute 15 rfl) (by decide) (fun d32 => ?_) (fun d32 => ?_)
  · skip
    refine kv_iconst C 32 rfl 0 (kdec dk_cX2_hasAttribute 18 rfl) rfl ?_
    exact kv_zret C hr hlk (kdec dk_cX2_hasAttribute 19 rfl) (kf_bool (by decide)) ⟨_, rfl, I12, F17, (by omega)⟩
  · skip
    refine kv_iconst C 28 rfl 1 (kdec dk_cX2_hasAttribute 16 rfl) rfl ?_
    refine kv_goto C 32 (kdec dk_cX2_hasAttribute 17 rfl) (by decide) ?_
    exact kv_zret C hr hlk (kdec dk_cX2_hasAttribute 19 rfl) (kf_bool (by decide)) ⟨_, rfl, I12, F17, (by omega)⟩

set_option maxHeartbeats 4000000 in
set_option maxRecDepth 100000 in
theorem k_setAttribute (l : Launch) (D : va_G) (τ : Nat → ClassId) (ρ σ : Nat → Nat) (w : kw) (a1 : Int32) (a2 : Int32) (a3 : Int32) (hI : kI true w)  :
    kM l D τ ρ σ yX2_setAttribute cX2_setAttribute 7 none { frames := 3, cells := 0, slots := 0, locals := 108 } [.ref (ρ 22), .int a1, .int a2, .int a3] w
      (fun o w' => o = none ∧ kI true w' ∧ kF [(2, some 9), (3, none)] w w') := by
  refine kM_of (own := "TaleMachine$Forest") rfl (by decide) (Nat.le_of_ble_eq_true rfl) ?_
  intro p e s m args below meth c C hr hlk
  have hF0 : kF [(2, some 9), (3, none)] w w := kF.rf
  have c_m1 : (-1 : Int32).toInt = -1 := by decide
  have c_7 : (7 : Int32).toInt = 7 := by decide
  have c_128 : (128 : Int32).toInt = 128 := by decide
  refine kV.L (L' := [(0, .ref (ρ 22)), (1, .int a1), (2, .int a2), (3, .int a3)]) rfl ?_
  have g1 := kf_rng a1
  have g2 := kf_rng a2
  have g3 := kf_rng a3
  refine kv_aload_n C 1 rfl 0 (kdec dk_cX2_setAttribute 0 rfl) rfl rfl ?_
  refine kv_iload_n C 2 rfl 1 (kdec dk_cX2_setAttribute 1 rfl) rfl rfl ?_
  refine kv_iload_n C 3 rfl 2 (kdec dk_cX2_setAttribute 2 rfl) rfl rfl ?_
  refine kv_callVi (As := [.int a1, .int a2]) (rest := []) C 6 rfl 22 (k_attributePlace l D τ ρ σ w a1 a2 hI ) rfl rfl mml_TaleMachine_Forest_32 mim_yX2_attributePlace mse_yX2_attributePlace mcd_yX2_attributePlace min_yX2_attributePlace hd_yX2_attributePlace rfl rfl rfl (by decide) rfl (Nat.le_of_ble_eq_true rfl) (kdec dk_cX2_setAttribute 3 rfl) (fun x8 w4 h5 => ?_)
  obtain ⟨I6, f7⟩ := h5
  have F9 : kF [(2, some 9), (3, none)] w w4 := kF_call hF0 f7 (by decide)
  have g10 := kf_rng x8
  refine kv_istore C 8 rfl 4 [1, 2, 3, 4, 0] [(0, .ref (ρ 22)), (1, .int a1), (2, .int a2), (3, .int a3), (4, .int x8)] (kdec dk_cX2_setAttribute 4 rfl) (by decide) rfl ?_
  refine kv_sipush C 11 rfl 128 (kdec dk_cX2_setAttribute 5 rfl) rfl ?_
  refine kv_iload_n C 12 rfl 2 (kdec dk_cX2_setAttribute 6 rfl) rfl rfl ?_
  refine kv_bipush C 14 rfl 7 (kdec dk_cX2_setAttribute 7 rfl) rfl ?_
  refine kv_iand C 15 rfl (kdec dk_cX2_setAttribute 8 rfl) (fun x11 h12e h12l h12u => ?_)
  have g13 := kf_and7 h12e
  refine kv_ishr C 16 rfl (kdec dk_cX2_setAttribute 9 rfl) (fun x14 h15e h15l h15u => ?_)
  refine kv_istore C 18 rfl 5 [1, 2, 3, 4, 5, 0] [(0, .ref (ρ 22)), (1, .int a1), (2, .int a2), (3, .int a3), (4, .int x8), (5, .int x14)] (kdec dk_cX2_setAttribute 10 rfl) (by decide) rfl ?_
  refine kv_aload_n C 19 rfl 0 (kdec dk_cX2_setAttribute 11 rfl) rfl rfl ?_
  refine kv_getr C 22 rfl 22 0 rfl rfl inX2 (by decide) mfl_TaleMachine_Forest_9 rfl rfl (kdec dk_cX2_setAttribute 12 rfl) ?_
  refine kv_iload C 24 rfl 4 (kdec dk_cX2_setAttribute 13 rfl) rfl ?_
  refine kv_callVNi (As := [.int x8]) (rest := []) C 27 rfl 2 (k_byteAt l D τ ρ σ w4 x8 I6 ) rfl rfl mmn_TaleMachine_Forest_29 mim_yX6_byteAt mse_yX6_byteAt mcd_yX6_byteAt min_yX6_byteAt hd_yX6_byteAt rfl rfl rfl (by decide) rfl (Nat.le_of_ble_eq_true rfl) (kdec dk_cX2_setAttribute 14 rfl) (fun x20 w16 h17 => ?_)
  obtain ⟨I18, f19, p21, p22⟩ := h17
  have F23 : kF [(2, some 9), (3, none)] w w16 := kF_call F9 f19 (by decide)
  have g24 := kf_rng x20
  obtain ⟨x25, e26⟩ : ∃ z : Int32, w4 2 9 = z := ⟨_, rfl⟩
  have b27 : (0 : Int) ≤ x25.toInt ∧ x25.toInt ≤ 13 := by rw [← e26]; exact I6 2 9
  obtain ⟨x28, e29⟩ : ∃ z : Int32, w16 2 9 = z := ⟨_, rfl⟩
  have b30 : (0 : Int) ≤ x28.toInt ∧ x28.toInt ≤ 13 := by rw [← e29]; exact I18 2 9
  rw [e26, e29] at p22
  refine kv_istore C 29 rfl 6 [1, 2, 3, 4, 5, 6, 0] [(0, .ref (ρ 22)), (1, .int a1), (2, .int a2), (3, .int a3), (4, .int x8), (5, .int x14), (6, .int x20)] (kdec dk_cX2_setAttribute 15 rfl) (by decide) rfl ?_
  refine kv_aload_n C 30 rfl 0 (kdec dk_cX2_setAttribute 16 rfl) rfl rfl ?_
  refine kv_getr C 33 rfl 22 0 rfl rfl inX2 (by decide) mfl_TaleMachine_Forest_9 rfl rfl (kdec dk_cX2_setAttribute 17 rfl) ?_
  refine kv_iload C 35 rfl 4 (kdec dk_cX2_setAttribute 18 rfl) rfl ?_
  refine kv_iload_n C 36 rfl 3 (kdec dk_cX2_setAttribute 19 rfl) rfl rfl ?_
  refine kv_if_eq C 39 rfl 47 (kdec dk_cX2_setAttribute 20 rfl) (by decide) (fun d31 => ?_) (fun d31 => ?_)
  · skip
    refine kv_iload C 49 rfl 6 (kdec dk_cX2_setAttribute 25 rfl) rfl ?_
    refine kv_iload C 51 rfl 5 (kdec dk_cX2_setAttribute 26 rfl) rfl ?_
    refine kv_iconst C 52 rfl (-1) (kdec dk_cX2_setAttribute 27 rfl) rfl ?_
    refine kv_ixor C 53 rfl (kdec dk_cX2_setAttribute 28 rfl) (fun x32 h33e h33l h33u => ?_)
    refine kv_iand C 54 rfl (kdec dk_cX2_setAttribute 29 rfl) (fun x34 h35e h35l h35u => ?_)
    refine kv_callVNv (As := [.int x8, .int x34]) (rest := []) C 57 rfl 2 (k_putByte l D τ ρ σ w16 x8 x34 I18 ) rfl rfl mmn_TaleMachine_Forest_36 mim_yX6_putByte mse_yX6_putByte mcd_yX6_putByte min_yX6_putByte hd_yX6_putByte rfl rfl rfl (by decide) rfl (Nat.le_of_ble_eq_true rfl) (kdec dk_cX2_setAttribute 30 rfl) (fun w36 h37 => ?_)
    obtain ⟨I38, f39, p41⟩ := h37
    have F42 : kF [(2, some 9), (3, none)] w w36 := kF_call F23 f39 (by decide)
    obtain ⟨x43, e44⟩ : ∃ z : Int32, w36 2 9 = z := ⟨_, rfl⟩
    have b45 : (0 : Int) ≤ x43.toInt ∧ x43.toInt ≤ 13 := by rw [← e44]; exact I38 2 9
    rw [e29, e44] at p41
    exact kv_vret C hr hlk (kdec dk_cX2_setAttribute 31 rfl) ⟨rfl, I38, F42⟩
  · skip
    refine kv_iload C 41 rfl 6 (kdec dk_cX2_setAttribute 21 rfl) rfl ?_
    refine kv_iload C 43 rfl 5 (kdec dk_cX2_setAttribute 22 rfl) rfl ?_
    refine kv_ior C 44 rfl (kdec dk_cX2_setAttribute 23 rfl) (fun x46 h47e h47l h47u => ?_)
    refine kv_goto C 54 (kdec dk_cX2_setAttribute 24 rfl) (by decide) ?_
    refine kv_callVNv (As := [.int x8, .int x46]) (rest := []) C 57 rfl 2 (k_putByte l D τ ρ σ w16 x8 x46 I18 ) rfl rfl mmn_TaleMachine_Forest_36 mim_yX6_putByte mse_yX6_putByte mcd_yX6_putByte min_yX6_putByte hd_yX6_putByte rfl rfl rfl (by decide) rfl (Nat.le_of_ble_eq_true rfl) (kdec dk_cX2_setAttribute 30 rfl) (fun w48 h49 => ?_)
    obtain ⟨I50, f51, p53⟩ := h49
    have F54 : kF [(2, some 9), (3, none)] w w48 := kF_call F23 f51 (by decide)
    obtain ⟨x55, e56⟩ : ∃ z : Int32, w48 2 9 = z := ⟨_, rfl⟩
    have b57 : (0 : Int) ≤ x55.toInt ∧ x55.toInt ≤ 13 := by rw [← e56]; exact I50 2 9
    rw [e29, e56] at p53
    exact kv_vret C hr hlk (kdec dk_cX2_setAttribute 31 rfl) ⟨rfl, I50, F54⟩

set_option maxHeartbeats 4000000 in
set_option maxRecDepth 100000 in
theorem k_takeFrom (l : Launch) (D : va_G) (τ : Nat → ClassId) (ρ σ : Nat → Nat) (w : kw) (a1 : Int32) (a2 : Int32) (hI : kI true w)  :
    kM l D τ ρ σ yX2_takeFrom cX2_takeFrom 7 none { frames := 2, cells := 0, slots := 0, locals := 72 } [.ref (ρ 22), .int a1, .int a2] w
      (fun o w' => o = none ∧ kI true w' ∧ kF [(2, some 9), (3, none)] w w') := by
  refine kM_of (own := "TaleMachine$Forest") rfl (by decide) (Nat.le_of_ble_eq_true rfl) ?_
  intro p e s m args below meth c C hr hlk
  have hF0 : kF [(2, some 9), (3, none)] w w := kF.rf
  have c_0 : (0 : Int32).toInt = 0 := by decide
  have c_5 : (5 : Int32).toInt = 5 := by decide
  have c_6 : (6 : Int32).toInt = 6 := by decide
  have c_11 : (11 : Int32).toInt = 11 := by decide
  have c_255 : (255 : Int32).toInt = 255 := by decide
  refine kV.L (L' := [(0, .ref (ρ 22)), (1, .int a1), (2, .int a2)]) rfl ?_
  have g1 := kf_rng a1
  have g2 := kf_rng a2
  have cut75 : ∀ (w_75 : kw) (l2_75 l3_75 l4_75 l5_75 : Int32), kI true w_75 → kF [(2, some 9), (3, none)] w w_75 → kV p l e { frames := 2, cells := 0, slots := 0, locals := 72 } s m args below meth c (kQ below args s D τ ρ (fun o w' => o = none ∧ kI true w' ∧ kF [(2, some 9), (3, none)] w w')) 7 D τ ρ 75 [(0, .ref (ρ 22)), (2, .int l2_75), (3, .int l3_75), (4, .int l4_75), (5, .int l5_75)] [] w_75 := by
    intro w_75 l2_75 l3_75 l4_75 l5_75 I_75 F_75 
    have gl2_75 := kf_rng l2_75
    have gl3_75 := kf_rng l3_75
    have gl4_75 := kf_rng l4_75
    have gl5_75 := kf_rng l5_75
    refine kv_iload C 77 rfl 4 (kdec dk_cX2_takeFrom 40 rfl) rfl ?_
    refine kv_iload_n C 78 rfl 1 (kdec dk_cX2_takeFrom 41 rfl) rfl rfl ?_
    refine kv_icmp_ne C 81 rfl 101 (kdec dk_cX2_takeFrom 42 rfl) (by decide) (fun d3 => ?_) (fun d3 => ?_)
    · skip
      refine kv_aload_n C 102 rfl 0 (kdec dk_cX2_takeFrom 52 rfl) rfl rfl ?_
      refine kv_getr C 105 rfl 22 0 rfl rfl inX2 (by decide) mfl_TaleMachine_Forest_9 rfl rfl (kdec dk_cX2_takeFrom 53 rfl) ?_
      refine kv_bipush C 107 rfl 11 (kdec dk_cX2_takeFrom 54 rfl) rfl ?_
      refine kv_callVNv (As := [.int 11]) (rest := []) C 110 rfl 2 (k_raise l D τ ρ σ w_75 11 I_75 (by omega)) rfl rfl mmn_TaleMachine_Forest_15 mim_yX6_raise mse_yX6_raise mcd_yX6_raise min_yX6_raise hd_yX6_raise rfl rfl rfl (by decide) rfl (Nat.le_of_ble_eq_true rfl) (kdec dk_cX2_takeFrom 55 rfl) (fun w4 h5 => ?_)
      obtain ⟨I6, f7, p9⟩ := h5
      have F10 : kF [(2, some 9), (3, none)] w w4 := kF_call F_75 f7 (by decide)
      obtain ⟨x11, e12⟩ : ∃ z : Int32, w_75 2 9 = z := ⟨_, rfl⟩
      have b13 : (0 : Int) ≤ x11.toInt ∧ x11.toInt ≤ 13 := by rw [← e12]; exact I_75 2 9
      obtain ⟨x14, e15⟩ : ∃ z : Int32, w4 2 9 = z := ⟨_, rfl⟩
      have b16 : (0 : Int) ≤ x14.toInt ∧ x14.toInt ≤ 13 := by rw [← e15]; exact I6 2 9
      rw [e12, e15] at p9
      exact kv_vret C hr hlk (kdec dk_cX2_takeFrom 56 rfl) ⟨rfl, I6, F10⟩
    · skip
      refine kv_aload_n C 82 rfl 0 (kdec dk_cX2_takeFrom 43 rfl) rfl rfl ?_
      refine kv_getr C 85 rfl 22 0 rfl rfl inX2 (by decide) mfl_TaleMachine_Forest_9 rfl rfl (kdec dk_cX2_takeFrom 44 rfl) ?_
      refine kv_iload_n C 86 rfl 2 (kdec dk_cX2_takeFrom 45 rfl) rfl rfl ?_
      refine kv_aload_n C 87 rfl 0 (kdec dk_cX2_takeFrom 46 rfl) rfl rfl ?_
      refine kv_getr C 90 rfl 22 0 rfl rfl inX2 (by decide) mfl_TaleMachine_Forest_9 rfl rfl (kdec dk_cX2_takeFrom 47 rfl) ?_
      refine kv_iload C 92 rfl 3 (kdec dk_cX2_takeFrom 48 rfl) rfl ?_
      refine kv_callVNi (As := [.int l4_75]) (rest := [.int l3_75, .ref (ρ 2)]) C 95 rfl 2 (k_byteAt l D τ ρ σ w_75 l4_75 I_75 ) rfl rfl mmn_TaleMachine_Forest_29 mim_yX6_byteAt mse_yX6_byteAt mcd_yX6_byteAt min_yX6_byteAt hd_yX6_byteAt rfl rfl rfl (by decide) rfl (Nat.le_of_ble_eq_true rfl) (kdec dk_cX2_takeFrom 49 rfl) (fun x21 w17 h18 => ?_)
      obtain ⟨I19, f20, p22, p23⟩ := h18
      have F24 : kF [(2, some 9), (3, none)] w w17 := kF_call F_75 f20 (by decide)
      have g25 := kf_rng x21
      obtain ⟨x26, e27⟩ : ∃ z : Int32, w_75 2 9 = z := ⟨_, rfl⟩
      have b28 : (0 : Int) ≤ x26.toInt ∧ x26.toInt ≤ 13 := by rw [← e27]; exact I_75 2 9
      obtain ⟨x29, e30⟩ : ∃ z : Int32, w17 2 9 = z := ⟨_, rfl⟩
      have b31 : (0 : Int) ≤ x29.toInt ∧ x29.toInt ≤ 13 := by rw [← e30]; exact I19 2 9
      rw [e27, e30] at p23
      refine kv_callVNv (As := [.int l3_75, .int x21]) (rest := []) C 98 rfl 2 (k_putByte l D τ ρ σ w17 l3_75 x21 I19 ) rfl rfl mmn_TaleMachine_Forest_36 mim_yX6_putByte mse_yX6_putByte mcd_yX6_putByte min_yX6_putByte hd_yX6_putByte rfl rfl rfl (by decide) rfl (Nat.le_of_ble_eq_true rfl) (kdec dk_cX2_takeFrom 50 rfl) (fun w32 h33 => ?_)
      obtain ⟨I34, f35, p37⟩ := h33
      have F38 : kF [(2, some 9), (3, none)] w w32 := kF_call F24 f35 (by decide)
      obtain ⟨x39, e40⟩ : ∃ z : Int32, w32 2 9 = z := ⟨_, rfl⟩
      have b41 : (0 : Int) ≤ x39.toInt ∧ x39.toInt ≤ 13 := by rw [← e40]; exact I34 2 9
      rw [e30, e40] at p37
      refine kv_goto C 110 (kdec dk_cX2_takeFrom 51 rfl) (by decide) ?_
      exact kv_vret C hr hlk (kdec dk_cX2_takeFrom 56 rfl) ⟨rfl, I34, F38⟩
  have cut31 : ∀ (n_31 : Nat) (w_31 : kw) (l1_31 l2_31 l3_31 l4_31 l5_31 l6_31 : Int32), kI true w_31 → kF [(2, some 9), (3, none)] w w_31 → (0 ≤ l6_31.toInt ∧ l6_31.toInt ≤ 255) → ((256 - l6_31.toInt) : Int) < (n_31 : Int) → kV p l e { frames := 2, cells := 0, slots := 0, locals := 72 } s m args below meth c (kQ below args s D τ ρ (fun o w' => o = none ∧ kI true w' ∧ kF [(2, some 9), (3, none)] w w')) 7 D τ ρ 31 [(0, .ref (ρ 22)), (1, .int l1_31), (2, .int l2_31), (3, .int l3_31), (4, .int l4_31), (5, .int l5_31), (6, .int l6_31)] [] w_31 := by
    intro n_31
    induction n_31 with
    | zero => intro w_31 l1_31 l2_31 l3_31 l4_31 l5_31 l6_31 I_31 F_31 k31_0 hmz; exfalso; omega
    | succ n_31 ih31 =>
      intro w_31 l1_31 l2_31 l3_31 l4_31 l5_31 l6_31 I_31 F_31 k31_0 hm31
      have gl1_31 := kf_rng l1_31
      have gl2_31 := kf_rng l2_31
      have gl3_31 := kf_rng l3_31
      have gl4_31 := kf_rng l4_31
      have gl5_31 := kf_rng l5_31
      have gl6_31 := kf_rng l6_31
      refine kv_iload C 33 rfl 6 (kdec dk_cX2_takeFrom 19 rfl) rfl ?_
      refine kv_sipush C 36 rfl 255 (kdec dk_cX2_takeFrom 20 rfl) rfl ?_
      refine kv_icmp_ge C 39 rfl 75 (kdec dk_cX2_takeFrom 21 rfl) (by decide) (fun d42 => ?_) (fun d42 => ?_)
      · skip
        refine kV.sub [0, 2, 3, 4, 5] (L' := [(0, .ref (ρ 22)), (2, .int l2_31), (3, .int l3_31), (4, .int l4_31), (5, .int l5_31)]) rfl ?_
        exact cut75 w_31 l2_31 l3_31 l4_31 l5_31 I_31 F_31 
      · skip
        refine kv_iload C 41 rfl 5 (kdec dk_cX2_takeFrom 22 rfl) rfl ?_
        refine kv_if_eq C 44 rfl 75 (kdec dk_cX2_takeFrom 23 rfl) (by decide) (fun d43 => ?_) (fun d43 => ?_)
        · skip
          refine kV.sub [0, 2, 3, 4, 5] (L' := [(0, .ref (ρ 22)), (2, .int l2_31), (3, .int l3_31), (4, .int l4_31), (5, .int l5_31)]) rfl ?_
          exact cut75 w_31 l2_31 l3_31 l4_31 l5_31 I_31 F_31 
        · skip
          refine kv_iload C 46 rfl 5 (kdec dk_cX2_takeFrom 24 rfl) rfl ?_
          refine kv_iload_n C 47 rfl 2 (kdec dk_cX2_takeFrom 25 rfl) rfl rfl ?_
          refine kv_icmp_eq C 50 rfl 75 (kdec dk_cX2_takeFrom 26 rfl) (by decide) (fun d44 => ?_) (fun d44 => ?_)
          · skip
            refine kV.sub [0, 2, 3, 4, 5] (L' := [(0, .ref (ρ 22)), (2, .int l2_31), (3, .int l3_31), (4, .int l4_31), (5, .int l5_31)]) rfl ?_
            exact cut75 w_31 l2_31 l3_31 l4_31 l5_31 I_31 F_31 
          · skip
            refine kv_aload_n C 51 rfl 0 (kdec dk_cX2_takeFrom 27 rfl) rfl rfl ?_
            refine kv_iload C 53 rfl 5 (kdec dk_cX2_takeFrom 28 rfl) rfl ?_
            refine kv_callVi (As := [.int l5_31]) (rest := []) C 56 rfl 22 (k_placeOf l D τ ρ σ w_31 l5_31 I_31 ) rfl rfl mml_TaleMachine_Forest_25 mim_yX2_placeOf mse_yX2_placeOf mcd_yX2_placeOf min_yX2_placeOf hd_yX2_placeOf rfl rfl rfl (by decide) rfl (Nat.le_of_ble_eq_true rfl) (kdec dk_cX2_takeFrom 29 rfl) (fun x49 w45 h46 => ?_)
            obtain ⟨I47, f48⟩ := h46
            have F50 : kF [(2, some 9), (3, none)] w w45 := kF_call F_31 f48 (by decide)
            have g51 := kf_rng x49
            refine kv_iconst C 57 rfl 5 (kdec dk_cX2_takeFrom 30 rfl) rfl ?_
            refine kv_iadd C 58 rfl (kdec dk_cX2_takeFrom 31 rfl) (fun x52 q54 h53e h53 h53l h53u => ?_)
            try have h53n : x52.toInt = x49.toInt + (5 : Int32).toInt := by omega
            clear h53 q54
            refine kv_istore_n C 59 rfl 3 [1, 2, 3, 0, 4, 5, 6] [(0, .ref (ρ 22)), (1, .int l1_31), (2, .int l2_31), (3, .int x52), (4, .int l4_31), (5, .int l5_31), (6, .int l6_31)] (kdec dk_cX2_takeFrom 32 rfl) rfl (by decide) rfl ?_
            refine kv_aload_n C 60 rfl 0 (kdec dk_cX2_takeFrom 33 rfl) rfl rfl ?_
            refine kv_getr C 63 rfl 22 0 rfl rfl inX2 (by decide) mfl_TaleMachine_Forest_9 rfl rfl (kdec dk_cX2_takeFrom 34 rfl) ?_
            refine kv_iload_n C 64 rfl 3 (kdec dk_cX2_takeFrom 35 rfl) rfl rfl ?_
            refine kv_callVNi (As := [.int x52]) (rest := []) C 67 rfl 2 (k_byteAt l D τ ρ σ w45 x52 I47 ) rfl rfl mmn_TaleMachine_Forest_29 mim_yX6_byteAt mse_yX6_byteAt mcd_yX6_byteAt min_yX6_byteAt hd_yX6_byteAt rfl rfl rfl (by decide) rfl (Nat.le_of_ble_eq_true rfl) (kdec dk_cX2_takeFrom 36 rfl) (fun x59 w55 h56 => ?_)
            obtain ⟨I57, f58, p60, p61⟩ := h56
            have F62 : kF [(2, some 9), (3, none)] w w55 := kF_call F50 f58 (by decide)
            have g63 := kf_rng x59
            obtain ⟨x64, e65⟩ : ∃ z : Int32, w45 2 9 = z := ⟨_, rfl⟩
            have b66 : (0 : Int) ≤ x64.toInt ∧ x64.toInt ≤ 13 := by rw [← e65]; exact I47 2 9
            obtain ⟨x67, e68⟩ : ∃ z : Int32, w55 2 9 = z := ⟨_, rfl⟩
            have b69 : (0 : Int) ≤ x67.toInt ∧ x67.toInt ≤ 13 := by rw [← e68]; exact I57 2 9
            rw [e65, e68] at p61
            refine kv_istore C 69 rfl 5 [1, 2, 3, 4, 5, 0, 6] [(0, .ref (ρ 22)), (1, .int l1_31), (2, .int l2_31), (3, .int x52), (4, .int l4_31), (5, .int x59), (6, .int l6_31)] (kdec dk_cX2_takeFrom 37 rfl) (by decide) rfl ?_
            refine kv_iinc C 72 rfl 6 6 [1, 2, 3, 4, 5, 6, 0] (fun v9 => [(0, .ref (ρ 22)), (1, .int l1_31), (2, .int l2_31), (3, .int x52), (4, .int l4_31), (5, .int x59), (6, .int v9)]) (kdec dk_cX2_takeFrom 38 rfl) rfl (by decide) (fun _ => rfl) 1 rfl (fun x70 q71 h72e h72 h72l h72u => ?_)
            try have h72n : x70.toInt = l6_31.toInt + 1 := by omega
            clear h72 q71
            refine kv_goto C 31 (kdec dk_cX2_takeFrom 39 rfl) (by decide) ?_
            exact ih31 w55 l1_31 l2_31 x52 l4_31 x59 x70 I57 F62 (by omega) (by omega)
  refine kv_aload_n C 1 rfl 0 (kdec dk_cX2_takeFrom 0 rfl) rfl rfl ?_
  refine kv_iload_n C 2 rfl 1 (kdec dk_cX2_takeFrom 1 rfl) rfl rfl ?_
  refine kv_callVi (As := [.int a1]) (rest := []) C 5 rfl 22 (k_placeOf l D τ ρ σ w a1 hI ) rfl rfl mml_TaleMachine_Forest_25 mim_yX2_placeOf mse_yX2_placeOf mcd_yX2_placeOf min_yX2_placeOf hd_yX2_placeOf rfl rfl rfl (by decide) rfl (Nat.le_of_ble_eq_true rfl) (kdec dk_cX2_takeFrom 2 rfl) (fun x77 w73 h74 => ?_)
  obtain ⟨I75, f76⟩ := h74
  have F78 : kF [(2, some 9), (3, none)] w w73 := kF_call hF0 f76 (by decide)
  have g79 := kf_rng x77
  refine kv_bipush C 7 rfl 6 (kdec dk_cX2_takeFrom 3 rfl) rfl ?_
  refine kv_iadd C 8 rfl (kdec dk_cX2_takeFrom 4 rfl) (fun x80 q82 h81e h81 h81l h81u => ?_)
  try have h81n : x80.toInt = x77.toInt + (6 : Int32).toInt := by omega
  clear h81 q82
  refine kv_istore_n C 9 rfl 3 [1, 2, 3, 0] [(0, .ref (ρ 22)), (1, .int a1), (2, .int a2), (3, .int x80)] (kdec dk_cX2_takeFrom 5 rfl) rfl (by decide) rfl ?_
  refine kv_aload_n C 10 rfl 0 (kdec dk_cX2_takeFrom 6 rfl) rfl rfl ?_
  refine kv_iload_n C 11 rfl 2 (kdec dk_cX2_takeFrom 7 rfl) rfl rfl ?_
  refine kv_callVi (As := [.int a2]) (rest := []) C 14 rfl 22 (k_placeOf l D τ ρ σ w73 a2 I75 ) rfl rfl mml_TaleMachine_Forest_25 mim_yX2_placeOf mse_yX2_placeOf mcd_yX2_placeOf min_yX2_placeOf hd_yX2_placeOf rfl rfl rfl (by decide) rfl (Nat.le_of_ble_eq_true rfl) (kdec dk_cX2_takeFrom 8 rfl) (fun x87 w83 h84 => ?_)
  obtain ⟨I85, f86⟩ := h84
  have F88 : kF [(2, some 9), (3, none)] w w83 := kF_call F78 f86 (by decide)
  have g89 := kf_rng x87
  refine kv_iconst C 15 rfl 5 (kdec dk_cX2_takeFrom 9 rfl) rfl ?_
  refine kv_iadd C 16 rfl (kdec dk_cX2_takeFrom 10 rfl) (fun x90 q92 h91e h91 h91l h91u => ?_)
  try have h91n : x90.toInt = x87.toInt + (5 : Int32).toInt := by omega
  clear h91 q92
  refine kv_istore C 18 rfl 4 [1, 2, 3, 4, 0] [(0, .ref (ρ 22)), (1, .int a1), (2, .int a2), (3, .int x80), (4, .int x90)] (kdec dk_cX2_takeFrom 11 rfl) (by decide) rfl ?_
  refine kv_aload_n C 19 rfl 0 (kdec dk_cX2_takeFrom 12 rfl) rfl rfl ?_
  refine kv_getr C 22 rfl 22 0 rfl rfl inX2 (by decide) mfl_TaleMachine_Forest_9 rfl rfl (kdec dk_cX2_takeFrom 13 rfl) ?_
  refine kv_iload_n C 23 rfl 3 (kdec dk_cX2_takeFrom 14 rfl) rfl rfl ?_
  refine kv_callVNi (As := [.int x80]) (rest := []) C 26 rfl 2 (k_byteAt l D τ ρ σ w83 x80 I85 ) rfl rfl mmn_TaleMachine_Forest_29 mim_yX6_byteAt mse_yX6_byteAt mcd_yX6_byteAt min_yX6_byteAt hd_yX6_byteAt rfl rfl rfl (by decide) rfl (Nat.le_of_ble_eq_true rfl) (kdec dk_cX2_takeFrom 15 rfl) (fun x97 w93 h94 => ?_)
  obtain ⟨I95, f96, p98, p99⟩ := h94
  have F100 : kF [(2, some 9), (3, none)] w w93 := kF_call F88 f96 (by decide)
  have g101 := kf_rng x97
  obtain ⟨x102, e103⟩ : ∃ z : Int32, w83 2 9 = z := ⟨_, rfl⟩
  have b104 : (0 : Int) ≤ x102.toInt ∧ x102.toInt ≤ 13 := by rw [← e103]; exact I85 2 9
  obtain ⟨x105, e106⟩ : ∃ z : Int32, w93 2 9 = z := ⟨_, rfl⟩
  have b107 : (0 : Int) ≤ x105.toInt ∧ x105.toInt ≤ 13 := by rw [← e106]; exact I95 2 9
  rw [e103, e106] at p99
  refine kv_istore C 28 rfl 5 [1, 2, 3, 4, 5, 0] [(0, .ref (ρ 22)), (1, .int a1), (2, .int a2), (3, .int x80), (4, .int x90), (5, .int x97)] (kdec dk_cX2_takeFrom 16 rfl) (by decide) rfl ?_
  refine kv_iconst C 29 rfl 0 (kdec dk_cX2_takeFrom 17 rfl) rfl ?_
  refine kv_istore C 31 rfl 6 [1, 2, 3, 4, 5, 6, 0] [(0, .ref (ρ 22)), (1, .int a1), (2, .int a2), (3, .int x80), (4, .int x90), (5, .int x97), (6, .int 0)] (kdec dk_cX2_takeFrom 18 rfl) (by decide) rfl ?_
  exact cut31 ((((256 - (0 : Int32).toInt)) : Int).toNat + 1) w93 a1 a2 x80 x90 x97 0 I95 F100 (by omega) (by omega)

set_option maxHeartbeats 4000000 in
set_option maxRecDepth 100000 in
theorem k_remove (l : Launch) (D : va_G) (τ : Nat → ClassId) (ρ σ : Nat → Nat) (w : kw) (a1 : Int32) (hI : kI true w)  :
    kM l D τ ρ σ yX2_remove cX2_remove 4 none { frames := 3, cells := 0, slots := 0, locals := 108 } [.ref (ρ 22), .int a1] w
      (fun o w' => o = none ∧ kI true w' ∧ kF [(2, some 9), (3, none)] w w') := by
  refine kM_of (own := "TaleMachine$Forest") rfl (by decide) (Nat.le_of_ble_eq_true rfl) ?_
  intro p e s m args below meth c C hr hlk
  have hF0 : kF [(2, some 9), (3, none)] w w := kF.rf
  have c_0 : (0 : Int32).toInt = 0 := by decide
  have c_4 : (4 : Int32).toInt = 4 := by decide
  have c_5 : (5 : Int32).toInt = 5 := by decide
  refine kV.L (L' := [(0, .ref (ρ 22)), (1, .int a1)]) rfl ?_
  have g1 := kf_rng a1
  have cut27 : ∀ (w_27 : kw) (l2_27 : Int32), kI true w_27 → kF [(2, some 9), (3, none)] w w_27 → kV p l e { frames := 3, cells := 0, slots := 0, locals := 108 } s m args below meth c (kQ below args s D τ ρ (fun o w' => o = none ∧ kI true w' ∧ kF [(2, some 9), (3, none)] w w')) 4 D τ ρ 27 [(0, .ref (ρ 22)), (2, .int l2_27)] [] w_27 := by
    intro w_27 l2_27 I_27 F_27 
    have gl2_27 := kf_rng l2_27
    refine kv_aload_n C 28 rfl 0 (kdec dk_cX2_remove 17 rfl) rfl rfl ?_
    refine kv_getr C 31 rfl 22 0 rfl rfl inX2 (by decide) mfl_TaleMachine_Forest_9 rfl rfl (kdec dk_cX2_remove 18 rfl) ?_
    refine kv_iload_n C 32 rfl 1 (kdec dk_cX2_remove 19 rfl) rfl rfl ?_
    refine kv_iconst C 33 rfl 4 (kdec dk_cX2_remove 20 rfl) rfl ?_
    refine kv_iadd C 34 rfl (kdec dk_cX2_remove 21 rfl) (fun x2 q4 h3e h3 h3l h3u => ?_)
    try have h3n : x2.toInt = l2_27.toInt + (4 : Int32).toInt := by omega
    clear h3 q4
    refine kv_iconst C 35 rfl 0 (kdec dk_cX2_remove 22 rfl) rfl ?_
    refine kv_callVNv (As := [.int x2, .int 0]) (rest := []) C 38 rfl 2 (k_putByte l D τ ρ σ w_27 x2 0 I_27 ) rfl rfl mmn_TaleMachine_Forest_36 mim_yX6_putByte mse_yX6_putByte mcd_yX6_putByte min_yX6_putByte hd_yX6_putByte rfl rfl rfl (by decide) rfl (Nat.le_of_ble_eq_true rfl) (kdec dk_cX2_remove 23 rfl) (fun w5 h6 => ?_)
    obtain ⟨I7, f8, p10⟩ := h6
    have F11 : kF [(2, some 9), (3, none)] w w5 := kF_call F_27 f8 (by decide)
    obtain ⟨x12, e13⟩ : ∃ z : Int32, w_27 2 9 = z := ⟨_, rfl⟩
    have b14 : (0 : Int) ≤ x12.toInt ∧ x12.toInt ≤ 13 := by rw [← e13]; exact I_27 2 9
    obtain ⟨x15, e16⟩ : ∃ z : Int32, w5 2 9 = z := ⟨_, rfl⟩
    have b17 : (0 : Int) ≤ x15.toInt ∧ x15.toInt ≤ 13 := by rw [← e16]; exact I7 2 9
    rw [e13, e16] at p10
    refine kv_aload_n C 39 rfl 0 (kdec dk_cX2_remove 24 rfl) rfl rfl ?_
    refine kv_getr C 42 rfl 22 0 rfl rfl inX2 (by decide) mfl_TaleMachine_Forest_9 rfl rfl (kdec dk_cX2_remove 25 rfl) ?_
    refine kv_iload_n C 43 rfl 1 (kdec dk_cX2_remove 26 rfl) rfl rfl ?_
    refine kv_iconst C 44 rfl 5 (kdec dk_cX2_remove 27 rfl) rfl ?_
    refine kv_iadd C 45 rfl (kdec dk_cX2_remove 28 rfl) (fun x18 q20 h19e h19 h19l h19u => ?_)
    try have h19n : x18.toInt = l2_27.toInt + (5 : Int32).toInt := by omega
    clear h19 q20
    refine kv_iconst C 46 rfl 0 (kdec dk_cX2_remove 29 rfl) rfl ?_
    refine kv_callVNv (As := [.int x18, .int 0]) (rest := []) C 49 rfl 2 (k_putByte l D τ ρ σ w5 x18 0 I7 ) rfl rfl mmn_TaleMachine_Forest_36 mim_yX6_putByte mse_yX6_putByte mcd_yX6_putByte min_yX6_putByte hd_yX6_putByte rfl rfl rfl (by decide) rfl (Nat.le_of_ble_eq_true rfl) (kdec dk_cX2_remove 30 rfl) (fun w21 h22 => ?_)
    obtain ⟨I23, f24, p26⟩ := h22
    have F27 : kF [(2, some 9), (3, none)] w w21 := kF_call F11 f24 (by decide)
    obtain ⟨x28, e29⟩ : ∃ z : Int32, w21 2 9 = z := ⟨_, rfl⟩
    have b30 : (0 : Int) ≤ x28.toInt ∧ x28.toInt ≤ 13 := by rw [← e29]; exact I23 2 9
    rw [e16, e29] at p26
    exact kv_vret C hr hlk (kdec dk_cX2_remove 31 rfl) ⟨rfl, I23, F27⟩
  refine kv_aload_n C 1 rfl 0 (kdec dk_cX2_remove 0 rfl) rfl rfl ?_
  refine kv_iload_n C 2 rfl 1 (kdec dk_cX2_remove 1 rfl) rfl rfl ?_
  refine kv_callVi (As := [.int a1]) (rest := []) C 5 rfl 22 (k_placeOf l D τ ρ σ w a1 hI ) rfl rfl mml_TaleMachine_Forest_25 mim_yX2_placeOf mse_yX2_placeOf mcd_yX2_placeOf min_yX2_placeOf hd_yX2_placeOf rfl rfl rfl (by decide) rfl (Nat.le_of_ble_eq_true rfl) (kdec dk_cX2_remove 2 rfl) (fun x35 w31 h32 => ?_)
  obtain ⟨I33, f34⟩ := h32
  have F36 : kF [(2, some 9), (3, none)] w w31 := kF_call hF0 f34 (by decide)
  have g37 := kf_rng x35
  refine kv_istore_n C 6 rfl 2 [1, 2, 0] [(0, .ref (ρ 22)), (1, .int a1), (2, .int x35)] (kdec dk_cX2_remove 3 rfl) rfl (by decide) rfl ?_
  refine kv_aload_n C 7 rfl 0 (kdec dk_cX2_remove 4 rfl) rfl rfl ?_
  refine kv_getr C 10 rfl 22 0 rfl rfl inX2 (by decide) mfl_TaleMachine_Forest_9 rfl rfl (kdec dk_cX2_remove 5 rfl) ?_
  refine kv_iload_n C 11 rfl 2 (kdec dk_cX2_remove 6 rfl) rfl rfl ?_
  refine kv_iconst C 12 rfl 4 (kdec dk_cX2_remove 7 rfl) rfl ?_
  refine kv_iadd C 13 rfl (kdec dk_cX2_remove 8 rfl) (fun x38 q40 h39e h39 h39l h39u => ?_)
  try have h39n : x38.toInt = x35.toInt + (4 : Int32).toInt := by omega
  clear h39 q40
  refine kv_callVNi (As := [.int x38]) (rest := []) C 16 rfl 2 (k_byteAt l D τ ρ σ w31 x38 I33 ) rfl rfl mmn_TaleMachine_Forest_29 mim_yX6_byteAt mse_yX6_byteAt mcd_yX6_byteAt min_yX6_byteAt hd_yX6_byteAt rfl rfl rfl (by decide) rfl (Nat.le_of_ble_eq_true rfl) (kdec dk_cX2_remove 9 rfl) (fun x45 w41 h42 => ?_)
  obtain ⟨I43, f44, p46, p47⟩ := h42
  have F48 : kF [(2, some 9), (3, none)] w w41 := kF_call F36 f44 (by decide)
  have g49 := kf_rng x45
  obtain ⟨x50, e51⟩ : ∃ z : Int32, w31 2 9 = z := ⟨_, rfl⟩
  have b52 : (0 : Int) ≤ x50.toInt ∧ x50.toInt ≤ 13 := by rw [← e51]; exact I33 2 9
  obtain ⟨x53, e54⟩ : ∃ z : Int32, w41 2 9 = z := ⟨_, rfl⟩
  have b55 : (0 : Int) ≤ x53.toInt ∧ x53.toInt ≤ 13 := by rw [← e54]; exact I43 2 9
  rw [e51, e54] at p47
  refine kv_istore_n C 17 rfl 3 [1, 2, 3, 0] [(0, .ref (ρ 22)), (1, .int a1), (2, .int x35), (3, .int x45)] (kdec dk_cX2_remove 10 rfl) rfl (by decide) rfl ?_
  refine kv_iload_n C 18 rfl 3 (kdec dk_cX2_remove 11 rfl) rfl rfl ?_
  refine kv_if_eq C 21 rfl 27 (kdec dk_cX2_remove 12 rfl) (by decide) (fun d56 => ?_) (fun d56 => ?_)
  · skip
    refine kV.sub [0, 2] (L' := [(0, .ref (ρ 22)), (2, .int x35)]) rfl ?_
    exact cut27 w41 x35 I43 F48 
  · skip
    refine kv_aload_n C 22 rfl 0 (kdec dk_cX2_remove 13 rfl) rfl rfl ?_
    refine kv_iload_n C 23 rfl 3 (kdec dk_cX2_remove 14 rfl) rfl rfl ?_
    refine kv_iload_n C 24 rfl 1 (kdec dk_cX2_remove 15 rfl) rfl rfl ?_
    refine kv_callVv (As := [.int x45, .int a1]) (rest := []) C 27 rfl 22 (k_takeFrom l D τ ρ σ w41 x45 a1 I43 ) rfl rfl mml_TaleMachine_Forest_40 mim_yX2_takeFrom mse_yX2_takeFrom mcd_yX2_takeFrom min_yX2_takeFrom hd_yX2_takeFrom rfl rfl rfl (by decide) rfl (Nat.le_of_ble_eq_true rfl) (kdec dk_cX2_remove 16 rfl) (fun w57 h58 => ?_)
    obtain ⟨I59, f60⟩ := h58
    have F62 : kF [(2, some 9), (3, none)] w w57 := kF_call F48 f60 (by decide)
    refine kV.sub [0, 2] (L' := [(0, .ref (ρ 22)), (2, .int x35)]) rfl ?_
    exact cut27 w57 x35 I59 F62 

set_option maxHeartbeats 4000000 in
set_option maxRecDepth 100000 in
theorem k_insert (l : Launch) (D : va_G) (τ : Nat → ClassId) (ρ σ : Nat → Nat) (w : kw) (a1 : Int32) (a2 : Int32) (hI : kI true w)  :
    kM l D τ ρ σ yX2_insert cX2_insert 5 none { frames := 4, cells := 0, slots := 0, locals := 144 } [.ref (ρ 22), .int a1, .int a2] w
      (fun o w' => o = none ∧ kI true w' ∧ kF [(2, some 9), (3, none)] w w') := by
  refine kM_of (own := "TaleMachine$Forest") rfl (by decide) (Nat.le_of_ble_eq_true rfl) ?_
  intro p e s m args below meth c C hr hlk
  have hF0 : kF [(2, some 9), (3, none)] w w := kF.rf
  have c_4 : (4 : Int32).toInt = 4 := by decide
  have c_5 : (5 : Int32).toInt = 5 := by decide
  have c_6 : (6 : Int32).toInt = 6 := by decide
  refine kV.L (L' := [(0, .ref (ρ 22)), (1, .int a1), (2, .int a2)]) rfl ?_
  have g1 := kf_rng a1
  have g2 := kf_rng a2
  refine kv_aload_n C 1 rfl 0 (kdec dk_cX2_insert 0 rfl) rfl rfl ?_
  refine kv_iload_n C 2 rfl 1 (kdec dk_cX2_insert 1 rfl) rfl rfl ?_
  refine kv_callVi (As := [.int a1]) (rest := []) C 5 rfl 22 (k_placeOf l D τ ρ σ w a1 hI ) rfl rfl mml_TaleMachine_Forest_25 mim_yX2_placeOf mse_yX2_placeOf mcd_yX2_placeOf min_yX2_placeOf hd_yX2_placeOf rfl rfl rfl (by decide) rfl (Nat.le_of_ble_eq_true rfl) (kdec dk_cX2_insert 2 rfl) (fun x7 w3 h4 => ?_)
  obtain ⟨I5, f6⟩ := h4
  have F8 : kF [(2, some 9), (3, none)] w w3 := kF_call hF0 f6 (by decide)
  have g9 := kf_rng x7
  refine kv_istore_n C 6 rfl 3 [1, 2, 3, 0] [(0, .ref (ρ 22)), (1, .int a1), (2, .int a2), (3, .int x7)] (kdec dk_cX2_insert 3 rfl) rfl (by decide) rfl ?_
  refine kv_aload_n C 7 rfl 0 (kdec dk_cX2_insert 4 rfl) rfl rfl ?_
  refine kv_iload_n C 8 rfl 2 (kdec dk_cX2_insert 5 rfl) rfl rfl ?_
  refine kv_callVi (As := [.int a2]) (rest := []) C 11 rfl 22 (k_placeOf l D τ ρ σ w3 a2 I5 ) rfl rfl mml_TaleMachine_Forest_25 mim_yX2_placeOf mse_yX2_placeOf mcd_yX2_placeOf min_yX2_placeOf hd_yX2_placeOf rfl rfl rfl (by decide) rfl (Nat.le_of_ble_eq_true rfl) (kdec dk_cX2_insert 6 rfl) (fun x14 w10 h11 => ?_)
  obtain ⟨I12, f13⟩ := h11
  have F15 : kF [(2, some 9), (3, none)] w w10 := kF_call F8 f13 (by decide)
  have g16 := kf_rng x14
  refine kv_bipush C 13 rfl 6 (kdec dk_cX2_insert 7 rfl) rfl ?_
  refine kv_iadd C 14 rfl (kdec dk_cX2_insert 8 rfl) (fun x17 q19 h18e h18 h18l h18u => ?_)
  try have h18n : x17.toInt = x14.toInt + (6 : Int32).toInt := by omega
  clear h18 q19
  refine kv_istore C 16 rfl 4 [1, 2, 3, 4, 0] [(0, .ref (ρ 22)), (1, .int a1), (2, .int a2), (3, .int x7), (4, .int x17)] (kdec dk_cX2_insert 9 rfl) (by decide) rfl ?_
  refine kv_aload_n C 17 rfl 0 (kdec dk_cX2_insert 10 rfl) rfl rfl ?_
  refine kv_getr C 20 rfl 22 0 rfl rfl inX2 (by decide) mfl_TaleMachine_Forest_9 rfl rfl (kdec dk_cX2_insert 11 rfl) ?_
  obtain ⟨x20, e21⟩ : ∃ z : Int32, w10 2 9 = z := ⟨_, rfl⟩
  have b22 : (0 : Int) ≤ x20.toInt ∧ x20.toInt ≤ 13 := by rw [← e21]; exact I12 2 9
  refine kv_getN C 23 rfl 2 9 rfl rfl inX6 (by decide) mfn_TaleMachine_Forest_43 rfl rfl (kdec dk_cX2_insert 12 rfl) e21 ?_
  refine kv_if_eq C 26 rfl 27 (kdec dk_cX2_insert 13 rfl) (by decide) (fun d23 => ?_) (fun d23 => ?_)
  · skip
    refine kv_aload_n C 28 rfl 0 (kdec dk_cX2_insert 15 rfl) rfl rfl ?_
    refine kv_iload_n C 29 rfl 1 (kdec dk_cX2_insert 16 rfl) rfl rfl ?_
    refine kv_callVv (As := [.int a1]) (rest := []) C 32 rfl 22 (k_remove l D τ ρ σ w10 a1 I12 ) rfl rfl mml_TaleMachine_Forest_46 mim_yX2_remove mse_yX2_remove mcd_yX2_remove min_yX2_remove hd_yX2_remove rfl rfl rfl (by decide) rfl (Nat.le_of_ble_eq_true rfl) (kdec dk_cX2_insert 17 rfl) (fun w24 h25 => ?_)
    obtain ⟨I26, f27⟩ := h25
    have F29 : kF [(2, some 9), (3, none)] w w24 := kF_call F15 f27 (by decide)
    refine kv_aload_n C 33 rfl 0 (kdec dk_cX2_insert 18 rfl) rfl rfl ?_
    refine kv_getr C 36 rfl 22 0 rfl rfl inX2 (by decide) mfl_TaleMachine_Forest_9 rfl rfl (kdec dk_cX2_insert 19 rfl) ?_
    refine kv_iload_n C 37 rfl 3 (kdec dk_cX2_insert 20 rfl) rfl rfl ?_
    refine kv_iconst C 38 rfl 4 (kdec dk_cX2_insert 21 rfl) rfl ?_
    refine kv_iadd C 39 rfl (kdec dk_cX2_insert 22 rfl) (fun x30 q32 h31e h31 h31l h31u => ?_)
    try have h31n : x30.toInt = x7.toInt + (4 : Int32).toInt := by omega
    clear h31 q32
    refine kv_iload_n C 40 rfl 2 (kdec dk_cX2_insert 23 rfl) rfl rfl ?_
    refine kv_callVNv (As := [.int x30, .int a2]) (rest := []) C 43 rfl 2 (k_putByte l D τ ρ σ w24 x30 a2 I26 ) rfl rfl mmn_TaleMachine_Forest_36 mim_yX6_putByte mse_yX6_putByte mcd_yX6_putByte min_yX6_putByte hd_yX6_putByte rfl rfl rfl (by decide) rfl (Nat.le_of_ble_eq_true rfl) (kdec dk_cX2_insert 24 rfl) (fun w33 h34 => ?_)
    obtain ⟨I35, f36, p38⟩ := h34
    have F39 : kF [(2, some 9), (3, none)] w w33 := kF_call F29 f36 (by decide)
    obtain ⟨x40, e41⟩ : ∃ z : Int32, w24 2 9 = z := ⟨_, rfl⟩
    have b42 : (0 : Int) ≤ x40.toInt ∧ x40.toInt ≤ 13 := by rw [← e41]; exact I26 2 9
    obtain ⟨x43, e44⟩ : ∃ z : Int32, w33 2 9 = z := ⟨_, rfl⟩
    have b45 : (0 : Int) ≤ x43.toInt ∧ x43.toInt ≤ 13 := by rw [← e44]; exact I35 2 9
    rw [e41, e44] at p38
    refine kv_aload_n C 44 rfl 0 (kdec dk_cX2_insert 25 rfl) rfl rfl ?_
    refine kv_getr C 47 rfl 22 0 rfl rfl inX2 (by decide) mfl_TaleMachine_Forest_9 rfl rfl (kdec dk_cX2_insert 26 rfl) ?_
    refine kv_iload_n C 48 rfl 3 (kdec dk_cX2_insert 27 rfl) rfl rfl ?_
    refine kv_iconst C 49 rfl 5 (kdec dk_cX2_insert 28 rfl) rfl ?_
    refine kv_iadd C 50 rfl (kdec dk_cX2_insert 29 rfl) (fun x46 q48 h47e h47 h47l h47u => ?_)
    try have h47n : x46.toInt = x7.toInt + (5 : Int32).toInt := by omega
    clear h47 q48
    refine kv_aload_n C 51 rfl 0 (kdec dk_cX2_insert 30 rfl) rfl rfl ?_
    refine kv_getr C 54 rfl 22 0 rfl rfl inX2 (by decide) mfl_TaleMachine_Forest_9 rfl rfl (kdec dk_cX2_insert 31 rfl) ?_
    refine kv_iload C 56 rfl 4 (kdec dk_cX2_insert 32 rfl) rfl ?_
    refine kv_callVNi (As := [.int x17]) (rest := [.int x46, .ref (ρ 2)]) C 59 rfl 2 (k_byteAt l D τ ρ σ w33 x17 I35 ) rfl rfl mmn_TaleMachine_Forest_29 mim_yX6_byteAt mse_yX6_byteAt mcd_yX6_byteAt min_yX6_byteAt hd_yX6_byteAt rfl rfl rfl (by decide) rfl (Nat.le_of_ble_eq_true rfl) (kdec dk_cX2_insert 33 rfl) (fun x53 w49 h50 => ?_)
    obtain ⟨I51, f52, p54, p55⟩ := h50
    have F56 : kF [(2, some 9), (3, none)] w w49 := kF_call F39 f52 (by decide)
    have g57 := kf_rng x53
    obtain ⟨x58, e59⟩ : ∃ z : Int32, w49 2 9 = z := ⟨_, rfl⟩
    have b60 : (0 : Int) ≤ x58.toInt ∧ x58.toInt ≤ 13 := by rw [← e59]; exact I51 2 9
    rw [e44, e59] at p55
    refine kv_callVNv (As := [.int x46, .int x53]) (rest := []) C 62 rfl 2 (k_putByte l D τ ρ σ w49 x46 x53 I51 ) rfl rfl mmn_TaleMachine_Forest_36 mim_yX6_putByte mse_yX6_putByte mcd_yX6_putByte min_yX6_putByte hd_yX6_putByte rfl rfl rfl (by decide) rfl (Nat.le_of_ble_eq_true rfl) (kdec dk_cX2_insert 34 rfl) (fun w61 h62 => ?_)
    obtain ⟨I63, f64, p66⟩ := h62
    have F67 : kF [(2, some 9), (3, none)] w w61 := kF_call F56 f64 (by decide)
    obtain ⟨x68, e69⟩ : ∃ z : Int32, w61 2 9 = z := ⟨_, rfl⟩
    have b70 : (0 : Int) ≤ x68.toInt ∧ x68.toInt ≤ 13 := by rw [← e69]; exact I63 2 9
    rw [e59, e69] at p66
    refine kv_aload_n C 63 rfl 0 (kdec dk_cX2_insert 35 rfl) rfl rfl ?_
    refine kv_getr C 66 rfl 22 0 rfl rfl inX2 (by decide) mfl_TaleMachine_Forest_9 rfl rfl (kdec dk_cX2_insert 36 rfl) ?_
    refine kv_iload C 68 rfl 4 (kdec dk_cX2_insert 37 rfl) rfl ?_
    refine kv_iload_n C 69 rfl 1 (kdec dk_cX2_insert 38 rfl) rfl rfl ?_
    refine kv_callVNv (As := [.int x17, .int a1]) (rest := []) C 72 rfl 2 (k_putByte l D τ ρ σ w61 x17 a1 I63 ) rfl rfl mmn_TaleMachine_Forest_36 mim_yX6_putByte mse_yX6_putByte mcd_yX6_putByte min_yX6_putByte hd_yX6_putByte rfl rfl rfl (by decide) rfl (Nat.le_of_ble_eq_true rfl) (kdec dk_cX2_insert 39 rfl) (fun w71 h72 => ?_)
    obtain ⟨I73, f74, p76⟩ := h72
    have F77 : kF [(2, some 9), (3, none)] w w71 := kF_call F67 f74 (by decide)
    obtain ⟨x78, e79⟩ : ∃ z : Int32, w71 2 9 = z := ⟨_, rfl⟩
    have b80 : (0 : Int) ≤ x78.toInt ∧ x78.toInt ≤ 13 := by rw [← e79]; exact I73 2 9
    rw [e69, e79] at p76
    exact kv_vret C hr hlk (kdec dk_cX2_insert 40 rfl) ⟨rfl, I73, F77⟩
  · skip
    exact kv_vret C hr hlk (kdec dk_cX2_insert 14 rfl) ⟨rfl, I12, F15⟩

set_option maxHeartbeats 4000000 in
set_option maxRecDepth 100000 in
theorem k_nameOf (l : Launch) (D : va_G) (τ : Nat → ClassId) (ρ σ : Nat → Nat) (w : kw) (a1 : Int32) (hI : kI true w)  :
    kM l D τ ρ σ yX2_nameOf cX2_nameOf 2 (some .int) { frames := 2, cells := 0, slots := 0, locals := 72 } [.ref (ρ 22), .int a1] w
      (fun o w' => ∃ r : Int32, o = some (.int r) ∧ kI true w' ∧ kF [(2, some 9)] w w') := by
  refine kM_of (own := "TaleMachine$Forest") rfl (by decide) (Nat.le_of_ble_eq_true rfl) ?_
  intro p e s m args below meth c C hr hlk
  have hF0 : kF [(2, some 9)] w w := kF.rf
  have c_7 : (7 : Int32).toInt = 7 := by decide
  refine kV.L (L' := [(0, .ref (ρ 22)), (1, .int a1)]) rfl ?_
  have g1 := kf_rng a1
  refine kv_aload_n C 1 rfl 0 (kdec dk_cX2_nameOf 0 rfl) rfl rfl ?_
  refine kv_getr C 4 rfl 22 0 rfl rfl inX2 (by decide) mfl_TaleMachine_Forest_9 rfl rfl (kdec dk_cX2_nameOf 1 rfl) ?_
  refine kv_aload_n C 5 rfl 0 (kdec dk_cX2_nameOf 2 rfl) rfl rfl ?_
  refine kv_iload_n C 6 rfl 1 (kdec dk_cX2_nameOf 3 rfl) rfl rfl ?_
  refine kv_callVi (As := [.int a1]) (rest := [.ref (ρ 2)]) C 9 rfl 22 (k_placeOf l D τ ρ σ w a1 hI ) rfl rfl mml_TaleMachine_Forest_25 mim_yX2_placeOf mse_yX2_placeOf mcd_yX2_placeOf min_yX2_placeOf hd_yX2_placeOf rfl rfl rfl (by decide) rfl (Nat.le_of_ble_eq_true rfl) (kdec dk_cX2_nameOf 4 rfl) (fun x6 w2 h3 => ?_)
  obtain ⟨I4, f5⟩ := h3
  have F7 : kF [(2, some 9)] w w2 := kF_call hF0 f5 (by decide)
  have g8 := kf_rng x6
  refine kv_bipush C 11 rfl 7 (kdec dk_cX2_nameOf 5 rfl) rfl ?_
  refine kv_iadd C 12 rfl (kdec dk_cX2_nameOf 6 rfl) (fun x9 q11 h10e h10 h10l h10u => ?_)
  try have h10n : x9.toInt = x6.toInt + (7 : Int32).toInt := by omega
  clear h10 q11
  refine kv_callVNi (As := [.int x9]) (rest := []) C 15 rfl 2 (k_wordAt l D τ ρ σ w2 x9 I4 ) rfl rfl mmn_TaleMachine_Forest_49 mim_yX6_wordAt mse_yX6_wordAt mcd_yX6_wordAt min_yX6_wordAt hd_yX6_wordAt rfl rfl rfl (by decide) rfl (Nat.le_of_ble_eq_true rfl) (kdec dk_cX2_nameOf 7 rfl) (fun x16 w12 h13 => ?_)
  obtain ⟨I14, f15, p17, p18⟩ := h13
  have F19 : kF [(2, some 9)] w w12 := kF_call F7 f15 (by decide)
  have g20 := kf_rng x16
  obtain ⟨x21, e22⟩ : ∃ z : Int32, w2 2 9 = z := ⟨_, rfl⟩
  have b23 : (0 : Int) ≤ x21.toInt ∧ x21.toInt ≤ 13 := by rw [← e22]; exact I4 2 9
  obtain ⟨x24, e25⟩ : ∃ z : Int32, w12 2 9 = z := ⟨_, rfl⟩
  have b26 : (0 : Int) ≤ x24.toInt ∧ x24.toInt ≤ 13 := by rw [← e25]; exact I14 2 9
  rw [e22, e25] at p18
  exact kv_iret C hr hlk (kdec dk_cX2_nameOf 8 rfl) ⟨_, rfl, I14, F19⟩

set_option maxHeartbeats 4000000 in
set_option maxRecDepth 100000 in
theorem k_firstProperty (l : Launch) (D : va_G) (τ : Nat → ClassId) (ρ σ : Nat → Nat) (w : kw) (a1 : Int32) (hI : kI true w)  :
    kM l D τ ρ σ yX2_firstProperty cX2_firstProperty 3 (some .int) { frames := 2, cells := 0, slots := 0, locals := 72 } [.ref (ρ 22), .int a1] w
      (fun o w' => ∃ r : Int32, o = some (.int r) ∧ kI true w' ∧ kF [(2, some 9)] w w') := by
  refine kM_of (own := "TaleMachine$Forest") rfl (by decide) (Nat.le_of_ble_eq_true rfl) ?_
  intro p e s m args below meth c C hr hlk
  have hF0 : kF [(2, some 9)] w w := kF.rf
  have c_1 : (1 : Int32).toInt = 1 := by decide
  have c_2 : (2 : Int32).toInt = 2 := by decide
  have c_7 : (7 : Int32).toInt = 7 := by decide
  refine kV.L (L' := [(0, .ref (ρ 22)), (1, .int a1)]) rfl ?_
  have g1 := kf_rng a1
  refine kv_aload_n C 1 rfl 0 (kdec dk_cX2_firstProperty 0 rfl) rfl rfl ?_
  refine kv_getr C 4 rfl 22 0 rfl rfl inX2 (by decide) mfl_TaleMachine_Forest_9 rfl rfl (kdec dk_cX2_firstProperty 1 rfl) ?_
  refine kv_aload_n C 5 rfl 0 (kdec dk_cX2_firstProperty 2 rfl) rfl rfl ?_
  refine kv_iload_n C 6 rfl 1 (kdec dk_cX2_firstProperty 3 rfl) rfl rfl ?_
  refine kv_callVi (As := [.int a1]) (rest := [.ref (ρ 2)]) C 9 rfl 22 (k_placeOf l D τ ρ σ w a1 hI ) rfl rfl mml_TaleMachine_Forest_25 mim_yX2_placeOf mse_yX2_placeOf mcd_yX2_placeOf min_yX2_placeOf hd_yX2_placeOf rfl rfl rfl (by decide) rfl (Nat.le_of_ble_eq_true rfl) (kdec dk_cX2_firstProperty 4 rfl) (fun x6 w2 h3 => ?_)
  obtain ⟨I4, f5⟩ := h3
  have F7 : kF [(2, some 9)] w w2 := kF_call hF0 f5 (by decide)
  have g8 := kf_rng x6
  refine kv_bipush C 11 rfl 7 (kdec dk_cX2_firstProperty 5 rfl) rfl ?_
  refine kv_iadd C 12 rfl (kdec dk_cX2_firstProperty 6 rfl) (fun x9 q11 h10e h10 h10l h10u => ?_)
  try have h10n : x9.toInt = x6.toInt + (7 : Int32).toInt := by omega
  clear h10 q11
  refine kv_callVNi (As := [.int x9]) (rest := []) C 15 rfl 2 (k_wordAt l D τ ρ σ w2 x9 I4 ) rfl rfl mmn_TaleMachine_Forest_49 mim_yX6_wordAt mse_yX6_wordAt mcd_yX6_wordAt min_yX6_wordAt hd_yX6_wordAt rfl rfl rfl (by decide) rfl (Nat.le_of_ble_eq_true rfl) (kdec dk_cX2_firstProperty 7 rfl) (fun x16 w12 h13 => ?_)
  obtain ⟨I14, f15, p17, p18⟩ := h13
  have F19 : kF [(2, some 9)] w w12 := kF_call F7 f15 (by decide)
  have g20 := kf_rng x16
  obtain ⟨x21, e22⟩ : ∃ z : Int32, w2 2 9 = z := ⟨_, rfl⟩
  have b23 : (0 : Int) ≤ x21.toInt ∧ x21.toInt ≤ 13 := by rw [← e22]; exact I4 2 9
  obtain ⟨x24, e25⟩ : ∃ z : Int32, w12 2 9 = z := ⟨_, rfl⟩
  have b26 : (0 : Int) ≤ x24.toInt ∧ x24.toInt ≤ 13 := by rw [← e25]; exact I14 2 9
  rw [e22, e25] at p18
  refine kv_istore_n C 16 rfl 2 [1, 2, 0] [(0, .ref (ρ 22)), (1, .int a1), (2, .int x16)] (kdec dk_cX2_firstProperty 8 rfl) rfl (by decide) rfl ?_
  refine kv_iload_n C 17 rfl 2 (kdec dk_cX2_firstProperty 9 rfl) rfl rfl ?_
  refine kv_iconst C 18 rfl 1 (kdec dk_cX2_firstProperty 10 rfl) rfl ?_
  refine kv_iadd C 19 rfl (kdec dk_cX2_firstProperty 11 rfl) (fun x27 q29 h28e h28 h28l h28u => ?_)
  try have h28n : x27.toInt = x16.toInt + (1 : Int32).toInt := by omega
  clear h28 q29
  refine kv_iconst C 20 rfl 2 (kdec dk_cX2_firstProperty 12 rfl) rfl ?_
  refine kv_aload_n C 21 rfl 0 (kdec dk_cX2_firstProperty 13 rfl) rfl rfl ?_
  refine kv_getr C 24 rfl 22 0 rfl rfl inX2 (by decide) mfl_TaleMachine_Forest_9 rfl rfl (kdec dk_cX2_firstProperty 14 rfl) ?_
  refine kv_iload_n C 25 rfl 2 (kdec dk_cX2_firstProperty 15 rfl) rfl rfl ?_
  refine kv_callVNi (As := [.int x16]) (rest := [.int 2, .int x27]) C 28 rfl 2 (k_byteAt l D τ ρ σ w12 x16 I14 ) rfl rfl mmn_TaleMachine_Forest_29 mim_yX6_byteAt mse_yX6_byteAt mcd_yX6_byteAt min_yX6_byteAt hd_yX6_byteAt rfl rfl rfl (by decide) rfl (Nat.le_of_ble_eq_true rfl) (kdec dk_cX2_firstProperty 16 rfl) (fun x34 w30 h31 => ?_)
  obtain ⟨I32, f33, p35, p36⟩ := h31
  have F37 : kF [(2, some 9)] w w30 := kF_call F19 f33 (by decide)
  have g38 := kf_rng x34
  obtain ⟨x39, e40⟩ : ∃ z : Int32, w30 2 9 = z := ⟨_, rfl⟩
  have b41 : (0 : Int) ≤ x39.toInt ∧ x39.toInt ≤ 13 := by rw [← e40]; exact I32 2 9
  rw [e25, e40] at p36
  refine kv_imul C 29 rfl (kdec dk_cX2_firstProperty 17 rfl) (fun x42 h43e h43l h43u => ?_)
  obtain ⟨q44, g45⟩ := kf_mul 2 x34
  rw [← h43e, c_2] at g45
  try have h43n : x42.toInt = 2 * x34.toInt := by omega
  clear g45 q44
  refine kv_iadd C 30 rfl (kdec dk_cX2_firstProperty 18 rfl) (fun x46 q48 h47e h47 h47l h47u => ?_)
  try have h47n : x46.toInt = x27.toInt + x42.toInt := by omega
  clear h47 q48
  exact kv_iret C hr hlk (kdec dk_cX2_firstProperty 19 rfl) ⟨_, rfl, I32, F37⟩

set_option maxHeartbeats 4000000 in
set_option maxRecDepth 100000 in
theorem k_sizeBy (l : Launch) (D : va_G) (τ : Nat → ClassId) (ρ σ : Nat → Nat) (w : kw) (a1 : Int32) (hI : kI true w)  :
    kM l D τ ρ σ yX2_sizeBy cX2_sizeBy 1 (some .int) { frames := 0, cells := 0, slots := 0, locals := 0 } [.int a1] w
      (fun o w' => ∃ r : Int32, o = some (.int r) ∧ kI true w' ∧ kF [] w w') := by
  refine kM_of (own := "TaleMachine$Forest") rfl (by decide) (Nat.le_of_ble_eq_true rfl) ?_
  intro p e s m args below meth c C hr hlk
  have hF0 : kF [] w w := kF.rf
  have c_1 : (1 : Int32).toInt = 1 := by decide
  have c_5 : (5 : Int32).toInt = 5 := by decide
  refine kV.L (L' := [(0, .int a1)]) rfl ?_
  have g1 := kf_rng a1
  refine kv_iload_n C 1 rfl 0 (kdec dk_cX2_sizeBy 0 rfl) rfl rfl ?_
  refine kv_iconst C 2 rfl 5 (kdec dk_cX2_sizeBy 1 rfl) rfl ?_
  refine kv_ishr C 3 rfl (kdec dk_cX2_sizeBy 2 rfl) (fun x2 h3e h3l h3u => ?_)
  refine kv_iconst C 4 rfl 1 (kdec dk_cX2_sizeBy 3 rfl) rfl ?_
  refine kv_iadd C 5 rfl (kdec dk_cX2_sizeBy 4 rfl) (fun x4 q6 h5e h5 h5l h5u => ?_)
  try have h5n : x4.toInt = x2.toInt + (1 : Int32).toInt := by omega
  clear h5 q6
  exact kv_iret C hr hlk (kdec dk_cX2_sizeBy 5 rfl) ⟨_, rfl, hI, hF0⟩

set_option maxHeartbeats 4000000 in
set_option maxRecDepth 100000 in
theorem k_findProperty (l : Launch) (D : va_G) (τ : Nat → ClassId) (ρ σ : Nat → Nat) (w : kw) (a1 : Int32) (a2 : Int32) (hI : kI true w)  :
    kM l D τ ρ σ yX2_findProperty cX2_findProperty 6 (some .int) { frames := 3, cells := 0, slots := 0, locals := 108 } [.ref (ρ 22), .int a1, .int a2] w
      (fun o w' => ∃ r : Int32, o = some (.int r) ∧ kI true w' ∧ kF [(2, some 9)] w w') := by
  refine kM_of (own := "TaleMachine$Forest") rfl (by decide) (Nat.le_of_ble_eq_true rfl) ?_
  intro p e s m args below meth c C hr hlk
  have hF0 : kF [(2, some 9)] w w := kF.rf
  have c_m1 : (-1 : Int32).toInt = -1 := by decide
  have c_0 : (0 : Int32).toInt = 0 := by decide
  have c_1 : (1 : Int32).toInt = 1 := by decide
  have c_31 : (31 : Int32).toInt = 31 := by decide
  have c_1024 : (1024 : Int32).toInt = 1024 := by decide
  refine kV.L (L' := [(0, .ref (ρ 22)), (1, .int a1), (2, .int a2)]) rfl ?_
  have g1 := kf_rng a1
  have g2 := kf_rng a2
  have cut9 : ∀ (n_9 : Nat) (w_9 : kw) (l1_9 l2_9 l3_9 l4_9 : Int32), kI true w_9 → kF [(2, some 9)] w w_9 → (0 ≤ l4_9.toInt ∧ l4_9.toInt ≤ 1024) → ((1025 - l4_9.toInt) : Int) < (n_9 : Int) → kV p l e { frames := 3, cells := 0, slots := 0, locals := 108 } s m args below meth c (kQ below args s D τ ρ (fun o w' => ∃ r : Int32, o = some (.int r) ∧ kI true w' ∧ kF [(2, some 9)] w w')) 6 D τ ρ 9 [(0, .ref (ρ 22)), (1, .int l1_9), (2, .int l2_9), (3, .int l3_9), (4, .int l4_9)] [] w_9 := by
    intro n_9
    induction n_9 with
    | zero => intro w_9 l1_9 l2_9 l3_9 l4_9 I_9 F_9 k9_0 hmz; exfalso; omega
    | succ n_9 ih9 =>
      intro w_9 l1_9 l2_9 l3_9 l4_9 I_9 F_9 k9_0 hm9
      have gl1_9 := kf_rng l1_9
      have gl2_9 := kf_rng l2_9
      have gl3_9 := kf_rng l3_9
      have gl4_9 := kf_rng l4_9
      refine kv_iload C 11 rfl 4 (kdec dk_cX2_findProperty 6 rfl) rfl ?_
      refine kv_sipush C 14 rfl 1024 (kdec dk_cX2_findProperty 7 rfl) rfl ?_
      refine kv_icmp_ge C 17 rfl 74 (kdec dk_cX2_findProperty 8 rfl) (by decide) (fun d3 => ?_) (fun d3 => ?_)
      · skip
        refine kv_iconst C 75 rfl (-1) (kdec dk_cX2_findProperty 40 rfl) rfl ?_
        exact kv_iret C hr hlk (kdec dk_cX2_findProperty 41 rfl) ⟨_, rfl, I_9, F_9⟩
      · skip
        refine kv_aload_n C 18 rfl 0 (kdec dk_cX2_findProperty 9 rfl) rfl rfl ?_
        refine kv_getr C 21 rfl 22 0 rfl rfl inX2 (by decide) mfl_TaleMachine_Forest_9 rfl rfl (kdec dk_cX2_findProperty 10 rfl) ?_
        obtain ⟨x4, e5⟩ : ∃ z : Int32, w_9 2 9 = z := ⟨_, rfl⟩
        have b6 : (0 : Int) ≤ x4.toInt ∧ x4.toInt ≤ 13 := by rw [← e5]; exact I_9 2 9
        refine kv_getN C 24 rfl 2 9 rfl rfl inX6 (by decide) mfn_TaleMachine_Forest_43 rfl rfl (kdec dk_cX2_findProperty 11 rfl) e5 ?_
        refine kv_if_ne C 27 rfl 74 (kdec dk_cX2_findProperty 12 rfl) (by decide) (fun d7 => ?_) (fun d7 => ?_)
        · skip
          refine kv_iconst C 75 rfl (-1) (kdec dk_cX2_findProperty 40 rfl) rfl ?_
          exact kv_iret C hr hlk (kdec dk_cX2_findProperty 41 rfl) ⟨_, rfl, I_9, F_9⟩
        · skip
          refine kv_aload_n C 28 rfl 0 (kdec dk_cX2_findProperty 13 rfl) rfl rfl ?_
          refine kv_getr C 31 rfl 22 0 rfl rfl inX2 (by decide) mfl_TaleMachine_Forest_9 rfl rfl (kdec dk_cX2_findProperty 14 rfl) ?_
          refine kv_iload_n C 32 rfl 3 (kdec dk_cX2_findProperty 15 rfl) rfl rfl ?_
          refine kv_callVNi (As := [.int l3_9]) (rest := []) C 35 rfl 2 (k_byteAt l D τ ρ σ w_9 l3_9 I_9 ) rfl rfl mmn_TaleMachine_Forest_29 mim_yX6_byteAt mse_yX6_byteAt mcd_yX6_byteAt min_yX6_byteAt hd_yX6_byteAt rfl rfl rfl (by decide) rfl (Nat.le_of_ble_eq_true rfl) (kdec dk_cX2_findProperty 16 rfl) (fun x12 w8 h9 => ?_)
          obtain ⟨I10, f11, p13, p14⟩ := h9
          have F15 : kF [(2, some 9)] w w8 := kF_call F_9 f11 (by decide)
          have g16 := kf_rng x12
          obtain ⟨x17, e18⟩ : ∃ z : Int32, w8 2 9 = z := ⟨_, rfl⟩
          have b19 : (0 : Int) ≤ x17.toInt ∧ x17.toInt ≤ 13 := by rw [← e18]; exact I10 2 9
          rw [e5, e18] at p14
          refine kv_istore C 37 rfl 5 [1, 2, 3, 4, 5, 0] [(0, .ref (ρ 22)), (1, .int l1_9), (2, .int l2_9), (3, .int l3_9), (4, .int l4_9), (5, .int x12)] (kdec dk_cX2_findProperty 17 rfl) (by decide) rfl ?_
          refine kv_iload C 39 rfl 5 (kdec dk_cX2_findProperty 18 rfl) rfl ?_
          refine kv_bipush C 41 rfl 31 (kdec dk_cX2_findProperty 19 rfl) rfl ?_
          refine kv_iand C 42 rfl (kdec dk_cX2_findProperty 20 rfl) (fun x20 h21e h21l h21u => ?_)
          have g22 := kf_and31 h21e
          refine kv_if_ne C 45 rfl 47 (kdec dk_cX2_findProperty 21 rfl) (by decide) (fun d23 => ?_) (fun d23 => ?_)
          · skip
            refine kv_iload C 49 rfl 5 (kdec dk_cX2_findProperty 24 rfl) rfl ?_
            refine kv_bipush C 51 rfl 31 (kdec dk_cX2_findProperty 25 rfl) rfl ?_
            refine kv_iand C 52 rfl (kdec dk_cX2_findProperty 26 rfl) (fun x24 h25e h25l h25u => ?_)
            have g26 := kf_and31 h25e
            refine kv_iload_n C 53 rfl 2 (kdec dk_cX2_findProperty 27 rfl) rfl rfl ?_
            refine kv_icmp_ne C 56 rfl 58 (kdec dk_cX2_findProperty 28 rfl) (by decide) (fun d27 => ?_) (fun d27 => ?_)
            · skip
              refine kv_iload_n C 59 rfl 3 (kdec dk_cX2_findProperty 31 rfl) rfl rfl ?_
              refine kv_iconst C 60 rfl 1 (kdec dk_cX2_findProperty 32 rfl) rfl ?_
              refine kv_iload C 62 rfl 5 (kdec dk_cX2_findProperty 33 rfl) rfl ?_
              refine kv_callSi (As := [.int x12]) (rest := [.int 1, .int l3_9]) C 65 rfl (k_sizeBy l D τ ρ σ w8 x12 I10 ) mml_TaleMachine_Forest_55 mst_yX2_sizeBy mcd_yX2_sizeBy min_yX2_sizeBy hd_yX2_sizeBy rfl rfl rfl (by decide) rfl (Nat.le_of_ble_eq_true rfl) (kdec dk_cX2_findProperty 34 rfl) (fun x32 w28 h29 => ?_)
              obtain ⟨I30, f31⟩ := h29
              have F33 : kF [(2, some 9)] w w28 := kF_call F15 f31 (by decide)
              have g34 := kf_rng x32
              refine kv_iadd C 66 rfl (kdec dk_cX2_findProperty 35 rfl) (fun x35 q37 h36e h36 h36l h36u => ?_)
              try have h36n : x35.toInt = (1 : Int32).toInt + x32.toInt := by omega
              clear h36 q37
              refine kv_iadd C 67 rfl (kdec dk_cX2_findProperty 36 rfl) (fun x38 q40 h39e h39 h39l h39u => ?_)
              try have h39n : x38.toInt = l3_9.toInt + x35.toInt := by omega
              clear h39 q40
              refine kv_istore_n C 68 rfl 3 [1, 2, 3, 0, 4, 5] [(0, .ref (ρ 22)), (1, .int l1_9), (2, .int l2_9), (3, .int x38), (4, .int l4_9), (5, .int x12)] (kdec dk_cX2_findProperty 37 rfl) rfl (by decide) rfl ?_
              refine kv_iinc C 71 rfl 4 4 [1, 2, 3, 4, 0, 5] (fun v9 => [(0, .ref (ρ 22)), (1, .int l1_9), (2, .int l2_9), (3, .int x38), (4, .int v9), (5, .int x12)]) (kdec dk_cX2_findProperty 38 rfl) rfl (by decide) (fun _ => rfl) 1 rfl (fun x41 q42 h43e h43 h43l h43u => ?_)
              try have h43n : x41.toInt = l4_9.toInt + 1 := by omega
              clear h43 q42
              refine kv_goto C 9 (kdec dk_cX2_findProperty 39 rfl) (by decide) ?_
              refine kV.sub [0, 1, 2, 3, 4] (L' := [(0, .ref (ρ 22)), (1, .int l1_9), (2, .int l2_9), (3, .int x38), (4, .int x41)]) rfl ?_
              exact ih9 w28 l1_9 l2_9 x38 x41 I30 F33 (by omega) (by omega)
            · skip
              refine kv_iload_n C 57 rfl 3 (kdec dk_cX2_findProperty 29 rfl) rfl rfl ?_
              exact kv_iret C hr hlk (kdec dk_cX2_findProperty 30 rfl) ⟨_, rfl, I10, F15⟩
          · skip
            refine kv_iconst C 46 rfl (-1) (kdec dk_cX2_findProperty 22 rfl) rfl ?_
            exact kv_iret C hr hlk (kdec dk_cX2_findProperty 23 rfl) ⟨_, rfl, I10, F15⟩
  refine kv_aload_n C 1 rfl 0 (kdec dk_cX2_findProperty 0 rfl) rfl rfl ?_
  refine kv_iload_n C 2 rfl 1 (kdec dk_cX2_findProperty 1 rfl) rfl rfl ?_
  refine kv_callVi (As := [.int a1]) (rest := []) C 5 rfl 22 (k_firstProperty l D τ ρ σ w a1 hI ) rfl rfl mml_TaleMachine_Forest_52 mim_yX2_firstProperty mse_yX2_firstProperty mcd_yX2_firstProperty min_yX2_firstProperty hd_yX2_firstProperty rfl rfl rfl (by decide) rfl (Nat.le_of_ble_eq_true rfl) (kdec dk_cX2_findProperty 2 rfl) (fun x48 w44 h45 => ?_)
  obtain ⟨I46, f47⟩ := h45
  have F49 : kF [(2, some 9)] w w44 := kF_call hF0 f47 (by decide)
  have g50 := kf_rng x48
  refine kv_istore_n C 6 rfl 3 [1, 2, 3, 0] [(0, .ref (ρ 22)), (1, .int a1), (2, .int a2), (3, .int x48)] (kdec dk_cX2_findProperty 3 rfl) rfl (by decide) rfl ?_
  refine kv_iconst C 7 rfl 0 (kdec dk_cX2_findProperty 4 rfl) rfl ?_
  refine kv_istore C 9 rfl 4 [1, 2, 3, 4, 0] [(0, .ref (ρ 22)), (1, .int a1), (2, .int a2), (3, .int x48), (4, .int 0)] (kdec dk_cX2_findProperty 5 rfl) (by decide) rfl ?_
  exact cut9 ((((1025 - (0 : Int32).toInt)) : Int).toNat + 1) w44 a1 a2 x48 0 I46 F49 (by omega) (by omega)

set_option maxHeartbeats 4000000 in
set_option maxRecDepth 100000 in
theorem k_defaultOf (l : Launch) (D : va_G) (τ : Nat → ClassId) (ρ σ : Nat → Nat) (w : kw) (a1 : Int32) (hI : kI true w)  :
    kM l D τ ρ σ yX2_defaultOf cX2_defaultOf 2 (some .int) { frames := 2, cells := 0, slots := 0, locals := 72 } [.ref (ρ 22), .int a1] w
      (fun o w' => ∃ r : Int32, o = some (.int r) ∧ kI true w' ∧ kF [(2, some 9)] w w') := by
  refine kM_of (own := "TaleMachine$Forest") rfl (by decide) (Nat.le_of_ble_eq_true rfl) ?_
  intro p e s m args below meth c C hr hlk
  have hF0 : kF [(2, some 9)] w w := kF.rf
  have c_1 : (1 : Int32).toInt = 1 := by decide
  have c_2 : (2 : Int32).toInt = 2 := by decide
  have c_10 : (10 : Int32).toInt = 10 := by decide
  have c_31 : (31 : Int32).toInt = 31 := by decide
  refine kV.L (L' := [(0, .ref (ρ 22)), (1, .int a1)]) rfl ?_
  have g1 := kf_rng a1
  refine kv_iload_n C 1 rfl 1 (kdec dk_cX2_defaultOf 0 rfl) rfl rfl ?_
  refine kv_iconst C 2 rfl 1 (kdec dk_cX2_defaultOf 1 rfl) rfl ?_
  refine kv_icmp_lt C 5 rfl 11 (kdec dk_cX2_defaultOf 2 rfl) (by decide) (fun d2 => ?_) (fun d2 => ?_)
  · skip
    refine kv_aload_n C 12 rfl 0 (kdec dk_cX2_defaultOf 6 rfl) rfl rfl ?_
    refine kv_getr C 15 rfl 22 0 rfl rfl inX2 (by decide) mfl_TaleMachine_Forest_9 rfl rfl (kdec dk_cX2_defaultOf 7 rfl) ?_
    refine kv_bipush C 17 rfl 10 (kdec dk_cX2_defaultOf 8 rfl) rfl ?_
    refine kv_callVNv (As := [.int 10]) (rest := []) C 20 rfl 2 (k_raise l D τ ρ σ w 10 hI (by omega)) rfl rfl mmn_TaleMachine_Forest_15 mim_yX6_raise mse_yX6_raise mcd_yX6_raise min_yX6_raise hd_yX6_raise rfl rfl rfl (by decide) rfl (Nat.le_of_ble_eq_true rfl) (kdec dk_cX2_defaultOf 9 rfl) (fun w3 h4 => ?_)
    obtain ⟨I5, f6, p8⟩ := h4
    have F9 : kF [(2, some 9)] w w3 := kF_call hF0 f6 (by decide)
    obtain ⟨x10, e11⟩ : ∃ z : Int32, w 2 9 = z := ⟨_, rfl⟩
    have b12 : (0 : Int) ≤ x10.toInt ∧ x10.toInt ≤ 13 := by rw [← e11]; exact hI 2 9
    obtain ⟨x13, e14⟩ : ∃ z : Int32, w3 2 9 = z := ⟨_, rfl⟩
    have b15 : (0 : Int) ≤ x13.toInt ∧ x13.toInt ≤ 13 := by rw [← e14]; exact I5 2 9
    rw [e11, e14] at p8
    refine kv_aload_n C 21 rfl 0 (kdec dk_cX2_defaultOf 10 rfl) rfl rfl ?_
    refine kv_getr C 24 rfl 22 0 rfl rfl inX2 (by decide) mfl_TaleMachine_Forest_9 rfl rfl (kdec dk_cX2_defaultOf 11 rfl) ?_
    refine kv_aload_n C 25 rfl 0 (kdec dk_cX2_defaultOf 12 rfl) rfl rfl ?_
    refine kv_getr C 28 rfl 22 0 rfl rfl inX2 (by decide) mfl_TaleMachine_Forest_9 rfl rfl (kdec dk_cX2_defaultOf 13 rfl) ?_
    obtain ⟨x16, e17⟩ : ∃ z : Int32, w 2 6 = z := ⟨_, rfl⟩
    have b18 : (0 : Int) ≤ x16.toInt ∧ x16.toInt ≤ 65535 := by rw [← e17]; exact hI 2 6
    have e19 : w3 2 6 = x16 := ((f6 2 6 rfl : w3 2 6 = w 2 6).trans e17)
    refine kv_getN C 31 rfl 2 6 rfl rfl inX6 (by decide) mfn_TaleMachine_Forest_21 rfl rfl (kdec dk_cX2_defaultOf 14 rfl) e19 ?_
    refine kv_iconst C 32 rfl 2 (kdec dk_cX2_defaultOf 15 rfl) rfl ?_
    refine kv_iload_n C 33 rfl 1 (kdec dk_cX2_defaultOf 16 rfl) rfl rfl ?_
    refine kv_iconst C 34 rfl 1 (kdec dk_cX2_defaultOf 17 rfl) rfl ?_
    refine kv_isub C 35 rfl (kdec dk_cX2_defaultOf 18 rfl) (fun x20 q22 h21e h21 h21l h21u => ?_)
    try have h21n : x20.toInt = a1.toInt - (1 : Int32).toInt := by omega
    clear h21 q22
    refine kv_imul C 36 rfl (kdec dk_cX2_defaultOf 19 rfl) (fun x23 h24e h24l h24u => ?_)
    obtain ⟨q25, g26⟩ := kf_mul 2 x20
    rw [← h24e, c_2] at g26
    try have h24n : x23.toInt = 2 * x20.toInt := by omega
    clear g26 q25
    refine kv_iadd C 37 rfl (kdec dk_cX2_defaultOf 20 rfl) (fun x27 q29 h28e h28 h28l h28u => ?_)
    try have h28n : x27.toInt = x16.toInt + x23.toInt := by omega
    clear h28 q29
    refine kv_callVNi (As := [.int x27]) (rest := []) C 40 rfl 2 (k_wordAt l D τ ρ σ w3 x27 I5 ) rfl rfl mmn_TaleMachine_Forest_49 mim_yX6_wordAt mse_yX6_wordAt mcd_yX6_wordAt min_yX6_wordAt hd_yX6_wordAt rfl rfl rfl (by decide) rfl (Nat.le_of_ble_eq_true rfl) (kdec dk_cX2_defaultOf 21 rfl) (fun x34 w30 h31 => ?_)
    obtain ⟨I32, f33, p35, p36⟩ := h31
    have F37 : kF [(2, some 9)] w w30 := kF_call F9 f33 (by decide)
    have g38 := kf_rng x34
    obtain ⟨x39, e40⟩ : ∃ z : Int32, w30 2 9 = z := ⟨_, rfl⟩
    have b41 : (0 : Int) ≤ x39.toInt ∧ x39.toInt ≤ 13 := by rw [← e40]; exact I32 2 9
    rw [e14, e40] at p36
    exact kv_iret C hr hlk (kdec dk_cX2_defaultOf 22 rfl) ⟨_, rfl, I32, F37⟩
  · skip
    refine kv_iload_n C 6 rfl 1 (kdec dk_cX2_defaultOf 3 rfl) rfl rfl ?_
    refine kv_bipush C 8 rfl 31 (kdec dk_cX2_defaultOf 4 rfl) rfl ?_
    refine kv_icmp_le C 11 rfl 20 (kdec dk_cX2_defaultOf 5 rfl) (by decide) (fun d42 => ?_) (fun d42 => ?_)
    · skip
      refine kv_aload_n C 21 rfl 0 (kdec dk_cX2_defaultOf 10 rfl) rfl rfl ?_
      refine kv_getr C 24 rfl 22 0 rfl rfl inX2 (by decide) mfl_TaleMachine_Forest_9 rfl rfl (kdec dk_cX2_defaultOf 11 rfl) ?_
      refine kv_aload_n C 25 rfl 0 (kdec dk_cX2_defaultOf 12 rfl) rfl rfl ?_
      refine kv_getr C 28 rfl 22 0 rfl rfl inX2 (by decide) mfl_TaleMachine_Forest_9 rfl rfl (kdec dk_cX2_defaultOf 13 rfl) ?_
      obtain ⟨x43, e44⟩ : ∃ z : Int32, w 2 6 = z := ⟨_, rfl⟩
      have b45 : (0 : Int) ≤ x43.toInt ∧ x43.toInt ≤ 65535 := by rw [← e44]; exact hI 2 6
      refine kv_getN C 31 rfl 2 6 rfl rfl inX6 (by decide) mfn_TaleMachine_Forest_21 rfl rfl (kdec dk_cX2_defaultOf 14 rfl) e44 ?_
      refine kv_iconst C 32 rfl 2 (kdec dk_cX2_defaultOf 15 rfl) rfl ?_
      refine kv_iload_n C 33 rfl 1 (kdec dk_cX2_defaultOf 16 rfl) rfl rfl ?_
      refine kv_iconst C 34 rfl 1 (kdec dk_cX2_defaultOf 17 rfl) rfl ?_
      refine kv_isub C 35 rfl (kdec dk_cX2_defaultOf 18 rfl) (fun x46 q48 h47e h47 h47l h47u => ?_)
      try have h47n : x46.toInt = a1.toInt - (1 : Int32).toInt := by omega
      clear h47 q48
      refine kv_imul C 36 rfl (kdec dk_cX2_defaultOf 19 rfl) (fun x49 h50e h50l h50u => ?_)
      obtain ⟨q51, g52⟩ := kf_mul 2 x46
      rw [← h50e, c_2] at g52
      try have h50n : x49.toInt = 2 * x46.toInt := by omega
      clear g52 q51
      refine kv_iadd C 37 rfl (kdec dk_cX2_defaultOf 20 rfl) (fun x53 q55 h54e h54 h54l h54u => ?_)
      try have h54n : x53.toInt = x43.toInt + x49.toInt := by omega
      clear h54 q55
      refine kv_callVNi (As := [.int x53]) (rest := []) C 40 rfl 2 (k_wordAt l D τ ρ σ w x53 hI ) rfl rfl mmn_TaleMachine_Forest_49 mim_yX6_wordAt mse_yX6_wordAt mcd_yX6_wordAt min_yX6_wordAt hd_yX6_wordAt rfl rfl rfl (by decide) rfl (Nat.le_of_ble_eq_true rfl) (kdec dk_cX2_defaultOf 21 rfl) (fun x60 w56 h57 => ?_)
      obtain ⟨I58, f59, p61, p62⟩ := h57
      have F63 : kF [(2, some 9)] w w56 := kF_call hF0 f59 (by decide)
      have g64 := kf_rng x60
      obtain ⟨x65, e66⟩ : ∃ z : Int32, w 2 9 = z := ⟨_, rfl⟩
      have b67 : (0 : Int) ≤ x65.toInt ∧ x65.toInt ≤ 13 := by rw [← e66]; exact hI 2 9
      obtain ⟨x68, e69⟩ : ∃ z : Int32, w56 2 9 = z := ⟨_, rfl⟩
      have b70 : (0 : Int) ≤ x68.toInt ∧ x68.toInt ≤ 13 := by rw [← e69]; exact I58 2 9
      rw [e66, e69] at p62
      exact kv_iret C hr hlk (kdec dk_cX2_defaultOf 22 rfl) ⟨_, rfl, I58, F63⟩
    · skip
      refine kv_aload_n C 12 rfl 0 (kdec dk_cX2_defaultOf 6 rfl) rfl rfl ?_
      refine kv_getr C 15 rfl 22 0 rfl rfl inX2 (by decide) mfl_TaleMachine_Forest_9 rfl rfl (kdec dk_cX2_defaultOf 7 rfl) ?_
      refine kv_bipush C 17 rfl 10 (kdec dk_cX2_defaultOf 8 rfl) rfl ?_
      refine kv_callVNv (As := [.int 10]) (rest := []) C 20 rfl 2 (k_raise l D τ ρ σ w 10 hI (by omega)) rfl rfl mmn_TaleMachine_Forest_15 mim_yX6_raise mse_yX6_raise mcd_yX6_raise min_yX6_raise hd_yX6_raise rfl rfl rfl (by decide) rfl (Nat.le_of_ble_eq_true rfl) (kdec dk_cX2_defaultOf 9 rfl) (fun w71 h72 => ?_)
      obtain ⟨I73, f74, p76⟩ := h72
      have F77 : kF [(2, some 9)] w w71 := kF_call hF0 f74 (by decide)
      obtain ⟨x78, e79⟩ : ∃ z : Int32, w 2 9 = z := ⟨_, rfl⟩
      have b80 : (0 : Int) ≤ x78.toInt ∧ x78.toInt ≤ 13 := by rw [← e79]; exact hI 2 9
      obtain ⟨x81, e82⟩ : ∃ z : Int32, w71 2 9 = z := ⟨_, rfl⟩
      have b83 : (0 : Int) ≤ x81.toInt ∧ x81.toInt ≤ 13 := by rw [← e82]; exact I73 2 9
      rw [e79, e82] at p76
      refine kv_aload_n C 21 rfl 0 (kdec dk_cX2_defaultOf 10 rfl) rfl rfl ?_
      refine kv_getr C 24 rfl 22 0 rfl rfl inX2 (by decide) mfl_TaleMachine_Forest_9 rfl rfl (kdec dk_cX2_defaultOf 11 rfl) ?_
      refine kv_aload_n C 25 rfl 0 (kdec dk_cX2_defaultOf 12 rfl) rfl rfl ?_
      refine kv_getr C 28 rfl 22 0 rfl rfl inX2 (by decide) mfl_TaleMachine_Forest_9 rfl rfl (kdec dk_cX2_defaultOf 13 rfl) ?_
      obtain ⟨x84, e85⟩ : ∃ z : Int32, w 2 6 = z := ⟨_, rfl⟩
      have b86 : (0 : Int) ≤ x84.toInt ∧ x84.toInt ≤ 65535 := by rw [← e85]; exact hI 2 6
      have e87 : w71 2 6 = x84 := ((f74 2 6 rfl : w71 2 6 = w 2 6).trans e85)
      refine kv_getN C 31 rfl 2 6 rfl rfl inX6 (by decide) mfn_TaleMachine_Forest_21 rfl rfl (kdec dk_cX2_defaultOf 14 rfl) e87 ?_
      refine kv_iconst C 32 rfl 2 (kdec dk_cX2_defaultOf 15 rfl) rfl ?_
      refine kv_iload_n C 33 rfl 1 (kdec dk_cX2_defaultOf 16 rfl) rfl rfl ?_
      refine kv_iconst C 34 rfl 1 (kdec dk_cX2_defaultOf 17 rfl) rfl ?_
      refine kv_isub C 35 rfl (kdec dk_cX2_defaultOf 18 rfl) (fun x88 q90 h89e h89 h89l h89u => ?_)
      try have h89n : x88.toInt = a1.toInt - (1 : Int32).toInt := by omega
      clear h89 q90
      refine kv_imul C 36 rfl (kdec dk_cX2_defaultOf 19 rfl) (fun x91 h92e h92l h92u => ?_)
      obtain ⟨q93, g94⟩ := kf_mul 2 x88
      rw [← h92e, c_2] at g94
      try have h92n : x91.toInt = 2 * x88.toInt := by omega
      clear g94 q93
      refine kv_iadd C 37 rfl (kdec dk_cX2_defaultOf 20 rfl) (fun x95 q97 h96e h96 h96l h96u => ?_)
      try have h96n : x95.toInt = x84.toInt + x91.toInt := by omega
      clear h96 q97
      refine kv_callVNi (As := [.int x95]) (rest := []) C 40 rfl 2 (k_wordAt l D τ ρ σ w71 x95 I73 ) rfl rfl mmn_TaleMachine_Forest_49 mim_yX6_wordAt mse_yX6_wordAt mcd_yX6_wordAt min_yX6_wordAt hd_yX6_wordAt rfl rfl rfl (by decide) rfl (Nat.le_of_ble_eq_true rfl) (kdec dk_cX2_defaultOf 21 rfl) (fun x102 w98 h99 => ?_)
      obtain ⟨I100, f101, p103, p104⟩ := h99
      have F105 : kF [(2, some 9)] w w98 := kF_call F77 f101 (by decide)
      have g106 := kf_rng x102
      obtain ⟨x107, e108⟩ : ∃ z : Int32, w98 2 9 = z := ⟨_, rfl⟩
      have b109 : (0 : Int) ≤ x107.toInt ∧ x107.toInt ≤ 13 := by rw [← e108]; exact I100 2 9
      rw [e82, e108] at p104
      exact kv_iret C hr hlk (kdec dk_cX2_defaultOf 22 rfl) ⟨_, rfl, I100, F105⟩

set_option maxHeartbeats 4000000 in
set_option maxRecDepth 100000 in
theorem k_propertyOf (l : Launch) (D : va_G) (τ : Nat → ClassId) (ρ σ : Nat → Nat) (w : kw) (a1 : Int32) (a2 : Int32) (hI : kI true w)  :
    kM l D τ ρ σ yX2_propertyOf cX2_propertyOf 5 (some .int) { frames := 4, cells := 0, slots := 0, locals := 144 } [.ref (ρ 22), .int a1, .int a2] w
      (fun o w' => ∃ r : Int32, o = some (.int r) ∧ kI true w' ∧ kF [(2, some 9)] w w') := by
  refine kM_of (own := "TaleMachine$Forest") rfl (by decide) (Nat.le_of_ble_eq_true rfl) ?_
  intro p e s m args below meth c C hr hlk
  have hF0 : kF [(2, some 9)] w w := kF.rf
  have c_m1 : (-1 : Int32).toInt = -1 := by decide
  have c_1 : (1 : Int32).toInt = 1 := by decide
  have c_2 : (2 : Int32).toInt = 2 := by decide
  have c_10 : (10 : Int32).toInt = 10 := by decide
  refine kV.L (L' := [(0, .ref (ρ 22)), (1, .int a1), (2, .int a2)]) rfl ?_
  have g1 := kf_rng a1
  have g2 := kf_rng a2
  have cut46 : ∀ (w_46 : kw) (l3_46 l4_46 : Int32), kI true w_46 → kF [(2, some 9)] w w_46 → kV p l e { frames := 4, cells := 0, slots := 0, locals := 144 } s m args below meth c (kQ below args s D τ ρ (fun o w' => ∃ r : Int32, o = some (.int r) ∧ kI true w' ∧ kF [(2, some 9)] w w')) 5 D τ ρ 46 [(0, .ref (ρ 22)), (3, .int l3_46), (4, .int l4_46)] [] w_46 := by
    intro w_46 l3_46 l4_46 I_46 F_46 
    have gl3_46 := kf_rng l3_46
    have gl4_46 := kf_rng l4_46
    refine kv_iload C 48 rfl 2 (kdec dk_cX2_propertyOf 25 rfl) rfl ?_
    refine kv_iconst C 49 rfl 1 (kdec dk_cX2_propertyOf 26 rfl) rfl ?_
    refine kv_icmp_ne C 52 rfl 65 (kdec dk_cX2_propertyOf 27 rfl) (by decide) (fun d3 => ?_) (fun d3 => ?_)
    · skip
      refine kv_aload_n C 66 rfl 0 (kdec dk_cX2_propertyOf 35 rfl) rfl rfl ?_
      refine kv_getr C 69 rfl 22 0 rfl rfl inX2 (by decide) mfl_TaleMachine_Forest_9 rfl rfl (kdec dk_cX2_propertyOf 36 rfl) ?_
      refine kv_iload_n C 70 rfl 1 (kdec dk_cX2_propertyOf 37 rfl) rfl rfl ?_
      refine kv_iconst C 71 rfl 1 (kdec dk_cX2_propertyOf 38 rfl) rfl ?_
      refine kv_iadd C 72 rfl (kdec dk_cX2_propertyOf 39 rfl) (fun x4 q6 h5e h5 h5l h5u => ?_)
      try have h5n : x4.toInt = l3_46.toInt + (1 : Int32).toInt := by omega
      clear h5 q6
      refine kv_callVNi (As := [.int x4]) (rest := []) C 75 rfl 2 (k_wordAt l D τ ρ σ w_46 x4 I_46 ) rfl rfl mmn_TaleMachine_Forest_49 mim_yX6_wordAt mse_yX6_wordAt mcd_yX6_wordAt min_yX6_wordAt hd_yX6_wordAt rfl rfl rfl (by decide) rfl (Nat.le_of_ble_eq_true rfl) (kdec dk_cX2_propertyOf 40 rfl) (fun x11 w7 h8 => ?_)
      obtain ⟨I9, f10, p12, p13⟩ := h8
      have F14 : kF [(2, some 9)] w w7 := kF_call F_46 f10 (by decide)
      have g15 := kf_rng x11
      obtain ⟨x16, e17⟩ : ∃ z : Int32, w_46 2 9 = z := ⟨_, rfl⟩
      have b18 : (0 : Int) ≤ x16.toInt ∧ x16.toInt ≤ 13 := by rw [← e17]; exact I_46 2 9
      obtain ⟨x19, e20⟩ : ∃ z : Int32, w7 2 9 = z := ⟨_, rfl⟩
      have b21 : (0 : Int) ≤ x19.toInt ∧ x19.toInt ≤ 13 := by rw [← e20]; exact I9 2 9
      rw [e17, e20] at p13
      exact kv_iret C hr hlk (kdec dk_cX2_propertyOf 41 rfl) ⟨_, rfl, I9, F14⟩
    · skip
      refine kv_aload_n C 53 rfl 0 (kdec dk_cX2_propertyOf 28 rfl) rfl rfl ?_
      refine kv_getr C 56 rfl 22 0 rfl rfl inX2 (by decide) mfl_TaleMachine_Forest_9 rfl rfl (kdec dk_cX2_propertyOf 29 rfl) ?_
      refine kv_iload_n C 57 rfl 1 (kdec dk_cX2_propertyOf 30 rfl) rfl rfl ?_
      refine kv_iconst C 58 rfl 1 (kdec dk_cX2_propertyOf 31 rfl) rfl ?_
      refine kv_iadd C 59 rfl (kdec dk_cX2_propertyOf 32 rfl) (fun x22 q24 h23e h23 h23l h23u => ?_)
      try have h23n : x22.toInt = l3_46.toInt + (1 : Int32).toInt := by omega
      clear h23 q24
      refine kv_callVNi (As := [.int x22]) (rest := []) C 62 rfl 2 (k_byteAt l D τ ρ σ w_46 x22 I_46 ) rfl rfl mmn_TaleMachine_Forest_29 mim_yX6_byteAt mse_yX6_byteAt mcd_yX6_byteAt min_yX6_byteAt hd_yX6_byteAt rfl rfl rfl (by decide) rfl (Nat.le_of_ble_eq_true rfl) (kdec dk_cX2_propertyOf 33 rfl) (fun x29 w25 h26 => ?_)
      obtain ⟨I27, f28, p30, p31⟩ := h26
      have F32 : kF [(2, some 9)] w w25 := kF_call F_46 f28 (by decide)
      have g33 := kf_rng x29
      obtain ⟨x34, e35⟩ : ∃ z : Int32, w_46 2 9 = z := ⟨_, rfl⟩
      have b36 : (0 : Int) ≤ x34.toInt ∧ x34.toInt ≤ 13 := by rw [← e35]; exact I_46 2 9
      obtain ⟨x37, e38⟩ : ∃ z : Int32, w25 2 9 = z := ⟨_, rfl⟩
      have b39 : (0 : Int) ≤ x37.toInt ∧ x37.toInt ≤ 13 := by rw [← e38]; exact I27 2 9
      rw [e35, e38] at p31
      refine kv_goto C 75 (kdec dk_cX2_propertyOf 34 rfl) (by decide) ?_
      exact kv_iret C hr hlk (kdec dk_cX2_propertyOf 41 rfl) ⟨_, rfl, I27, F32⟩
  refine kv_aload_n C 1 rfl 0 (kdec dk_cX2_propertyOf 0 rfl) rfl rfl ?_
  refine kv_iload_n C 2 rfl 1 (kdec dk_cX2_propertyOf 1 rfl) rfl rfl ?_
  refine kv_iload_n C 3 rfl 2 (kdec dk_cX2_propertyOf 2 rfl) rfl rfl ?_
  refine kv_callVi (As := [.int a1, .int a2]) (rest := []) C 6 rfl 22 (k_findProperty l D τ ρ σ w a1 a2 hI ) rfl rfl mml_TaleMachine_Forest_58 mim_yX2_findProperty mse_yX2_findProperty mcd_yX2_findProperty min_yX2_findProperty hd_yX2_findProperty rfl rfl rfl (by decide) rfl (Nat.le_of_ble_eq_true rfl) (kdec dk_cX2_propertyOf 3 rfl) (fun x44 w40 h41 => ?_)
  obtain ⟨I42, f43⟩ := h41
  have F45 : kF [(2, some 9)] w w40 := kF_call hF0 f43 (by decide)
  have g46 := kf_rng x44
  refine kv_istore_n C 7 rfl 3 [1, 2, 3, 0] [(0, .ref (ρ 22)), (1, .int a1), (2, .int a2), (3, .int x44)] (kdec dk_cX2_propertyOf 4 rfl) rfl (by decide) rfl ?_
  refine kv_iload_n C 8 rfl 3 (kdec dk_cX2_propertyOf 5 rfl) rfl rfl ?_
  refine kv_iconst C 9 rfl (-1) (kdec dk_cX2_propertyOf 6 rfl) rfl ?_
  refine kv_icmp_ne C 12 rfl 18 (kdec dk_cX2_propertyOf 7 rfl) (by decide) (fun d47 => ?_) (fun d47 => ?_)
  · skip
    refine kv_aload_n C 19 rfl 0 (kdec dk_cX2_propertyOf 12 rfl) rfl rfl ?_
    refine kv_getr C 22 rfl 22 0 rfl rfl inX2 (by decide) mfl_TaleMachine_Forest_9 rfl rfl (kdec dk_cX2_propertyOf 13 rfl) ?_
    refine kv_iload_n C 23 rfl 3 (kdec dk_cX2_propertyOf 14 rfl) rfl rfl ?_
    refine kv_callVNi (As := [.int x44]) (rest := []) C 26 rfl 2 (k_byteAt l D τ ρ σ w40 x44 I42 ) rfl rfl mmn_TaleMachine_Forest_29 mim_yX6_byteAt mse_yX6_byteAt mcd_yX6_byteAt min_yX6_byteAt hd_yX6_byteAt rfl rfl rfl (by decide) rfl (Nat.le_of_ble_eq_true rfl) (kdec dk_cX2_propertyOf 15 rfl) (fun x52 w48 h49 => ?_)
    obtain ⟨I50, f51, p53, p54⟩ := h49
    have F55 : kF [(2, some 9)] w w48 := kF_call F45 f51 (by decide)
    have g56 := kf_rng x52
    obtain ⟨x57, e58⟩ : ∃ z : Int32, w40 2 9 = z := ⟨_, rfl⟩
    have b59 : (0 : Int) ≤ x57.toInt ∧ x57.toInt ≤ 13 := by rw [← e58]; exact I42 2 9
    obtain ⟨x60, e61⟩ : ∃ z : Int32, w48 2 9 = z := ⟨_, rfl⟩
    have b62 : (0 : Int) ≤ x60.toInt ∧ x60.toInt ≤ 13 := by rw [← e61]; exact I50 2 9
    rw [e58, e61] at p54
    refine kv_callSi (As := [.int x52]) (rest := []) C 29 rfl (k_sizeBy l D τ ρ σ w48 x52 I50 ) mml_TaleMachine_Forest_55 mst_yX2_sizeBy mcd_yX2_sizeBy min_yX2_sizeBy hd_yX2_sizeBy rfl rfl rfl (by decide) rfl (Nat.le_of_ble_eq_true rfl) (kdec dk_cX2_propertyOf 16 rfl) (fun x67 w63 h64 => ?_)
    obtain ⟨I65, f66⟩ := h64
    have F68 : kF [(2, some 9)] w w63 := kF_call F55 f66 (by decide)
    have g69 := kf_rng x67
    refine kv_istore C 31 rfl 4 [1, 2, 3, 4, 0] [(0, .ref (ρ 22)), (1, .int a1), (2, .int a2), (3, .int x44), (4, .int x67)] (kdec dk_cX2_propertyOf 17 rfl) (by decide) rfl ?_
    refine kv_iload C 33 rfl 4 (kdec dk_cX2_propertyOf 18 rfl) rfl ?_
    refine kv_iconst C 34 rfl 2 (kdec dk_cX2_propertyOf 19 rfl) rfl ?_
    refine kv_icmp_le C 37 rfl 46 (kdec dk_cX2_propertyOf 20 rfl) (by decide) (fun d70 => ?_) (fun d70 => ?_)
    · skip
      refine kV.sub [0, 3, 4] (L' := [(0, .ref (ρ 22)), (3, .int x44), (4, .int x67)]) rfl ?_
      exact cut46 w63 x44 x67 I65 F68 
    · skip
      refine kv_aload_n C 38 rfl 0 (kdec dk_cX2_propertyOf 21 rfl) rfl rfl ?_
      refine kv_getr C 41 rfl 22 0 rfl rfl inX2 (by decide) mfl_TaleMachine_Forest_9 rfl rfl (kdec dk_cX2_propertyOf 22 rfl) ?_
      refine kv_bipush C 43 rfl 10 (kdec dk_cX2_propertyOf 23 rfl) rfl ?_
      refine kv_callVNv (As := [.int 10]) (rest := []) C 46 rfl 2 (k_raise l D τ ρ σ w63 10 I65 (by omega)) rfl rfl mmn_TaleMachine_Forest_15 mim_yX6_raise mse_yX6_raise mcd_yX6_raise min_yX6_raise hd_yX6_raise rfl rfl rfl (by decide) rfl (Nat.le_of_ble_eq_true rfl) (kdec dk_cX2_propertyOf 24 rfl) (fun w71 h72 => ?_)
      obtain ⟨I73, f74, p76⟩ := h72
      have F77 : kF [(2, some 9)] w w71 := kF_call F68 f74 (by decide)
      have e78 : w63 2 9 = x60 := ((f66 2 9 rfl : w63 2 9 = w48 2 9).trans e61)
      obtain ⟨x79, e80⟩ : ∃ z : Int32, w71 2 9 = z := ⟨_, rfl⟩
      have b81 : (0 : Int) ≤ x79.toInt ∧ x79.toInt ≤ 13 := by rw [← e80]; exact I73 2 9
      rw [e78, e80] at p76
      refine kV.sub [0, 3, 4] (L' := [(0, .ref (ρ 22)), (3, .int x44), (4, .int x67)]) rfl ?_
      exact cut46 w71 x44 x67 I73 F77 
  · skip
    refine kv_aload_n C 13 rfl 0 (kdec dk_cX2_propertyOf 8 rfl) rfl rfl ?_
    refine kv_iload_n C 14 rfl 2 (kdec dk_cX2_propertyOf 9 rfl) rfl rfl ?_
    refine kv_callVi (As := [.int a2]) (rest := []) C 17 rfl 22 (k_defaultOf l D τ ρ σ w40 a2 I42 ) rfl rfl mml_TaleMachine_Forest_61 mim_yX2_defaultOf mse_yX2_defaultOf mcd_yX2_defaultOf min_yX2_defaultOf hd_yX2_defaultOf rfl rfl rfl (by decide) rfl (Nat.le_of_ble_eq_true rfl) (kdec dk_cX2_propertyOf 10 rfl) (fun x86 w82 h83 => ?_)
    obtain ⟨I84, f85⟩ := h83
    have F87 : kF [(2, some 9)] w w82 := kF_call F45 f85 (by decide)
    have g88 := kf_rng x86
    exact kv_iret C hr hlk (kdec dk_cX2_propertyOf 11 rfl) ⟨_, rfl, I84, F87⟩

set_option maxHeartbeats 4000000 in
set_option maxRecDepth 100000 in
theorem k_setProperty (l : Launch) (D : va_G) (τ : Nat → ClassId) (ρ σ : Nat → Nat) (w : kw) (a1 : Int32) (a2 : Int32) (a3 : Int32) (hI : kI true w)  :
    kM l D τ ρ σ yX2_setProperty cX2_setProperty 6 none { frames := 4, cells := 0, slots := 0, locals := 144 } [.ref (ρ 22), .int a1, .int a2, .int a3] w
      (fun o w' => o = none ∧ kI true w' ∧ kF [(2, some 9), (3, none)] w w') := by
  refine kM_of (own := "TaleMachine$Forest") rfl (by decide) (Nat.le_of_ble_eq_true rfl) ?_
  intro p e s m args below meth c C hr hlk
  have hF0 : kF [(2, some 9), (3, none)] w w := kF.rf
  have c_m1 : (-1 : Int32).toInt = -1 := by decide
  have c_0 : (0 : Int32).toInt = 0 := by decide
  have c_1 : (1 : Int32).toInt = 1 := by decide
  have c_2 : (2 : Int32).toInt = 2 := by decide
  have c_10 : (10 : Int32).toInt = 10 := by decide
  refine kV.L (L' := [(0, .ref (ρ 22)), (1, .int a1), (2, .int a2), (3, .int a3)]) rfl ?_
  have g1 := kf_rng a1
  have g2 := kf_rng a2
  have g3 := kf_rng a3
  have cut30 : ∀ (w_30 : kw) (l1_30 l2_30 l3_30 l4_30 s0_30 : Int32), kI true w_30 → kF [(2, some 9), (3, none)] w w_30 → kV p l e { frames := 4, cells := 0, slots := 0, locals := 144 } s m args below meth c (kQ below args s D τ ρ (fun o w' => o = none ∧ kI true w' ∧ kF [(2, some 9), (3, none)] w w')) 6 D τ ρ 30 [(0, .ref (ρ 22)), (1, .int l1_30), (2, .int l2_30), (3, .int l3_30), (4, .int l4_30)] [.int s0_30] w_30 := by
    intro w_30 l1_30 l2_30 l3_30 l4_30 s0_30 I_30 F_30 
    have gl1_30 := kf_rng l1_30
    have gl2_30 := kf_rng l2_30
    have gl3_30 := kf_rng l3_30
    have gl4_30 := kf_rng l4_30
    have gs0_30 := kf_rng s0_30
    refine kv_istore C 32 rfl 5 [1, 2, 3, 4, 5, 0] [(0, .ref (ρ 22)), (1, .int l1_30), (2, .int l2_30), (3, .int l3_30), (4, .int l4_30), (5, .int s0_30)] (kdec dk_cX2_setProperty 15 rfl) (by decide) rfl ?_
    refine kv_iload C 34 rfl 5 (kdec dk_cX2_setProperty 16 rfl) rfl ?_
    refine kv_iconst C 35 rfl 1 (kdec dk_cX2_setProperty 17 rfl) rfl ?_
    refine kv_icmp_ne C 38 rfl 53 (kdec dk_cX2_setProperty 18 rfl) (by decide) (fun d4 => ?_) (fun d4 => ?_)
    · skip
      refine kv_iload C 55 rfl 5 (kdec dk_cX2_setProperty 27 rfl) rfl ?_
      refine kv_iconst C 56 rfl 2 (kdec dk_cX2_setProperty 28 rfl) rfl ?_
      refine kv_icmp_ne C 59 rfl 74 (kdec dk_cX2_setProperty 29 rfl) (by decide) (fun d5 => ?_) (fun d5 => ?_)
      · skip
        refine kv_aload_n C 75 rfl 0 (kdec dk_cX2_setProperty 38 rfl) rfl rfl ?_
        refine kv_getr C 78 rfl 22 0 rfl rfl inX2 (by decide) mfl_TaleMachine_Forest_9 rfl rfl (kdec dk_cX2_setProperty 39 rfl) ?_
        refine kv_bipush C 80 rfl 10 (kdec dk_cX2_setProperty 40 rfl) rfl ?_
        refine kv_callVNv (As := [.int 10]) (rest := []) C 83 rfl 2 (k_raise l D τ ρ σ w_30 10 I_30 (by omega)) rfl rfl mmn_TaleMachine_Forest_15 mim_yX6_raise mse_yX6_raise mcd_yX6_raise min_yX6_raise hd_yX6_raise rfl rfl rfl (by decide) rfl (Nat.le_of_ble_eq_true rfl) (kdec dk_cX2_setProperty 41 rfl) (fun w6 h7 => ?_)
        obtain ⟨I8, f9, p11⟩ := h7
        have F12 : kF [(2, some 9), (3, none)] w w6 := kF_call F_30 f9 (by decide)
        obtain ⟨x13, e14⟩ : ∃ z : Int32, w_30 2 9 = z := ⟨_, rfl⟩
        have b15 : (0 : Int) ≤ x13.toInt ∧ x13.toInt ≤ 13 := by rw [← e14]; exact I_30 2 9
        obtain ⟨x16, e17⟩ : ∃ z : Int32, w6 2 9 = z := ⟨_, rfl⟩
        have b18 : (0 : Int) ≤ x16.toInt ∧ x16.toInt ≤ 13 := by rw [← e17]; exact I8 2 9
        rw [e14, e17] at p11
        exact kv_vret C hr hlk (kdec dk_cX2_setProperty 42 rfl) ⟨rfl, I8, F12⟩
      · skip
        refine kv_aload_n C 60 rfl 0 (kdec dk_cX2_setProperty 30 rfl) rfl rfl ?_
        refine kv_getr C 63 rfl 22 0 rfl rfl inX2 (by decide) mfl_TaleMachine_Forest_9 rfl rfl (kdec dk_cX2_setProperty 31 rfl) ?_
        refine kv_iload C 65 rfl 4 (kdec dk_cX2_setProperty 32 rfl) rfl ?_
        refine kv_iconst C 66 rfl 1 (kdec dk_cX2_setProperty 33 rfl) rfl ?_
        refine kv_iadd C 67 rfl (kdec dk_cX2_setProperty 34 rfl) (fun x19 q21 h20e h20 h20l h20u => ?_)
        try have h20n : x19.toInt = l4_30.toInt + (1 : Int32).toInt := by omega
        clear h20 q21
        refine kv_iload_n C 68 rfl 3 (kdec dk_cX2_setProperty 35 rfl) rfl rfl ?_
        refine kv_callVNv (As := [.int x19, .int l3_30]) (rest := []) C 71 rfl 2 (k_putWord l D τ ρ σ w_30 x19 l3_30 I_30 ) rfl rfl mmn_TaleMachine_Forest_64 mim_yX6_putWord mse_yX6_putWord mcd_yX6_putWord min_yX6_putWord hd_yX6_putWord rfl rfl rfl (by decide) rfl (Nat.le_of_ble_eq_true rfl) (kdec dk_cX2_setProperty 36 rfl) (fun w22 h23 => ?_)
        obtain ⟨I24, f25, p27⟩ := h23
        have F28 : kF [(2, some 9), (3, none)] w w22 := kF_call F_30 f25 (by decide)
        obtain ⟨x29, e30⟩ : ∃ z : Int32, w_30 2 9 = z := ⟨_, rfl⟩
        have b31 : (0 : Int) ≤ x29.toInt ∧ x29.toInt ≤ 13 := by rw [← e30]; exact I_30 2 9
        obtain ⟨x32, e33⟩ : ∃ z : Int32, w22 2 9 = z := ⟨_, rfl⟩
        have b34 : (0 : Int) ≤ x32.toInt ∧ x32.toInt ≤ 13 := by rw [← e33]; exact I24 2 9
        rw [e30, e33] at p27
        refine kv_goto C 83 (kdec dk_cX2_setProperty 37 rfl) (by decide) ?_
        exact kv_vret C hr hlk (kdec dk_cX2_setProperty 42 rfl) ⟨rfl, I24, F28⟩
    · skip
      refine kv_aload_n C 39 rfl 0 (kdec dk_cX2_setProperty 19 rfl) rfl rfl ?_
      refine kv_getr C 42 rfl 22 0 rfl rfl inX2 (by decide) mfl_TaleMachine_Forest_9 rfl rfl (kdec dk_cX2_setProperty 20 rfl) ?_
      refine kv_iload C 44 rfl 4 (kdec dk_cX2_setProperty 21 rfl) rfl ?_
      refine kv_iconst C 45 rfl 1 (kdec dk_cX2_setProperty 22 rfl) rfl ?_
      refine kv_iadd C 46 rfl (kdec dk_cX2_setProperty 23 rfl) (fun x35 q37 h36e h36 h36l h36u => ?_)
      try have h36n : x35.toInt = l4_30.toInt + (1 : Int32).toInt := by omega
      clear h36 q37
      refine kv_iload_n C 47 rfl 3 (kdec dk_cX2_setProperty 24 rfl) rfl rfl ?_
      refine kv_callVNv (As := [.int x35, .int l3_30]) (rest := []) C 50 rfl 2 (k_putByte l D τ ρ σ w_30 x35 l3_30 I_30 ) rfl rfl mmn_TaleMachine_Forest_36 mim_yX6_putByte mse_yX6_putByte mcd_yX6_putByte min_yX6_putByte hd_yX6_putByte rfl rfl rfl (by decide) rfl (Nat.le_of_ble_eq_true rfl) (kdec dk_cX2_setProperty 25 rfl) (fun w38 h39 => ?_)
      obtain ⟨I40, f41, p43⟩ := h39
      have F44 : kF [(2, some 9), (3, none)] w w38 := kF_call F_30 f41 (by decide)
      obtain ⟨x45, e46⟩ : ∃ z : Int32, w_30 2 9 = z := ⟨_, rfl⟩
      have b47 : (0 : Int) ≤ x45.toInt ∧ x45.toInt ≤ 13 := by rw [← e46]; exact I_30 2 9
      obtain ⟨x48, e49⟩ : ∃ z : Int32, w38 2 9 = z := ⟨_, rfl⟩
      have b50 : (0 : Int) ≤ x48.toInt ∧ x48.toInt ≤ 13 := by rw [← e49]; exact I40 2 9
      rw [e46, e49] at p43
      refine kv_goto C 83 (kdec dk_cX2_setProperty 26 rfl) (by decide) ?_
      exact kv_vret C hr hlk (kdec dk_cX2_setProperty 42 rfl) ⟨rfl, I40, F44⟩
  refine kv_aload_n C 1 rfl 0 (kdec dk_cX2_setProperty 0 rfl) rfl rfl ?_
  refine kv_iload_n C 2 rfl 1 (kdec dk_cX2_setProperty 1 rfl) rfl rfl ?_
  refine kv_iload_n C 3 rfl 2 (kdec dk_cX2_setProperty 2 rfl) rfl rfl ?_
  refine kv_callVi (As := [.int a1, .int a2]) (rest := []) C 6 rfl 22 (k_findProperty l D τ ρ σ w a1 a2 hI ) rfl rfl mml_TaleMachine_Forest_58 mim_yX2_findProperty mse_yX2_findProperty mcd_yX2_findProperty min_yX2_findProperty hd_yX2_findProperty rfl rfl rfl (by decide) rfl (Nat.le_of_ble_eq_true rfl) (kdec dk_cX2_setProperty 3 rfl) (fun x55 w51 h52 => ?_)
  obtain ⟨I53, f54⟩ := h52
  have F56 : kF [(2, some 9), (3, none)] w w51 := kF_call hF0 f54 (by decide)
  have g57 := kf_rng x55
  refine kv_istore C 8 rfl 4 [1, 2, 3, 4, 0] [(0, .ref (ρ 22)), (1, .int a1), (2, .int a2), (3, .int a3), (4, .int x55)] (kdec dk_cX2_setProperty 4 rfl) (by decide) rfl ?_
  refine kv_iload C 10 rfl 4 (kdec dk_cX2_setProperty 5 rfl) rfl ?_
  refine kv_iconst C 11 rfl (-1) (kdec dk_cX2_setProperty 6 rfl) rfl ?_
  refine kv_icmp_ne C 14 rfl 18 (kdec dk_cX2_setProperty 7 rfl) (by decide) (fun d58 => ?_) (fun d58 => ?_)
  · skip
    refine kv_aload_n C 19 rfl 0 (kdec dk_cX2_setProperty 10 rfl) rfl rfl ?_
    refine kv_getr C 22 rfl 22 0 rfl rfl inX2 (by decide) mfl_TaleMachine_Forest_9 rfl rfl (kdec dk_cX2_setProperty 11 rfl) ?_
    refine kv_iload C 24 rfl 4 (kdec dk_cX2_setProperty 12 rfl) rfl ?_
    refine kv_callVNi (As := [.int x55]) (rest := []) C 27 rfl 2 (k_byteAt l D τ ρ σ w51 x55 I53 ) rfl rfl mmn_TaleMachine_Forest_29 mim_yX6_byteAt mse_yX6_byteAt mcd_yX6_byteAt min_yX6_byteAt hd_yX6_byteAt rfl rfl rfl (by decide) rfl (Nat.le_of_ble_eq_true rfl) (kdec dk_cX2_setProperty 13 rfl) (fun x63 w59 h60 => ?_)
    obtain ⟨I61, f62, p64, p65⟩ := h60
    have F66 : kF [(2, some 9), (3, none)] w w59 := kF_call F56 f62 (by decide)
    have g67 := kf_rng x63
    obtain ⟨x68, e69⟩ : ∃ z : Int32, w51 2 9 = z := ⟨_, rfl⟩
    have b70 : (0 : Int) ≤ x68.toInt ∧ x68.toInt ≤ 13 := by rw [← e69]; exact I53 2 9
    obtain ⟨x71, e72⟩ : ∃ z : Int32, w59 2 9 = z := ⟨_, rfl⟩
    have b73 : (0 : Int) ≤ x71.toInt ∧ x71.toInt ≤ 13 := by rw [← e72]; exact I61 2 9
    rw [e69, e72] at p65
    refine kv_callSi (As := [.int x63]) (rest := []) C 30 rfl (k_sizeBy l D τ ρ σ w59 x63 I61 ) mml_TaleMachine_Forest_55 mst_yX2_sizeBy mcd_yX2_sizeBy min_yX2_sizeBy hd_yX2_sizeBy rfl rfl rfl (by decide) rfl (Nat.le_of_ble_eq_true rfl) (kdec dk_cX2_setProperty 14 rfl) (fun x78 w74 h75 => ?_)
    obtain ⟨I76, f77⟩ := h75
    have F79 : kF [(2, some 9), (3, none)] w w74 := kF_call F66 f77 (by decide)
    have g80 := kf_rng x78
    exact cut30 w74 a1 a2 a3 x55 x78 I76 F79 
  · skip
    refine kv_iconst C 15 rfl 0 (kdec dk_cX2_setProperty 8 rfl) rfl ?_
    refine kv_goto C 30 (kdec dk_cX2_setProperty 9 rfl) (by decide) ?_
    exact cut30 w51 a1 a2 a3 x55 0 I53 F56 

set_option maxHeartbeats 4000000 in
set_option maxRecDepth 100000 in
theorem k_propertyAddress (l : Launch) (D : va_G) (τ : Nat → ClassId) (ρ σ : Nat → Nat) (w : kw) (a1 : Int32) (a2 : Int32) (hI : kI true w)  :
    kM l D τ ρ σ yX2_propertyAddress cX2_propertyAddress 4 (some .int) { frames := 4, cells := 0, slots := 0, locals := 144 } [.ref (ρ 22), .int a1, .int a2] w
      (fun o w' => ∃ r : Int32, o = some (.int r) ∧ kI true w' ∧ kF [(2, some 9)] w w') := by
  refine kM_of (own := "TaleMachine$Forest") rfl (by decide) (Nat.le_of_ble_eq_true rfl) ?_
  intro p e s m args below meth c C hr hlk
  have hF0 : kF [(2, some 9)] w w := kF.rf
  have c_m1 : (-1 : Int32).toInt = -1 := by decide
  have c_0 : (0 : Int32).toInt = 0 := by decide
  have c_1 : (1 : Int32).toInt = 1 := by decide
  refine kV.L (L' := [(0, .ref (ρ 22)), (1, .int a1), (2, .int a2)]) rfl ?_
  have g1 := kf_rng a1
  have g2 := kf_rng a2
  refine kv_aload_n C 1 rfl 0 (kdec dk_cX2_propertyAddress 0 rfl) rfl rfl ?_
  refine kv_iload_n C 2 rfl 1 (kdec dk_cX2_propertyAddress 1 rfl) rfl rfl ?_
  refine kv_iload_n C 3 rfl 2 (kdec dk_cX2_propertyAddress 2 rfl) rfl rfl ?_
  refine kv_callVi (As := [.int a1, .int a2]) (rest := []) C 6 rfl 22 (k_findProperty l D τ ρ σ w a1 a2 hI ) rfl rfl mml_TaleMachine_Forest_58 mim_yX2_findProperty mse_yX2_findProperty mcd_yX2_findProperty min_yX2_findProperty hd_yX2_findProperty rfl rfl rfl (by decide) rfl (Nat.le_of_ble_eq_true rfl) (kdec dk_cX2_propertyAddress 3 rfl) (fun x7 w3 h4 => ?_)
  obtain ⟨I5, f6⟩ := h4
  have F8 : kF [(2, some 9)] w w3 := kF_call hF0 f6 (by decide)
  have g9 := kf_rng x7
  refine kv_istore_n C 7 rfl 3 [1, 2, 3, 0] [(0, .ref (ρ 22)), (1, .int a1), (2, .int a2), (3, .int x7)] (kdec dk_cX2_propertyAddress 4 rfl) rfl (by decide) rfl ?_
  refine kv_iload_n C 8 rfl 3 (kdec dk_cX2_propertyAddress 5 rfl) rfl rfl ?_
  refine kv_iconst C 9 rfl (-1) (kdec dk_cX2_propertyAddress 6 rfl) rfl ?_
  refine kv_icmp_ne C 12 rfl 16 (kdec dk_cX2_propertyAddress 7 rfl) (by decide) (fun d10 => ?_) (fun d10 => ?_)
  · skip
    refine kv_iload_n C 17 rfl 3 (kdec dk_cX2_propertyAddress 10 rfl) rfl rfl ?_
    refine kv_iconst C 18 rfl 1 (kdec dk_cX2_propertyAddress 11 rfl) rfl ?_
    refine kv_iadd C 19 rfl (kdec dk_cX2_propertyAddress 12 rfl) (fun x11 q13 h12e h12 h12l h12u => ?_)
    try have h12n : x11.toInt = x7.toInt + (1 : Int32).toInt := by omega
    clear h12 q13
    exact kv_iret C hr hlk (kdec dk_cX2_propertyAddress 13 rfl) ⟨_, rfl, I5, F8⟩
  · skip
    refine kv_iconst C 13 rfl 0 (kdec dk_cX2_propertyAddress 8 rfl) rfl ?_
    refine kv_goto C 19 (kdec dk_cX2_propertyAddress 9 rfl) (by decide) ?_
    exact kv_iret C hr hlk (kdec dk_cX2_propertyAddress 13 rfl) ⟨_, rfl, I5, F8⟩

set_option maxHeartbeats 4000000 in
set_option maxRecDepth 100000 in
theorem k_propertyLength (l : Launch) (D : va_G) (τ : Nat → ClassId) (ρ σ : Nat → Nat) (w : kw) (a1 : Int32) (hI : kI true w)  :
    kM l D τ ρ σ yX2_propertyLength cX2_propertyLength 2 (some .int) { frames := 2, cells := 0, slots := 0, locals := 72 } [.ref (ρ 22), .int a1] w
      (fun o w' => ∃ r : Int32, o = some (.int r) ∧ kI true w' ∧ kF [(2, some 9)] w w') := by
  refine kM_of (own := "TaleMachine$Forest") rfl (by decide) (Nat.le_of_ble_eq_true rfl) ?_
  intro p e s m args below meth c C hr hlk
  have hF0 : kF [(2, some 9)] w w := kF.rf
  have c_0 : (0 : Int32).toInt = 0 := by decide
  have c_1 : (1 : Int32).toInt = 1 := by decide
  refine kV.L (L' := [(0, .ref (ρ 22)), (1, .int a1)]) rfl ?_
  have g1 := kf_rng a1
  refine kv_iload_n C 1 rfl 1 (kdec dk_cX2_propertyLength 0 rfl) rfl rfl ?_
  refine kv_if_ne C 4 rfl 8 (kdec dk_cX2_propertyLength 1 rfl) (by decide) (fun d2 => ?_) (fun d2 => ?_)
  · skip
    refine kv_aload_n C 9 rfl 0 (kdec dk_cX2_propertyLength 4 rfl) rfl rfl ?_
    refine kv_getr C 12 rfl 22 0 rfl rfl inX2 (by decide) mfl_TaleMachine_Forest_9 rfl rfl (kdec dk_cX2_propertyLength 5 rfl) ?_
    refine kv_iload_n C 13 rfl 1 (kdec dk_cX2_propertyLength 6 rfl) rfl rfl ?_
    refine kv_iconst C 14 rfl 1 (kdec dk_cX2_propertyLength 7 rfl) rfl ?_
    refine kv_isub C 15 rfl (kdec dk_cX2_propertyLength 8 rfl) (fun x3 q5 h4e h4 h4l h4u => ?_)
    try have h4n : x3.toInt = a1.toInt - (1 : Int32).toInt := by omega
    clear h4 q5
    refine kv_callVNi (As := [.int x3]) (rest := []) C 18 rfl 2 (k_byteAt l D τ ρ σ w x3 hI ) rfl rfl mmn_TaleMachine_Forest_29 mim_yX6_byteAt mse_yX6_byteAt mcd_yX6_byteAt min_yX6_byteAt hd_yX6_byteAt rfl rfl rfl (by decide) rfl (Nat.le_of_ble_eq_true rfl) (kdec dk_cX2_propertyLength 9 rfl) (fun x10 w6 h7 => ?_)
    obtain ⟨I8, f9, p11, p12⟩ := h7
    have F13 : kF [(2, some 9)] w w6 := kF_call hF0 f9 (by decide)
    have g14 := kf_rng x10
    obtain ⟨x15, e16⟩ : ∃ z : Int32, w 2 9 = z := ⟨_, rfl⟩
    have b17 : (0 : Int) ≤ x15.toInt ∧ x15.toInt ≤ 13 := by rw [← e16]; exact hI 2 9
    obtain ⟨x18, e19⟩ : ∃ z : Int32, w6 2 9 = z := ⟨_, rfl⟩
    have b20 : (0 : Int) ≤ x18.toInt ∧ x18.toInt ≤ 13 := by rw [← e19]; exact I8 2 9
    rw [e16, e19] at p12
    refine kv_callSi (As := [.int x10]) (rest := []) C 21 rfl (k_sizeBy l D τ ρ σ w6 x10 I8 ) mml_TaleMachine_Forest_55 mst_yX2_sizeBy mcd_yX2_sizeBy min_yX2_sizeBy hd_yX2_sizeBy rfl rfl rfl (by decide) rfl (Nat.le_of_ble_eq_true rfl) (kdec dk_cX2_propertyLength 10 rfl) (fun x25 w21 h22 => ?_)
    obtain ⟨I23, f24⟩ := h22
    have F26 : kF [(2, some 9)] w w21 := kF_call F13 f24 (by decide)
    have g27 := kf_rng x25
    exact kv_iret C hr hlk (kdec dk_cX2_propertyLength 11 rfl) ⟨_, rfl, I23, F26⟩
  · skip
    refine kv_iconst C 5 rfl 0 (kdec dk_cX2_propertyLength 2 rfl) rfl ?_
    refine kv_goto C 21 (kdec dk_cX2_propertyLength 3 rfl) (by decide) ?_
    exact kv_iret C hr hlk (kdec dk_cX2_propertyLength 11 rfl) ⟨_, rfl, hI, hF0⟩

set_option maxHeartbeats 4000000 in
set_option maxRecDepth 100000 in
theorem k_propertyBehind (l : Launch) (D : va_G) (τ : Nat → ClassId) (ρ σ : Nat → Nat) (w : kw) (a1 : Int32) (a2 : Int32) (hI : kI true w)  :
    kM l D τ ρ σ yX2_propertyBehind cX2_propertyBehind 4 (some .int) { frames := 4, cells := 0, slots := 0, locals := 144 } [.ref (ρ 22), .int a1, .int a2] w
      (fun o w' => ∃ r : Int32, o = some (.int r) ∧ kI true w' ∧ kF [(2, some 9)] w w') := by
  refine kM_of (own := "TaleMachine$Forest") rfl (by decide) (Nat.le_of_ble_eq_true rfl) ?_
  intro p e s m args below meth c C hr hlk
  have hF0 : kF [(2, some 9)] w w := kF.rf
  have c_m1 : (-1 : Int32).toInt = -1 := by decide
  have c_0 : (0 : Int32).toInt = 0 := by decide
  have c_1 : (1 : Int32).toInt = 1 := by decide
  have c_10 : (10 : Int32).toInt = 10 := by decide
  have c_31 : (31 : Int32).toInt = 31 := by decide
  refine kV.L (L' := [(0, .ref (ρ 22)), (1, .int a1), (2, .int a2)]) rfl ?_
  have g1 := kf_rng a1
  have g2 := kf_rng a2
  refine kv_iload_n C 1 rfl 2 (kdec dk_cX2_propertyBehind 0 rfl) rfl rfl ?_
  refine kv_if_ne C 4 rfl 20 (kdec dk_cX2_propertyBehind 1 rfl) (by decide) (fun d3 => ?_) (fun d3 => ?_)
  · skip
    refine kv_aload_n C 21 rfl 0 (kdec dk_cX2_propertyBehind 11 rfl) rfl rfl ?_
    refine kv_iload_n C 22 rfl 1 (kdec dk_cX2_propertyBehind 12 rfl) rfl rfl ?_
    refine kv_iload_n C 23 rfl 2 (kdec dk_cX2_propertyBehind 13 rfl) rfl rfl ?_
    refine kv_callVi (As := [.int a1, .int a2]) (rest := []) C 26 rfl 22 (k_findProperty l D τ ρ σ w a1 a2 hI ) rfl rfl mml_TaleMachine_Forest_58 mim_yX2_findProperty mse_yX2_findProperty mcd_yX2_findProperty min_yX2_findProperty hd_yX2_findProperty rfl rfl rfl (by decide) rfl (Nat.le_of_ble_eq_true rfl) (kdec dk_cX2_propertyBehind 14 rfl) (fun x8 w4 h5 => ?_)
    obtain ⟨I6, f7⟩ := h5
    have F9 : kF [(2, some 9)] w w4 := kF_call hF0 f7 (by decide)
    have g10 := kf_rng x8
    refine kv_istore_n C 27 rfl 3 [1, 2, 3, 0] [(0, .ref (ρ 22)), (1, .int a1), (2, .int a2), (3, .int x8)] (kdec dk_cX2_propertyBehind 15 rfl) rfl (by decide) rfl ?_
    refine kv_iload_n C 28 rfl 3 (kdec dk_cX2_propertyBehind 16 rfl) rfl rfl ?_
    refine kv_iconst C 29 rfl (-1) (kdec dk_cX2_propertyBehind 17 rfl) rfl ?_
    refine kv_icmp_ne C 32 rfl 43 (kdec dk_cX2_propertyBehind 18 rfl) (by decide) (fun d11 => ?_) (fun d11 => ?_)
    · skip
      refine kv_aload_n C 44 rfl 0 (kdec dk_cX2_propertyBehind 25 rfl) rfl rfl ?_
      refine kv_getr C 47 rfl 22 0 rfl rfl inX2 (by decide) mfl_TaleMachine_Forest_9 rfl rfl (kdec dk_cX2_propertyBehind 26 rfl) ?_
      refine kv_iload_n C 48 rfl 3 (kdec dk_cX2_propertyBehind 27 rfl) rfl rfl ?_
      refine kv_iconst C 49 rfl 1 (kdec dk_cX2_propertyBehind 28 rfl) rfl ?_
      refine kv_iadd C 50 rfl (kdec dk_cX2_propertyBehind 29 rfl) (fun x12 q14 h13e h13 h13l h13u => ?_)
      try have h13n : x12.toInt = x8.toInt + (1 : Int32).toInt := by omega
      clear h13 q14
      refine kv_aload_n C 51 rfl 0 (kdec dk_cX2_propertyBehind 30 rfl) rfl rfl ?_
      refine kv_getr C 54 rfl 22 0 rfl rfl inX2 (by decide) mfl_TaleMachine_Forest_9 rfl rfl (kdec dk_cX2_propertyBehind 31 rfl) ?_
      refine kv_iload_n C 55 rfl 3 (kdec dk_cX2_propertyBehind 32 rfl) rfl rfl ?_
      refine kv_callVNi (As := [.int x8]) (rest := [.int x12, .ref (ρ 2)]) C 58 rfl 2 (k_byteAt l D τ ρ σ w4 x8 I6 ) rfl rfl mmn_TaleMachine_Forest_29 mim_yX6_byteAt mse_yX6_byteAt mcd_yX6_byteAt min_yX6_byteAt hd_yX6_byteAt rfl rfl rfl (by decide) rfl (Nat.le_of_ble_eq_true rfl) (kdec dk_cX2_propertyBehind 33 rfl) (fun x19 w15 h16 => ?_)
      obtain ⟨I17, f18, p20, p21⟩ := h16
      have F22 : kF [(2, some 9)] w w15 := kF_call F9 f18 (by decide)
      have g23 := kf_rng x19
      obtain ⟨x24, e25⟩ : ∃ z : Int32, w4 2 9 = z := ⟨_, rfl⟩
      have b26 : (0 : Int) ≤ x24.toInt ∧ x24.toInt ≤ 13 := by rw [← e25]; exact I6 2 9
      obtain ⟨x27, e28⟩ : ∃ z : Int32, w15 2 9 = z := ⟨_, rfl⟩
      have b29 : (0 : Int) ≤ x27.toInt ∧ x27.toInt ≤ 13 := by rw [← e28]; exact I17 2 9
      rw [e25, e28] at p21
      refine kv_callSi (As := [.int x19]) (rest := [.int x12, .ref (ρ 2)]) C 61 rfl (k_sizeBy l D τ ρ σ w15 x19 I17 ) mml_TaleMachine_Forest_55 mst_yX2_sizeBy mcd_yX2_sizeBy min_yX2_sizeBy hd_yX2_sizeBy rfl rfl rfl (by decide) rfl (Nat.le_of_ble_eq_true rfl) (kdec dk_cX2_propertyBehind 34 rfl) (fun x34 w30 h31 => ?_)
      obtain ⟨I32, f33⟩ := h31
      have F35 : kF [(2, some 9)] w w30 := kF_call F22 f33 (by decide)
      have g36 := kf_rng x34
      refine kv_iadd C 62 rfl (kdec dk_cX2_propertyBehind 35 rfl) (fun x37 q39 h38e h38 h38l h38u => ?_)
      try have h38n : x37.toInt = x12.toInt + x34.toInt := by omega
      clear h38 q39
      refine kv_callVNi (As := [.int x37]) (rest := []) C 65 rfl 2 (k_byteAt l D τ ρ σ w30 x37 I32 ) rfl rfl mmn_TaleMachine_Forest_29 mim_yX6_byteAt mse_yX6_byteAt mcd_yX6_byteAt min_yX6_byteAt hd_yX6_byteAt rfl rfl rfl (by decide) rfl (Nat.le_of_ble_eq_true rfl) (kdec dk_cX2_propertyBehind 36 rfl) (fun x44 w40 h41 => ?_)
      obtain ⟨I42, f43, p45, p46⟩ := h41
      have F47 : kF [(2, some 9)] w w40 := kF_call F35 f43 (by decide)
      have g48 := kf_rng x44
      have e49 : w30 2 9 = x27 := ((f33 2 9 rfl : w30 2 9 = w15 2 9).trans e28)
      obtain ⟨x50, e51⟩ : ∃ z : Int32, w40 2 9 = z := ⟨_, rfl⟩
      have b52 : (0 : Int) ≤ x50.toInt ∧ x50.toInt ≤ 13 := by rw [← e51]; exact I42 2 9
      rw [e49, e51] at p46
      refine kv_bipush C 67 rfl 31 (kdec dk_cX2_propertyBehind 37 rfl) rfl ?_
      refine kv_iand C 68 rfl (kdec dk_cX2_propertyBehind 38 rfl) (fun x53 h54e h54l h54u => ?_)
      have g55 := kf_and31 h54e
      exact kv_iret C hr hlk (kdec dk_cX2_propertyBehind 39 rfl) ⟨_, rfl, I42, F47⟩
    · skip
      refine kv_aload_n C 33 rfl 0 (kdec dk_cX2_propertyBehind 19 rfl) rfl rfl ?_
      refine kv_getr C 36 rfl 22 0 rfl rfl inX2 (by decide) mfl_TaleMachine_Forest_9 rfl rfl (kdec dk_cX2_propertyBehind 20 rfl) ?_
      refine kv_bipush C 38 rfl 10 (kdec dk_cX2_propertyBehind 21 rfl) rfl ?_
      refine kv_callVNv (As := [.int 10]) (rest := []) C 41 rfl 2 (k_raise l D τ ρ σ w4 10 I6 (by omega)) rfl rfl mmn_TaleMachine_Forest_15 mim_yX6_raise mse_yX6_raise mcd_yX6_raise min_yX6_raise hd_yX6_raise rfl rfl rfl (by decide) rfl (Nat.le_of_ble_eq_true rfl) (kdec dk_cX2_propertyBehind 22 rfl) (fun w56 h57 => ?_)
      obtain ⟨I58, f59, p61⟩ := h57
      have F62 : kF [(2, some 9)] w w56 := kF_call F9 f59 (by decide)
      obtain ⟨x63, e64⟩ : ∃ z : Int32, w4 2 9 = z := ⟨_, rfl⟩
      have b65 : (0 : Int) ≤ x63.toInt ∧ x63.toInt ≤ 13 := by rw [← e64]; exact I6 2 9
      obtain ⟨x66, e67⟩ : ∃ z : Int32, w56 2 9 = z := ⟨_, rfl⟩
      have b68 : (0 : Int) ≤ x66.toInt ∧ x66.toInt ≤ 13 := by rw [← e67]; exact I58 2 9
      rw [e64, e67] at p61
      refine kv_iconst C 42 rfl 0 (kdec dk_cX2_propertyBehind 23 rfl) rfl ?_
      exact kv_iret C hr hlk (kdec dk_cX2_propertyBehind 24 rfl) ⟨_, rfl, I58, F62⟩
  · skip
    refine kv_aload_n C 5 rfl 0 (kdec dk_cX2_propertyBehind 2 rfl) rfl rfl ?_
    refine kv_getr C 8 rfl 22 0 rfl rfl inX2 (by decide) mfl_TaleMachine_Forest_9 rfl rfl (kdec dk_cX2_propertyBehind 3 rfl) ?_
    refine kv_aload_n C 9 rfl 0 (kdec dk_cX2_propertyBehind 4 rfl) rfl rfl ?_
    refine kv_iload_n C 10 rfl 1 (kdec dk_cX2_propertyBehind 5 rfl) rfl rfl ?_
    refine kv_callVi (As := [.int a1]) (rest := [.ref (ρ 2)]) C 13 rfl 22 (k_firstProperty l D τ ρ σ w a1 hI ) rfl rfl mml_TaleMachine_Forest_52 mim_yX2_firstProperty mse_yX2_firstProperty mcd_yX2_firstProperty min_yX2_firstProperty hd_yX2_firstProperty rfl rfl rfl (by decide) rfl (Nat.le_of_ble_eq_true rfl) (kdec dk_cX2_propertyBehind 6 rfl) (fun x73 w69 h70 => ?_)
    obtain ⟨I71, f72⟩ := h70
    have F74 : kF [(2, some 9)] w w69 := kF_call hF0 f72 (by decide)
    have g75 := kf_rng x73
    refine kv_callVNi (As := [.int x73]) (rest := []) C 16 rfl 2 (k_byteAt l D τ ρ σ w69 x73 I71 ) rfl rfl mmn_TaleMachine_Forest_29 mim_yX6_byteAt mse_yX6_byteAt mcd_yX6_byteAt min_yX6_byteAt hd_yX6_byteAt rfl rfl rfl (by decide) rfl (Nat.le_of_ble_eq_true rfl) (kdec dk_cX2_propertyBehind 7 rfl) (fun x80 w76 h77 => ?_)
    obtain ⟨I78, f79, p81, p82⟩ := h77
    have F83 : kF [(2, some 9)] w w76 := kF_call F74 f79 (by decide)
    have g84 := kf_rng x80
    obtain ⟨x85, e86⟩ : ∃ z : Int32, w69 2 9 = z := ⟨_, rfl⟩
    have b87 : (0 : Int) ≤ x85.toInt ∧ x85.toInt ≤ 13 := by rw [← e86]; exact I71 2 9
    obtain ⟨x88, e89⟩ : ∃ z : Int32, w76 2 9 = z := ⟨_, rfl⟩
    have b90 : (0 : Int) ≤ x88.toInt ∧ x88.toInt ≤ 13 := by rw [← e89]; exact I78 2 9
    rw [e86, e89] at p82
    refine kv_bipush C 18 rfl 31 (kdec dk_cX2_propertyBehind 8 rfl) rfl ?_
    refine kv_iand C 19 rfl (kdec dk_cX2_propertyBehind 9 rfl) (fun x91 h92e h92l h92u => ?_)
    have g93 := kf_and31 h92e
    exact kv_iret C hr hlk (kdec dk_cX2_propertyBehind 10 rfl) ⟨_, rfl, I78, F83⟩
