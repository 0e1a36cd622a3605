set_option maxHeartbeats 4000000 in
set_option maxRecDepth 100000 in
theorem k_x_object (l : Launch) (D : va_G) (τ : Nat → ClassId) (ρ σ : Nat → Nat) (w : kw) (a1 : Int32) (hI : kI false w)  :
    kM l D τ ρ σ yX10_object cX10_object 2 (some .int) { frames := 1, cells := 0, slots := 0, locals := 36 } [.ref (ρ 61), .int a1] w
      (fun o w' => ∃ r : Int32, o = some (.int r) ∧ kI false w' ∧ kF [(61, some 13)] w w') := by
  refine kM_of (own := "TaleMachineModel") rfl (by decide) (Nat.le_of_ble_eq_true rfl) ?_
  intro p e s m args below meth c C hr hlk
  have hF0 : kF [(61, some 13)] w w := kF.rf
  have c_0 : (0 : Int32).toInt = 0 := by decide
  have c_1 : (1 : Int32).toInt = 1 := by decide
  have c_9 : (9 : Int32).toInt = 9 := by decide
  have c_62 : (62 : Int32).toInt = 62 := by decide
  refine kV.L (L' := [(0, .ref (ρ 61)), (1, .int a1)]) rfl ?_
  have g1 := kf_rng a1
  refine kv_iload_n C 1 rfl 1 (kdec dk_cX10_object 0 rfl) rfl rfl ?_
  refine kv_i2l C 2 rfl (kdec dk_cX10_object 1 rfl) ?_
  have h2 := kf_i2l a1
  refine kv_lconst C 3 rfl 1 (kdec dk_cX10_object 2 rfl) rfl ?_
  have h3 : (1 : Int64).toInt = 1 := by decide
  refine kv_ldc2 C 6 rfl 255 (kdec dk_cX10_object 3 rfl) mcl_TaleMachineModel_203 ?_
  have h4 : (255 : Int64).toInt = 255 := by decide
  refine kv_callSi (As := [.long (a1 : Int32).toInt64, .long (1 : Int64), .long (255 : Int64)]) (rest := []) C 9 rfl (k_x_in l D τ ρ σ w (a1 : Int32).toInt64 (1 : Int64) (255 : Int64) hI ) mml_TaleMachineModel_94 mst_yX10_in mcd_yX10_in min_yX10_in hd_yX10_in rfl rfl rfl (by decide) rfl (Nat.le_of_ble_eq_true rfl) (kdec dk_cX10_object 4 rfl) (fun x9 w5 h6 => ?_)
  obtain ⟨I7, f8, p10, p11⟩ := h6
  have F12 : kF [(61, some 13)] w w5 := kF_call hF0 f8 (by decide)
  have g13 := kf_rng x9
  refine kv_if_ne C 12 rfl 20 (kdec dk_cX10_object 5 rfl) (by decide) (fun d14 => ?_) (fun d14 => ?_)
  · skip
    refine kv_aload_n C 21 rfl 0 (kdec dk_cX10_object 11 rfl) rfl rfl ?_
    obtain ⟨x15, e16⟩ : ∃ z : Int32, w 61 9 = z := ⟨_, rfl⟩
    have b17 : (0 : Int) ≤ x15.toInt ∧ x15.toInt ≤ 65535 := by rw [← e16]; exact hI 61 9
    have e18 : w5 61 9 = x15 := ((f8 61 9 rfl : w5 61 9 = w 61 9).trans e16)
    refine kv_get C 24 rfl 61 9 rfl rfl inX10 (by decide) mfl_TaleMachineModel_124 rfl rfl (kdec dk_cX10_object 12 rfl) e18 ?_
    refine kv_bipush C 26 rfl 62 (kdec dk_cX10_object 13 rfl) rfl ?_
    refine kv_iadd C 27 rfl (kdec dk_cX10_object 14 rfl) (fun x19 q21 h20e h20 h20l h20u => ?_)
    try have h20n : x19.toInt = x15.toInt + (62 : Int32).toInt := by omega
    clear h20 q21
    refine kv_bipush C 29 rfl 9 (kdec dk_cX10_object 15 rfl) rfl ?_
    refine kv_iload_n C 30 rfl 1 (kdec dk_cX10_object 16 rfl) rfl rfl ?_
    refine kv_iconst C 31 rfl 1 (kdec dk_cX10_object 17 rfl) rfl ?_
    refine kv_isub C 32 rfl (kdec dk_cX10_object 18 rfl) (fun x22 q24 h23e h23 h23l h23u => ?_)
    try have h23n : x22.toInt = a1.toInt - (1 : Int32).toInt := by omega
    clear h23 q24
    refine kv_imul C 33 rfl (kdec dk_cX10_object 19 rfl) (fun x25 h26e h26l h26u => ?_)
    obtain ⟨q27, g28⟩ := kf_mul 9 x22
    rw [← h26e, c_9] at g28
    try have h26n : x25.toInt = 9 * x22.toInt := by omega
    clear g28 q27
    refine kv_iadd C 34 rfl (kdec dk_cX10_object 20 rfl) (fun x29 q31 h30e h30 h30l h30u => ?_)
    try have h30n : x29.toInt = x19.toInt + x25.toInt := by omega
    clear h30 q31
    exact kv_iret C hr hlk (kdec dk_cX10_object 21 rfl) ⟨_, rfl, I7, F12⟩
  · skip
    refine kv_aload_n C 13 rfl 0 (kdec dk_cX10_object 6 rfl) rfl rfl ?_
    refine kv_bipush C 15 rfl 9 (kdec dk_cX10_object 7 rfl) rfl ?_
    refine kv_callVv (As := [.int 9]) (rest := []) C 18 rfl 61 (k_x_halts l D τ ρ σ w5 9 I7 (by omega)) rfl rfl mml_TaleMachineModel_160 mim_yX10_halts mse_yX10_halts mcd_yX10_halts min_yX10_halts hd_yX10_halts rfl rfl rfl (by decide) rfl (Nat.le_of_ble_eq_true rfl) (kdec dk_cX10_object 8 rfl) (fun w32 h33 => ?_)
    obtain ⟨I34, f35, p37⟩ := h33
    have F38 : kF [(61, some 13)] w w32 := kF_call F12 f35 (by decide)
    obtain ⟨x39, e40⟩ : ∃ z : Int32, w 61 13 = z := ⟨_, rfl⟩
    have b41 : (0 : Int) ≤ x39.toInt ∧ x39.toInt ≤ 13 := by rw [← e40]; exact hI 61 13
    have e42 : w5 61 13 = x39 := ((f8 61 13 rfl : w5 61 13 = w 61 13).trans e40)
    obtain ⟨x43, e44⟩ : ∃ z : Int32, w32 61 13 = z := ⟨_, rfl⟩
    have b45 : (0 : Int) ≤ x43.toInt ∧ x43.toInt ≤ 13 := by rw [← e44]; exact I34 61 13
    rw [e42, e44] at p37
    refine kv_iconst C 19 rfl 0 (kdec dk_cX10_object 9 rfl) rfl ?_
    exact kv_iret C hr hlk (kdec dk_cX10_object 10 rfl) ⟨_, rfl, I34, F38⟩

set_option maxHeartbeats 4000000 in
set_option maxRecDepth 100000 in
theorem k_x_kin (l : Launch) (D : va_G) (τ : Nat → ClassId) (ρ σ : Nat → Nat) (w : kw) (a1 : Int32) (a2 : Int32) (hI : kI false w)  :
    kM l D τ ρ σ yX10_kin cX10_kin 4 (some .int) { frames := 2, cells := 0, slots := 0, locals := 72 } [.ref (ρ 61), .int a1, .int a2] w
      (fun o w' => ∃ r : Int32, o = some (.int r) ∧ kI false w' ∧ kF [(61, some 13)] w w' ∧ (0 ≤ r.toInt ∧ r.toInt ≤ 255)) := by
  refine kM_of (own := "TaleMachineModel") rfl (by decide) (Nat.le_of_ble_eq_true rfl) ?_
  intro p e s m args below meth c C hr hlk
  have hF0 : kF [(61, some 13)] w w := kF.rf
  have c_0 : (0 : Int32).toInt = 0 := by decide
  refine kV.L (L' := [(0, .ref (ρ 61)), (1, .int a1), (2, .int a2)]) rfl ?_
  have g1 := kf_rng a1
  have g2 := kf_rng a2
  refine kv_aload_n C 1 rfl 0 (kdec dk_cX10_kin 0 rfl) rfl rfl ?_
  refine kv_iload_n C 2 rfl 1 (kdec dk_cX10_kin 1 rfl) rfl rfl ?_
  refine kv_callVi (As := [.int a1]) (rest := []) C 5 rfl 61 (k_x_object l D τ ρ σ w a1 hI ) rfl rfl mml_TaleMachineModel_205 mim_yX10_object mse_yX10_object mcd_yX10_object min_yX10_object hd_yX10_object rfl rfl rfl (by decide) rfl (Nat.le_of_ble_eq_true rfl) (kdec dk_cX10_kin 2 rfl) (fun x7 w3 h4 => ?_)
  obtain ⟨I5, f6⟩ := h4
  have F8 : kF [(61, some 13)] w w3 := kF_call hF0 f6 (by decide)
  have g9 := kf_rng x7
  refine kv_istore_n C 6 rfl 3 [1, 2, 3, 0] [(0, .ref (ρ 61)), (1, .int a1), (2, .int a2), (3, .int x7)] (kdec dk_cX10_kin 3 rfl) rfl (by decide) rfl ?_
  refine kv_aload_n C 7 rfl 0 (kdec dk_cX10_kin 4 rfl) rfl rfl ?_
  obtain ⟨x10, e11⟩ : ∃ z : Int32, w3 61 13 = z := ⟨_, rfl⟩
  have b12 : (0 : Int) ≤ x10.toInt ∧ x10.toInt ≤ 13 := by rw [← e11]; exact I5 61 13
  refine kv_get C 10 rfl 61 13 rfl rfl inX10 (by decide) mfl_TaleMachineModel_148 rfl rfl (kdec dk_cX10_kin 5 rfl) e11 ?_
  refine kv_if_le C 13 rfl 17 (kdec dk_cX10_kin 6 rfl) (by decide) (fun d13 => ?_) (fun d13 => ?_)
  · skip
    refine kv_aload_n C 18 rfl 0 (kdec dk_cX10_kin 9 rfl) rfl rfl ?_
    refine kv_iload_n C 19 rfl 3 (kdec dk_cX10_kin 10 rfl) rfl rfl ?_
    refine kv_iload_n C 20 rfl 2 (kdec dk_cX10_kin 11 rfl) rfl rfl ?_
    refine kv_iadd C 21 rfl (kdec dk_cX10_kin 12 rfl) (fun x14 q16 h15e h15 h15l h15u => ?_)
    try have h15n : x14.toInt = x7.toInt + a2.toInt := by omega
    clear h15 q16
    refine kv_callVi (As := [.int x14]) (rest := []) C 24 rfl 61 (k_x_byteAt l D τ ρ σ w3 x14 I5 ) rfl rfl mml_TaleMachineModel_163 mim_yX10_byteAt mse_yX10_byteAt mcd_yX10_byteAt min_yX10_byteAt hd_yX10_byteAt rfl rfl rfl (by decide) rfl (Nat.le_of_ble_eq_true rfl) (kdec dk_cX10_kin 13 rfl) (fun x21 w17 h18 => ?_)
    obtain ⟨I19, f20, p22, p23, p24⟩ := h18
    have F25 : kF [(61, some 13)] w w17 := kF_call F8 f20 (by decide)
    have g26 := kf_rng x21
    obtain ⟨x27, e28⟩ : ∃ z : Int32, w17 61 13 = z := ⟨_, rfl⟩
    have b29 : (0 : Int) ≤ x27.toInt ∧ x27.toInt ≤ 13 := by rw [← e28]; exact I19 61 13
    rw [e11, e28] at p23
    rw [e28] at p24
    exact kv_iret C hr hlk (kdec dk_cX10_kin 14 rfl) ⟨_, rfl, I19, F25, (by omega)⟩
  · skip
    refine kv_iconst C 14 rfl 0 (kdec dk_cX10_kin 7 rfl) rfl ?_
    refine kv_goto C 24 (kdec dk_cX10_kin 8 rfl) (by decide) ?_
    exact kv_iret C hr hlk (kdec dk_cX10_kin 14 rfl) ⟨_, rfl, I5, F8, (by omega)⟩

set_option maxHeartbeats 4000000 in
set_option maxRecDepth 100000 in
theorem k_x_setKin (l : Launch) (D : va_G) (τ : Nat → ClassId) (ρ σ : Nat → Nat) (w : kw) (a1 : Int32) (a2 : Int32) (a3 : Int32) (hI : kI false w)  :
    kM l D τ ρ σ yX10_setKin cX10_setKin 4 none { frames := 3, cells := 0, slots := 0, locals := 108 } [.ref (ρ 61), .int a1, .int a2, .int a3] w
      (fun o w' => o = none ∧ kI false w' ∧ kF [(61, some 13), (64, none)] w w') := by
  refine kM_of (own := "TaleMachineModel") rfl (by decide) (Nat.le_of_ble_eq_true rfl) ?_
  intro p e s m args below meth c C hr hlk
  have hF0 : kF [(61, some 13), (64, none)] w w := kF.rf
  have c_1 : (1 : Int32).toInt = 1 := by decide
  have c_9 : (9 : Int32).toInt = 9 := by decide
  have c_62 : (62 : Int32).toInt = 62 := by decide
  refine kV.L (L' := [(0, .ref (ρ 61)), (1, .int a1), (2, .int a2), (3, .int a3)]) rfl ?_
  have g1 := kf_rng a1
  have g2 := kf_rng a2
  have g3 := kf_rng a3
  refine kv_aload_n C 1 rfl 0 (kdec dk_cX10_setKin 0 rfl) rfl rfl ?_
  obtain ⟨x4, e5⟩ : ∃ z : Int32, w 61 13 = z := ⟨_, rfl⟩
  have b6 : (0 : Int) ≤ x4.toInt ∧ x4.toInt ≤ 13 := by rw [← e5]; exact hI 61 13
  refine kv_get C 4 rfl 61 13 rfl rfl inX10 (by decide) mfl_TaleMachineModel_148 rfl rfl (kdec dk_cX10_setKin 1 rfl) e5 ?_
  refine kv_if_ne C 7 rfl 28 (kdec dk_cX10_setKin 2 rfl) (by decide) (fun d7 => ?_) (fun d7 => ?_)
  · skip
    exact kv_vret C hr hlk (kdec dk_cX10_setKin 18 rfl) ⟨rfl, hI, hF0⟩
  · skip
    refine kv_aload_n C 8 rfl 0 (kdec dk_cX10_setKin 3 rfl) rfl rfl ?_
    refine kv_aload_n C 9 rfl 0 (kdec dk_cX10_setKin 4 rfl) rfl rfl ?_
    obtain ⟨x8, e9⟩ : ∃ z : Int32, w 61 9 = z := ⟨_, rfl⟩
    have b10 : (0 : Int) ≤ x8.toInt ∧ x8.toInt ≤ 65535 := by rw [← e9]; exact hI 61 9
    refine kv_get C 12 rfl 61 9 rfl rfl inX10 (by decide) mfl_TaleMachineModel_124 rfl rfl (kdec dk_cX10_setKin 5 rfl) e9 ?_
    refine kv_bipush C 14 rfl 62 (kdec dk_cX10_setKin 6 rfl) rfl ?_
    refine kv_iadd C 15 rfl (kdec dk_cX10_setKin 7 rfl) (fun x11 q13 h12e h12 h12l h12u => ?_)
    try have h12n : x11.toInt = x8.toInt + (62 : Int32).toInt := by omega
    clear h12 q13
    refine kv_bipush C 17 rfl 9 (kdec dk_cX10_setKin 8 rfl) rfl ?_
    refine kv_iload_n C 18 rfl 1 (kdec dk_cX10_setKin 9 rfl) rfl rfl ?_
    refine kv_iconst C 19 rfl 1 (kdec dk_cX10_setKin 10 rfl) rfl ?_
    refine kv_isub C 20 rfl (kdec dk_cX10_setKin 11 rfl) (fun x14 q16 h15e h15 h15l h15u => ?_)
    try have h15n : x14.toInt = a1.toInt - (1 : Int32).toInt := by omega
    clear h15 q16
    refine kv_imul C 21 rfl (kdec dk_cX10_setKin 12 rfl) (fun x17 h18e h18l h18u => ?_)
    obtain ⟨q19, g20⟩ := kf_mul 9 x14
    rw [← h18e, c_9] at g20
    try have h18n : x17.toInt = 9 * x14.toInt := by omega
    clear g20 q19
    refine kv_iadd C 22 rfl (kdec dk_cX10_setKin 13 rfl) (fun x21 q23 h22e h22 h22l h22u => ?_)
    try have h22n : x21.toInt = x11.toInt + x17.toInt := by omega
    clear h22 q23
    refine kv_iload_n C 23 rfl 2 (kdec dk_cX10_setKin 14 rfl) rfl rfl ?_
    refine kv_iadd C 24 rfl (kdec dk_cX10_setKin 15 rfl) (fun x24 q26 h25e h25 h25l h25u => ?_)
    try have h25n : x24.toInt = x21.toInt + a2.toInt := by omega
    clear h25 q26
    refine kv_iload_n C 25 rfl 3 (kdec dk_cX10_setKin 16 rfl) rfl rfl ?_
    refine kv_callVv (As := [.int x24, .int a3]) (rest := []) C 28 rfl 61 (k_x_putByte l D τ ρ σ w x24 a3 hI ) rfl rfl mml_TaleMachineModel_208 mim_yX10_putByte mse_yX10_putByte mcd_yX10_putByte min_yX10_putByte hd_yX10_putByte rfl rfl rfl (by decide) rfl (Nat.le_of_ble_eq_true rfl) (kdec dk_cX10_setKin 17 rfl) (fun w27 h28 => ?_)
    obtain ⟨I29, f30, p32⟩ := h28
    have F33 : kF [(61, some 13), (64, none)] w w27 := kF_call hF0 f30 (by decide)
    obtain ⟨x34, e35⟩ : ∃ z : Int32, w27 61 13 = z := ⟨_, rfl⟩
    have b36 : (0 : Int) ≤ x34.toInt ∧ x34.toInt ≤ 13 := by rw [← e35]; exact I29 61 13
    rw [e5, e35] at p32
    exact kv_vret C hr hlk (kdec dk_cX10_setKin 18 rfl) ⟨rfl, I29, F33⟩

set_option maxHeartbeats 4000000 in
set_option maxRecDepth 100000 in
theorem k_x_removes (l : Launch) (D : va_G) (τ : Nat → ClassId) (ρ σ : Nat → Nat) (w : kw) (a1 : Int32) (hI : kI false w)  :
    kM l D τ ρ σ yX10_removes cX10_removes 7 none { frames := 4, cells := 0, slots := 0, locals := 144 } [.ref (ρ 61), .int a1] w
      (fun o w' => o = none ∧ kI false w' ∧ kF [(61, some 13), (64, none)] w w') := by
  refine kM_of (own := "TaleMachineModel") rfl (by decide) (Nat.le_of_ble_eq_true rfl) ?_
  intro p e s m args below meth c C hr hlk
  have hF0 : kF [(61, some 13), (64, none)] w w := kF.rf
  have c_0 : (0 : Int32).toInt = 0 := by decide
  have c_1 : (1 : Int32).toInt = 1 := by decide
  have c_4 : (4 : Int32).toInt = 4 := by decide
  have c_5 : (5 : Int32).toInt = 5 := by decide
  have c_6 : (6 : Int32).toInt = 6 := by decide
  have c_11 : (11 : Int32).toInt = 11 := by decide
  have c_255 : (255 : Int32).toInt = 255 := by decide
  refine kV.L (L' := [(0, .ref (ρ 61)), (1, .int a1)]) rfl ?_
  have g1 := kf_rng a1
  have cut177 : ∀ (w_177 : kw) (l1_177 : Int32), kI false w_177 → kF [(61, some 13), (64, none)] w w_177 → kV p l e { frames := 4, cells := 0, slots := 0, locals := 144 } s m args below meth c (kQ below args s D τ ρ (fun o w' => o = none ∧ kI false w' ∧ kF [(61, some 13), (64, none)] w w')) 7 D τ ρ 177 [(0, .ref (ρ 61)), (1, .int l1_177)] [] w_177 := by
    intro w_177 l1_177 I_177 F_177 
    have gl1_177 := kf_rng l1_177
    refine kv_aload_n C 178 rfl 0 (kdec dk_cX10_removes 92 rfl) rfl rfl ?_
    refine kv_iload_n C 179 rfl 1 (kdec dk_cX10_removes 93 rfl) rfl rfl ?_
    refine kv_iconst C 180 rfl 4 (kdec dk_cX10_removes 94 rfl) rfl ?_
    refine kv_iconst C 181 rfl 0 (kdec dk_cX10_removes 95 rfl) rfl ?_
    refine kv_callVv (As := [.int l1_177, .int 4, .int 0]) (rest := []) C 184 rfl 61 (k_x_setKin l D τ ρ σ w_177 l1_177 4 0 I_177 ) rfl rfl mml_TaleMachineModel_215 mim_yX10_setKin mse_yX10_setKin mcd_yX10_setKin min_yX10_setKin hd_yX10_setKin rfl rfl rfl (by decide) rfl (Nat.le_of_ble_eq_true rfl) (kdec dk_cX10_removes 96 rfl) (fun w2 h3 => ?_)
    obtain ⟨I4, f5⟩ := h3
    have F7 : kF [(61, some 13), (64, none)] w w2 := kF_call F_177 f5 (by decide)
    refine kv_aload_n C 185 rfl 0 (kdec dk_cX10_removes 97 rfl) rfl rfl ?_
    refine kv_iload_n C 186 rfl 1 (kdec dk_cX10_removes 98 rfl) rfl rfl ?_
    refine kv_iconst C 187 rfl 5 (kdec dk_cX10_removes 99 rfl) rfl ?_
    refine kv_iconst C 188 rfl 0 (kdec dk_cX10_removes 100 rfl) rfl ?_
    refine kv_callVv (As := [.int l1_177, .int 5, .int 0]) (rest := []) C 191 rfl 61 (k_x_setKin l D τ ρ σ w2 l1_177 5 0 I4 ) rfl rfl mml_TaleMachineModel_215 mim_yX10_setKin mse_yX10_setKin mcd_yX10_setKin min_yX10_setKin hd_yX10_setKin rfl rfl rfl (by decide) rfl (Nat.le_of_ble_eq_true rfl) (kdec dk_cX10_removes 101 rfl) (fun w8 h9 => ?_)
    obtain ⟨I10, f11⟩ := h9
    have F13 : kF [(61, some 13), (64, none)] w w8 := kF_call F7 f11 (by decide)
    exact kv_vret C hr hlk (kdec dk_cX10_removes 102 rfl) ⟨rfl, I10, F13⟩
  have cut154 : ∀ (w_154 : kw) (l1_154 l3_154 : Int32), kI false w_154 → kF [(61, some 13), (64, none)] w w_154 → kV p l e { frames := 4, cells := 0, slots := 0, locals := 144 } s m args below meth c (kQ below args s D τ ρ (fun o w' => o = none ∧ kI false w' ∧ kF [(61, some 13), (64, none)] w w')) 7 D τ ρ 154 [(0, .ref (ρ 61)), (1, .int l1_154), (3, .int l3_154)] [] w_154 := by
    intro w_154 l1_154 l3_154 I_154 F_154 
    have gl1_154 := kf_rng l1_154
    have gl3_154 := kf_rng l3_154
    refine kv_aload_n C 155 rfl 0 (kdec dk_cX10_removes 79 rfl) rfl rfl ?_
    obtain ⟨x14, e15⟩ : ∃ z : Int32, w_154 61 13 = z := ⟨_, rfl⟩
    have b16 : (0 : Int) ≤ x14.toInt ∧ x14.toInt ≤ 13 := by rw [← e15]; exact I_154 61 13
    refine kv_get C 158 rfl 61 13 rfl rfl inX10 (by decide) mfl_TaleMachineModel_148 rfl rfl (kdec dk_cX10_removes 80 rfl) e15 ?_
    refine kv_if_ne C 161 rfl 177 (kdec dk_cX10_removes 81 rfl) (by decide) (fun d17 => ?_) (fun d17 => ?_)
    · skip
      refine kV.sub [0, 1] (L' := [(0, .ref (ρ 61)), (1, .int l1_154)]) rfl ?_
      exact cut177 w_154 l1_154 I_154 F_154 
    · skip
      refine kv_aload_n C 162 rfl 0 (kdec dk_cX10_removes 82 rfl) rfl rfl ?_
      refine kv_iload_n C 163 rfl 1 (kdec dk_cX10_removes 83 rfl) rfl rfl ?_
      refine kv_iconst C 164 rfl 5 (kdec dk_cX10_removes 84 rfl) rfl ?_
      refine kv_callVi (As := [.int l1_154, .int 5]) (rest := []) C 167 rfl 61 (k_x_kin l D τ ρ σ w_154 l1_154 5 I_154 ) rfl rfl mml_TaleMachineModel_211 mim_yX10_kin mse_yX10_kin mcd_yX10_kin min_yX10_kin hd_yX10_kin rfl rfl rfl (by decide) rfl (Nat.le_of_ble_eq_true rfl) (kdec dk_cX10_removes 85 rfl) (fun x22 w18 h19 => ?_)
      obtain ⟨I20, f21, p23⟩ := h19
      have F24 : kF [(61, some 13), (64, none)] w w18 := kF_call F_154 f21 (by decide)
      have g25 := kf_rng x22
      refine kv_istore C 169 rfl 5 [1, 2, 3, 0] [(0, .ref (ρ 61)), (1, .int l1_154), (3, .int l3_154), (5, .int x22)] (kdec dk_cX10_removes 86 rfl) (by decide) rfl ?_
      refine kv_aload_n C 170 rfl 0 (kdec dk_cX10_removes 87 rfl) rfl rfl ?_
      refine kv_iload_n C 171 rfl 2 (kdec dk_cX10_removes 88 rfl) rfl rfl ?_
      refine kv_iconst C 172 rfl 5 (kdec dk_cX10_removes 89 rfl) rfl ?_
      refine kv_iload C 174 rfl 3 (kdec dk_cX10_removes 90 rfl) rfl ?_
      refine kv_callVv (As := [.int l3_154, .int 5, .int x22]) (rest := []) C 177 rfl 61 (k_x_setKin l D τ ρ σ w18 l3_154 5 x22 I20 ) rfl rfl mml_TaleMachineModel_215 mim_yX10_setKin mse_yX10_setKin mcd_yX10_setKin min_yX10_setKin hd_yX10_setKin rfl rfl rfl (by decide) rfl (Nat.le_of_ble_eq_true rfl) (kdec dk_cX10_removes 91 rfl) (fun w26 h27 => ?_)
      obtain ⟨I28, f29⟩ := h27
      have F31 : kF [(61, some 13), (64, none)] w w26 := kF_call F24 f29 (by decide)
      refine kV.sub [0, 1] (L' := [(0, .ref (ρ 61)), (1, .int l1_154)]) rfl ?_
      exact cut177 w26 l1_154 I28 F31 
  have cut136 : ∀ (w_136 : kw) (l1_136 l3_136 l4_136 : Int32), kI false w_136 → kF [(61, some 13), (64, none)] w w_136 → kV p l e { frames := 4, cells := 0, slots := 0, locals := 144 } s m args below meth c (kQ below args s D τ ρ (fun o w' => o = none ∧ kI false w' ∧ kF [(61, some 13), (64, none)] w w')) 7 D τ ρ 136 [(0, .ref (ρ 61)), (1, .int l1_136), (3, .int l3_136), (4, .int l4_136)] [] w_136 := by
    intro w_136 l1_136 l3_136 l4_136 I_136 F_136 
    have gl1_136 := kf_rng l1_136
    have gl3_136 := kf_rng l3_136
    have gl4_136 := kf_rng l4_136
    refine kv_aload_n C 137 rfl 0 (kdec dk_cX10_removes 71 rfl) rfl rfl ?_
    obtain ⟨x32, e33⟩ : ∃ z : Int32, w_136 61 13 = z := ⟨_, rfl⟩
    have b34 : (0 : Int) ≤ x32.toInt ∧ x32.toInt ≤ 13 := by rw [← e33]; exact I_136 61 13
    refine kv_get C 140 rfl 61 13 rfl rfl inX10 (by decide) mfl_TaleMachineModel_148 rfl rfl (kdec dk_cX10_removes 72 rfl) e33 ?_
    refine kv_if_ne C 143 rfl 154 (kdec dk_cX10_removes 73 rfl) (by decide) (fun d35 => ?_) (fun d35 => ?_)
    · skip
      refine kV.sub [0, 1, 2] (L' := [(0, .ref (ρ 61)), (1, .int l1_136), (3, .int l3_136)]) rfl ?_
      exact cut154 w_136 l1_136 l3_136 I_136 F_136 
    · skip
      refine kv_iload C 145 rfl 3 (kdec dk_cX10_removes 74 rfl) rfl ?_
      refine kv_if_ne C 148 rfl 154 (kdec dk_cX10_removes 75 rfl) (by decide) (fun d36 => ?_) (fun d36 => ?_)
      · skip
        refine kV.sub [0, 1, 2] (L' := [(0, .ref (ρ 61)), (1, .int l1_136), (3, .int l3_136)]) rfl ?_
        exact cut154 w_136 l1_136 l3_136 I_136 F_136 
      · skip
        refine kv_aload_n C 149 rfl 0 (kdec dk_cX10_removes 76 rfl) rfl rfl ?_
        refine kv_bipush C 151 rfl 11 (kdec dk_cX10_removes 77 rfl) rfl ?_
        refine kv_callVv (As := [.int 11]) (rest := []) C 154 rfl 61 (k_x_halts l D τ ρ σ w_136 11 I_136 (by omega)) rfl rfl mml_TaleMachineModel_160 mim_yX10_halts mse_yX10_halts mcd_yX10_halts min_yX10_halts hd_yX10_halts rfl rfl rfl (by decide) rfl (Nat.le_of_ble_eq_true rfl) (kdec dk_cX10_removes 78 rfl) (fun w37 h38 => ?_)
        obtain ⟨I39, f40, p42⟩ := h38
        have F43 : kF [(61, some 13), (64, none)] w w37 := kF_call F_136 f40 (by decide)
        obtain ⟨x44, e45⟩ : ∃ z : Int32, w37 61 13 = z := ⟨_, rfl⟩
        have b46 : (0 : Int) ≤ x44.toInt ∧ x44.toInt ≤ 13 := by rw [← e45]; exact I39 61 13
        rw [e33, e45] at p42
        refine kV.sub [0, 1, 2] (L' := [(0, .ref (ρ 61)), (1, .int l1_136), (3, .int l3_136)]) rfl ?_
        exact cut154 w37 l1_136 l3_136 I39 F43 
  have cut66 : ∀ (n_66 : Nat) (w_66 : kw) (l1_66 l3_66 l4_66 l5_66 : Int32), kI false w_66 → kF [(61, some 13), (64, none)] w w_66 → (0 ≤ l5_66.toInt ∧ l5_66.toInt ≤ 255) → ((256 - l5_66.toInt) : Int) < (n_66 : Int) → kV p l e { frames := 4, cells := 0, slots := 0, locals := 144 } s m args below meth c (kQ below args s D τ ρ (fun o w' => o = none ∧ kI false w' ∧ kF [(61, some 13), (64, none)] w w')) 7 D τ ρ 66 [(0, .ref (ρ 61)), (1, .int l1_66), (3, .int l3_66), (4, .int l4_66), (5, .int l5_66)] [] w_66 := by
    intro n_66
    induction n_66 with
    | zero => intro w_66 l1_66 l3_66 l4_66 l5_66 I_66 F_66 k66_0 hmz; exfalso; omega
    | succ n_66 ih66 =>
      intro w_66 l1_66 l3_66 l4_66 l5_66 I_66 F_66 k66_0 hm66
      have gl1_66 := kf_rng l1_66
      have gl3_66 := kf_rng l3_66
      have gl4_66 := kf_rng l4_66
      have gl5_66 := kf_rng l5_66
      have cut116 : ∀ (w_116 : kw) (l1_116 l3_116 l5_116 l6_116 s0_116 : Int32), kI false w_116 → kF [(61, some 13), (64, none)] w w_116 → (0 ≤ l5_116.toInt ∧ l5_116.toInt < 255 ∧ l5_116.toInt = l5_66.toInt) → kV p l e { frames := 4, cells := 0, slots := 0, locals := 144 } s m args below meth c (kQ below args s D τ ρ (fun o w' => o = none ∧ kI false w' ∧ kF [(61, some 13), (64, none)] w w')) 7 D τ ρ 116 [(0, .ref (ρ 61)), (1, .int l1_116), (3, .int l3_116), (5, .int l5_116), (6, .int l6_116)] [.int s0_116] w_116 := by
        intro w_116 l1_116 l3_116 l5_116 l6_116 s0_116 I_116 F_116 k116_0
        have gl1_116 := kf_rng l1_116
        have gl3_116 := kf_rng l3_116
        have gl5_116 := kf_rng l5_116
        have gl6_116 := kf_rng l6_116
        have gs0_116 := kf_rng s0_116
        refine kv_istore C 118 rfl 4 [1, 2, 3, 0, 4, 5] [(0, .ref (ρ 61)), (1, .int l1_116), (3, .int l3_116), (4, .int s0_116), (5, .int l5_116), (6, .int l6_116)] (kdec dk_cX10_removes 62 rfl) (by decide) rfl ?_
        refine kv_iload C 120 rfl 3 (kdec dk_cX10_removes 63 rfl) rfl ?_
        refine kv_if_eq C 123 rfl 127 (kdec dk_cX10_removes 64 rfl) (by decide) (fun d47 => ?_) (fun d47 => ?_)
        · skip
          refine kv_iload C 129 rfl 5 (kdec dk_cX10_removes 67 rfl) rfl ?_
          refine kv_istore_n C 130 rfl 3 [1, 2, 0, 3, 4, 5] [(0, .ref (ρ 61)), (1, .int l1_116), (3, .int l6_116), (4, .int s0_116), (5, .int l5_116), (6, .int l6_116)] (kdec dk_cX10_removes 68 rfl) rfl (by decide) rfl ?_
          refine kv_iinc C 133 rfl 5 4 [1, 2, 3, 4, 0, 5] (fun v9 => [(0, .ref (ρ 61)), (1, .int l1_116), (3, .int l6_116), (4, .int s0_116), (5, .int v9), (6, .int l6_116)]) (kdec dk_cX10_removes 69 rfl) rfl (by decide) (fun _ => rfl) 1 rfl (fun x48 q49 h50e h50 h50l h50u => ?_)
          try have h50n : x48.toInt = l5_116.toInt + 1 := by omega
          clear h50 q49
          refine kv_goto C 66 (kdec dk_cX10_removes 70 rfl) (by decide) ?_
          refine kV.sub [0, 1, 2, 3, 4] (L' := [(0, .ref (ρ 61)), (1, .int l1_116), (3, .int l6_116), (4, .int s0_116), (5, .int x48)]) rfl ?_
          exact ih66 w_116 l1_116 l6_116 s0_116 x48 I_116 F_116 (by omega) (by omega)
        · skip
          refine kv_iload_n C 124 rfl 2 (kdec dk_cX10_removes 65 rfl) rfl rfl ?_
          refine kv_goto C 129 (kdec dk_cX10_removes 66 rfl) (by decide) ?_
          refine kv_istore_n C 130 rfl 3 [1, 2, 0, 3, 4, 5] [(0, .ref (ρ 61)), (1, .int l1_116), (3, .int l3_116), (4, .int s0_116), (5, .int l5_116), (6, .int l6_116)] (kdec dk_cX10_removes 68 rfl) rfl (by decide) rfl ?_
          refine kv_iinc C 133 rfl 5 4 [1, 2, 3, 4, 0, 5] (fun v9 => [(0, .ref (ρ 61)), (1, .int l1_116), (3, .int l3_116), (4, .int s0_116), (5, .int v9), (6, .int l6_116)]) (kdec dk_cX10_removes 69 rfl) rfl (by decide) (fun _ => rfl) 1 rfl (fun x51 q52 h53e h53 h53l h53u => ?_)
          try have h53n : x51.toInt = l5_116.toInt + 1 := by omega
          clear h53 q52
          refine kv_goto C 66 (kdec dk_cX10_removes 70 rfl) (by decide) ?_
          refine kV.sub [0, 1, 2, 3, 4] (L' := [(0, .ref (ρ 61)), (1, .int l1_116), (3, .int l3_116), (4, .int s0_116), (5, .int x51)]) rfl ?_
          exact ih66 w_116 l1_116 l3_116 s0_116 x51 I_116 F_116 (by omega) (by omega)
      refine kv_iload C 68 rfl 4 (kdec dk_cX10_removes 38 rfl) rfl ?_
      refine kv_sipush C 71 rfl 255 (kdec dk_cX10_removes 39 rfl) rfl ?_
      refine kv_icmp_ge C 74 rfl 136 (kdec dk_cX10_removes 40 rfl) (by decide) (fun d54 => ?_) (fun d54 => ?_)
      · skip
        refine kV.sub [0, 1, 2, 3] (L' := [(0, .ref (ρ 61)), (1, .int l1_66), (3, .int l3_66), (4, .int l4_66)]) rfl ?_
        exact cut136 w_66 l1_66 l3_66 l4_66 I_66 F_66 
      · skip
        refine kv_iload C 76 rfl 3 (kdec dk_cX10_removes 41 rfl) rfl ?_
        refine kv_if_ne C 79 rfl 136 (kdec dk_cX10_removes 42 rfl) (by decide) (fun d55 => ?_) (fun d55 => ?_)
        · skip
          refine kV.sub [0, 1, 2, 3] (L' := [(0, .ref (ρ 61)), (1, .int l1_66), (3, .int l3_66), (4, .int l4_66)]) rfl ?_
          exact cut136 w_66 l1_66 l3_66 l4_66 I_66 F_66 
        · skip
          refine kv_aload_n C 80 rfl 0 (kdec dk_cX10_removes 43 rfl) rfl rfl ?_
          obtain ⟨x56, e57⟩ : ∃ z : Int32, w_66 61 13 = z := ⟨_, rfl⟩
          have b58 : (0 : Int) ≤ x56.toInt ∧ x56.toInt ≤ 13 := by rw [← e57]; exact I_66 61 13
          refine kv_get C 83 rfl 61 13 rfl rfl inX10 (by decide) mfl_TaleMachineModel_148 rfl rfl (kdec dk_cX10_removes 44 rfl) e57 ?_
          refine kv_if_ne C 86 rfl 136 (kdec dk_cX10_removes 45 rfl) (by decide) (fun d59 => ?_) (fun d59 => ?_)
          · skip
            refine kV.sub [0, 1, 2, 3] (L' := [(0, .ref (ρ 61)), (1, .int l1_66), (3, .int l3_66), (4, .int l4_66)]) rfl ?_
            exact cut136 w_66 l1_66 l3_66 l4_66 I_66 F_66 
          · skip
            refine kv_iload_n C 87 rfl 2 (kdec dk_cX10_removes 46 rfl) rfl rfl ?_
            refine kv_if_le C 90 rfl 136 (kdec dk_cX10_removes 47 rfl) (by decide) (fun d60 => ?_) (fun d60 => ?_)
            · skip
              refine kV.sub [0, 1, 2, 3] (L' := [(0, .ref (ρ 61)), (1, .int l1_66), (3, .int l3_66), (4, .int l4_66)]) rfl ?_
              exact cut136 w_66 l1_66 l3_66 l4_66 I_66 F_66 
            · skip
              refine kv_aload_n C 91 rfl 0 (kdec dk_cX10_removes 48 rfl) rfl rfl ?_
              refine kv_iload_n C 92 rfl 2 (kdec dk_cX10_removes 49 rfl) rfl rfl ?_
              refine kv_iconst C 93 rfl 5 (kdec dk_cX10_removes 50 rfl) rfl ?_
              refine kv_callVi (As := [.int l3_66, .int 5]) (rest := []) C 96 rfl 61 (k_x_kin l D τ ρ σ w_66 l3_66 5 I_66 ) rfl rfl mml_TaleMachineModel_211 mim_yX10_kin mse_yX10_kin mcd_yX10_kin min_yX10_kin hd_yX10_kin rfl rfl rfl (by decide) rfl (Nat.le_of_ble_eq_true rfl) (kdec dk_cX10_removes 51 rfl) (fun x65 w61 h62 => ?_)
              obtain ⟨I63, f64, p66⟩ := h62
              have F67 : kF [(61, some 13), (64, none)] w w61 := kF_call F_66 f64 (by decide)
              have g68 := kf_rng x65
              refine kv_istore C 98 rfl 6 [1, 2, 3, 4, 5, 0] [(0, .ref (ρ 61)), (1, .int l1_66), (3, .int l3_66), (4, .int l4_66), (5, .int l5_66), (6, .int x65)] (kdec dk_cX10_removes 52 rfl) (by decide) rfl ?_
              refine kv_iload C 100 rfl 5 (kdec dk_cX10_removes 53 rfl) rfl ?_
              refine kv_iload_n C 101 rfl 1 (kdec dk_cX10_removes 54 rfl) rfl rfl ?_
              refine kv_icmp_ne C 104 rfl 115 (kdec dk_cX10_removes 55 rfl) (by decide) (fun d69 => ?_) (fun d69 => ?_)
              · skip
                refine kv_iconst C 116 rfl 0 (kdec dk_cX10_removes 61 rfl) rfl ?_
                refine kV.sub [0, 1, 2, 4, 5] (L' := [(0, .ref (ρ 61)), (1, .int l1_66), (3, .int l3_66), (5, .int l5_66), (6, .int x65)]) rfl ?_
                exact cut116 w61 l1_66 l3_66 l5_66 x65 0 I63 F67 (by omega)
              · skip
                refine kv_aload_n C 105 rfl 0 (kdec dk_cX10_removes 56 rfl) rfl rfl ?_
                obtain ⟨x70, e71⟩ : ∃ z : Int32, w61 61 13 = z := ⟨_, rfl⟩
                have b72 : (0 : Int) ≤ x70.toInt ∧ x70.toInt ≤ 13 := by rw [← e71]; exact I63 61 13
                refine kv_get C 108 rfl 61 13 rfl rfl inX10 (by decide) mfl_TaleMachineModel_148 rfl rfl (kdec dk_cX10_removes 57 rfl) e71 ?_
                refine kv_if_ne C 111 rfl 115 (kdec dk_cX10_removes 58 rfl) (by decide) (fun d73 => ?_) (fun d73 => ?_)
                · skip
                  refine kv_iconst C 116 rfl 0 (kdec dk_cX10_removes 61 rfl) rfl ?_
                  refine kV.sub [0, 1, 2, 4, 5] (L' := [(0, .ref (ρ 61)), (1, .int l1_66), (3, .int l3_66), (5, .int l5_66), (6, .int x65)]) rfl ?_
                  exact cut116 w61 l1_66 l3_66 l5_66 x65 0 I63 F67 (by omega)
                · skip
                  refine kv_iconst C 112 rfl 1 (kdec dk_cX10_removes 59 rfl) rfl ?_
                  refine kv_goto C 116 (kdec dk_cX10_removes 60 rfl) (by decide) ?_
                  refine kV.sub [0, 1, 2, 4, 5] (L' := [(0, .ref (ρ 61)), (1, .int l1_66), (3, .int l3_66), (5, .int l5_66), (6, .int x65)]) rfl ?_
                  exact cut116 w61 l1_66 l3_66 l5_66 x65 1 I63 F67 (by omega)
  refine kv_aload_n C 1 rfl 0 (kdec dk_cX10_removes 0 rfl) rfl rfl ?_
  refine kv_iload_n C 2 rfl 1 (kdec dk_cX10_removes 1 rfl) rfl rfl ?_
  refine kv_iconst C 3 rfl 4 (kdec dk_cX10_removes 2 rfl) rfl ?_
  refine kv_callVi (As := [.int a1, .int 4]) (rest := []) C 6 rfl 61 (k_x_kin l D τ ρ σ w a1 4 hI ) rfl rfl mml_TaleMachineModel_211 mim_yX10_kin mse_yX10_kin mcd_yX10_kin min_yX10_kin hd_yX10_kin rfl rfl rfl (by decide) rfl (Nat.le_of_ble_eq_true rfl) (kdec dk_cX10_removes 3 rfl) (fun x78 w74 h75 => ?_)
  obtain ⟨I76, f77, p79⟩ := h75
  have F80 : kF [(61, some 13), (64, none)] w w74 := kF_call hF0 f77 (by decide)
  have g81 := kf_rng x78
  refine kv_istore_n C 7 rfl 2 [1, 2, 0] [(0, .ref (ρ 61)), (1, .int a1), (2, .int x78)] (kdec dk_cX10_removes 4 rfl) rfl (by decide) rfl ?_
  refine kv_aload_n C 8 rfl 0 (kdec dk_cX10_removes 5 rfl) rfl rfl ?_
  obtain ⟨x82, e83⟩ : ∃ z : Int32, w74 61 13 = z := ⟨_, rfl⟩
  have b84 : (0 : Int) ≤ x82.toInt ∧ x82.toInt ≤ 13 := by rw [← e83]; exact I76 61 13
  refine kv_get C 11 rfl 61 13 rfl rfl inX10 (by decide) mfl_TaleMachineModel_148 rfl rfl (kdec dk_cX10_removes 6 rfl) e83 ?_
  refine kv_if_le C 14 rfl 15 (kdec dk_cX10_removes 7 rfl) (by decide) (fun d85 => ?_) (fun d85 => ?_)
  · skip
    refine kv_iload_n C 16 rfl 2 (kdec dk_cX10_removes 9 rfl) rfl rfl ?_
    refine kv_if_le C 19 rfl 177 (kdec dk_cX10_removes 10 rfl) (by decide) (fun d86 => ?_) (fun d86 => ?_)
    · skip
      refine kV.sub [0, 1] (L' := [(0, .ref (ρ 61)), (1, .int a1)]) rfl ?_
      exact cut177 w74 a1 I76 F80 
    · skip
      refine kv_aload_n C 20 rfl 0 (kdec dk_cX10_removes 11 rfl) rfl rfl ?_
      refine kv_iload_n C 21 rfl 2 (kdec dk_cX10_removes 12 rfl) rfl rfl ?_
      refine kv_bipush C 23 rfl 6 (kdec dk_cX10_removes 13 rfl) rfl ?_
      refine kv_callVi (As := [.int x78, .int 6]) (rest := []) C 26 rfl 61 (k_x_kin l D τ ρ σ w74 x78 6 I76 ) rfl rfl mml_TaleMachineModel_211 mim_yX10_kin mse_yX10_kin mcd_yX10_kin min_yX10_kin hd_yX10_kin rfl rfl rfl (by decide) rfl (Nat.le_of_ble_eq_true rfl) (kdec dk_cX10_removes 14 rfl) (fun x91 w87 h88 => ?_)
      obtain ⟨I89, f90, p92⟩ := h88
      have F93 : kF [(61, some 13), (64, none)] w w87 := kF_call F80 f90 (by decide)
      have g94 := kf_rng x91
      refine kv_istore_n C 27 rfl 3 [1, 2, 3, 0] [(0, .ref (ρ 61)), (1, .int a1), (2, .int x78), (3, .int x91)] (kdec dk_cX10_removes 15 rfl) rfl (by decide) rfl ?_
      refine kv_aload_n C 28 rfl 0 (kdec dk_cX10_removes 16 rfl) rfl rfl ?_
      obtain ⟨x95, e96⟩ : ∃ z : Int32, w87 61 13 = z := ⟨_, rfl⟩
      have b97 : (0 : Int) ≤ x95.toInt ∧ x95.toInt ≤ 13 := by rw [← e96]; exact I89 61 13
      refine kv_get C 31 rfl 61 13 rfl rfl inX10 (by decide) mfl_TaleMachineModel_148 rfl rfl (kdec dk_cX10_removes 17 rfl) e96 ?_
      refine kv_if_le C 34 rfl 35 (kdec dk_cX10_removes 18 rfl) (by decide) (fun d98 => ?_) (fun d98 => ?_)
      · skip
        refine kv_iload_n C 36 rfl 3 (kdec dk_cX10_removes 20 rfl) rfl rfl ?_
        refine kv_iload_n C 37 rfl 1 (kdec dk_cX10_removes 21 rfl) rfl rfl ?_
        refine kv_icmp_ne C 40 rfl 60 (kdec dk_cX10_removes 22 rfl) (by decide) (fun d99 => ?_) (fun d99 => ?_)
        · skip
          refine kv_iconst C 61 rfl 0 (kdec dk_cX10_removes 34 rfl) rfl ?_
          refine kv_istore C 63 rfl 4 [1, 2, 3, 4, 0] [(0, .ref (ρ 61)), (1, .int a1), (2, .int x78), (3, .int x91), (4, .int 0)] (kdec dk_cX10_removes 35 rfl) (by decide) rfl ?_
          refine kv_iconst C 64 rfl 0 (kdec dk_cX10_removes 36 rfl) rfl ?_
          refine kv_istore C 66 rfl 5 [1, 2, 3, 4, 5, 0] [(0, .ref (ρ 61)), (1, .int a1), (2, .int x78), (3, .int x91), (4, .int 0), (5, .int 0)] (kdec dk_cX10_removes 37 rfl) (by decide) rfl ?_
          refine kV.sub [0, 1, 3, 4, 5] (L' := [(0, .ref (ρ 61)), (1, .int a1), (3, .int x91), (4, .int 0), (5, .int 0)]) rfl ?_
          exact cut66 ((((256 - (0 : Int32).toInt)) : Int).toNat + 1) w87 a1 x91 0 0 I89 F93 (by omega) (by omega)
        · skip
          refine kv_aload_n C 41 rfl 0 (kdec dk_cX10_removes 23 rfl) rfl rfl ?_
          refine kv_iload_n C 42 rfl 1 (kdec dk_cX10_removes 24 rfl) rfl rfl ?_
          refine kv_iconst C 43 rfl 5 (kdec dk_cX10_removes 25 rfl) rfl ?_
          refine kv_callVi (As := [.int a1, .int 5]) (rest := []) C 46 rfl 61 (k_x_kin l D τ ρ σ w87 a1 5 I89 ) rfl rfl mml_TaleMachineModel_211 mim_yX10_kin mse_yX10_kin mcd_yX10_kin min_yX10_kin hd_yX10_kin rfl rfl rfl (by decide) rfl (Nat.le_of_ble_eq_true rfl) (kdec dk_cX10_removes 26 rfl) (fun x104 w100 h101 => ?_)
          obtain ⟨I102, f103, p105⟩ := h101
          have F106 : kF [(61, some 13), (64, none)] w w100 := kF_call F93 f103 (by decide)
          have g107 := kf_rng x104
          refine kv_istore C 48 rfl 4 [1, 2, 3, 4, 0] [(0, .ref (ρ 61)), (1, .int a1), (2, .int x78), (3, .int x91), (4, .int x104)] (kdec dk_cX10_removes 27 rfl) (by decide) rfl ?_
          refine kv_aload_n C 49 rfl 0 (kdec dk_cX10_removes 28 rfl) rfl rfl ?_
          refine kv_iload_n C 50 rfl 2 (kdec dk_cX10_removes 29 rfl) rfl rfl ?_
          refine kv_bipush C 52 rfl 6 (kdec dk_cX10_removes 30 rfl) rfl ?_
          refine kv_iload C 54 rfl 4 (kdec dk_cX10_removes 31 rfl) rfl ?_
          refine kv_callVv (As := [.int x78, .int 6, .int x104]) (rest := []) C 57 rfl 61 (k_x_setKin l D τ ρ σ w100 x78 6 x104 I102 ) rfl rfl mml_TaleMachineModel_215 mim_yX10_setKin mse_yX10_setKin mcd_yX10_setKin min_yX10_setKin hd_yX10_setKin rfl rfl rfl (by decide) rfl (Nat.le_of_ble_eq_true rfl) (kdec dk_cX10_removes 32 rfl) (fun w108 h109 => ?_)
          obtain ⟨I110, f111⟩ := h109
          have F113 : kF [(61, some 13), (64, none)] w w108 := kF_call F106 f111 (by decide)
          refine kv_goto C 177 (kdec dk_cX10_removes 33 rfl) (by decide) ?_
          refine kV.sub [0, 1] (L' := [(0, .ref (ρ 61)), (1, .int a1)]) rfl ?_
          exact cut177 w108 a1 I110 F113 
      · skip
        exact kv_vret C hr hlk (kdec dk_cX10_removes 19 rfl) ⟨rfl, I89, F93⟩
  · skip
    exact kv_vret C hr hlk (kdec dk_cX10_removes 8 rfl) ⟨rfl, I76, F80⟩

set_option maxHeartbeats 4000000 in
set_option maxRecDepth 100000 in
theorem k_x_inserts (l : Launch) (D : va_G) (τ : Nat → ClassId) (ρ σ : Nat → Nat) (w : kw) (a1 : Int32) (a2 : Int32) (hI : kI false w)  :
    kM l D τ ρ σ yX10_inserts cX10_inserts 6 none { frames := 5, cells := 0, slots := 0, locals := 180 } [.ref (ρ 61), .int a1, .int a2] w
      (fun o w' => o = none ∧ kI false w' ∧ kF [(61, some 13), (64, none)] w w') := by
  refine kM_of (own := "TaleMachineModel") rfl (by decide) (Nat.le_of_ble_eq_true rfl) ?_
  intro p e s m args below meth c C hr hlk
  have hF0 : kF [(61, some 13), (64, none)] w w := kF.rf
  have c_4 : (4 : Int32).toInt = 4 := by decide
  have c_5 : (5 : Int32).toInt = 5 := by decide
  have c_6 : (6 : Int32).toInt = 6 := by decide
  refine kV.L (L' := [(0, .ref (ρ 61)), (1, .int a1), (2, .int a2)]) rfl ?_
  have g1 := kf_rng a1
  have g2 := kf_rng a2
  have cut32 : ∀ (w_32 : kw) (l1_32 l2_32 : Int32), kI false w_32 → kF [(61, some 13), (64, none)] w w_32 → kV p l e { frames := 5, cells := 0, slots := 0, locals := 180 } s m args below meth c (kQ below args s D τ ρ (fun o w' => o = none ∧ kI false w' ∧ kF [(61, some 13), (64, none)] w w')) 6 D τ ρ 32 [(0, .ref (ρ 61)), (1, .int l1_32), (2, .int l2_32)] [] w_32 := by
    intro w_32 l1_32 l2_32 I_32 F_32 
    have gl1_32 := kf_rng l1_32
    have gl2_32 := kf_rng l2_32
    refine kv_aload_n C 33 rfl 0 (kdec dk_cX10_inserts 19 rfl) rfl rfl ?_
    obtain ⟨x3, e4⟩ : ∃ z : Int32, w_32 61 13 = z := ⟨_, rfl⟩
    have b5 : (0 : Int) ≤ x3.toInt ∧ x3.toInt ≤ 13 := by rw [← e4]; exact I_32 61 13
    refine kv_get C 36 rfl 61 13 rfl rfl inX10 (by decide) mfl_TaleMachineModel_148 rfl rfl (kdec dk_cX10_inserts 20 rfl) e4 ?_
    refine kv_if_ne C 39 rfl 64 (kdec dk_cX10_inserts 21 rfl) (by decide) (fun d6 => ?_) (fun d6 => ?_)
    · skip
      exact kv_vret C hr hlk (kdec dk_cX10_inserts 37 rfl) ⟨rfl, I_32, F_32⟩
    · skip
      refine kv_aload_n C 40 rfl 0 (kdec dk_cX10_inserts 22 rfl) rfl rfl ?_
      refine kv_iload_n C 41 rfl 2 (kdec dk_cX10_inserts 23 rfl) rfl rfl ?_
      refine kv_bipush C 43 rfl 6 (kdec dk_cX10_inserts 24 rfl) rfl ?_
      refine kv_callVi (As := [.int l2_32, .int 6]) (rest := []) C 46 rfl 61 (k_x_kin l D τ ρ σ w_32 l2_32 6 I_32 ) rfl rfl mml_TaleMachineModel_211 mim_yX10_kin mse_yX10_kin mcd_yX10_kin min_yX10_kin hd_yX10_kin rfl rfl rfl (by decide) rfl (Nat.le_of_ble_eq_true rfl) (kdec dk_cX10_inserts 25 rfl) (fun x11 w7 h8 => ?_)
      obtain ⟨I9, f10, p12⟩ := h8
      have F13 : kF [(61, some 13), (64, none)] w w7 := kF_call F_32 f10 (by decide)
      have g14 := kf_rng x11
      refine kv_istore C 48 rfl 5 [1, 2, 3, 0] [(0, .ref (ρ 61)), (1, .int l1_32), (2, .int l2_32), (5, .int x11)] (kdec dk_cX10_inserts 26 rfl) (by decide) rfl ?_
      refine kv_aload_n C 49 rfl 0 (kdec dk_cX10_inserts 27 rfl) rfl rfl ?_
      refine kv_iload_n C 50 rfl 1 (kdec dk_cX10_inserts 28 rfl) rfl rfl ?_
      refine kv_iconst C 51 rfl 5 (kdec dk_cX10_inserts 29 rfl) rfl ?_
      refine kv_iload C 53 rfl 3 (kdec dk_cX10_inserts 30 rfl) rfl ?_
      refine kv_callVv (As := [.int l1_32, .int 5, .int x11]) (rest := []) C 56 rfl 61 (k_x_setKin l D τ ρ σ w7 l1_32 5 x11 I9 ) rfl rfl mml_TaleMachineModel_215 mim_yX10_setKin mse_yX10_setKin mcd_yX10_setKin min_yX10_setKin hd_yX10_setKin rfl rfl rfl (by decide) rfl (Nat.le_of_ble_eq_true rfl) (kdec dk_cX10_inserts 31 rfl) (fun w15 h16 => ?_)
      obtain ⟨I17, f18⟩ := h16
      have F20 : kF [(61, some 13), (64, none)] w w15 := kF_call F13 f18 (by decide)
      refine kv_aload_n C 57 rfl 0 (kdec dk_cX10_inserts 32 rfl) rfl rfl ?_
      refine kv_iload_n C 58 rfl 2 (kdec dk_cX10_inserts 33 rfl) rfl rfl ?_
      refine kv_bipush C 60 rfl 6 (kdec dk_cX10_inserts 34 rfl) rfl ?_
      refine kv_iload_n C 61 rfl 1 (kdec dk_cX10_inserts 35 rfl) rfl rfl ?_
      refine kv_callVv (As := [.int l2_32, .int 6, .int l1_32]) (rest := []) C 64 rfl 61 (k_x_setKin l D τ ρ σ w15 l2_32 6 l1_32 I17 ) rfl rfl mml_TaleMachineModel_215 mim_yX10_setKin mse_yX10_setKin mcd_yX10_setKin min_yX10_setKin hd_yX10_setKin rfl rfl rfl (by decide) rfl (Nat.le_of_ble_eq_true rfl) (kdec dk_cX10_inserts 36 rfl) (fun w21 h22 => ?_)
      obtain ⟨I23, f24⟩ := h22
      have F26 : kF [(61, some 13), (64, none)] w w21 := kF_call F20 f24 (by decide)
      exact kv_vret C hr hlk (kdec dk_cX10_inserts 37 rfl) ⟨rfl, I23, F26⟩
  refine kv_aload_n C 1 rfl 0 (kdec dk_cX10_inserts 0 rfl) rfl rfl ?_
  refine kv_iload_n C 2 rfl 1 (kdec dk_cX10_inserts 1 rfl) rfl rfl ?_
  refine kv_callVi (As := [.int a1]) (rest := []) C 5 rfl 61 (k_x_object l D τ ρ σ w a1 hI ) rfl rfl mml_TaleMachineModel_205 mim_yX10_object mse_yX10_object mcd_yX10_object min_yX10_object hd_yX10_object rfl rfl rfl (by decide) rfl (Nat.le_of_ble_eq_true rfl) (kdec dk_cX10_inserts 2 rfl) (fun x31 w27 h28 => ?_)
  obtain ⟨I29, f30⟩ := h28
  have F32 : kF [(61, some 13), (64, none)] w w27 := kF_call hF0 f30 (by decide)
  have g33 := kf_rng x31
  refine kv_istore_n C 6 rfl 3 [1, 2, 3, 0] [(0, .ref (ρ 61)), (1, .int a1), (2, .int a2), (3, .int x31)] (kdec dk_cX10_inserts 3 rfl) rfl (by decide) rfl ?_
  refine kv_aload_n C 7 rfl 0 (kdec dk_cX10_inserts 4 rfl) rfl rfl ?_
  refine kv_iload_n C 8 rfl 2 (kdec dk_cX10_inserts 5 rfl) rfl rfl ?_
  refine kv_callVi (As := [.int a2]) (rest := []) C 11 rfl 61 (k_x_object l D τ ρ σ w27 a2 I29 ) rfl rfl mml_TaleMachineModel_205 mim_yX10_object mse_yX10_object mcd_yX10_object min_yX10_object hd_yX10_object rfl rfl rfl (by decide) rfl (Nat.le_of_ble_eq_true rfl) (kdec dk_cX10_inserts 6 rfl) (fun x38 w34 h35 => ?_)
  obtain ⟨I36, f37⟩ := h35
  have F39 : kF [(61, some 13), (64, none)] w w34 := kF_call F32 f37 (by decide)
  have g40 := kf_rng x38
  refine kv_istore C 13 rfl 4 [1, 2, 3, 4, 0] [(0, .ref (ρ 61)), (1, .int a1), (2, .int a2), (3, .int x31), (4, .int x38)] (kdec dk_cX10_inserts 7 rfl) (by decide) rfl ?_
  refine kv_aload_n C 14 rfl 0 (kdec dk_cX10_inserts 8 rfl) rfl rfl ?_
  obtain ⟨x41, e42⟩ : ∃ z : Int32, w34 61 13 = z := ⟨_, rfl⟩
  have b43 : (0 : Int) ≤ x41.toInt ∧ x41.toInt ≤ 13 := by rw [← e42]; exact I36 61 13
  refine kv_get C 17 rfl 61 13 rfl rfl inX10 (by decide) mfl_TaleMachineModel_148 rfl rfl (kdec dk_cX10_inserts 9 rfl) e42 ?_
  refine kv_if_ne C 20 rfl 32 (kdec dk_cX10_inserts 10 rfl) (by decide) (fun d44 => ?_) (fun d44 => ?_)
  · skip
    refine kV.sub [0, 1, 2] (L' := [(0, .ref (ρ 61)), (1, .int a1), (2, .int a2)]) rfl ?_
    exact cut32 w34 a1 a2 I36 F39 
  · skip
    refine kv_aload_n C 21 rfl 0 (kdec dk_cX10_inserts 11 rfl) rfl rfl ?_
    refine kv_iload_n C 22 rfl 1 (kdec dk_cX10_inserts 12 rfl) rfl rfl ?_
    refine kv_callVv (As := [.int a1]) (rest := []) C 25 rfl 61 (k_x_removes l D τ ρ σ w34 a1 I36 ) rfl rfl mml_TaleMachineModel_219 mim_yX10_removes mse_yX10_removes mcd_yX10_removes min_yX10_removes hd_yX10_removes rfl rfl rfl (by decide) rfl (Nat.le_of_ble_eq_true rfl) (kdec dk_cX10_inserts 13 rfl) (fun w45 h46 => ?_)
    obtain ⟨I47, f48⟩ := h46
    have F50 : kF [(61, some 13), (64, none)] w w45 := kF_call F39 f48 (by decide)
    refine kv_aload_n C 26 rfl 0 (kdec dk_cX10_inserts 14 rfl) rfl rfl ?_
    refine kv_iload_n C 27 rfl 1 (kdec dk_cX10_inserts 15 rfl) rfl rfl ?_
    refine kv_iconst C 28 rfl 4 (kdec dk_cX10_inserts 16 rfl) rfl ?_
    refine kv_iload_n C 29 rfl 2 (kdec dk_cX10_inserts 17 rfl) rfl rfl ?_
    refine kv_callVv (As := [.int a1, .int 4, .int a2]) (rest := []) C 32 rfl 61 (k_x_setKin l D τ ρ σ w45 a1 4 a2 I47 ) rfl rfl mml_TaleMachineModel_215 mim_yX10_setKin mse_yX10_setKin mcd_yX10_setKin min_yX10_setKin hd_yX10_setKin rfl rfl rfl (by decide) rfl (Nat.le_of_ble_eq_true rfl) (kdec dk_cX10_inserts 18 rfl) (fun w51 h52 => ?_)
    obtain ⟨I53, f54⟩ := h52
    have F56 : kF [(61, some 13), (64, none)] w w51 := kF_call F50 f54 (by decide)
    refine kV.sub [0, 1, 2] (L' := [(0, .ref (ρ 61)), (1, .int a1), (2, .int a2)]) rfl ?_
    exact cut32 w51 a1 a2 I53 F56 

set_option maxHeartbeats 4000000 in
set_option maxRecDepth 100000 in
theorem k_x_isAttribute (l : Launch) (D : va_G) (τ : Nat → ClassId) (ρ σ : Nat → Nat) (w : kw) (a1 : Int32) (hI : kI false w)  :
    kM l D τ ρ σ yX10_isAttribute cX10_isAttribute 2 (some .boolean) { frames := 1, cells := 0, slots := 0, locals := 36 } [.ref (ρ 61), .int a1] w
      (fun o w' => ∃ r : Int32, o = some (.int r) ∧ kI false w' ∧ kF [(61, some 13)] w w' ∧ (0 ≤ r.toInt ∧ r.toInt ≤ 1)) := by
  refine kM_of (own := "TaleMachineModel") rfl (by decide) (Nat.le_of_ble_eq_true rfl) ?_
  intro p e s m args below meth c C hr hlk
  have hF0 : kF [(61, some 13)] w w := kF.rf
  have c_0 : (0 : Int32).toInt = 0 := by decide
  have c_1 : (1 : Int32).toInt = 1 := by decide
  have c_9 : (9 : Int32).toInt = 9 := by decide
  refine kV.L (L' := [(0, .ref (ρ 61)), (1, .int a1)]) rfl ?_
  have g1 := kf_rng a1
  refine kv_aload_n C 1 rfl 0 (kdec dk_cX10_isAttribute 0 rfl) rfl rfl ?_
  obtain ⟨x2, e3⟩ : ∃ z : Int32, w 61 13 = z := ⟨_, rfl⟩
  have b4 : (0 : Int) ≤ x2.toInt ∧ x2.toInt ≤ 13 := by rw [← e3]; exact hI 61 13
  refine kv_get C 4 rfl 61 13 rfl rfl inX10 (by decide) mfl_TaleMachineModel_148 rfl rfl (kdec dk_cX10_isAttribute 1 rfl) e3 ?_
  refine kv_if_ne C 7 rfl 25 (kdec dk_cX10_isAttribute 2 rfl) (by decide) (fun d5 => ?_) (fun d5 => ?_)
  · skip
    refine kv_aload_n C 26 rfl 0 (kdec dk_cX10_isAttribute 12 rfl) rfl rfl ?_
    refine kv_get C 29 rfl 61 13 rfl rfl inX10 (by decide) mfl_TaleMachineModel_148 rfl rfl (kdec dk_cX10_isAttribute 13 rfl) e3 ?_
    refine kv_if_ne C 32 rfl 36 (kdec dk_cX10_isAttribute 14 rfl) (by decide) (fun d6 => ?_) (fun d6 => ?_)
    · skip
      refine kv_iconst C 37 rfl 0 (kdec dk_cX10_isAttribute 17 rfl) rfl ?_
      exact kv_zret C hr hlk (kdec dk_cX10_isAttribute 18 rfl) (kf_bool (by decide)) ⟨_, rfl, hI, hF0, (by omega)⟩
    · skip
      refine kv_iconst C 33 rfl 1 (kdec dk_cX10_isAttribute 15 rfl) rfl ?_
      refine kv_goto C 37 (kdec dk_cX10_isAttribute 16 rfl) (by decide) ?_
      exact kv_zret C hr hlk (kdec dk_cX10_isAttribute 18 rfl) (kf_bool (by decide)) ⟨_, rfl, hI, hF0, (by omega)⟩
  · skip
    refine kv_iload_n C 8 rfl 1 (kdec dk_cX10_isAttribute 3 rfl) rfl rfl ?_
    refine kv_i2l C 9 rfl (kdec dk_cX10_isAttribute 4 rfl) ?_
    have h7 := kf_i2l a1
    refine kv_lconst C 10 rfl 0 (kdec dk_cX10_isAttribute 5 rfl) rfl ?_
    have h8 : (0 : Int64).toInt = 0 := by decide
    refine kv_ldc2 C 13 rfl 31 (kdec dk_cX10_isAttribute 6 rfl) mcl_TaleMachineModel_222 ?_
    have h9 : (31 : Int64).toInt = 31 := by decide
    refine kv_callSi (As := [.long (a1 : Int32).toInt64, .long (0 : Int64), .long (31 : Int64)]) (rest := []) C 16 rfl (k_x_in l D τ ρ σ w (a1 : Int32).toInt64 (0 : Int64) (31 : Int64) hI ) mml_TaleMachineModel_94 mst_yX10_in mcd_yX10_in min_yX10_in hd_yX10_in rfl rfl rfl (by decide) rfl (Nat.le_of_ble_eq_true rfl) (kdec dk_cX10_isAttribute 7 rfl) (fun x14 w10 h11 => ?_)
    obtain ⟨I12, f13, p15, p16⟩ := h11
    have F17 : kF [(61, some 13)] w w10 := kF_call hF0 f13 (by decide)
    have g18 := kf_rng x14
    refine kv_if_ne C 19 rfl 25 (kdec dk_cX10_isAttribute 8 rfl) (by decide) (fun d19 => ?_) (fun d19 => ?_)
    · skip
      refine kv_aload_n C 26 rfl 0 (kdec dk_cX10_isAttribute 12 rfl) rfl rfl ?_
      have e20 : w10 61 13 = x2 := ((f13 61 13 rfl : w10 61 13 = w 61 13).trans e3)
      refine kv_get C 29 rfl 61 13 rfl rfl inX10 (by decide) mfl_TaleMachineModel_148 rfl rfl (kdec dk_cX10_isAttribute 13 rfl) e20 ?_
      refine kv_if_ne C 32 rfl 36 (kdec dk_cX10_isAttribute 14 rfl) (by decide) (fun d21 => ?_) (fun d21 => ?_)
      · skip
        refine kv_iconst C 37 rfl 0 (kdec dk_cX10_isAttribute 17 rfl) rfl ?_
        exact kv_zret C hr hlk (kdec dk_cX10_isAttribute 18 rfl) (kf_bool (by decide)) ⟨_, rfl, I12, F17, (by omega)⟩
      · skip
        refine kv_iconst C 33 rfl 1 (kdec dk_cX10_isAttribute 15 rfl) rfl ?_
        refine kv_goto C 37 (kdec dk_cX10_isAttribute 16 rfl) (by decide) ?_
        exact kv_zret C hr hlk (kdec dk_cX10_isAttribute 18 rfl) (kf_bool (by decide)) ⟨_, rfl, I12, F17, (by omega)⟩
    · skip
      refine kv_aload_n C 20 rfl 0 (kdec dk_cX10_isAttribute 9 rfl) rfl rfl ?_
      refine kv_bipush C 22 rfl 9 (kdec dk_cX10_isAttribute 10 rfl) rfl ?_
      refine kv_callVv (As := [.int 9]) (rest := []) C 25 rfl 61 (k_x_halts l D τ ρ σ w10 9 I12 (by omega)) rfl rfl mml_TaleMachineModel_160 mim_yX10_halts mse_yX10_halts mcd_yX10_halts min_yX10_halts hd_yX10_halts rfl rfl rfl (by decide) rfl (Nat.le_of_ble_eq_true rfl) (kdec dk_cX10_isAttribute 11 rfl) (fun w22 h23 => ?_)
      obtain ⟨I24, f25, p27⟩ := h23
      have F28 : kF [(61, some 13)] w w22 := kF_call F17 f25 (by decide)
      have e29 : w10 61 13 = x2 := ((f13 61 13 rfl : w10 61 13 = w 61 13).trans e3)
      obtain ⟨x30, e31⟩ : ∃ z : Int32, w22 61 13 = z := ⟨_, rfl⟩
      have b32 : (0 : Int) ≤ x30.toInt ∧ x30.toInt ≤ 13 := by rw [← e31]; exact I24 61 13
      rw [e29, e31] at p27
      refine kv_aload_n C 26 rfl 0 (kdec dk_cX10_isAttribute 12 rfl) rfl rfl ?_
      refine kv_get C 29 rfl 61 13 rfl rfl inX10 (by decide) mfl_TaleMachineModel_148 rfl rfl (kdec dk_cX10_isAttribute 13 rfl) e31 ?_
      refine kv_if_ne C 32 rfl 36 (kdec dk_cX10_isAttribute 14 rfl) (by decide) (fun d33 => ?_) (fun d33 => ?_)
      · skip
        refine kv_iconst C 37 rfl 0 (kdec dk_cX10_isAttribute 17 rfl) rfl ?_
        exact kv_zret C hr hlk (kdec dk_cX10_isAttribute 18 rfl) (kf_bool (by decide)) ⟨_, rfl, I24, F28, (by omega)⟩
      · skip
        refine kv_iconst C 33 rfl 1 (kdec dk_cX10_isAttribute 15 rfl) rfl ?_
        refine kv_goto C 37 (kdec dk_cX10_isAttribute 16 rfl) (by decide) ?_
        exact kv_zret C hr hlk (kdec dk_cX10_isAttribute 18 rfl) (kf_bool (by decide)) ⟨_, rfl, I24, F28, (by omega)⟩

set_option maxHeartbeats 4000000 in
set_option maxRecDepth 100000 in
theorem k_x_attribute (l : Launch) (D : va_G) (τ : Nat → ClassId) (ρ σ : Nat → Nat) (w : kw) (a1 : Int32) (a2 : Int32) (a3 : Int32) (hI : kI false w)  :
    kM l D τ ρ σ yX10_attribute cX10_attribute 7 none { frames := 3, cells := 0, slots := 0, locals := 108 } [.ref (ρ 61), .int a1, .int a2, .int a3] w
      (fun o w' => o = none ∧ kI false w' ∧ kF [(61, some 13), (64, none)] w w') := by
  refine kM_of (own := "TaleMachineModel") rfl (by decide) (Nat.le_of_ble_eq_true rfl) ?_
  intro p e s m args below meth c C hr hlk
  have hF0 : kF [(61, some 13), (64, none)] w w := kF.rf
  have c_m1 : (-1 : Int32).toInt = -1 := by decide
  have c_8 : (8 : Int32).toInt = 8 := by decide
  have c_128 : (128 : Int32).toInt = 128 := by decide
  refine kV.L (L' := [(0, .ref (ρ 61)), (1, .int a1), (2, .int a2), (3, .int a3)]) rfl ?_
  have g1 := kf_rng a1
  have g2 := kf_rng a2
  have g3 := kf_rng a3
  refine kv_aload_n C 1 rfl 0 (kdec dk_cX10_attribute 0 rfl) rfl rfl ?_
  refine kv_iload_n C 2 rfl 1 (kdec dk_cX10_attribute 1 rfl) rfl rfl ?_
  refine kv_callVi (As := [.int a1]) (rest := []) C 5 rfl 61 (k_x_object l D τ ρ σ w a1 hI ) rfl rfl mml_TaleMachineModel_205 mim_yX10_object mse_yX10_object mcd_yX10_object min_yX10_object hd_yX10_object rfl rfl rfl (by decide) rfl (Nat.le_of_ble_eq_true rfl) (kdec dk_cX10_attribute 2 rfl) (fun x8 w4 h5 => ?_)
  obtain ⟨I6, f7⟩ := h5
  have F9 : kF [(61, some 13), (64, none)] w w4 := kF_call hF0 f7 (by decide)
  have g10 := kf_rng x8
  refine kv_istore C 7 rfl 4 [1, 2, 3, 4, 0] [(0, .ref (ρ 61)), (1, .int a1), (2, .int a2), (3, .int a3), (4, .int x8)] (kdec dk_cX10_attribute 3 rfl) (by decide) rfl ?_
  refine kv_aload_n C 8 rfl 0 (kdec dk_cX10_attribute 4 rfl) rfl rfl ?_
  refine kv_iload_n C 9 rfl 2 (kdec dk_cX10_attribute 5 rfl) rfl rfl ?_
  refine kv_callVi (As := [.int a2]) (rest := []) C 12 rfl 61 (k_x_isAttribute l D τ ρ σ w4 a2 I6 ) rfl rfl mml_TaleMachineModel_224 mim_yX10_isAttribute mse_yX10_isAttribute mcd_yX10_isAttribute min_yX10_isAttribute hd_yX10_isAttribute rfl rfl rfl (by decide) rfl (Nat.le_of_ble_eq_true rfl) (kdec dk_cX10_attribute 6 rfl) (fun x15 w11 h12 => ?_)
  obtain ⟨I13, f14, p16⟩ := h12
  have F17 : kF [(61, some 13), (64, none)] w w11 := kF_call F9 f14 (by decide)
  have g18 := kf_rng x15
  refine kv_if_eq C 15 rfl 68 (kdec dk_cX10_attribute 7 rfl) (by decide) (fun d19 => ?_) (fun d19 => ?_)
  · skip
    exact kv_vret C hr hlk (kdec dk_cX10_attribute 40 rfl) ⟨rfl, I13, F17⟩
  · skip
    refine kv_aload_n C 16 rfl 0 (kdec dk_cX10_attribute 8 rfl) rfl rfl ?_
    refine kv_iload C 18 rfl 4 (kdec dk_cX10_attribute 9 rfl) rfl ?_
    refine kv_iload_n C 19 rfl 2 (kdec dk_cX10_attribute 10 rfl) rfl rfl ?_
    refine kv_bipush C 21 rfl 8 (kdec dk_cX10_attribute 11 rfl) rfl ?_
    refine kv_idiv C 22 rfl (kdec dk_cX10_attribute 12 rfl) (by decide) (fun x20 h21e h21l h21u => ?_)
    refine kv_iadd C 23 rfl (kdec dk_cX10_attribute 13 rfl) (fun x22 q24 h23e h23 h23l h23u => ?_)
    try have h23n : x22.toInt = x8.toInt + x20.toInt := by omega
    clear h23 q24
    refine kv_callVi (As := [.int x22]) (rest := []) C 26 rfl 61 (k_x_byteAt l D τ ρ σ w11 x22 I13 ) rfl rfl mml_TaleMachineModel_163 mim_yX10_byteAt mse_yX10_byteAt mcd_yX10_byteAt min_yX10_byteAt hd_yX10_byteAt rfl rfl rfl (by decide) rfl (Nat.le_of_ble_eq_true rfl) (kdec dk_cX10_attribute 14 rfl) (fun x29 w25 h26 => ?_)
    obtain ⟨I27, f28, p30, p31, p32⟩ := h26
    have F33 : kF [(61, some 13), (64, none)] w w25 := kF_call F17 f28 (by decide)
    have g34 := kf_rng x29
    obtain ⟨x35, e36⟩ : ∃ z : Int32, w11 61 13 = z := ⟨_, rfl⟩
    have b37 : (0 : Int) ≤ x35.toInt ∧ x35.toInt ≤ 13 := by rw [← e36]; exact I13 61 13
    obtain ⟨x38, e39⟩ : ∃ z : Int32, w25 61 13 = z := ⟨_, rfl⟩
    have b40 : (0 : Int) ≤ x38.toInt ∧ x38.toInt ≤ 13 := by rw [← e39]; exact I27 61 13
    rw [e36, e39] at p31
    rw [e39] at p32
    refine kv_istore C 28 rfl 5 [1, 2, 3, 4, 5, 0] [(0, .ref (ρ 61)), (1, .int a1), (2, .int a2), (3, .int a3), (4, .int x8), (5, .int x29)] (kdec dk_cX10_attribute 15 rfl) (by decide) rfl ?_
    refine kv_sipush C 31 rfl 128 (kdec dk_cX10_attribute 16 rfl) rfl ?_
    refine kv_iload_n C 32 rfl 2 (kdec dk_cX10_attribute 17 rfl) rfl rfl ?_
    refine kv_bipush C 34 rfl 8 (kdec dk_cX10_attribute 18 rfl) rfl ?_
    refine kv_irem C 35 rfl (kdec dk_cX10_attribute 19 rfl) (by decide) (fun x41 h42e h42l h42u => ?_)
    refine kv_ishr C 36 rfl (kdec dk_cX10_attribute 20 rfl) (fun x43 h44e h44l h44u => ?_)
    refine kv_istore C 38 rfl 6 [1, 2, 3, 4, 5, 6, 0] [(0, .ref (ρ 61)), (1, .int a1), (2, .int a2), (3, .int a3), (4, .int x8), (5, .int x29), (6, .int x43)] (kdec dk_cX10_attribute 21 rfl) (by decide) rfl ?_
    refine kv_aload_n C 39 rfl 0 (kdec dk_cX10_attribute 22 rfl) rfl rfl ?_
    refine kv_iload C 41 rfl 4 (kdec dk_cX10_attribute 23 rfl) rfl ?_
    refine kv_iload_n C 42 rfl 2 (kdec dk_cX10_attribute 24 rfl) rfl rfl ?_
    refine kv_bipush C 44 rfl 8 (kdec dk_cX10_attribute 25 rfl) rfl ?_
    refine kv_idiv C 45 rfl (kdec dk_cX10_attribute 26 rfl) (by decide) (fun x45 h46e h46l h46u => ?_)
    refine kv_iadd C 46 rfl (kdec dk_cX10_attribute 27 rfl) (fun x47 q49 h48e h48 h48l h48u => ?_)
    try have h48n : x47.toInt = x8.toInt + x45.toInt := by omega
    clear h48 q49
    refine kv_iload_n C 47 rfl 3 (kdec dk_cX10_attribute 28 rfl) rfl rfl ?_
    refine kv_if_eq C 50 rfl 58 (kdec dk_cX10_attribute 29 rfl) (by decide) (fun d50 => ?_) (fun d50 => ?_)
    · skip
      refine kv_iload C 60 rfl 5 (kdec dk_cX10_attribute 34 rfl) rfl ?_
      refine kv_iload C 62 rfl 6 (kdec dk_cX10_attribute 35 rfl) rfl ?_
      refine kv_iconst C 63 rfl (-1) (kdec dk_cX10_attribute 36 rfl) rfl ?_
      refine kv_ixor C 64 rfl (kdec dk_cX10_attribute 37 rfl) (fun x51 h52e h52l h52u => ?_)
      refine kv_iand C 65 rfl (kdec dk_cX10_attribute 38 rfl) (fun x53 h54e h54l h54u => ?_)
      refine kv_callVv (As := [.int x47, .int x53]) (rest := []) C 68 rfl 61 (k_x_putByte l D τ ρ σ w25 x47 x53 I27 ) rfl rfl mml_TaleMachineModel_208 mim_yX10_putByte mse_yX10_putByte mcd_yX10_putByte min_yX10_putByte hd_yX10_putByte rfl rfl rfl (by decide) rfl (Nat.le_of_ble_eq_true rfl) (kdec dk_cX10_attribute 39 rfl) (fun w55 h56 => ?_)
      obtain ⟨I57, f58, p60⟩ := h56
      have F61 : kF [(61, some 13), (64, none)] w w55 := kF_call F33 f58 (by decide)
      obtain ⟨x62, e63⟩ : ∃ z : Int32, w55 61 13 = z := ⟨_, rfl⟩
      have b64 : (0 : Int) ≤ x62.toInt ∧ x62.toInt ≤ 13 := by rw [← e63]; exact I57 61 13
      rw [e39, e63] at p60
      exact kv_vret C hr hlk (kdec dk_cX10_attribute 40 rfl) ⟨rfl, I57, F61⟩
    · skip
      refine kv_iload C 52 rfl 5 (kdec dk_cX10_attribute 30 rfl) rfl ?_
      refine kv_iload C 54 rfl 6 (kdec dk_cX10_attribute 31 rfl) rfl ?_
      refine kv_ior C 55 rfl (kdec dk_cX10_attribute 32 rfl) (fun x65 h66e h66l h66u => ?_)
      refine kv_goto C 65 (kdec dk_cX10_attribute 33 rfl) (by decide) ?_
      refine kv_callVv (As := [.int x47, .int x65]) (rest := []) C 68 rfl 61 (k_x_putByte l D τ ρ σ w25 x47 x65 I27 ) rfl rfl mml_TaleMachineModel_208 mim_yX10_putByte mse_yX10_putByte mcd_yX10_putByte min_yX10_putByte hd_yX10_putByte rfl rfl rfl (by decide) rfl (Nat.le_of_ble_eq_true rfl) (kdec dk_cX10_attribute 39 rfl) (fun w67 h68 => ?_)
      obtain ⟨I69, f70, p72⟩ := h68
      have F73 : kF [(61, some 13), (64, none)] w w67 := kF_call F33 f70 (by decide)
      obtain ⟨x74, e75⟩ : ∃ z : Int32, w67 61 13 = z := ⟨_, rfl⟩
      have b76 : (0 : Int) ≤ x74.toInt ∧ x74.toInt ≤ 13 := by rw [← e75]; exact I69 61 13
      rw [e39, e75] at p72
      exact kv_vret C hr hlk (kdec dk_cX10_attribute 40 rfl) ⟨rfl, I69, F73⟩

set_option maxHeartbeats 4000000 in
set_option maxRecDepth 100000 in
theorem k_x_hasAttribute (l : Launch) (D : va_G) (τ : Nat → ClassId) (ρ σ : Nat → Nat) (w : kw) (a1 : Int32) (a2 : Int32) (hI : kI false w) (hM : kMoT w) :
    kM l D τ ρ σ yX10_hasAttribute cX10_hasAttribute 5 none { frames := 7, cells := 0, slots := 0, locals := 252 } [.ref (ρ 61), .int a1, .int a2] w
      (fun o w' => o = none ∧ kI false w' ∧ kF [(61, some 13), (61, some 15), (61, some 19), (61, some 20), (64, none), (66, none), (71, none)] w w' ∧ kMoT w') := by
  refine kM_of (own := "TaleMachineModel") rfl (by decide) (Nat.le_of_ble_eq_true rfl) ?_
  intro p e s m args below meth c C hr hlk
  have hF0 : kF [(61, some 13), (61, some 15), (61, some 19), (61, some 20), (64, none), (66, none), (71, none)] w w := kF.rf
  have c_0 : (0 : Int32).toInt = 0 := by decide
  have c_1 : (1 : Int32).toInt = 1 := by decide
  have c_8 : (8 : Int32).toInt = 8 := by decide
  have c_128 : (128 : Int32).toInt = 128 := by decide
  refine kV.L (L' := [(0, .ref (ρ 61)), (1, .int a1), (2, .int a2)]) rfl ?_
  have g1 := kf_rng a1
  have g2 := kf_rng a2
  obtain ⟨x3, e4⟩ : ∃ z : Int32, w 61 20 = z := ⟨_, rfl⟩
  have b5 : (0 : Int) ≤ x3.toInt ∧ x3.toInt ≤ 20 := by rw [← e4]; exact hI 61 20
  have r6 := kMoT_fr hM
  rw [e4] at r6
  refine kv_aload_n C 1 rfl 0 (kdec dk_cX10_hasAttribute 0 rfl) rfl rfl ?_
  refine kv_iload_n C 2 rfl 1 (kdec dk_cX10_hasAttribute 1 rfl) rfl rfl ?_
  refine kv_callVi (As := [.int a1]) (rest := []) C 5 rfl 61 (k_x_object l D τ ρ σ w a1 hI ) rfl rfl mml_TaleMachineModel_205 mim_yX10_object mse_yX10_object mcd_yX10_object min_yX10_object hd_yX10_object rfl rfl rfl (by decide) rfl (Nat.le_of_ble_eq_true rfl) (kdec dk_cX10_hasAttribute 2 rfl) (fun x11 w7 h8 => ?_)
  obtain ⟨I9, f10⟩ := h8
  have F12 : kF [(61, some 13), (61, some 15), (61, some 19), (61, some 20), (64, none), (66, none), (71, none)] w w7 := kF_call hF0 f10 (by decide)
  have M13 : kMoT w7 := kMoT_kF f10 hM rfl rfl (fun _ => rfl)
  have g14 := kf_rng x11
  refine kv_istore_n C 6 rfl 3 [1, 2, 3, 0] [(0, .ref (ρ 61)), (1, .int a1), (2, .int a2), (3, .int x11)] (kdec dk_cX10_hasAttribute 3 rfl) rfl (by decide) rfl ?_
  refine kv_aload_n C 7 rfl 0 (kdec dk_cX10_hasAttribute 4 rfl) rfl rfl ?_
  refine kv_iload_n C 8 rfl 2 (kdec dk_cX10_hasAttribute 5 rfl) rfl rfl ?_
  refine kv_callVi (As := [.int a2]) (rest := []) C 11 rfl 61 (k_x_isAttribute l D τ ρ σ w7 a2 I9 ) rfl rfl mml_TaleMachineModel_224 mim_yX10_isAttribute mse_yX10_isAttribute mcd_yX10_isAttribute min_yX10_isAttribute hd_yX10_isAttribute rfl rfl rfl (by decide) rfl (Nat.le_of_ble_eq_true rfl) (kdec dk_cX10_hasAttribute 6 rfl) (fun x19 w15 h16 => ?_)
  obtain ⟨I17, f18, p20⟩ := h16
  have F21 : kF [(61, some 13), (61, some 15), (61, some 19), (61, some 20), (64, none), (66, none), (71, none)] w w15 := kF_call F12 f18 (by decide)
  have M22 : kMoT w15 := kMoT_kF f18 M13 rfl rfl (fun _ => rfl)
  have g23 := kf_rng x19
  refine kv_if_eq C 14 rfl 49 (kdec dk_cX10_hasAttribute 7 rfl) (by decide) (fun d24 => ?_) (fun d24 => ?_)
  · skip
    exact kv_vret C hr hlk (kdec dk_cX10_hasAttribute 29 rfl) ⟨rfl, I17, F21, M22⟩
  · skip
    refine kv_aload_n C 15 rfl 0 (kdec dk_cX10_hasAttribute 8 rfl) rfl rfl ?_
    refine kv_iload_n C 16 rfl 3 (kdec dk_cX10_hasAttribute 9 rfl) rfl rfl ?_
    refine kv_iload_n C 17 rfl 2 (kdec dk_cX10_hasAttribute 10 rfl) rfl rfl ?_
    refine kv_bipush C 19 rfl 8 (kdec dk_cX10_hasAttribute 11 rfl) rfl ?_
    refine kv_idiv C 20 rfl (kdec dk_cX10_hasAttribute 12 rfl) (by decide) (fun x25 h26e h26l h26u => ?_)
    refine kv_iadd C 21 rfl (kdec dk_cX10_hasAttribute 13 rfl) (fun x27 q29 h28e h28 h28l h28u => ?_)
    try have h28n : x27.toInt = x11.toInt + x25.toInt := by omega
    clear h28 q29
    refine kv_callVi (As := [.int x27]) (rest := []) C 24 rfl 61 (k_x_byteAt l D τ ρ σ w15 x27 I17 ) rfl rfl mml_TaleMachineModel_163 mim_yX10_byteAt mse_yX10_byteAt mcd_yX10_byteAt min_yX10_byteAt hd_yX10_byteAt rfl rfl rfl (by decide) rfl (Nat.le_of_ble_eq_true rfl) (kdec dk_cX10_hasAttribute 14 rfl) (fun x34 w30 h31 => ?_)
    obtain ⟨I32, f33, p35, p36, p37⟩ := h31
    have F38 : kF [(61, some 13), (61, some 15), (61, some 19), (61, some 20), (64, none), (66, none), (71, none)] w w30 := kF_call F21 f33 (by decide)
    have M39 : kMoT w30 := kMoT_kF f33 M22 rfl rfl (fun _ => rfl)
    have g40 := kf_rng x34
    obtain ⟨x41, e42⟩ : ∃ z : Int32, w15 61 13 = z := ⟨_, rfl⟩
    have b43 : (0 : Int) ≤ x41.toInt ∧ x41.toInt ≤ 13 := by rw [← e42]; exact I17 61 13
    obtain ⟨x44, e45⟩ : ∃ z : Int32, w30 61 13 = z := ⟨_, rfl⟩
    have b46 : (0 : Int) ≤ x44.toInt ∧ x44.toInt ≤ 13 := by rw [← e45]; exact I32 61 13
    rw [e42, e45] at p36
    rw [e45] at p37
    refine kv_istore C 26 rfl 4 [1, 2, 3, 4, 0] [(0, .ref (ρ 61)), (1, .int a1), (2, .int a2), (3, .int x11), (4, .int x34)] (kdec dk_cX10_hasAttribute 15 rfl) (by decide) rfl ?_
    refine kv_aload_n C 27 rfl 0 (kdec dk_cX10_hasAttribute 16 rfl) rfl rfl ?_
    refine kv_iload C 29 rfl 4 (kdec dk_cX10_hasAttribute 17 rfl) rfl ?_
    refine kv_sipush C 32 rfl 128 (kdec dk_cX10_hasAttribute 18 rfl) rfl ?_
    refine kv_iload_n C 33 rfl 2 (kdec dk_cX10_hasAttribute 19 rfl) rfl rfl ?_
    refine kv_bipush C 35 rfl 8 (kdec dk_cX10_hasAttribute 20 rfl) rfl ?_
    refine kv_irem C 36 rfl (kdec dk_cX10_hasAttribute 21 rfl) (by decide) (fun x47 h48e h48l h48u => ?_)
    refine kv_ishr C 37 rfl (kdec dk_cX10_hasAttribute 22 rfl) (fun x49 h50e h50l h50u => ?_)
    refine kv_iand C 38 rfl (kdec dk_cX10_hasAttribute 23 rfl) (fun x51 h52e h52l h52u => ?_)
    refine kv_if_eq C 41 rfl 45 (kdec dk_cX10_hasAttribute 24 rfl) (by decide) (fun d53 => ?_) (fun d53 => ?_)
    · skip
      refine kv_iconst C 46 rfl 0 (kdec dk_cX10_hasAttribute 27 rfl) rfl ?_
      refine kv_callVv (As := [.int 0]) (rest := []) C 49 rfl 61 (k_x_branches l D τ ρ σ w30 0 I32 M39) rfl rfl mml_TaleMachineModel_227 mim_yX10_branches mse_yX10_branches mcd_yX10_branches min_yX10_branches hd_yX10_branches rfl rfl rfl (by decide) rfl (Nat.le_of_ble_eq_true rfl) (kdec dk_cX10_hasAttribute 28 rfl) (fun w54 h55 => ?_)
      obtain ⟨I56, f57, M59⟩ := h55
      have F60 : kF [(61, some 13), (61, some 15), (61, some 19), (61, some 20), (64, none), (66, none), (71, none)] w w54 := kF_call F38 f57 (by decide)
      obtain ⟨x61, e62⟩ : ∃ z : Int32, w54 61 20 = z := ⟨_, rfl⟩
      have b63 : (0 : Int) ≤ x61.toInt ∧ x61.toInt ≤ 20 := by rw [← e62]; exact I56 61 20
      have r64 := kMoT_fr M59
      rw [e62] at r64
      exact kv_vret C hr hlk (kdec dk_cX10_hasAttribute 29 rfl) ⟨rfl, I56, F60, M59⟩
    · skip
      refine kv_iconst C 42 rfl 1 (kdec dk_cX10_hasAttribute 25 rfl) rfl ?_
      refine kv_goto C 46 (kdec dk_cX10_hasAttribute 26 rfl) (by decide) ?_
      refine kv_callVv (As := [.int 1]) (rest := []) C 49 rfl 61 (k_x_branches l D τ ρ σ w30 1 I32 M39) rfl rfl mml_TaleMachineModel_227 mim_yX10_branches mse_yX10_branches mcd_yX10_branches min_yX10_branches hd_yX10_branches rfl rfl rfl (by decide) rfl (Nat.le_of_ble_eq_true rfl) (kdec dk_cX10_hasAttribute 28 rfl) (fun w65 h66 => ?_)
      obtain ⟨I67, f68, M70⟩ := h66
      have F71 : kF [(61, some 13), (61, some 15), (61, some 19), (61, some 20), (64, none), (66, none), (71, none)] w w65 := kF_call F38 f68 (by decide)
      obtain ⟨x72, e73⟩ : ∃ z : Int32, w65 61 20 = z := ⟨_, rfl⟩
      have b74 : (0 : Int) ≤ x72.toInt ∧ x72.toInt ≤ 20 := by rw [← e73]; exact I67 61 20
      have r75 := kMoT_fr M70
      rw [e73] at r75
      exact kv_vret C hr hlk (kdec dk_cX10_hasAttribute 29 rfl) ⟨rfl, I67, F71, M70⟩

set_option maxHeartbeats 4000000 in
set_option maxRecDepth 100000 in
theorem k_x_properties (l : Launch) (D : va_G) (τ : Nat → ClassId) (ρ σ : Nat → Nat) (w : kw) (a1 : Int32) (hI : kI false w)  :
    kM l D τ ρ σ yX10_properties cX10_properties 5 (some .int) { frames := 3, cells := 0, slots := 0, locals := 108 } [.ref (ρ 61), .int a1] w
      (fun o w' => ∃ r : Int32, o = some (.int r) ∧ kI false w' ∧ kF [(61, some 13)] w w' ∧ (0 ≤ r.toInt ∧ r.toInt ≤ 66100)) := by
  refine kM_of (own := "TaleMachineModel") rfl (by decide) (Nat.le_of_ble_eq_true rfl) ?_
  intro p e s m args below meth c C hr hlk
  have hF0 : kF [(61, some 13)] w w := kF.rf
  have c_0 : (0 : Int32).toInt = 0 := by decide
  have c_1 : (1 : Int32).toInt = 1 := by decide
  have c_2 : (2 : Int32).toInt = 2 := by decide
  have c_7 : (7 : Int32).toInt = 7 := by decide
  refine kV.L (L' := [(0, .ref (ρ 61)), (1, .int a1)]) rfl ?_
  have g1 := kf_rng a1
  have cut42 : ∀ (w_42 : kw) (l3_42 s0_42 : Int32), kI false w_42 → kF [(61, some 13)] w w_42 → (0 ≤ l3_42.toInt ∧ l3_42.toInt ≤ 65535) → (0 ≤ s0_42.toInt ∧ s0_42.toInt ≤ 255) → kV p l e { frames := 3, cells := 0, slots := 0, locals := 108 } s m args below meth c (kQ below args s D τ ρ (fun o w' => ∃ r : Int32, o = some (.int r) ∧ kI false w' ∧ kF [(61, some 13)] w w' ∧ (0 ≤ r.toInt ∧ r.toInt ≤ 66100))) 5 D τ ρ 42 [(0, .ref (ρ 61)), (3, .int l3_42)] [.int s0_42] w_42 := by
    intro w_42 l3_42 s0_42 I_42 F_42 k42_0 k42_1
    have gl3_42 := kf_rng l3_42
    have gs0_42 := kf_rng s0_42
    refine kv_istore C 44 rfl 4 [1, 2, 0] [(0, .ref (ρ 61)), (3, .int l3_42), (4, .int s0_42)] (kdec dk_cX10_properties 23 rfl) (by decide) rfl ?_
    refine kv_iload_n C 45 rfl 1 (kdec dk_cX10_properties 24 rfl) rfl rfl ?_
    refine kv_iconst C 46 rfl 1 (kdec dk_cX10_properties 25 rfl) rfl ?_
    refine kv_iadd C 47 rfl (kdec dk_cX10_properties 26 rfl) (fun x2 q4 h3e h3 h3l h3u => ?_)
    try have h3n : x2.toInt = l3_42.toInt + (1 : Int32).toInt := by omega
    clear h3 q4
    refine kv_iconst C 48 rfl 2 (kdec dk_cX10_properties 27 rfl) rfl ?_
    refine kv_iload C 50 rfl 2 (kdec dk_cX10_properties 28 rfl) rfl ?_
    refine kv_imul C 51 rfl (kdec dk_cX10_properties 29 rfl) (fun x5 h6e h6l h6u => ?_)
    obtain ⟨q7, g8⟩ := kf_mul 2 s0_42
    rw [← h6e, c_2] at g8
    try have h6n : x5.toInt = 2 * s0_42.toInt := by omega
    clear g8 q7
    refine kv_iadd C 52 rfl (kdec dk_cX10_properties 30 rfl) (fun x9 q11 h10e h10 h10l h10u => ?_)
    try have h10n : x9.toInt = x2.toInt + x5.toInt := by omega
    clear h10 q11
    exact kv_iret C hr hlk (kdec dk_cX10_properties 31 rfl) ⟨_, rfl, I_42, F_42, (by omega)⟩
  have cut25 : ∀ (w_25 : kw) (s0_25 : Int32), kI false w_25 → kF [(61, some 13)] w w_25 → (0 ≤ s0_25.toInt ∧ s0_25.toInt ≤ 65535) → kV p l e { frames := 3, cells := 0, slots := 0, locals := 108 } s m args below meth c (kQ below args s D τ ρ (fun o w' => ∃ r : Int32, o = some (.int r) ∧ kI false w' ∧ kF [(61, some 13)] w w' ∧ (0 ≤ r.toInt ∧ r.toInt ≤ 66100))) 5 D τ ρ 25 [(0, .ref (ρ 61))] [.int s0_25] w_25 := by
    intro w_25 s0_25 I_25 F_25 k25_0
    have gs0_25 := kf_rng s0_25
    refine kv_istore_n C 26 rfl 3 [1, 0] [(0, .ref (ρ 61)), (3, .int s0_25)] (kdec dk_cX10_properties 14 rfl) rfl (by decide) rfl ?_
    refine kv_aload_n C 27 rfl 0 (kdec dk_cX10_properties 15 rfl) rfl rfl ?_
    obtain ⟨x12, e13⟩ : ∃ z : Int32, w_25 61 13 = z := ⟨_, rfl⟩
    have b14 : (0 : Int) ≤ x12.toInt ∧ x12.toInt ≤ 13 := by rw [← e13]; exact I_25 61 13
    refine kv_get C 30 rfl 61 13 rfl rfl inX10 (by decide) mfl_TaleMachineModel_148 rfl rfl (kdec dk_cX10_properties 16 rfl) e13 ?_
    refine kv_if_le C 33 rfl 37 (kdec dk_cX10_properties 17 rfl) (by decide) (fun d15 => ?_) (fun d15 => ?_)
    · skip
      refine kv_aload_n C 38 rfl 0 (kdec dk_cX10_properties 20 rfl) rfl rfl ?_
      refine kv_iload_n C 39 rfl 1 (kdec dk_cX10_properties 21 rfl) rfl rfl ?_
      refine kv_callVi (As := [.int s0_25]) (rest := []) C 42 rfl 61 (k_x_byteAt l D τ ρ σ w_25 s0_25 I_25 ) rfl rfl mml_TaleMachineModel_163 mim_yX10_byteAt mse_yX10_byteAt mcd_yX10_byteAt min_yX10_byteAt hd_yX10_byteAt rfl rfl rfl (by decide) rfl (Nat.le_of_ble_eq_true rfl) (kdec dk_cX10_properties 22 rfl) (fun x20 w16 h17 => ?_)
      obtain ⟨I18, f19, p21, p22, p23⟩ := h17
      have F24 : kF [(61, some 13)] w w16 := kF_call F_25 f19 (by decide)
      have g25 := kf_rng x20
      obtain ⟨x26, e27⟩ : ∃ z : Int32, w16 61 13 = z := ⟨_, rfl⟩
      have b28 : (0 : Int) ≤ x26.toInt ∧ x26.toInt ≤ 13 := by rw [← e27]; exact I18 61 13
      rw [e13, e27] at p22
      rw [e27] at p23
      exact cut42 w16 s0_25 x20 I18 F24 (by omega) (by omega)
    · skip
      refine kv_iconst C 34 rfl 0 (kdec dk_cX10_properties 18 rfl) rfl ?_
      refine kv_goto C 42 (kdec dk_cX10_properties 19 rfl) (by decide) ?_
      exact cut42 w_25 s0_25 0 I_25 F_25 (by omega) (by omega)
  refine kv_aload_n C 1 rfl 0 (kdec dk_cX10_properties 0 rfl) rfl rfl ?_
  refine kv_iload_n C 2 rfl 1 (kdec dk_cX10_properties 1 rfl) rfl rfl ?_
  refine kv_callVi (As := [.int a1]) (rest := []) C 5 rfl 61 (k_x_object l D τ ρ σ w a1 hI ) rfl rfl mml_TaleMachineModel_205 mim_yX10_object mse_yX10_object mcd_yX10_object min_yX10_object hd_yX10_object rfl rfl rfl (by decide) rfl (Nat.le_of_ble_eq_true rfl) (kdec dk_cX10_properties 2 rfl) (fun x33 w29 h30 => ?_)
  obtain ⟨I31, f32⟩ := h30
  have F34 : kF [(61, some 13)] w w29 := kF_call hF0 f32 (by decide)
  have g35 := kf_rng x33
  refine kv_istore_n C 6 rfl 2 [1, 2, 0] [(0, .ref (ρ 61)), (1, .int a1), (2, .int x33)] (kdec dk_cX10_properties 3 rfl) rfl (by decide) rfl ?_
  refine kv_aload_n C 7 rfl 0 (kdec dk_cX10_properties 4 rfl) rfl rfl ?_
  obtain ⟨x36, e37⟩ : ∃ z : Int32, w29 61 13 = z := ⟨_, rfl⟩
  have b38 : (0 : Int) ≤ x36.toInt ∧ x36.toInt ≤ 13 := by rw [← e37]; exact I31 61 13
  refine kv_get C 10 rfl 61 13 rfl rfl inX10 (by decide) mfl_TaleMachineModel_148 rfl rfl (kdec dk_cX10_properties 5 rfl) e37 ?_
  refine kv_if_le C 13 rfl 17 (kdec dk_cX10_properties 6 rfl) (by decide) (fun d39 => ?_) (fun d39 => ?_)
  · skip
    refine kv_aload_n C 18 rfl 0 (kdec dk_cX10_properties 9 rfl) rfl rfl ?_
    refine kv_iload_n C 19 rfl 2 (kdec dk_cX10_properties 10 rfl) rfl rfl ?_
    refine kv_bipush C 21 rfl 7 (kdec dk_cX10_properties 11 rfl) rfl ?_
    refine kv_iadd C 22 rfl (kdec dk_cX10_properties 12 rfl) (fun x40 q42 h41e h41 h41l h41u => ?_)
    try have h41n : x40.toInt = x33.toInt + (7 : Int32).toInt := by omega
    clear h41 q42
    refine kv_callVi (As := [.int x40]) (rest := []) C 25 rfl 61 (k_x_wordAt l D τ ρ σ w29 x40 I31 ) rfl rfl mml_TaleMachineModel_178 mim_yX10_wordAt mse_yX10_wordAt mcd_yX10_wordAt min_yX10_wordAt hd_yX10_wordAt rfl rfl rfl (by decide) rfl (Nat.le_of_ble_eq_true rfl) (kdec dk_cX10_properties 13 rfl) (fun x47 w43 h44 => ?_)
    obtain ⟨I45, f46, p48, p49⟩ := h44
    have F50 : kF [(61, some 13)] w w43 := kF_call F34 f46 (by decide)
    have g51 := kf_rng x47
    obtain ⟨x52, e53⟩ : ∃ z : Int32, w43 61 13 = z := ⟨_, rfl⟩
    have b54 : (0 : Int) ≤ x52.toInt ∧ x52.toInt ≤ 13 := by rw [← e53]; exact I45 61 13
    rw [e37, e53] at p49
    refine kV.sub [0] (L' := [(0, .ref (ρ 61))]) rfl ?_
    exact cut25 w43 x47 I45 F50 (by omega)
  · skip
    refine kv_iconst C 14 rfl 0 (kdec dk_cX10_properties 7 rfl) rfl ?_
    refine kv_goto C 25 (kdec dk_cX10_properties 8 rfl) (by decide) ?_
    refine kV.sub [0] (L' := [(0, .ref (ρ 61))]) rfl ?_
    exact cut25 w29 0 I31 F34 (by omega)

set_option maxHeartbeats 4000000 in
set_option maxRecDepth 100000 in
theorem k_x_property (l : Launch) (D : va_G) (τ : Nat → ClassId) (ρ σ : Nat → Nat) (w : kw) (a1 : Int32) (a2 : Int32) (hI : kI false w)  :
    kM l D τ ρ σ yX10_property cX10_property 5 (some .int) { frames := 4, cells := 0, slots := 0, locals := 144 } [.ref (ρ 61), .int a1, .int a2] w
      (fun o w' => ∃ r : Int32, o = some (.int r) ∧ kI false w' ∧ kF [(61, some 13)] w w') := by
  refine kM_of (own := "TaleMachineModel") rfl (by decide) (Nat.le_of_ble_eq_true rfl) ?_
  intro p e s m args below meth c C hr hlk
  have hF0 : kF [(61, some 13)] w w := kF.rf
  have c_m4 : (-4 : Int32).toInt = -4 := by decide
  have c_0 : (0 : Int32).toInt = 0 := by decide
  have c_2 : (2 : Int32).toInt = 2 := by decide
  have c_32 : (32 : Int32).toInt = 32 := by decide
  refine kV.L (L' := [(0, .ref (ρ 61)), (1, .int a1), (2, .int a2)]) rfl ?_
  have g1 := kf_rng a1
  have g2 := kf_rng a2
  have cut68 : ∀ (w_68 : kw) (l3_68 l4_68 : Int32), kI false w_68 → kF [(61, some 13)] w w_68 → kV p l e { frames := 4, cells := 0, slots := 0, locals := 144 } s m args below meth c (kQ below args s D τ ρ (fun o w' => ∃ r : Int32, o = some (.int r) ∧ kI false w' ∧ kF [(61, some 13)] w w')) 5 D τ ρ 68 [(0, .ref (ρ 61)), (3, .int l3_68), (4, .int l4_68)] [] w_68 := by
    intro w_68 l3_68 l4_68 I_68 F_68 
    have gl3_68 := kf_rng l3_68
    have gl4_68 := kf_rng l4_68
    refine kv_aload_n C 69 rfl 0 (kdec dk_cX10_property 38 rfl) rfl rfl ?_
    obtain ⟨x3, e4⟩ : ∃ z : Int32, w_68 61 13 = z := ⟨_, rfl⟩
    have b5 : (0 : Int) ≤ x3.toInt ∧ x3.toInt ≤ 13 := by rw [← e4]; exact I_68 61 13
    refine kv_get C 72 rfl 61 13 rfl rfl inX10 (by decide) mfl_TaleMachineModel_148 rfl rfl (kdec dk_cX10_property 39 rfl) e4 ?_
    refine kv_if_gt C 75 rfl 83 (kdec dk_cX10_property 40 rfl) (by decide) (fun d6 => ?_) (fun d6 => ?_)
    · skip
      refine kv_bipush C 85 rfl (-4) (kdec dk_cX10_property 45 rfl) rfl ?_
      refine kv_goto C 89 (kdec dk_cX10_property 46 rfl) (by decide) ?_
      exact kv_iret C hr hlk (kdec dk_cX10_property 48 rfl) ⟨_, rfl, I_68, F_68⟩
    · skip
      refine kv_iload C 77 rfl 2 (kdec dk_cX10_property 41 rfl) rfl ?_
      refine kv_bipush C 79 rfl 32 (kdec dk_cX10_property 42 rfl) rfl ?_
      refine kv_irem C 80 rfl (kdec dk_cX10_property 43 rfl) (by decide) (fun x7 h8e h8l h8u => ?_)
      refine kv_if_ne C 83 rfl 88 (kdec dk_cX10_property 44 rfl) (by decide) (fun d9 => ?_) (fun d9 => ?_)
      · skip
        refine kv_iload_n C 89 rfl 1 (kdec dk_cX10_property 47 rfl) rfl rfl ?_
        exact kv_iret C hr hlk (kdec dk_cX10_property 48 rfl) ⟨_, rfl, I_68, F_68⟩
      · skip
        refine kv_bipush C 85 rfl (-4) (kdec dk_cX10_property 45 rfl) rfl ?_
        refine kv_goto C 89 (kdec dk_cX10_property 46 rfl) (by decide) ?_
        exact kv_iret C hr hlk (kdec dk_cX10_property 48 rfl) ⟨_, rfl, I_68, F_68⟩
  have cut24 : ∀ (n_24 : Nat) (w_24 : kw) (l1_24 l2_24 l3_24 l4_24 : Int32), kI false w_24 → kF [(61, some 13)] w w_24 → (0 ≤ l3_24.toInt ∧ l3_24.toInt ≤ 66600) → (0 ≤ l4_24.toInt ∧ l4_24.toInt ≤ 255) → (¬ (w_24 61 13).toInt = 0 ∨ l3_24.toInt % 65536 < 1024) → ((70000 - l3_24.toInt) : Int) < (n_24 : Int) → kV p l e { frames := 4, cells := 0, slots := 0, locals := 144 } s m args below meth c (kQ below args s D τ ρ (fun o w' => ∃ r : Int32, o = some (.int r) ∧ kI false w' ∧ kF [(61, some 13)] w w')) 5 D τ ρ 24 [(0, .ref (ρ 61)), (1, .int l1_24), (2, .int l2_24), (3, .int l3_24), (4, .int l4_24)] [] w_24 := by
    intro n_24
    induction n_24 with
    | zero => intro w_24 l1_24 l2_24 l3_24 l4_24 I_24 F_24 k24_0 k24_1 k24_2 hmz; exfalso; omega
    | succ n_24 ih24 =>
      intro w_24 l1_24 l2_24 l3_24 l4_24 I_24 F_24 k24_0 k24_1 k24_2 hm24
      have gl1_24 := kf_rng l1_24
      have gl2_24 := kf_rng l2_24
      have gl3_24 := kf_rng l3_24
      have gl4_24 := kf_rng l4_24
      obtain ⟨x10, e11⟩ : ∃ z : Int32, w_24 61 13 = z := ⟨_, rfl⟩
      have b12 : (0 : Int) ≤ x10.toInt ∧ x10.toInt ≤ 13 := by rw [← e11]; exact I_24 61 13
      rw [e11] at k24_2
      refine kv_aload_n C 25 rfl 0 (kdec dk_cX10_property 13 rfl) rfl rfl ?_
      refine kv_get C 28 rfl 61 13 rfl rfl inX10 (by decide) mfl_TaleMachineModel_148 rfl rfl (kdec dk_cX10_property 14 rfl) e11 ?_
      refine kv_if_ne C 31 rfl 68 (kdec dk_cX10_property 15 rfl) (by decide) (fun d13 => ?_) (fun d13 => ?_)
      · skip
        refine kV.sub [0, 3, 4] (L' := [(0, .ref (ρ 61)), (3, .int l3_24), (4, .int l4_24)]) rfl ?_
        exact cut68 w_24 l3_24 l4_24 I_24 F_24 
      · skip
        refine kv_iload C 33 rfl 4 (kdec dk_cX10_property 16 rfl) rfl ?_
        refine kv_bipush C 35 rfl 32 (kdec dk_cX10_property 17 rfl) rfl ?_
        refine kv_irem C 36 rfl (kdec dk_cX10_property 18 rfl) (by decide) (fun x14 h15e h15l h15u => ?_)
        refine kv_if_eq C 39 rfl 68 (kdec dk_cX10_property 19 rfl) (by decide) (fun d16 => ?_) (fun d16 => ?_)
        · skip
          refine kV.sub [0, 3, 4] (L' := [(0, .ref (ρ 61)), (3, .int l3_24), (4, .int l4_24)]) rfl ?_
          exact cut68 w_24 l3_24 l4_24 I_24 F_24 
        · skip
          refine kv_iload C 41 rfl 4 (kdec dk_cX10_property 20 rfl) rfl ?_
          refine kv_bipush C 43 rfl 32 (kdec dk_cX10_property 21 rfl) rfl ?_
          refine kv_irem C 44 rfl (kdec dk_cX10_property 22 rfl) (by decide) (fun x17 h18e h18l h18u => ?_)
          refine kv_iload_n C 45 rfl 2 (kdec dk_cX10_property 23 rfl) rfl rfl ?_
          refine kv_icmp_eq C 48 rfl 68 (kdec dk_cX10_property 24 rfl) (by decide) (fun d19 => ?_) (fun d19 => ?_)
          · skip
            refine kV.sub [0, 3, 4] (L' := [(0, .ref (ρ 61)), (3, .int l3_24), (4, .int l4_24)]) rfl ?_
            exact cut68 w_24 l3_24 l4_24 I_24 F_24 
          · skip
            refine kv_iload_n C 49 rfl 3 (kdec dk_cX10_property 25 rfl) rfl rfl ?_
            refine kv_iload C 51 rfl 4 (kdec dk_cX10_property 26 rfl) rfl ?_
            refine kv_bipush C 53 rfl 32 (kdec dk_cX10_property 27 rfl) rfl ?_
            refine kv_idiv C 54 rfl (kdec dk_cX10_property 28 rfl) (by decide) (fun x20 h21e h21l h21u => ?_)
            have g22 := kf_div h21e (by omega) (by decide)
            rw [c_32] at g22
            refine kv_iadd C 55 rfl (kdec dk_cX10_property 29 rfl) (fun x23 q25 h24e h24 h24l h24u => ?_)
            try have h24n : x23.toInt = l3_24.toInt + x20.toInt := by omega
            clear h24 q25
            refine kv_iconst C 56 rfl 2 (kdec dk_cX10_property 30 rfl) rfl ?_
            refine kv_iadd C 57 rfl (kdec dk_cX10_property 31 rfl) (fun x26 q28 h27e h27 h27l h27u => ?_)
            try have h27n : x26.toInt = x23.toInt + (2 : Int32).toInt := by omega
            clear h27 q28
            refine kv_istore_n C 58 rfl 3 [1, 2, 3, 0, 4] [(0, .ref (ρ 61)), (1, .int l1_24), (2, .int l2_24), (3, .int x26), (4, .int l4_24)] (kdec dk_cX10_property 32 rfl) rfl (by decide) rfl ?_
            refine kv_aload_n C 59 rfl 0 (kdec dk_cX10_property 33 rfl) rfl rfl ?_
            refine kv_iload_n C 60 rfl 3 (kdec dk_cX10_property 34 rfl) rfl rfl ?_
            refine kv_callVi (As := [.int x26]) (rest := []) C 63 rfl 61 (k_x_byteAt l D τ ρ σ w_24 x26 I_24 ) rfl rfl mml_TaleMachineModel_163 mim_yX10_byteAt mse_yX10_byteAt mcd_yX10_byteAt min_yX10_byteAt hd_yX10_byteAt rfl rfl rfl (by decide) rfl (Nat.le_of_ble_eq_true rfl) (kdec dk_cX10_property 35 rfl) (fun x33 w29 h30 => ?_)
            obtain ⟨I31, f32, p34, p35, p36⟩ := h30
            have F37 : kF [(61, some 13)] w w29 := kF_call F_24 f32 (by decide)
            have g38 := kf_rng x33
            obtain ⟨x39, e40⟩ : ∃ z : Int32, w29 61 13 = z := ⟨_, rfl⟩
            have b41 : (0 : Int) ≤ x39.toInt ∧ x39.toInt ≤ 13 := by rw [← e40]; exact I31 61 13
            rw [e11, e40] at p35
            rw [e40] at p36
            refine kv_istore C 65 rfl 4 [1, 2, 3, 4, 0] [(0, .ref (ρ 61)), (1, .int l1_24), (2, .int l2_24), (3, .int x26), (4, .int x33)] (kdec dk_cX10_property 36 rfl) (by decide) rfl ?_
            refine kv_goto C 24 (kdec dk_cX10_property 37 rfl) (by decide) ?_
            exact ih24 w29 l1_24 l2_24 x26 x33 I31 F37 (by omega) (by omega) (by rw [e40]; try omega) (by omega)
  refine kv_aload_n C 1 rfl 0 (kdec dk_cX10_property 0 rfl) rfl rfl ?_
  refine kv_iload_n C 2 rfl 1 (kdec dk_cX10_property 1 rfl) rfl rfl ?_
  refine kv_callVi (As := [.int a1]) (rest := []) C 5 rfl 61 (k_x_properties l D τ ρ σ w a1 hI ) rfl rfl mml_TaleMachineModel_231 mim_yX10_properties mse_yX10_properties mcd_yX10_properties min_yX10_properties hd_yX10_properties rfl rfl rfl (by decide) rfl (Nat.le_of_ble_eq_true rfl) (kdec dk_cX10_property 2 rfl) (fun x46 w42 h43 => ?_)
  obtain ⟨I44, f45, p47⟩ := h43
  have F48 : kF [(61, some 13)] w w42 := kF_call hF0 f45 (by decide)
  have g49 := kf_rng x46
  refine kv_istore_n C 6 rfl 3 [1, 2, 3, 0] [(0, .ref (ρ 61)), (1, .int a1), (2, .int a2), (3, .int x46)] (kdec dk_cX10_property 3 rfl) rfl (by decide) rfl ?_
  refine kv_aload_n C 7 rfl 0 (kdec dk_cX10_property 4 rfl) rfl rfl ?_
  obtain ⟨x50, e51⟩ : ∃ z : Int32, w42 61 13 = z := ⟨_, rfl⟩
  have b52 : (0 : Int) ≤ x50.toInt ∧ x50.toInt ≤ 13 := by rw [← e51]; exact I44 61 13
  refine kv_get C 10 rfl 61 13 rfl rfl inX10 (by decide) mfl_TaleMachineModel_148 rfl rfl (kdec dk_cX10_property 5 rfl) e51 ?_
  refine kv_if_le C 13 rfl 17 (kdec dk_cX10_property 6 rfl) (by decide) (fun d53 => ?_) (fun d53 => ?_)
  · skip
    refine kv_aload_n C 18 rfl 0 (kdec dk_cX10_property 9 rfl) rfl rfl ?_
    refine kv_iload_n C 19 rfl 3 (kdec dk_cX10_property 10 rfl) rfl rfl ?_
    refine kv_callVi (As := [.int x46]) (rest := []) C 22 rfl 61 (k_x_byteAt l D τ ρ σ w42 x46 I44 ) rfl rfl mml_TaleMachineModel_163 mim_yX10_byteAt mse_yX10_byteAt mcd_yX10_byteAt min_yX10_byteAt hd_yX10_byteAt rfl rfl rfl (by decide) rfl (Nat.le_of_ble_eq_true rfl) (kdec dk_cX10_property 11 rfl) (fun x58 w54 h55 => ?_)
    obtain ⟨I56, f57, p59, p60, p61⟩ := h55
    have F62 : kF [(61, some 13)] w w54 := kF_call F48 f57 (by decide)
    have g63 := kf_rng x58
    obtain ⟨x64, e65⟩ : ∃ z : Int32, w54 61 13 = z := ⟨_, rfl⟩
    have b66 : (0 : Int) ≤ x64.toInt ∧ x64.toInt ≤ 13 := by rw [← e65]; exact I56 61 13
    rw [e51, e65] at p60
    rw [e65] at p61
    refine kv_istore C 24 rfl 4 [1, 2, 3, 4, 0] [(0, .ref (ρ 61)), (1, .int a1), (2, .int a2), (3, .int x46), (4, .int x58)] (kdec dk_cX10_property 12 rfl) (by decide) rfl ?_
    exact cut24 ((((70000 - (x46 : Int32).toInt)) : Int).toNat + 1) w54 a1 a2 x46 x58 I56 F62 (by omega) (by omega) (by rw [e65]; try omega) (by omega)
  · skip
    refine kv_iconst C 14 rfl 0 (kdec dk_cX10_property 7 rfl) rfl ?_
    refine kv_goto C 22 (kdec dk_cX10_property 8 rfl) (by decide) ?_
    refine kv_istore C 24 rfl 4 [1, 2, 3, 4, 0] [(0, .ref (ρ 61)), (1, .int a1), (2, .int a2), (3, .int x46), (4, .int 0)] (kdec dk_cX10_property 12 rfl) (by decide) rfl ?_
    exact cut24 ((((70000 - (x46 : Int32).toInt)) : Int).toNat + 1) w42 a1 a2 x46 0 I44 F48 (by omega) (by omega) (by rw [e51]; try omega) (by omega)

set_option maxHeartbeats 4000000 in
set_option maxRecDepth 100000 in
theorem k_x_getProperty (l : Launch) (D : va_G) (τ : Nat → ClassId) (ρ σ : Nat → Nat) (w : kw) (a1 : Int32) (a2 : Int32) (hI : kI false w) (hM : kMoT w) :
    kM l D τ ρ σ yX10_getProperty cX10_getProperty 6 none { frames := 5, cells := 0, slots := 0, locals := 180 } [.ref (ρ 61), .int a1, .int a2] w
      (fun o w' => o = none ∧ kI false w' ∧ kF [(61, some 13), (61, some 15), (61, some 19), (64, none), (66, none), (71, none)] w w' ∧ kMoT w') := by
  refine kM_of (own := "TaleMachineModel") rfl (by decide) (Nat.le_of_ble_eq_true rfl) ?_
  intro p e s m args below meth c C hr hlk
  have hF0 : kF [(61, some 13), (61, some 15), (61, some 19), (64, none), (66, none), (71, none)] w w := kF.rf
  have c_m4 : (-4 : Int32).toInt = -4 := by decide
  have c_0 : (0 : Int32).toInt = 0 := by decide
  have c_1 : (1 : Int32).toInt = 1 := by decide
  have c_2 : (2 : Int32).toInt = 2 := by decide
  have c_10 : (10 : Int32).toInt = 10 := by decide
  have c_32 : (32 : Int32).toInt = 32 := by decide
  refine kV.L (L' := [(0, .ref (ρ 61)), (1, .int a1), (2, .int a2)]) rfl ?_
  have g1 := kf_rng a1
  have g2 := kf_rng a2
  obtain ⟨x3, e4⟩ : ∃ z : Int32, w 61 20 = z := ⟨_, rfl⟩
  have b5 : (0 : Int) ≤ x3.toInt ∧ x3.toInt ≤ 20 := by rw [← e4]; exact hI 61 20
  have r6 := kMoT_fr hM
  rw [e4] at r6
  have cut116 : ∀ (w_116 : kw) (l4_116 : Int32), kI false w_116 → kF [(61, some 13), (61, some 15), (61, some 19), (64, none), (66, none), (71, none)] w w_116 → kMoT w_116 → kV p l e { frames := 5, cells := 0, slots := 0, locals := 180 } s m args below meth c (kQ below args s D τ ρ (fun o w' => o = none ∧ kI false w' ∧ kF [(61, some 13), (61, some 15), (61, some 19), (64, none), (66, none), (71, none)] w w' ∧ kMoT w')) 6 D τ ρ 116 [(0, .ref (ρ 61)), (4, .int l4_116)] [] w_116 := by
    intro w_116 l4_116 I_116 F_116  M_116
    have gl4_116 := kf_rng l4_116
    have e7 : w_116 61 20 = x3 := ((F_116 61 20 rfl : w_116 61 20 = w 61 20).trans e4)
    have r8 := kMoT_fr M_116
    rw [e7] at r8
    refine kv_aload_n C 117 rfl 0 (kdec dk_cX10_getProperty 66 rfl) rfl rfl ?_
    refine kv_iload C 119 rfl 1 (kdec dk_cX10_getProperty 67 rfl) rfl ?_
    refine kv_callVv (As := [.int l4_116]) (rest := []) C 122 rfl 61 (k_x_answers l D τ ρ σ w_116 l4_116 I_116 M_116) rfl rfl mml_TaleMachineModel_237 mim_yX10_answers mse_yX10_answers mcd_yX10_answers min_yX10_answers hd_yX10_answers rfl rfl rfl (by decide) rfl (Nat.le_of_ble_eq_true rfl) (kdec dk_cX10_getProperty 68 rfl) (fun w9 h10 => ?_)
    obtain ⟨I11, f12, M14⟩ := h10
    have F15 : kF [(61, some 13), (61, some 15), (61, some 19), (64, none), (66, none), (71, none)] w w9 := kF_call F_116 f12 (by decide)
    have e16 : w9 61 20 = x3 := ((f12 61 20 rfl : w9 61 20 = w_116 61 20).trans e7)
    have r17 := kMoT_fr M14
    rw [e16] at r17
    exact kv_vret C hr hlk (kdec dk_cX10_getProperty 69 rfl) ⟨rfl, I11, F15, M14⟩
  have cut114 : ∀ (w_114 : kw) (s0_114 : Int32), kI false w_114 → kF [(61, some 13), (61, some 15), (61, some 19), (64, none), (66, none), (71, none)] w w_114 → kMoT w_114 → kV p l e { frames := 5, cells := 0, slots := 0, locals := 180 } s m args below meth c (kQ below args s D τ ρ (fun o w' => o = none ∧ kI false w' ∧ kF [(61, some 13), (61, some 15), (61, some 19), (64, none), (66, none), (71, none)] w w' ∧ kMoT w')) 6 D τ ρ 114 [(0, .ref (ρ 61))] [.int s0_114] w_114 := by
    intro w_114 s0_114 I_114 F_114  M_114
    have gs0_114 := kf_rng s0_114
    have e18 : w_114 61 20 = x3 := ((F_114 61 20 rfl : w_114 61 20 = w 61 20).trans e4)
    have r19 := kMoT_fr M_114
    rw [e18] at r19
    refine kv_istore C 116 rfl 4 [1, 0] [(0, .ref (ρ 61)), (4, .int s0_114)] (kdec dk_cX10_getProperty 65 rfl) (by decide) rfl ?_
    exact cut116 w_114 s0_114 I_114 F_114 M_114
  refine kv_aload_n C 1 rfl 0 (kdec dk_cX10_getProperty 0 rfl) rfl rfl ?_
  refine kv_iload_n C 2 rfl 1 (kdec dk_cX10_getProperty 1 rfl) rfl rfl ?_
  refine kv_iload_n C 3 rfl 2 (kdec dk_cX10_getProperty 2 rfl) rfl rfl ?_
  refine kv_callVi (As := [.int a1, .int a2]) (rest := []) C 6 rfl 61 (k_x_property l D τ ρ σ w a1 a2 hI ) rfl rfl mml_TaleMachineModel_234 mim_yX10_property mse_yX10_property mcd_yX10_property min_yX10_property hd_yX10_property rfl rfl rfl (by decide) rfl (Nat.le_of_ble_eq_true rfl) (kdec dk_cX10_getProperty 3 rfl) (fun x24 w20 h21 => ?_)
  obtain ⟨I22, f23⟩ := h21
  have F25 : kF [(61, some 13), (61, some 15), (61, some 19), (64, none), (66, none), (71, none)] w w20 := kF_call hF0 f23 (by decide)
  have M26 : kMoT w20 := kMoT_kF f23 hM rfl rfl (fun _ => rfl)
  have g27 := kf_rng x24
  refine kv_istore_n C 7 rfl 3 [1, 2, 3, 0] [(0, .ref (ρ 61)), (1, .int a1), (2, .int a2), (3, .int x24)] (kdec dk_cX10_getProperty 4 rfl) rfl (by decide) rfl ?_
  refine kv_aload_n C 8 rfl 0 (kdec dk_cX10_getProperty 5 rfl) rfl rfl ?_
  obtain ⟨x28, e29⟩ : ∃ z : Int32, w20 61 13 = z := ⟨_, rfl⟩
  have b30 : (0 : Int) ≤ x28.toInt ∧ x28.toInt ≤ 13 := by rw [← e29]; exact I22 61 13
  refine kv_get C 11 rfl 61 13 rfl rfl inX10 (by decide) mfl_TaleMachineModel_148 rfl rfl (kdec dk_cX10_getProperty 6 rfl) e29 ?_
  refine kv_if_le C 14 rfl 15 (kdec dk_cX10_getProperty 7 rfl) (by decide) (fun d31 => ?_) (fun d31 => ?_)
  · skip
    refine kv_iconst C 16 rfl 0 (kdec dk_cX10_getProperty 9 rfl) rfl ?_
    refine kv_istore C 18 rfl 4 [1, 2, 3, 4, 0] [(0, .ref (ρ 61)), (1, .int a1), (2, .int a2), (3, .int x24), (4, .int 0)] (kdec dk_cX10_getProperty 10 rfl) (by decide) rfl ?_
    refine kv_iload_n C 19 rfl 3 (kdec dk_cX10_getProperty 11 rfl) rfl rfl ?_
    refine kv_bipush C 21 rfl (-4) (kdec dk_cX10_getProperty 12 rfl) rfl ?_
    refine kv_icmp_ne C 24 rfl 64 (kdec dk_cX10_getProperty 13 rfl) (by decide) (fun d32 => ?_) (fun d32 => ?_)
    · skip
      refine kv_aload_n C 65 rfl 0 (kdec dk_cX10_getProperty 36 rfl) rfl rfl ?_
      refine kv_iload_n C 66 rfl 3 (kdec dk_cX10_getProperty 37 rfl) rfl rfl ?_
      refine kv_callVi (As := [.int x24]) (rest := []) C 69 rfl 61 (k_x_byteAt l D τ ρ σ w20 x24 I22 ) rfl rfl mml_TaleMachineModel_163 mim_yX10_byteAt mse_yX10_byteAt mcd_yX10_byteAt min_yX10_byteAt hd_yX10_byteAt rfl rfl rfl (by decide) rfl (Nat.le_of_ble_eq_true rfl) (kdec dk_cX10_getProperty 38 rfl) (fun x37 w33 h34 => ?_)
      obtain ⟨I35, f36, p38, p39, p40⟩ := h34
      have F41 : kF [(61, some 13), (61, some 15), (61, some 19), (64, none), (66, none), (71, none)] w w33 := kF_call F25 f36 (by decide)
      have M42 : kMoT w33 := kMoT_kF f36 M26 rfl rfl (fun _ => rfl)
      have g43 := kf_rng x37
      obtain ⟨x44, e45⟩ : ∃ z : Int32, w33 61 13 = z := ⟨_, rfl⟩
      have b46 : (0 : Int) ≤ x44.toInt ∧ x44.toInt ≤ 13 := by rw [← e45]; exact I35 61 13
      rw [e29, e45] at p39
      rw [e45] at p40
      refine kv_bipush C 71 rfl 32 (kdec dk_cX10_getProperty 39 rfl) rfl ?_
      refine kv_idiv C 72 rfl (kdec dk_cX10_getProperty 40 rfl) (by decide) (fun x47 h48e h48l h48u => ?_)
      refine kv_iconst C 73 rfl 1 (kdec dk_cX10_getProperty 41 rfl) rfl ?_
      refine kv_iadd C 74 rfl (kdec dk_cX10_getProperty 42 rfl) (fun x49 q51 h50e h50 h50l h50u => ?_)
      try have h50n : x49.toInt = x47.toInt + (1 : Int32).toInt := by omega
      clear h50 q51
      refine kv_istore C 76 rfl 5 [1, 2, 3, 4, 5, 0] [(0, .ref (ρ 61)), (1, .int a1), (2, .int a2), (3, .int x24), (4, .int 0), (5, .int x49)] (kdec dk_cX10_getProperty 43 rfl) (by decide) rfl ?_
      refine kv_iload C 78 rfl 5 (kdec dk_cX10_getProperty 44 rfl) rfl ?_
      refine kv_iconst C 79 rfl 2 (kdec dk_cX10_getProperty 45 rfl) rfl ?_
      refine kv_icmp_le C 82 rfl 91 (kdec dk_cX10_getProperty 46 rfl) (by decide) (fun d52 => ?_) (fun d52 => ?_)
      · skip
        refine kv_iload C 93 rfl 5 (kdec dk_cX10_getProperty 51 rfl) rfl ?_
        refine kv_iconst C 94 rfl 1 (kdec dk_cX10_getProperty 52 rfl) rfl ?_
        refine kv_icmp_ne C 97 rfl 107 (kdec dk_cX10_getProperty 53 rfl) (by decide) (fun d53 => ?_) (fun d53 => ?_)
        · skip
          refine kv_aload_n C 108 rfl 0 (kdec dk_cX10_getProperty 60 rfl) rfl rfl ?_
          refine kv_iload_n C 109 rfl 3 (kdec dk_cX10_getProperty 61 rfl) rfl rfl ?_
          refine kv_iconst C 110 rfl 1 (kdec dk_cX10_getProperty 62 rfl) rfl ?_
          refine kv_iadd C 111 rfl (kdec dk_cX10_getProperty 63 rfl) (fun x54 q56 h55e h55 h55l h55u => ?_)
          try have h55n : x54.toInt = x24.toInt + (1 : Int32).toInt := by omega
          clear h55 q56
          refine kv_callVi (As := [.int x54]) (rest := []) C 114 rfl 61 (k_x_wordAt l D τ ρ σ w33 x54 I35 ) rfl rfl mml_TaleMachineModel_178 mim_yX10_wordAt mse_yX10_wordAt mcd_yX10_wordAt min_yX10_wordAt hd_yX10_wordAt rfl rfl rfl (by decide) rfl (Nat.le_of_ble_eq_true rfl) (kdec dk_cX10_getProperty 64 rfl) (fun x61 w57 h58 => ?_)
          obtain ⟨I59, f60, p62, p63⟩ := h58
          have F64 : kF [(61, some 13), (61, some 15), (61, some 19), (64, none), (66, none), (71, none)] w w57 := kF_call F41 f60 (by decide)
          have M65 : kMoT w57 := kMoT_kF f60 M42 rfl rfl (fun _ => rfl)
          have g66 := kf_rng x61
          obtain ⟨x67, e68⟩ : ∃ z : Int32, w57 61 13 = z := ⟨_, rfl⟩
          have b69 : (0 : Int) ≤ x67.toInt ∧ x67.toInt ≤ 13 := by rw [← e68]; exact I59 61 13
          rw [e45, e68] at p63
          refine kV.sub [0] (L' := [(0, .ref (ρ 61))]) rfl ?_
          exact cut114 w57 x61 I59 F64 M65
        · skip
          refine kv_aload_n C 98 rfl 0 (kdec dk_cX10_getProperty 54 rfl) rfl rfl ?_
          refine kv_iload_n C 99 rfl 3 (kdec dk_cX10_getProperty 55 rfl) rfl rfl ?_
          refine kv_iconst C 100 rfl 1 (kdec dk_cX10_getProperty 56 rfl) rfl ?_
          refine kv_iadd C 101 rfl (kdec dk_cX10_getProperty 57 rfl) (fun x70 q72 h71e h71 h71l h71u => ?_)
          try have h71n : x70.toInt = x24.toInt + (1 : Int32).toInt := by omega
          clear h71 q72
          refine kv_callVi (As := [.int x70]) (rest := []) C 104 rfl 61 (k_x_byteAt l D τ ρ σ w33 x70 I35 ) rfl rfl mml_TaleMachineModel_163 mim_yX10_byteAt mse_yX10_byteAt mcd_yX10_byteAt min_yX10_byteAt hd_yX10_byteAt rfl rfl rfl (by decide) rfl (Nat.le_of_ble_eq_true rfl) (kdec dk_cX10_getProperty 58 rfl) (fun x77 w73 h74 => ?_)
          obtain ⟨I75, f76, p78, p79, p80⟩ := h74
          have F81 : kF [(61, some 13), (61, some 15), (61, some 19), (64, none), (66, none), (71, none)] w w73 := kF_call F41 f76 (by decide)
          have M82 : kMoT w73 := kMoT_kF f76 M42 rfl rfl (fun _ => rfl)
          have g83 := kf_rng x77
          obtain ⟨x84, e85⟩ : ∃ z : Int32, w73 61 13 = z := ⟨_, rfl⟩
          have b86 : (0 : Int) ≤ x84.toInt ∧ x84.toInt ≤ 13 := by rw [← e85]; exact I75 61 13
          rw [e45, e85] at p79
          rw [e85] at p80
          refine kv_goto C 114 (kdec dk_cX10_getProperty 59 rfl) (by decide) ?_
          refine kV.sub [0] (L' := [(0, .ref (ρ 61))]) rfl ?_
          exact cut114 w73 x77 I75 F81 M82
      · skip
        refine kv_aload_n C 83 rfl 0 (kdec dk_cX10_getProperty 47 rfl) rfl rfl ?_
        refine kv_bipush C 85 rfl 10 (kdec dk_cX10_getProperty 48 rfl) rfl ?_
        refine kv_callVv (As := [.int 10]) (rest := []) C 88 rfl 61 (k_x_halts l D τ ρ σ w33 10 I35 (by omega)) rfl rfl mml_TaleMachineModel_160 mim_yX10_halts mse_yX10_halts mcd_yX10_halts min_yX10_halts hd_yX10_halts rfl rfl rfl (by decide) rfl (Nat.le_of_ble_eq_true rfl) (kdec dk_cX10_getProperty 49 rfl) (fun w87 h88 => ?_)
        obtain ⟨I89, f90, p92⟩ := h88
        have F93 : kF [(61, some 13), (61, some 15), (61, some 19), (64, none), (66, none), (71, none)] w w87 := kF_call F41 f90 (by decide)
        have M94 : kMoT w87 := kMoT_kF f90 M42 rfl rfl (fun _ => rfl)
        obtain ⟨x95, e96⟩ : ∃ z : Int32, w87 61 13 = z := ⟨_, rfl⟩
        have b97 : (0 : Int) ≤ x95.toInt ∧ x95.toInt ≤ 13 := by rw [← e96]; exact I89 61 13
        rw [e45, e96] at p92
        refine kv_goto C 116 (kdec dk_cX10_getProperty 50 rfl) (by decide) ?_
        refine kV.sub [0, 4] (L' := [(0, .ref (ρ 61)), (4, .int 0)]) rfl ?_
        exact cut116 w87 0 I89 F93 M94
    · skip
      refine kv_iload_n C 25 rfl 2 (kdec dk_cX10_getProperty 14 rfl) rfl rfl ?_
      refine kv_i2l C 26 rfl (kdec dk_cX10_getProperty 15 rfl) ?_
      have h98 := kf_i2l a2
      refine kv_lconst C 27 rfl 1 (kdec dk_cX10_getProperty 16 rfl) rfl ?_
      have h99 : (1 : Int64).toInt = 1 := by decide
      refine kv_ldc2 C 30 rfl 31 (kdec dk_cX10_getProperty 17 rfl) mcl_TaleMachineModel_222 ?_
      have h100 : (31 : Int64).toInt = 31 := by decide
      refine kv_callSi (As := [.long (a2 : Int32).toInt64, .long (1 : Int64), .long (31 : Int64)]) (rest := []) C 33 rfl (k_x_in l D τ ρ σ w20 (a2 : Int32).toInt64 (1 : Int64) (31 : Int64) I22 ) mml_TaleMachineModel_94 mst_yX10_in mcd_yX10_in min_yX10_in hd_yX10_in rfl rfl rfl (by decide) rfl (Nat.le_of_ble_eq_true rfl) (kdec dk_cX10_getProperty 18 rfl) (fun x105 w101 h102 => ?_)
      obtain ⟨I103, f104, p106, p107⟩ := h102
      have F108 : kF [(61, some 13), (61, some 15), (61, some 19), (64, none), (66, none), (71, none)] w w101 := kF_call F25 f104 (by decide)
      have M109 : kMoT w101 := kMoT_kF f104 M26 rfl rfl (fun _ => rfl)
      have g110 := kf_rng x105
      refine kv_if_ne C 36 rfl 45 (kdec dk_cX10_getProperty 19 rfl) (by decide) (fun d111 => ?_) (fun d111 => ?_)
      · skip
        refine kv_aload_n C 46 rfl 0 (kdec dk_cX10_getProperty 24 rfl) rfl rfl ?_
        refine kv_aload_n C 47 rfl 0 (kdec dk_cX10_getProperty 25 rfl) rfl rfl ?_
        obtain ⟨x112, e113⟩ : ∃ z : Int32, w 61 9 = z := ⟨_, rfl⟩
        have b114 : (0 : Int) ≤ x112.toInt ∧ x112.toInt ≤ 65535 := by rw [← e113]; exact hI 61 9
        have e115 : w101 61 9 = x112 := ((f104 61 9 rfl : w101 61 9 = w20 61 9).trans ((f23 61 9 rfl : w20 61 9 = w 61 9).trans e113))
        refine kv_get C 50 rfl 61 9 rfl rfl inX10 (by decide) mfl_TaleMachineModel_124 rfl rfl (kdec dk_cX10_getProperty 26 rfl) e115 ?_
        refine kv_iconst C 51 rfl 2 (kdec dk_cX10_getProperty 27 rfl) rfl ?_
        refine kv_iload_n C 52 rfl 2 (kdec dk_cX10_getProperty 28 rfl) rfl rfl ?_
        refine kv_iconst C 53 rfl 1 (kdec dk_cX10_getProperty 29 rfl) rfl ?_
        refine kv_isub C 54 rfl (kdec dk_cX10_getProperty 30 rfl) (fun x116 q118 h117e h117 h117l h117u => ?_)
        try have h117n : x116.toInt = a2.toInt - (1 : Int32).toInt := by omega
        clear h117 q118
        refine kv_imul C 55 rfl (kdec dk_cX10_getProperty 31 rfl) (fun x119 h120e h120l h120u => ?_)
        obtain ⟨q121, g122⟩ := kf_mul 2 x116
        rw [← h120e, c_2] at g122
        try have h120n : x119.toInt = 2 * x116.toInt := by omega
        clear g122 q121
        refine kv_iadd C 56 rfl (kdec dk_cX10_getProperty 32 rfl) (fun x123 q125 h124e h124 h124l h124u => ?_)
        try have h124n : x123.toInt = x112.toInt + x119.toInt := by omega
        clear h124 q125
        refine kv_callVi (As := [.int x123]) (rest := []) C 59 rfl 61 (k_x_wordAt l D τ ρ σ w101 x123 I103 ) rfl rfl mml_TaleMachineModel_178 mim_yX10_wordAt mse_yX10_wordAt mcd_yX10_wordAt min_yX10_wordAt hd_yX10_wordAt rfl rfl rfl (by decide) rfl (Nat.le_of_ble_eq_true rfl) (kdec dk_cX10_getProperty 33 rfl) (fun x130 w126 h127 => ?_)
        obtain ⟨I128, f129, p131, p132⟩ := h127
        have F133 : kF [(61, some 13), (61, some 15), (61, some 19), (64, none), (66, none), (71, none)] w w126 := kF_call F108 f129 (by decide)
        have M134 : kMoT w126 := kMoT_kF f129 M109 rfl rfl (fun _ => rfl)
        have g135 := kf_rng x130
        have e136 : w101 61 13 = x28 := ((f104 61 13 rfl : w101 61 13 = w20 61 13).trans e29)
        obtain ⟨x137, e138⟩ : ∃ z : Int32, w126 61 13 = z := ⟨_, rfl⟩
        have b139 : (0 : Int) ≤ x137.toInt ∧ x137.toInt ≤ 13 := by rw [← e138]; exact I128 61 13
        rw [e136, e138] at p132
        refine kv_istore C 61 rfl 4 [1, 2, 3, 4, 0] [(0, .ref (ρ 61)), (1, .int a1), (2, .int a2), (3, .int x24), (4, .int x130)] (kdec dk_cX10_getProperty 34 rfl) (by decide) rfl ?_
        refine kv_goto C 116 (kdec dk_cX10_getProperty 35 rfl) (by decide) ?_
        refine kV.sub [0, 4] (L' := [(0, .ref (ρ 61)), (4, .int x130)]) rfl ?_
        exact cut116 w126 x130 I128 F133 M134
      · skip
        refine kv_aload_n C 37 rfl 0 (kdec dk_cX10_getProperty 20 rfl) rfl rfl ?_
        refine kv_bipush C 39 rfl 10 (kdec dk_cX10_getProperty 21 rfl) rfl ?_
        refine kv_callVv (As := [.int 10]) (rest := []) C 42 rfl 61 (k_x_halts l D τ ρ σ w101 10 I103 (by omega)) rfl rfl mml_TaleMachineModel_160 mim_yX10_halts mse_yX10_halts mcd_yX10_halts min_yX10_halts hd_yX10_halts rfl rfl rfl (by decide) rfl (Nat.le_of_ble_eq_true rfl) (kdec dk_cX10_getProperty 22 rfl) (fun w140 h141 => ?_)
        obtain ⟨I142, f143, p145⟩ := h141
        have F146 : kF [(61, some 13), (61, some 15), (61, some 19), (64, none), (66, none), (71, none)] w w140 := kF_call F108 f143 (by decide)
        have M147 : kMoT w140 := kMoT_kF f143 M109 rfl rfl (fun _ => rfl)
        have e148 : w101 61 13 = x28 := ((f104 61 13 rfl : w101 61 13 = w20 61 13).trans e29)
        obtain ⟨x149, e150⟩ : ∃ z : Int32, w140 61 13 = z := ⟨_, rfl⟩
        have b151 : (0 : Int) ≤ x149.toInt ∧ x149.toInt ≤ 13 := by rw [← e150]; exact I142 61 13
        rw [e148, e150] at p145
        refine kv_goto C 116 (kdec dk_cX10_getProperty 23 rfl) (by decide) ?_
        refine kV.sub [0, 4] (L' := [(0, .ref (ρ 61)), (4, .int 0)]) rfl ?_
        exact cut116 w140 0 I142 F146 M147
  · skip
    exact kv_vret C hr hlk (kdec dk_cX10_getProperty 8 rfl) ⟨rfl, I22, F25, M26⟩

set_option maxHeartbeats 4000000 in
set_option maxRecDepth 100000 in
theorem k_x_putProperty (l : Launch) (D : va_G) (τ : Nat → ClassId) (ρ σ : Nat → Nat) (w : kw) (a1 : Int32) (a2 : Int32) (a3 : Int32) (hI : kI false w)  :
    kM l D τ ρ σ yX10_putProperty cX10_putProperty 6 none { frames := 5, cells := 0, slots := 0, locals := 180 } [.ref (ρ 61), .int a1, .int a2, .int a3] w
      (fun o w' => o = none ∧ kI false w' ∧ kF [(61, some 13), (64, none)] w w') := by
  refine kM_of (own := "TaleMachineModel") rfl (by decide) (Nat.le_of_ble_eq_true rfl) ?_
  intro p e s m args below meth c C hr hlk
  have hF0 : kF [(61, some 13), (64, none)] w w := kF.rf
  have c_m4 : (-4 : Int32).toInt = -4 := by decide
  have c_1 : (1 : Int32).toInt = 1 := by decide
  have c_2 : (2 : Int32).toInt = 2 := by decide
  have c_9 : (9 : Int32).toInt = 9 := by decide
  have c_10 : (10 : Int32).toInt = 10 := by decide
  have c_32 : (32 : Int32).toInt = 32 := by decide
  refine kV.L (L' := [(0, .ref (ρ 61)), (1, .int a1), (2, .int a2), (3, .int a3)]) rfl ?_
  have g1 := kf_rng a1
  have g2 := kf_rng a2
  have g3 := kf_rng a3
  have cut59 : ∀ (w_59 : kw) (l3_59 l4_59 l5_59 : Int32), kI false w_59 → kF [(61, some 13), (64, none)] w w_59 → kV p l e { frames := 5, cells := 0, slots := 0, locals := 180 } s m args below meth c (kQ below args s D τ ρ (fun o w' => o = none ∧ kI false w' ∧ kF [(61, some 13), (64, none)] w w')) 6 D τ ρ 59 [(0, .ref (ρ 61)), (3, .int l3_59), (4, .int l4_59), (5, .int l5_59)] [] w_59 := by
    intro w_59 l3_59 l4_59 l5_59 I_59 F_59 
    have gl3_59 := kf_rng l3_59
    have gl4_59 := kf_rng l4_59
    have gl5_59 := kf_rng l5_59
    refine kv_iload C 61 rfl 3 (kdec dk_cX10_putProperty 30 rfl) rfl ?_
    refine kv_iconst C 62 rfl 1 (kdec dk_cX10_putProperty 31 rfl) rfl ?_
    refine kv_icmp_ne C 65 rfl 77 (kdec dk_cX10_putProperty 32 rfl) (by decide) (fun d4 => ?_) (fun d4 => ?_)
    · skip
      refine kv_aload_n C 78 rfl 0 (kdec dk_cX10_putProperty 40 rfl) rfl rfl ?_
      refine kv_iload C 80 rfl 2 (kdec dk_cX10_putProperty 41 rfl) rfl ?_
      refine kv_iconst C 81 rfl 1 (kdec dk_cX10_putProperty 42 rfl) rfl ?_
      refine kv_iadd C 82 rfl (kdec dk_cX10_putProperty 43 rfl) (fun x5 q7 h6e h6 h6l h6u => ?_)
      try have h6n : x5.toInt = l4_59.toInt + (1 : Int32).toInt := by omega
      clear h6 q7
      refine kv_iload_n C 83 rfl 1 (kdec dk_cX10_putProperty 44 rfl) rfl rfl ?_
      refine kv_callVv (As := [.int x5, .int l3_59]) (rest := []) C 86 rfl 61 (k_x_putWord l D τ ρ σ w_59 x5 l3_59 I_59 ) rfl rfl mml_TaleMachineModel_184 mim_yX10_putWord mse_yX10_putWord mcd_yX10_putWord min_yX10_putWord hd_yX10_putWord rfl rfl rfl (by decide) rfl (Nat.le_of_ble_eq_true rfl) (kdec dk_cX10_putProperty 45 rfl) (fun w8 h9 => ?_)
      obtain ⟨I10, f11, p13⟩ := h9
      have F14 : kF [(61, some 13), (64, none)] w w8 := kF_call F_59 f11 (by decide)
      obtain ⟨x15, e16⟩ : ∃ z : Int32, w_59 61 13 = z := ⟨_, rfl⟩
      have b17 : (0 : Int) ≤ x15.toInt ∧ x15.toInt ≤ 13 := by rw [← e16]; exact I_59 61 13
      obtain ⟨x18, e19⟩ : ∃ z : Int32, w8 61 13 = z := ⟨_, rfl⟩
      have b20 : (0 : Int) ≤ x18.toInt ∧ x18.toInt ≤ 13 := by rw [← e19]; exact I10 61 13
      rw [e16, e19] at p13
      exact kv_vret C hr hlk (kdec dk_cX10_putProperty 46 rfl) ⟨rfl, I10, F14⟩
    · skip
      refine kv_aload_n C 66 rfl 0 (kdec dk_cX10_putProperty 33 rfl) rfl rfl ?_
      refine kv_iload C 68 rfl 2 (kdec dk_cX10_putProperty 34 rfl) rfl ?_
      refine kv_iconst C 69 rfl 1 (kdec dk_cX10_putProperty 35 rfl) rfl ?_
      refine kv_iadd C 70 rfl (kdec dk_cX10_putProperty 36 rfl) (fun x21 q23 h22e h22 h22l h22u => ?_)
      try have h22n : x21.toInt = l4_59.toInt + (1 : Int32).toInt := by omega
      clear h22 q23
      refine kv_iload_n C 71 rfl 1 (kdec dk_cX10_putProperty 37 rfl) rfl rfl ?_
      refine kv_callVv (As := [.int x21, .int l3_59]) (rest := []) C 74 rfl 61 (k_x_putByte l D τ ρ σ w_59 x21 l3_59 I_59 ) rfl rfl mml_TaleMachineModel_208 mim_yX10_putByte mse_yX10_putByte mcd_yX10_putByte min_yX10_putByte hd_yX10_putByte rfl rfl rfl (by decide) rfl (Nat.le_of_ble_eq_true rfl) (kdec dk_cX10_putProperty 38 rfl) (fun w24 h25 => ?_)
      obtain ⟨I26, f27, p29⟩ := h25
      have F30 : kF [(61, some 13), (64, none)] w w24 := kF_call F_59 f27 (by decide)
      obtain ⟨x31, e32⟩ : ∃ z : Int32, w_59 61 13 = z := ⟨_, rfl⟩
      have b33 : (0 : Int) ≤ x31.toInt ∧ x31.toInt ≤ 13 := by rw [← e32]; exact I_59 61 13
      obtain ⟨x34, e35⟩ : ∃ z : Int32, w24 61 13 = z := ⟨_, rfl⟩
      have b36 : (0 : Int) ≤ x34.toInt ∧ x34.toInt ≤ 13 := by rw [← e35]; exact I26 61 13
      rw [e32, e35] at p29
      refine kv_goto C 86 (kdec dk_cX10_putProperty 39 rfl) (by decide) ?_
      exact kv_vret C hr hlk (kdec dk_cX10_putProperty 46 rfl) ⟨rfl, I26, F30⟩
  have cut38 : ∀ (w_38 : kw) (l3_38 l4_38 s0_38 : Int32), kI false w_38 → kF [(61, some 13), (64, none)] w w_38 → kV p l e { frames := 5, cells := 0, slots := 0, locals := 180 } s m args below meth c (kQ below args s D τ ρ (fun o w' => o = none ∧ kI false w' ∧ kF [(61, some 13), (64, none)] w w')) 6 D τ ρ 38 [(0, .ref (ρ 61)), (3, .int l3_38), (4, .int l4_38)] [.int s0_38] w_38 := by
    intro w_38 l3_38 l4_38 s0_38 I_38 F_38 
    have gl3_38 := kf_rng l3_38
    have gl4_38 := kf_rng l4_38
    have gs0_38 := kf_rng s0_38
    refine kv_istore C 40 rfl 5 [1, 2, 3, 0] [(0, .ref (ρ 61)), (3, .int l3_38), (4, .int l4_38), (5, .int s0_38)] (kdec dk_cX10_putProperty 20 rfl) (by decide) rfl ?_
    refine kv_aload_n C 41 rfl 0 (kdec dk_cX10_putProperty 21 rfl) rfl rfl ?_
    obtain ⟨x37, e38⟩ : ∃ z : Int32, w_38 61 13 = z := ⟨_, rfl⟩
    have b39 : (0 : Int) ≤ x37.toInt ∧ x37.toInt ≤ 13 := by rw [← e38]; exact I_38 61 13
    refine kv_get C 44 rfl 61 13 rfl rfl inX10 (by decide) mfl_TaleMachineModel_148 rfl rfl (kdec dk_cX10_putProperty 22 rfl) e38 ?_
    refine kv_if_ne C 47 rfl 59 (kdec dk_cX10_putProperty 23 rfl) (by decide) (fun d40 => ?_) (fun d40 => ?_)
    · skip
      exact cut59 w_38 l3_38 l4_38 s0_38 I_38 F_38 
    · skip
      refine kv_iload C 49 rfl 3 (kdec dk_cX10_putProperty 24 rfl) rfl ?_
      refine kv_iconst C 50 rfl 2 (kdec dk_cX10_putProperty 25 rfl) rfl ?_
      refine kv_icmp_le C 53 rfl 59 (kdec dk_cX10_putProperty 26 rfl) (by decide) (fun d41 => ?_) (fun d41 => ?_)
      · skip
        exact cut59 w_38 l3_38 l4_38 s0_38 I_38 F_38 
      · skip
        refine kv_aload_n C 54 rfl 0 (kdec dk_cX10_putProperty 27 rfl) rfl rfl ?_
        refine kv_bipush C 56 rfl 10 (kdec dk_cX10_putProperty 28 rfl) rfl ?_
        refine kv_callVv (As := [.int 10]) (rest := []) C 59 rfl 61 (k_x_halts l D τ ρ σ w_38 10 I_38 (by omega)) rfl rfl mml_TaleMachineModel_160 mim_yX10_halts mse_yX10_halts mcd_yX10_halts min_yX10_halts hd_yX10_halts rfl rfl rfl (by decide) rfl (Nat.le_of_ble_eq_true rfl) (kdec dk_cX10_putProperty 29 rfl) (fun w42 h43 => ?_)
        obtain ⟨I44, f45, p47⟩ := h43
        have F48 : kF [(61, some 13), (64, none)] w w42 := kF_call F_38 f45 (by decide)
        obtain ⟨x49, e50⟩ : ∃ z : Int32, w42 61 13 = z := ⟨_, rfl⟩
        have b51 : (0 : Int) ≤ x49.toInt ∧ x49.toInt ≤ 13 := by rw [← e50]; exact I44 61 13
        rw [e38, e50] at p47
        exact cut59 w42 l3_38 l4_38 s0_38 I44 F48 
  refine kv_aload_n C 1 rfl 0 (kdec dk_cX10_putProperty 0 rfl) rfl rfl ?_
  refine kv_iload_n C 2 rfl 1 (kdec dk_cX10_putProperty 1 rfl) rfl rfl ?_
  refine kv_iload_n C 3 rfl 2 (kdec dk_cX10_putProperty 2 rfl) rfl rfl ?_
  refine kv_callVi (As := [.int a1, .int a2]) (rest := []) C 6 rfl 61 (k_x_property l D τ ρ σ w a1 a2 hI ) rfl rfl mml_TaleMachineModel_234 mim_yX10_property mse_yX10_property mcd_yX10_property min_yX10_property hd_yX10_property rfl rfl rfl (by decide) rfl (Nat.le_of_ble_eq_true rfl) (kdec dk_cX10_putProperty 3 rfl) (fun x56 w52 h53 => ?_)
  obtain ⟨I54, f55⟩ := h53
  have F57 : kF [(61, some 13), (64, none)] w w52 := kF_call hF0 f55 (by decide)
  have g58 := kf_rng x56
  refine kv_istore C 8 rfl 4 [1, 2, 3, 4, 0] [(0, .ref (ρ 61)), (1, .int a1), (2, .int a2), (3, .int a3), (4, .int x56)] (kdec dk_cX10_putProperty 4 rfl) (by decide) rfl ?_
  refine kv_aload_n C 9 rfl 0 (kdec dk_cX10_putProperty 5 rfl) rfl rfl ?_
  obtain ⟨x59, e60⟩ : ∃ z : Int32, w52 61 13 = z := ⟨_, rfl⟩
  have b61 : (0 : Int) ≤ x59.toInt ∧ x59.toInt ≤ 13 := by rw [← e60]; exact I54 61 13
  refine kv_get C 12 rfl 61 13 rfl rfl inX10 (by decide) mfl_TaleMachineModel_148 rfl rfl (kdec dk_cX10_putProperty 6 rfl) e60 ?_
  refine kv_if_gt C 15 rfl 22 (kdec dk_cX10_putProperty 7 rfl) (by decide) (fun d62 => ?_) (fun d62 => ?_)
  · skip
    refine kv_bipush C 24 rfl 9 (kdec dk_cX10_putProperty 11 rfl) rfl ?_
    refine kv_goto C 38 (kdec dk_cX10_putProperty 12 rfl) (by decide) ?_
    refine kV.sub [0, 3, 4] (L' := [(0, .ref (ρ 61)), (3, .int a3), (4, .int x56)]) rfl ?_
    exact cut38 w52 a3 x56 9 I54 F57 
  · skip
    refine kv_iload C 17 rfl 4 (kdec dk_cX10_putProperty 8 rfl) rfl ?_
    refine kv_bipush C 19 rfl (-4) (kdec dk_cX10_putProperty 9 rfl) rfl ?_
    refine kv_icmp_ne C 22 rfl 27 (kdec dk_cX10_putProperty 10 rfl) (by decide) (fun d63 => ?_) (fun d63 => ?_)
    · skip
      refine kv_aload_n C 28 rfl 0 (kdec dk_cX10_putProperty 13 rfl) rfl rfl ?_
      refine kv_iload C 30 rfl 4 (kdec dk_cX10_putProperty 14 rfl) rfl ?_
      refine kv_callVi (As := [.int x56]) (rest := []) C 33 rfl 61 (k_x_byteAt l D τ ρ σ w52 x56 I54 ) rfl rfl mml_TaleMachineModel_163 mim_yX10_byteAt mse_yX10_byteAt mcd_yX10_byteAt min_yX10_byteAt hd_yX10_byteAt rfl rfl rfl (by decide) rfl (Nat.le_of_ble_eq_true rfl) (kdec dk_cX10_putProperty 15 rfl) (fun x68 w64 h65 => ?_)
      obtain ⟨I66, f67, p69, p70, p71⟩ := h65
      have F72 : kF [(61, some 13), (64, none)] w w64 := kF_call F57 f67 (by decide)
      have g73 := kf_rng x68
      obtain ⟨x74, e75⟩ : ∃ z : Int32, w64 61 13 = z := ⟨_, rfl⟩
      have b76 : (0 : Int) ≤ x74.toInt ∧ x74.toInt ≤ 13 := by rw [← e75]; exact I66 61 13
      rw [e60, e75] at p70
      rw [e75] at p71
      refine kv_bipush C 35 rfl 32 (kdec dk_cX10_putProperty 16 rfl) rfl ?_
      refine kv_idiv C 36 rfl (kdec dk_cX10_putProperty 17 rfl) (by decide) (fun x77 h78e h78l h78u => ?_)
      refine kv_iconst C 37 rfl 1 (kdec dk_cX10_putProperty 18 rfl) rfl ?_
      refine kv_iadd C 38 rfl (kdec dk_cX10_putProperty 19 rfl) (fun x79 q81 h80e h80 h80l h80u => ?_)
      try have h80n : x79.toInt = x77.toInt + (1 : Int32).toInt := by omega
      clear h80 q81
      refine kV.sub [0, 3, 4] (L' := [(0, .ref (ρ 61)), (3, .int a3), (4, .int x56)]) rfl ?_
      exact cut38 w64 a3 x56 x79 I66 F72 
    · skip
      refine kv_bipush C 24 rfl 9 (kdec dk_cX10_putProperty 11 rfl) rfl ?_
      refine kv_goto C 38 (kdec dk_cX10_putProperty 12 rfl) (by decide) ?_
      refine kV.sub [0, 3, 4] (L' := [(0, .ref (ρ 61)), (3, .int a3), (4, .int x56)]) rfl ?_
      exact cut38 w52 a3 x56 9 I54 F57 

set_option maxHeartbeats 4000000 in
set_option maxRecDepth 100000 in
theorem k_x_nextProperty (l : Launch) (D : va_G) (τ : Nat → ClassId) (ρ σ : Nat → Nat) (w : kw) (a1 : Int32) (a2 : Int32) (hI : kI false w) (hM : kMoT w) :
    kM l D τ ρ σ yX10_nextProperty cX10_nextProperty 5 none { frames := 5, cells := 0, slots := 0, locals := 180 } [.ref (ρ 61), .int a1, .int a2] w
      (fun o w' => o = none ∧ kI false w' ∧ kF [(61, some 13), (61, some 15), (61, some 19), (64, none), (66, none), (71, none)] w w' ∧ kMoT w') := by
  refine kM_of (own := "TaleMachineModel") rfl (by decide) (Nat.le_of_ble_eq_true rfl) ?_
  intro p e s m args below meth c C hr hlk
  have hF0 : kF [(61, some 13), (61, some 15), (61, some 19), (64, none), (66, none), (71, none)] w w := kF.rf
  have c_m4 : (-4 : Int32).toInt = -4 := by decide
  have c_2 : (2 : Int32).toInt = 2 := by decide
  have c_10 : (10 : Int32).toInt = 10 := by decide
  have c_32 : (32 : Int32).toInt = 32 := by decide
  refine kV.L (L' := [(0, .ref (ρ 61)), (1, .int a1), (2, .int a2)]) rfl ?_
  have g1 := kf_rng a1
  have g2 := kf_rng a2
  obtain ⟨x3, e4⟩ : ∃ z : Int32, w 61 20 = z := ⟨_, rfl⟩
  have b5 : (0 : Int) ≤ x3.toInt ∧ x3.toInt ≤ 20 := by rw [← e4]; exact hI 61 20
  have r6 := kMoT_fr hM
  rw [e4] at r6
  have cut57 : ∀ (w_57 : kw) (l3_57 : Int32), kI false w_57 → kF [(61, some 13), (61, some 15), (61, some 19), (64, none), (66, none), (71, none)] w w_57 → kMoT w_57 → kV p l e { frames := 5, cells := 0, slots := 0, locals := 180 } s m args below meth c (kQ below args s D τ ρ (fun o w' => o = none ∧ kI false w' ∧ kF [(61, some 13), (61, some 15), (61, some 19), (64, none), (66, none), (71, none)] w w' ∧ kMoT w')) 5 D τ ρ 57 [(0, .ref (ρ 61)), (3, .int l3_57)] [] w_57 := by
    intro w_57 l3_57 I_57 F_57  M_57
    have gl3_57 := kf_rng l3_57
    have e7 : w_57 61 20 = x3 := ((F_57 61 20 rfl : w_57 61 20 = w 61 20).trans e4)
    have r8 := kMoT_fr M_57
    rw [e7] at r8
    refine kv_aload_n C 58 rfl 0 (kdec dk_cX10_nextProperty 34 rfl) rfl rfl ?_
    refine kv_iload_n C 59 rfl 1 (kdec dk_cX10_nextProperty 35 rfl) rfl rfl ?_
    refine kv_callVi (As := [.int l3_57]) (rest := []) C 62 rfl 61 (k_x_byteAt l D τ ρ σ w_57 l3_57 I_57 ) rfl rfl mml_TaleMachineModel_163 mim_yX10_byteAt mse_yX10_byteAt mcd_yX10_byteAt min_yX10_byteAt hd_yX10_byteAt rfl rfl rfl (by decide) rfl (Nat.le_of_ble_eq_true rfl) (kdec dk_cX10_nextProperty 36 rfl) (fun x13 w9 h10 => ?_)
    obtain ⟨I11, f12, p14, p15, p16⟩ := h10
    have F17 : kF [(61, some 13), (61, some 15), (61, some 19), (64, none), (66, none), (71, none)] w w9 := kF_call F_57 f12 (by decide)
    have M18 : kMoT w9 := kMoT_kF f12 M_57 rfl rfl (fun _ => rfl)
    have g19 := kf_rng x13
    obtain ⟨x20, e21⟩ : ∃ z : Int32, w_57 61 13 = z := ⟨_, rfl⟩
    have b22 : (0 : Int) ≤ x20.toInt ∧ x20.toInt ≤ 13 := by rw [← e21]; exact I_57 61 13
    obtain ⟨x23, e24⟩ : ∃ z : Int32, w9 61 13 = z := ⟨_, rfl⟩
    have b25 : (0 : Int) ≤ x23.toInt ∧ x23.toInt ≤ 13 := by rw [← e24]; exact I11 61 13
    rw [e21, e24] at p15
    rw [e24] at p16
    refine kv_bipush C 64 rfl 32 (kdec dk_cX10_nextProperty 37 rfl) rfl ?_
    refine kv_irem C 65 rfl (kdec dk_cX10_nextProperty 38 rfl) (by decide) (fun x26 h27e h27l h27u => ?_)
    refine kv_istore C 67 rfl 4 [1, 2, 0] [(0, .ref (ρ 61)), (3, .int l3_57), (4, .int x26)] (kdec dk_cX10_nextProperty 39 rfl) (by decide) rfl ?_
    refine kv_aload_n C 68 rfl 0 (kdec dk_cX10_nextProperty 40 rfl) rfl rfl ?_
    refine kv_iload C 70 rfl 2 (kdec dk_cX10_nextProperty 41 rfl) rfl ?_
    refine kv_callVv (As := [.int x26]) (rest := []) C 73 rfl 61 (k_x_answers l D τ ρ σ w9 x26 I11 M18) rfl rfl mml_TaleMachineModel_237 mim_yX10_answers mse_yX10_answers mcd_yX10_answers min_yX10_answers hd_yX10_answers rfl rfl rfl (by decide) rfl (Nat.le_of_ble_eq_true rfl) (kdec dk_cX10_nextProperty 42 rfl) (fun w28 h29 => ?_)
    obtain ⟨I30, f31, M33⟩ := h29
    have F34 : kF [(61, some 13), (61, some 15), (61, some 19), (64, none), (66, none), (71, none)] w w28 := kF_call F17 f31 (by decide)
    have e35 : w28 61 20 = x3 := ((f31 61 20 rfl : w28 61 20 = w9 61 20).trans ((f12 61 20 rfl : w9 61 20 = w_57 61 20).trans e7))
    have r36 := kMoT_fr M33
    rw [e35] at r36
    exact kv_vret C hr hlk (kdec dk_cX10_nextProperty 43 rfl) ⟨rfl, I30, F34, M33⟩
  have cut18 : ∀ (w_18 : kw) (l2_18 s0_18 : Int32), kI false w_18 → kF [(61, some 13), (61, some 15), (61, some 19), (64, none), (66, none), (71, none)] w w_18 → kMoT w_18 → kV p l e { frames := 5, cells := 0, slots := 0, locals := 180 } s m args below meth c (kQ below args s D τ ρ (fun o w' => o = none ∧ kI false w' ∧ kF [(61, some 13), (61, some 15), (61, some 19), (64, none), (66, none), (71, none)] w w' ∧ kMoT w')) 5 D τ ρ 18 [(0, .ref (ρ 61)), (2, .int l2_18)] [.int s0_18] w_18 := by
    intro w_18 l2_18 s0_18 I_18 F_18  M_18
    have gl2_18 := kf_rng l2_18
    have gs0_18 := kf_rng s0_18
    have e37 : w_18 61 20 = x3 := ((F_18 61 20 rfl : w_18 61 20 = w 61 20).trans e4)
    have r38 := kMoT_fr M_18
    rw [e37] at r38
    refine kv_istore_n C 19 rfl 3 [1, 2, 0] [(0, .ref (ρ 61)), (2, .int l2_18), (3, .int s0_18)] (kdec dk_cX10_nextProperty 10 rfl) rfl (by decide) rfl ?_
    refine kv_aload_n C 20 rfl 0 (kdec dk_cX10_nextProperty 11 rfl) rfl rfl ?_
    obtain ⟨x39, e40⟩ : ∃ z : Int32, w_18 61 13 = z := ⟨_, rfl⟩
    have b41 : (0 : Int) ≤ x39.toInt ∧ x39.toInt ≤ 13 := by rw [← e40]; exact I_18 61 13
    refine kv_get C 23 rfl 61 13 rfl rfl inX10 (by decide) mfl_TaleMachineModel_148 rfl rfl (kdec dk_cX10_nextProperty 12 rfl) e40 ?_
    refine kv_if_le C 26 rfl 27 (kdec dk_cX10_nextProperty 13 rfl) (by decide) (fun d42 => ?_) (fun d42 => ?_)
    · skip
      refine kv_iload_n C 28 rfl 2 (kdec dk_cX10_nextProperty 15 rfl) rfl rfl ?_
      refine kv_bipush C 30 rfl (-4) (kdec dk_cX10_nextProperty 16 rfl) rfl ?_
      refine kv_icmp_ne C 33 rfl 40 (kdec dk_cX10_nextProperty 17 rfl) (by decide) (fun d43 => ?_) (fun d43 => ?_)
      · skip
        refine kv_iload_n C 41 rfl 1 (kdec dk_cX10_nextProperty 22 rfl) rfl rfl ?_
        refine kv_if_le C 44 rfl 57 (kdec dk_cX10_nextProperty 23 rfl) (by decide) (fun d44 => ?_) (fun d44 => ?_)
        · skip
          refine kV.sub [0, 2] (L' := [(0, .ref (ρ 61)), (3, .int s0_18)]) rfl ?_
          exact cut57 w_18 s0_18 I_18 F_18 M_18
        · skip
          refine kv_iload_n C 45 rfl 2 (kdec dk_cX10_nextProperty 24 rfl) rfl rfl ?_
          refine kv_aload_n C 46 rfl 0 (kdec dk_cX10_nextProperty 25 rfl) rfl rfl ?_
          refine kv_iload_n C 47 rfl 2 (kdec dk_cX10_nextProperty 26 rfl) rfl rfl ?_
          refine kv_callVi (As := [.int s0_18]) (rest := [.int s0_18]) C 50 rfl 61 (k_x_byteAt l D τ ρ σ w_18 s0_18 I_18 ) rfl rfl mml_TaleMachineModel_163 mim_yX10_byteAt mse_yX10_byteAt mcd_yX10_byteAt min_yX10_byteAt hd_yX10_byteAt rfl rfl rfl (by decide) rfl (Nat.le_of_ble_eq_true rfl) (kdec dk_cX10_nextProperty 27 rfl) (fun x49 w45 h46 => ?_)
          obtain ⟨I47, f48, p50, p51, p52⟩ := h46
          have F53 : kF [(61, some 13), (61, some 15), (61, some 19), (64, none), (66, none), (71, none)] w w45 := kF_call F_18 f48 (by decide)
          have M54 : kMoT w45 := kMoT_kF f48 M_18 rfl rfl (fun _ => rfl)
          have g55 := kf_rng x49
          obtain ⟨x56, e57⟩ : ∃ z : Int32, w45 61 13 = z := ⟨_, rfl⟩
          have b58 : (0 : Int) ≤ x56.toInt ∧ x56.toInt ≤ 13 := by rw [← e57]; exact I47 61 13
          rw [e40, e57] at p51
          rw [e57] at p52
          refine kv_bipush C 52 rfl 32 (kdec dk_cX10_nextProperty 28 rfl) rfl ?_
          refine kv_idiv C 53 rfl (kdec dk_cX10_nextProperty 29 rfl) (by decide) (fun x59 h60e h60l h60u => ?_)
          refine kv_iadd C 54 rfl (kdec dk_cX10_nextProperty 30 rfl) (fun x61 q63 h62e h62 h62l h62u => ?_)
          try have h62n : x61.toInt = s0_18.toInt + x59.toInt := by omega
          clear h62 q63
          refine kv_iconst C 55 rfl 2 (kdec dk_cX10_nextProperty 31 rfl) rfl ?_
          refine kv_iadd C 56 rfl (kdec dk_cX10_nextProperty 32 rfl) (fun x64 q66 h65e h65 h65l h65u => ?_)
          try have h65n : x64.toInt = x61.toInt + (2 : Int32).toInt := by omega
          clear h65 q66
          refine kv_istore_n C 57 rfl 3 [1, 2, 0] [(0, .ref (ρ 61)), (2, .int l2_18), (3, .int x64)] (kdec dk_cX10_nextProperty 33 rfl) rfl (by decide) rfl ?_
          refine kV.sub [0, 2] (L' := [(0, .ref (ρ 61)), (3, .int x64)]) rfl ?_
          exact cut57 w45 x64 I47 F53 M54
      · skip
        refine kv_aload_n C 34 rfl 0 (kdec dk_cX10_nextProperty 18 rfl) rfl rfl ?_
        refine kv_bipush C 36 rfl 10 (kdec dk_cX10_nextProperty 19 rfl) rfl ?_
        refine kv_callVv (As := [.int 10]) (rest := []) C 39 rfl 61 (k_x_halts l D τ ρ σ w_18 10 I_18 (by omega)) rfl rfl mml_TaleMachineModel_160 mim_yX10_halts mse_yX10_halts mcd_yX10_halts min_yX10_halts hd_yX10_halts rfl rfl rfl (by decide) rfl (Nat.le_of_ble_eq_true rfl) (kdec dk_cX10_nextProperty 20 rfl) (fun w67 h68 => ?_)
        obtain ⟨I69, f70, p72⟩ := h68
        have F73 : kF [(61, some 13), (61, some 15), (61, some 19), (64, none), (66, none), (71, none)] w w67 := kF_call F_18 f70 (by decide)
        have M74 : kMoT w67 := kMoT_kF f70 M_18 rfl rfl (fun _ => rfl)
        obtain ⟨x75, e76⟩ : ∃ z : Int32, w67 61 13 = z := ⟨_, rfl⟩
        have b77 : (0 : Int) ≤ x75.toInt ∧ x75.toInt ≤ 13 := by rw [← e76]; exact I69 61 13
        rw [e40, e76] at p72
        exact kv_vret C hr hlk (kdec dk_cX10_nextProperty 21 rfl) ⟨rfl, I69, F73, M74⟩
    · skip
      exact kv_vret C hr hlk (kdec dk_cX10_nextProperty 14 rfl) ⟨rfl, I_18, F_18, M_18⟩
  refine kv_iload_n C 1 rfl 2 (kdec dk_cX10_nextProperty 0 rfl) rfl rfl ?_
  refine kv_if_ne C 4 rfl 12 (kdec dk_cX10_nextProperty 1 rfl) (by decide) (fun d78 => ?_) (fun d78 => ?_)
  · skip
    refine kv_aload_n C 13 rfl 0 (kdec dk_cX10_nextProperty 6 rfl) rfl rfl ?_
    refine kv_iload_n C 14 rfl 1 (kdec dk_cX10_nextProperty 7 rfl) rfl rfl ?_
    refine kv_iload_n C 15 rfl 2 (kdec dk_cX10_nextProperty 8 rfl) rfl rfl ?_
    refine kv_callVi (As := [.int a1, .int a2]) (rest := []) C 18 rfl 61 (k_x_property l D τ ρ σ w a1 a2 hI ) rfl rfl mml_TaleMachineModel_234 mim_yX10_property mse_yX10_property mcd_yX10_property min_yX10_property hd_yX10_property rfl rfl rfl (by decide) rfl (Nat.le_of_ble_eq_true rfl) (kdec dk_cX10_nextProperty 9 rfl) (fun x83 w79 h80 => ?_)
    obtain ⟨I81, f82⟩ := h80
    have F84 : kF [(61, some 13), (61, some 15), (61, some 19), (64, none), (66, none), (71, none)] w w79 := kF_call hF0 f82 (by decide)
    have M85 : kMoT w79 := kMoT_kF f82 hM rfl rfl (fun _ => rfl)
    have g86 := kf_rng x83
    refine kV.sub [0, 2] (L' := [(0, .ref (ρ 61)), (2, .int a2)]) rfl ?_
    exact cut18 w79 a2 x83 I81 F84 M85
  · skip
    refine kv_aload_n C 5 rfl 0 (kdec dk_cX10_nextProperty 2 rfl) rfl rfl ?_
    refine kv_iload_n C 6 rfl 1 (kdec dk_cX10_nextProperty 3 rfl) rfl rfl ?_
    refine kv_callVi (As := [.int a1]) (rest := []) C 9 rfl 61 (k_x_properties l D τ ρ σ w a1 hI ) rfl rfl mml_TaleMachineModel_231 mim_yX10_properties mse_yX10_properties mcd_yX10_properties min_yX10_properties hd_yX10_properties rfl rfl rfl (by decide) rfl (Nat.le_of_ble_eq_true rfl) (kdec dk_cX10_nextProperty 4 rfl) (fun x91 w87 h88 => ?_)
    obtain ⟨I89, f90, p92⟩ := h88
    have F93 : kF [(61, some 13), (61, some 15), (61, some 19), (64, none), (66, none), (71, none)] w w87 := kF_call hF0 f90 (by decide)
    have M94 : kMoT w87 := kMoT_kF f90 hM rfl rfl (fun _ => rfl)
    have g95 := kf_rng x91
    refine kv_goto C 18 (kdec dk_cX10_nextProperty 5 rfl) (by decide) ?_
    refine kV.sub [0, 2] (L' := [(0, .ref (ρ 61)), (2, .int a2)]) rfl ?_
    exact cut18 w87 a2 x91 I89 F93 M94
