set_option maxHeartbeats 4000000 in
set_option maxRecDepth 100000 in
theorem k_raise (l : Launch) (D : va_G) (τ : Nat → ClassId) (ρ σ : Nat → Nat) (w : kw) (a1 : Int32) (hI : kI true w) (hp0 : 1 ≤ a1.toInt ∧ a1.toInt ≤ 13) :
    kM l D τ ρ σ yX6_raise cX6_raise 2 none { frames := 0, cells := 0, slots := 0, locals := 0 } [.ref (ρ 2), .int a1] w
      (fun o w' => o = none ∧ kI true w' ∧ kF [(2, some 9)] w w' ∧ ((w 2 9).toInt = 0 ∧ (w' 2 9).toInt = a1.toInt ∨ ¬ (w 2 9).toInt = 0 ∧ (w' 2 9).toInt = (w 2 9).toInt)) := by
  refine kM_of (own := "TaleMachine$Store") rfl (by decide) (Nat.le_of_ble_eq_true rfl) ?_
  intro p e s m args below meth c C hr hlk
  have hF0 : kF [(2, some 9)] w w := kF.rf
  refine kV.L (L' := [(0, .ref (ρ 2)), (1, .int a1)]) rfl ?_
  have g1 := kf_rng a1
  refine kv_aload_n C 1 rfl 0 (kdec dk_cX6_raise 0 rfl) rfl rfl ?_
  obtain ⟨x2, e3⟩ : ∃ z : Int32, w 2 9 = z := ⟨_, rfl⟩
  have b4 : (0 : Int) ≤ x2.toInt ∧ x2.toInt ≤ 13 := by rw [← e3]; exact hI 2 9
  refine kv_get C 4 rfl 2 9 rfl rfl inX6 (by decide) mfl_TaleMachine_Store_37 rfl rfl (kdec dk_cX6_raise 1 rfl) e3 ?_
  refine kv_if_ne C 7 rfl 12 (kdec dk_cX6_raise 2 rfl) (by decide) (fun d5 => ?_) (fun d5 => ?_)
  · skip
    exact kv_vret C hr hlk (kdec dk_cX6_raise 6 rfl) ⟨rfl, hI, hF0, (by rw [e3]; try omega)⟩
  · skip
    refine kv_aload_n C 8 rfl 0 (kdec dk_cX6_raise 3 rfl) rfl rfl ?_
    refine kv_iload_n C 9 rfl 1 (kdec dk_cX6_raise 4 rfl) rfl rfl ?_
    refine kv_put C 12 rfl 2 9 rfl rfl inX6 (by decide) mfl_TaleMachine_Store_37 rfl tyX6 tyX6_ok nmX6 rfl rfl (kdec dk_cX6_raise 5 rfl) rfl rfl (fun w6 u7 => ?_)
    have I8 : kI true w6 := kI_put u7 hI (show (0 : Int) ≤ (a1 : Int32).toInt by omega) (show (a1 : Int32).toInt ≤ 13 by omega)
    have F9 : kF [(2, some 9)] w w6 := kF_put u7 hF0 rfl
    exact kv_vret C hr hlk (kdec dk_cX6_raise 6 rfl) ⟨rfl, I8, F9, (by rw [e3, (kup_eq u7)]; try omega)⟩

set_option maxHeartbeats 4000000 in
set_option maxRecDepth 100000 in
theorem k_byteAt (l : Launch) (D : va_G) (τ : Nat → ClassId) (ρ σ : Nat → Nat) (w : kw) (a1 : Int32) (hI : kI true w)  :
    kM l D τ ρ σ yX6_byteAt cX6_byteAt 3 (some .int) { frames := 1, cells := 0, slots := 0, locals := 36 } [.ref (ρ 2), .int a1] w
      (fun o w' => ∃ r : Int32, o = some (.int r) ∧ kI true w' ∧ kF [(2, some 9)] w w' ∧ (0 ≤ r.toInt ∧ r.toInt ≤ 255) ∧ ((w 2 9).toInt = 0 ∨ ¬ (w' 2 9).toInt = 0)) := by
  refine kM_of (own := "TaleMachine$Store") rfl (by decide) (Nat.le_of_ble_eq_true rfl) ?_
  intro p e s m args below meth c C hr hlk
  have hF0 : kF [(2, some 9)] w w := kF.rf
  have c_0 : (0 : Int32).toInt = 0 := by decide
  have c_1 : (1 : Int32).toInt = 1 := by decide
  have c_65535 : (65535 : Int32).toInt = 65535 := by decide
  refine kV.L (L' := [(0, .ref (ρ 2)), (1, .int a1)]) rfl ?_
  have g1 := kf_rng a1
  refine kv_iload_n C 1 rfl 1 (kdec dk_cX6_byteAt 0 rfl) rfl rfl ?_
  refine kv_ldc C 3 rfl 65535 (kdec dk_cX6_byteAt 1 rfl) mco_TaleMachine_Store_69 ?_
  refine kv_iand C 4 rfl (kdec dk_cX6_byteAt 2 rfl) (fun x2 h3e h3l h3u => ?_)
  have g4 := kf_and65535 h3e
  refine kv_istore_n C 5 rfl 2 [1, 2, 0] [(0, .ref (ρ 2)), (1, .int a1), (2, .int x2)] (kdec dk_cX6_byteAt 3 rfl) rfl (by decide) rfl ?_
  refine kv_iload_n C 6 rfl 2 (kdec dk_cX6_byteAt 4 rfl) rfl rfl ?_
  refine kv_aload_n C 7 rfl 0 (kdec dk_cX6_byteAt 5 rfl) rfl rfl ?_
  obtain ⟨x5, e6⟩ : ∃ z : Int32, w 2 2 = z := ⟨_, rfl⟩
  have b7 : (0 : Int) ≤ x5.toInt ∧ x5.toInt ≤ 1024 := by rw [← e6]; exact hI 2 2
  refine kv_get C 10 rfl 2 2 rfl rfl inX6 (by decide) mfl_TaleMachine_Store_27 rfl rfl (kdec dk_cX6_byteAt 6 rfl) e6 ?_
  refine kv_icmp_lt C 13 rfl 18 (kdec dk_cX6_byteAt 7 rfl) (by decide) (fun d8 => ?_) (fun d8 => ?_)
  · skip
    refine kv_aload_n C 19 rfl 0 (kdec dk_cX6_byteAt 11 rfl) rfl rfl ?_
    obtain ⟨x9, e10⟩ : ∃ z : Int32, w 2 9 = z := ⟨_, rfl⟩
    have b11 : (0 : Int) ≤ x9.toInt ∧ x9.toInt ≤ 13 := by rw [← e10]; exact hI 2 9
    refine kv_get C 22 rfl 2 9 rfl rfl inX6 (by decide) mfl_TaleMachine_Store_37 rfl rfl (kdec dk_cX6_byteAt 12 rfl) e10 ?_
    refine kv_if_ne C 25 rfl 34 (kdec dk_cX6_byteAt 13 rfl) (by decide) (fun d12 => ?_) (fun d12 => ?_)
    · skip
      refine kv_iconst C 35 rfl 0 (kdec dk_cX6_byteAt 19 rfl) rfl ?_
      exact kv_iret C hr hlk (kdec dk_cX6_byteAt 20 rfl) ⟨_, rfl, hI, hF0, (by omega), (by rw [e10]; try omega)⟩
    · skip
      refine kv_aload_n C 26 rfl 0 (kdec dk_cX6_byteAt 14 rfl) rfl rfl ?_
      refine kv_getr C 29 rfl 2 0 rfl rfl inX6 (by decide) mfl_TaleMachine_Store_9 rfl rfl (kdec dk_cX6_byteAt 15 rfl) ?_
      refine kv_iload_n C 30 rfl 2 (kdec dk_cX6_byteAt 16 rfl) rfl rfl ?_
      obtain ⟨x13, e14⟩ : ∃ z : Int32, w 3 (x2 : Int32).toNatClampNeg = z := ⟨_, rfl⟩
      have b15 : (0 : Int) ≤ x13.toInt ∧ x13.toInt ≤ 255 := by rw [← e14]; exact hI 3 _
      refine kv_iald C 31 rfl 3 rfl (by omega) (by omega) e14 (kdec dk_cX6_byteAt 17 rfl) ?_
      refine kv_goto C 35 (kdec dk_cX6_byteAt 18 rfl) (by decide) ?_
      exact kv_iret C hr hlk (kdec dk_cX6_byteAt 20 rfl) ⟨_, rfl, hI, hF0, (by omega), (by rw [e10]; try omega)⟩
  · skip
    refine kv_aload_n C 14 rfl 0 (kdec dk_cX6_byteAt 8 rfl) rfl rfl ?_
    refine kv_iconst C 15 rfl 1 (kdec dk_cX6_byteAt 9 rfl) rfl ?_
    refine kv_callVv (As := [.int 1]) (rest := []) C 18 rfl 2 (k_raise l D τ ρ σ w 1 hI (by omega)) rfl rfl mml_TaleMachine_Store_70 mim_yX6_raise mse_yX6_raise mcd_yX6_raise min_yX6_raise hd_yX6_raise rfl rfl rfl (by decide) rfl (Nat.le_of_ble_eq_true rfl) (kdec dk_cX6_byteAt 10 rfl) (fun w16 h17 => ?_)
    obtain ⟨I18, f19, p21⟩ := h17
    have F22 : kF [(2, some 9)] w w16 := kF_call hF0 f19 (by decide)
    obtain ⟨x23, e24⟩ : ∃ z : Int32, w 2 9 = z := ⟨_, rfl⟩
    have b25 : (0 : Int) ≤ x23.toInt ∧ x23.toInt ≤ 13 := by rw [← e24]; exact hI 2 9
    obtain ⟨x26, e27⟩ : ∃ z : Int32, w16 2 9 = z := ⟨_, rfl⟩
    have b28 : (0 : Int) ≤ x26.toInt ∧ x26.toInt ≤ 13 := by rw [← e27]; exact I18 2 9
    rw [e24, e27] at p21
    refine kv_aload_n C 19 rfl 0 (kdec dk_cX6_byteAt 11 rfl) rfl rfl ?_
    refine kv_get C 22 rfl 2 9 rfl rfl inX6 (by decide) mfl_TaleMachine_Store_37 rfl rfl (kdec dk_cX6_byteAt 12 rfl) e27 ?_
    refine kv_if_ne C 25 rfl 34 (kdec dk_cX6_byteAt 13 rfl) (by decide) (fun d29 => ?_) (fun d29 => ?_)
    · skip
      refine kv_iconst C 35 rfl 0 (kdec dk_cX6_byteAt 19 rfl) rfl ?_
      exact kv_iret C hr hlk (kdec dk_cX6_byteAt 20 rfl) ⟨_, rfl, I18, F22, (by omega), (by rw [e24, e27]; try omega)⟩
    · skip
      refine kv_aload_n C 26 rfl 0 (kdec dk_cX6_byteAt 14 rfl) rfl rfl ?_
      refine kv_getr C 29 rfl 2 0 rfl rfl inX6 (by decide) mfl_TaleMachine_Store_9 rfl rfl (kdec dk_cX6_byteAt 15 rfl) ?_
      refine kv_iload_n C 30 rfl 2 (kdec dk_cX6_byteAt 16 rfl) rfl rfl ?_
      obtain ⟨x30, e31⟩ : ∃ z : Int32, w16 3 (x2 : Int32).toNatClampNeg = z := ⟨_, rfl⟩
      have b32 : (0 : Int) ≤ x30.toInt ∧ x30.toInt ≤ 255 := by rw [← e31]; exact I18 3 _
      refine kv_iald C 31 rfl 3 rfl (by omega) (by omega) e31 (kdec dk_cX6_byteAt 17 rfl) ?_
      refine kv_goto C 35 (kdec dk_cX6_byteAt 18 rfl) (by decide) ?_
      exact kv_iret C hr hlk (kdec dk_cX6_byteAt 20 rfl) ⟨_, rfl, I18, F22, (by omega), (by rw [e24, e27]; try omega)⟩

set_option maxHeartbeats 4000000 in
set_option maxRecDepth 100000 in
theorem k_wordAt (l : Launch) (D : va_G) (τ : Nat → ClassId) (ρ σ : Nat → Nat) (w : kw) (a1 : Int32) (hI : kI true w)  :
    kM l D τ ρ σ yX6_wordAt cX6_wordAt 4 (some .int) { frames := 1, cells := 0, slots := 0, locals := 36 } [.ref (ρ 2), .int a1] w
      (fun o w' => ∃ r : Int32, o = some (.int r) ∧ kI true w' ∧ kF [(2, some 9)] w w' ∧ (0 ≤ r.toInt ∧ r.toInt ≤ 65535) ∧ ((w 2 9).toInt = 0 ∨ ¬ (w' 2 9).toInt = 0)) := by
  refine kM_of (own := "TaleMachine$Store") rfl (by decide) (Nat.le_of_ble_eq_true rfl) ?_
  intro p e s m args below meth c C hr hlk
  have hF0 : kF [(2, some 9)] w w := kF.rf
  have c_0 : (0 : Int32).toInt = 0 := by decide
  have c_1 : (1 : Int32).toInt = 1 := by decide
  have c_256 : (256 : Int32).toInt = 256 := by decide
  have c_65535 : (65535 : Int32).toInt = 65535 := by decide
  refine kV.L (L' := [(0, .ref (ρ 2)), (1, .int a1)]) rfl ?_
  have g1 := kf_rng a1
  have cut33 : ∀ (w_33 : kw) (l1_33 l2_33 l3_33 : Int32), kI true w_33 → kF [(2, some 9)] w w_33 → (0 ≤ l2_33.toInt ∧ 0 ≤ l3_33.toInt) → (¬ (w_33 2 9).toInt = 0 ∨ l2_33.toInt < 1024 ∧ l3_33.toInt < 1024) → ((w 2 9).toInt = 0 ∨ ¬ (w_33 2 9).toInt = 0) → kV p l e { frames := 1, cells := 0, slots := 0, locals := 36 } s m args below meth c (kQ below args s D τ ρ (fun o w' => ∃ r : Int32, o = some (.int r) ∧ kI true w' ∧ kF [(2, some 9)] w w' ∧ (0 ≤ r.toInt ∧ r.toInt ≤ 65535) ∧ ((w 2 9).toInt = 0 ∨ ¬ (w' 2 9).toInt = 0))) 4 D τ ρ 33 [(0, .ref (ρ 2)), (1, .int l1_33), (2, .int l2_33), (3, .int l3_33)] [] w_33 := by
    intro w_33 l1_33 l2_33 l3_33 I_33 F_33 k33_0 k33_1 k33_2
    have gl1_33 := kf_rng l1_33
    have gl2_33 := kf_rng l2_33
    have gl3_33 := kf_rng l3_33
    obtain ⟨x2, e3⟩ : ∃ z : Int32, w_33 2 9 = z := ⟨_, rfl⟩
    have b4 : (0 : Int) ≤ x2.toInt ∧ x2.toInt ≤ 13 := by rw [← e3]; exact I_33 2 9
    rw [e3] at k33_1
    obtain ⟨x5, e6⟩ : ∃ z : Int32, w 2 9 = z := ⟨_, rfl⟩
    have b7 : (0 : Int) ≤ x5.toInt ∧ x5.toInt ≤ 13 := by rw [← e6]; exact hI 2 9
    rw [e6, e3] at k33_2
    refine kv_aload_n C 34 rfl 0 (kdec dk_cX6_wordAt 21 rfl) rfl rfl ?_
    refine kv_get C 37 rfl 2 9 rfl rfl inX6 (by decide) mfl_TaleMachine_Store_37 rfl rfl (kdec dk_cX6_wordAt 22 rfl) e3 ?_
    refine kv_if_ne C 40 rfl 60 (kdec dk_cX6_wordAt 23 rfl) (by decide) (fun d8 => ?_) (fun d8 => ?_)
    · skip
      refine kv_iconst C 61 rfl 0 (kdec dk_cX6_wordAt 36 rfl) rfl ?_
      exact kv_iret C hr hlk (kdec dk_cX6_wordAt 37 rfl) ⟨_, rfl, I_33, F_33, (by omega), (by rw [e6, e3]; try omega)⟩
    · skip
      refine kv_aload_n C 41 rfl 0 (kdec dk_cX6_wordAt 24 rfl) rfl rfl ?_
      refine kv_getr C 44 rfl 2 0 rfl rfl inX6 (by decide) mfl_TaleMachine_Store_9 rfl rfl (kdec dk_cX6_wordAt 25 rfl) ?_
      refine kv_iload_n C 45 rfl 2 (kdec dk_cX6_wordAt 26 rfl) rfl rfl ?_
      obtain ⟨x9, e10⟩ : ∃ z : Int32, w_33 3 (l2_33 : Int32).toNatClampNeg = z := ⟨_, rfl⟩
      have b11 : (0 : Int) ≤ x9.toInt ∧ x9.toInt ≤ 255 := by rw [← e10]; exact I_33 3 _
      refine kv_iald C 46 rfl 3 rfl (by omega) (by omega) e10 (kdec dk_cX6_wordAt 27 rfl) ?_
      refine kv_sipush C 49 rfl 256 (kdec dk_cX6_wordAt 28 rfl) rfl ?_
      refine kv_imul C 50 rfl (kdec dk_cX6_wordAt 29 rfl) (fun x12 h13e h13l h13u => ?_)
      obtain ⟨q14, g15⟩ := kf_mul x9 256
      rw [← h13e, c_256] at g15
      try have h13n : x12.toInt = 256 * x9.toInt := by omega
      clear g15 q14
      refine kv_aload_n C 51 rfl 0 (kdec dk_cX6_wordAt 30 rfl) rfl rfl ?_
      refine kv_getr C 54 rfl 2 0 rfl rfl inX6 (by decide) mfl_TaleMachine_Store_9 rfl rfl (kdec dk_cX6_wordAt 31 rfl) ?_
      refine kv_iload_n C 55 rfl 3 (kdec dk_cX6_wordAt 32 rfl) rfl rfl ?_
      obtain ⟨x16, e17⟩ : ∃ z : Int32, w_33 3 (l3_33 : Int32).toNatClampNeg = z := ⟨_, rfl⟩
      have b18 : (0 : Int) ≤ x16.toInt ∧ x16.toInt ≤ 255 := by rw [← e17]; exact I_33 3 _
      refine kv_iald C 56 rfl 3 rfl (by omega) (by omega) e17 (kdec dk_cX6_wordAt 33 rfl) ?_
      refine kv_iadd C 57 rfl (kdec dk_cX6_wordAt 34 rfl) (fun x19 q21 h20e h20 h20l h20u => ?_)
      try have h20n : x19.toInt = x12.toInt + x16.toInt := by omega
      clear h20 q21
      refine kv_goto C 61 (kdec dk_cX6_wordAt 35 rfl) (by decide) ?_
      exact kv_iret C hr hlk (kdec dk_cX6_wordAt 37 rfl) ⟨_, rfl, I_33, F_33, (by omega), (by rw [e6, e3]; try omega)⟩
  refine kv_iload_n C 1 rfl 1 (kdec dk_cX6_wordAt 0 rfl) rfl rfl ?_
  refine kv_ldc C 3 rfl 65535 (kdec dk_cX6_wordAt 1 rfl) mco_TaleMachine_Store_69 ?_
  refine kv_iand C 4 rfl (kdec dk_cX6_wordAt 2 rfl) (fun x22 h23e h23l h23u => ?_)
  have g24 := kf_and65535 h23e
  refine kv_istore_n C 5 rfl 2 [1, 2, 0] [(0, .ref (ρ 2)), (1, .int a1), (2, .int x22)] (kdec dk_cX6_wordAt 3 rfl) rfl (by decide) rfl ?_
  refine kv_iload_n C 6 rfl 1 (kdec dk_cX6_wordAt 4 rfl) rfl rfl ?_
  refine kv_iconst C 7 rfl 1 (kdec dk_cX6_wordAt 5 rfl) rfl ?_
  refine kv_iadd C 8 rfl (kdec dk_cX6_wordAt 6 rfl) (fun x25 q27 h26e h26 h26l h26u => ?_)
  try have h26n : x25.toInt = a1.toInt + (1 : Int32).toInt := by omega
  clear h26 q27
  refine kv_ldc C 10 rfl 65535 (kdec dk_cX6_wordAt 7 rfl) mco_TaleMachine_Store_69 ?_
  refine kv_iand C 11 rfl (kdec dk_cX6_wordAt 8 rfl) (fun x28 h29e h29l h29u => ?_)
  have g30 := kf_and65535 h29e
  refine kv_istore_n C 12 rfl 3 [1, 2, 3, 0] [(0, .ref (ρ 2)), (1, .int a1), (2, .int x22), (3, .int x28)] (kdec dk_cX6_wordAt 9 rfl) rfl (by decide) rfl ?_
  refine kv_iload_n C 13 rfl 2 (kdec dk_cX6_wordAt 10 rfl) rfl rfl ?_
  refine kv_aload_n C 14 rfl 0 (kdec dk_cX6_wordAt 11 rfl) rfl rfl ?_
  obtain ⟨x31, e32⟩ : ∃ z : Int32, w 2 2 = z := ⟨_, rfl⟩
  have b33 : (0 : Int) ≤ x31.toInt ∧ x31.toInt ≤ 1024 := by rw [← e32]; exact hI 2 2
  refine kv_get C 17 rfl 2 2 rfl rfl inX6 (by decide) mfl_TaleMachine_Store_27 rfl rfl (kdec dk_cX6_wordAt 12 rfl) e32 ?_
  refine kv_icmp_ge C 20 rfl 28 (kdec dk_cX6_wordAt 13 rfl) (by decide) (fun d34 => ?_) (fun d34 => ?_)
  · skip
    refine kv_aload_n C 29 rfl 0 (kdec dk_cX6_wordAt 18 rfl) rfl rfl ?_
    refine kv_iconst C 30 rfl 1 (kdec dk_cX6_wordAt 19 rfl) rfl ?_
    refine kv_callVv (As := [.int 1]) (rest := []) C 33 rfl 2 (k_raise l D τ ρ σ w 1 hI (by omega)) rfl rfl mml_TaleMachine_Store_70 mim_yX6_raise mse_yX6_raise mcd_yX6_raise min_yX6_raise hd_yX6_raise rfl rfl rfl (by decide) rfl (Nat.le_of_ble_eq_true rfl) (kdec dk_cX6_wordAt 20 rfl) (fun w35 h36 => ?_)
    obtain ⟨I37, f38, p40⟩ := h36
    have F41 : kF [(2, some 9)] w w35 := kF_call hF0 f38 (by decide)
    obtain ⟨x42, e43⟩ : ∃ z : Int32, w 2 9 = z := ⟨_, rfl⟩
    have b44 : (0 : Int) ≤ x42.toInt ∧ x42.toInt ≤ 13 := by rw [← e43]; exact hI 2 9
    obtain ⟨x45, e46⟩ : ∃ z : Int32, w35 2 9 = z := ⟨_, rfl⟩
    have b47 : (0 : Int) ≤ x45.toInt ∧ x45.toInt ≤ 13 := by rw [← e46]; exact I37 2 9
    rw [e43, e46] at p40
    exact cut33 w35 a1 x22 x28 I37 F41 (by omega) (by rw [e46]; try omega) (by rw [e43, e46]; try omega)
  · skip
    refine kv_iload_n C 21 rfl 3 (kdec dk_cX6_wordAt 14 rfl) rfl rfl ?_
    refine kv_aload_n C 22 rfl 0 (kdec dk_cX6_wordAt 15 rfl) rfl rfl ?_
    refine kv_get C 25 rfl 2 2 rfl rfl inX6 (by decide) mfl_TaleMachine_Store_27 rfl rfl (kdec dk_cX6_wordAt 16 rfl) e32 ?_
    refine kv_icmp_lt C 28 rfl 33 (kdec dk_cX6_wordAt 17 rfl) (by decide) (fun d48 => ?_) (fun d48 => ?_)
    · skip
      obtain ⟨x49, e50⟩ : ∃ z : Int32, w 2 9 = z := ⟨_, rfl⟩
      have b51 : (0 : Int) ≤ x49.toInt ∧ x49.toInt ≤ 13 := by rw [← e50]; exact hI 2 9
      exact cut33 w a1 x22 x28 hI hF0 (by omega) (by rw [e50]; try omega) (by rw [e50]; try omega)
    · skip
      refine kv_aload_n C 29 rfl 0 (kdec dk_cX6_wordAt 18 rfl) rfl rfl ?_
      refine kv_iconst C 30 rfl 1 (kdec dk_cX6_wordAt 19 rfl) rfl ?_
      refine kv_callVv (As := [.int 1]) (rest := []) C 33 rfl 2 (k_raise l D τ ρ σ w 1 hI (by omega)) rfl rfl mml_TaleMachine_Store_70 mim_yX6_raise mse_yX6_raise mcd_yX6_raise min_yX6_raise hd_yX6_raise rfl rfl rfl (by decide) rfl (Nat.le_of_ble_eq_true rfl) (kdec dk_cX6_wordAt 20 rfl) (fun w52 h53 => ?_)
      obtain ⟨I54, f55, p57⟩ := h53
      have F58 : kF [(2, some 9)] w w52 := kF_call hF0 f55 (by decide)
      obtain ⟨x59, e60⟩ : ∃ z : Int32, w 2 9 = z := ⟨_, rfl⟩
      have b61 : (0 : Int) ≤ x59.toInt ∧ x59.toInt ≤ 13 := by rw [← e60]; exact hI 2 9
      obtain ⟨x62, e63⟩ : ∃ z : Int32, w52 2 9 = z := ⟨_, rfl⟩
      have b64 : (0 : Int) ≤ x62.toInt ∧ x62.toInt ≤ 13 := by rw [← e63]; exact I54 2 9
      rw [e60, e63] at p57
      exact cut33 w52 a1 x22 x28 I54 F58 (by omega) (by rw [e63]; try omega) (by rw [e60, e63]; try omega)

set_option maxHeartbeats 4000000 in
set_option maxRecDepth 100000 in
theorem k_putByte (l : Launch) (D : va_G) (τ : Nat → ClassId) (ρ σ : Nat → Nat) (w : kw) (a1 : Int32) (a2 : Int32) (hI : kI true w)  :
    kM l D τ ρ σ yX6_putByte cX6_putByte 4 none { frames := 1, cells := 0, slots := 0, locals := 36 } [.ref (ρ 2), .int a1, .int a2] w
      (fun o w' => o = none ∧ kI true w' ∧ kF [(2, some 9), (3, none)] w w' ∧ ((w 2 9).toInt = 0 ∨ ¬ (w' 2 9).toInt = 0)) := by
  refine kM_of (own := "TaleMachine$Store") rfl (by decide) (Nat.le_of_ble_eq_true rfl) ?_
  intro p e s m args below meth c C hr hlk
  have hF0 : kF [(2, some 9), (3, none)] w w := kF.rf
  have c_1 : (1 : Int32).toInt = 1 := by decide
  have c_2 : (2 : Int32).toInt = 2 := by decide
  have c_255 : (255 : Int32).toInt = 255 := by decide
  have c_65535 : (65535 : Int32).toInt = 65535 := by decide
  refine kV.L (L' := [(0, .ref (ρ 2)), (1, .int a1), (2, .int a2)]) rfl ?_
  have g1 := kf_rng a1
  have g2 := kf_rng a2
  have cut30 : ∀ (w_30 : kw) (l1_30 l2_30 l3_30 : Int32), kI true w_30 → kF [(2, some 9), (3, none)] w w_30 → (0 ≤ l3_30.toInt) → (¬ (w_30 2 9).toInt = 0 ∨ l3_30.toInt < 1024) → ((w 2 9).toInt = 0 ∨ ¬ (w_30 2 9).toInt = 0) → kV p l e { frames := 1, cells := 0, slots := 0, locals := 36 } s m args below meth c (kQ below args s D τ ρ (fun o w' => o = none ∧ kI true w' ∧ kF [(2, some 9), (3, none)] w w' ∧ ((w 2 9).toInt = 0 ∨ ¬ (w' 2 9).toInt = 0))) 4 D τ ρ 30 [(0, .ref (ρ 2)), (1, .int l1_30), (2, .int l2_30), (3, .int l3_30)] [] w_30 := by
    intro w_30 l1_30 l2_30 l3_30 I_30 F_30 k30_0 k30_1 k30_2
    have gl1_30 := kf_rng l1_30
    have gl2_30 := kf_rng l2_30
    have gl3_30 := kf_rng l3_30
    obtain ⟨x3, e4⟩ : ∃ z : Int32, w_30 2 9 = z := ⟨_, rfl⟩
    have b5 : (0 : Int) ≤ x3.toInt ∧ x3.toInt ≤ 13 := by rw [← e4]; exact I_30 2 9
    rw [e4] at k30_1
    obtain ⟨x6, e7⟩ : ∃ z : Int32, w 2 9 = z := ⟨_, rfl⟩
    have b8 : (0 : Int) ≤ x6.toInt ∧ x6.toInt ≤ 13 := by rw [← e7]; exact hI 2 9
    rw [e7, e4] at k30_2
    refine kv_aload_n C 31 rfl 0 (kdec dk_cX6_putByte 17 rfl) rfl rfl ?_
    refine kv_get C 34 rfl 2 9 rfl rfl inX6 (by decide) mfl_TaleMachine_Store_37 rfl rfl (kdec dk_cX6_putByte 18 rfl) e4 ?_
    refine kv_if_ne C 37 rfl 48 (kdec dk_cX6_putByte 19 rfl) (by decide) (fun d9 => ?_) (fun d9 => ?_)
    · skip
      exact kv_vret C hr hlk (kdec dk_cX6_putByte 27 rfl) ⟨rfl, I_30, F_30, (by rw [e7, e4]; try omega)⟩
    · skip
      refine kv_aload_n C 38 rfl 0 (kdec dk_cX6_putByte 20 rfl) rfl rfl ?_
      refine kv_getr C 41 rfl 2 0 rfl rfl inX6 (by decide) mfl_TaleMachine_Store_9 rfl rfl (kdec dk_cX6_putByte 21 rfl) ?_
      refine kv_iload_n C 42 rfl 3 (kdec dk_cX6_putByte 22 rfl) rfl rfl ?_
      refine kv_iload_n C 43 rfl 2 (kdec dk_cX6_putByte 23 rfl) rfl rfl ?_
      refine kv_sipush C 46 rfl 255 (kdec dk_cX6_putByte 24 rfl) rfl ?_
      refine kv_iand C 47 rfl (kdec dk_cX6_putByte 25 rfl) (fun x10 h11e h11l h11u => ?_)
      have g12 := kf_and255 h11e
      refine kv_iast C 48 rfl 3 rfl (by omega) (by omega) (kdec dk_cX6_putByte 26 rfl) (fun w13 u14 => ?_)
      have I15 : kI true w13 := kI_put u14 I_30 (show (0 : Int) ≤ (x10 : Int32).toInt by omega) (show (x10 : Int32).toInt ≤ 255 by omega)
      have F16 : kF [(2, some 9), (3, none)] w w13 := kF_put u14 F_30 rfl
      have e17 : w13 2 9 = x3 := ((kup_ne u14 rfl : w13 2 9 = w_30 2 9).trans e4)
      exact kv_vret C hr hlk (kdec dk_cX6_putByte 27 rfl) ⟨rfl, I15, F16, (by rw [e7, e17]; try omega)⟩
  refine kv_iload_n C 1 rfl 1 (kdec dk_cX6_putByte 0 rfl) rfl rfl ?_
  refine kv_ldc C 3 rfl 65535 (kdec dk_cX6_putByte 1 rfl) mco_TaleMachine_Store_69 ?_
  refine kv_iand C 4 rfl (kdec dk_cX6_putByte 2 rfl) (fun x18 h19e h19l h19u => ?_)
  have g20 := kf_and65535 h19e
  refine kv_istore_n C 5 rfl 3 [1, 2, 3, 0] [(0, .ref (ρ 2)), (1, .int a1), (2, .int a2), (3, .int x18)] (kdec dk_cX6_putByte 3 rfl) rfl (by decide) rfl ?_
  refine kv_iload_n C 6 rfl 3 (kdec dk_cX6_putByte 4 rfl) rfl rfl ?_
  refine kv_aload_n C 7 rfl 0 (kdec dk_cX6_putByte 5 rfl) rfl rfl ?_
  obtain ⟨x21, e22⟩ : ∃ z : Int32, w 2 3 = z := ⟨_, rfl⟩
  have b23 : (0 : Int) ≤ x21.toInt ∧ x21.toInt ≤ 1024 := by rw [← e22]; exact hI 2 3
  refine kv_get C 10 rfl 2 3 rfl rfl inX6 (by decide) mfl_TaleMachine_Store_44 rfl rfl (kdec dk_cX6_putByte 6 rfl) e22 ?_
  refine kv_icmp_lt C 13 rfl 30 (kdec dk_cX6_putByte 7 rfl) (by decide) (fun d24 => ?_) (fun d24 => ?_)
  · skip
    obtain ⟨x25, e26⟩ : ∃ z : Int32, w 2 9 = z := ⟨_, rfl⟩
    have b27 : (0 : Int) ≤ x25.toInt ∧ x25.toInt ≤ 13 := by rw [← e26]; exact hI 2 9
    exact cut30 w a1 a2 x18 hI hF0 (by omega) (by rw [e26]; try omega) (by rw [e26]; try omega)
  · skip
    refine kv_aload_n C 14 rfl 0 (kdec dk_cX6_putByte 8 rfl) rfl rfl ?_
    refine kv_iload_n C 15 rfl 3 (kdec dk_cX6_putByte 9 rfl) rfl rfl ?_
    refine kv_aload_n C 16 rfl 0 (kdec dk_cX6_putByte 10 rfl) rfl rfl ?_
    obtain ⟨x28, e29⟩ : ∃ z : Int32, w 2 2 = z := ⟨_, rfl⟩
    have b30 : (0 : Int) ≤ x28.toInt ∧ x28.toInt ≤ 1024 := by rw [← e29]; exact hI 2 2
    refine kv_get C 19 rfl 2 2 rfl rfl inX6 (by decide) mfl_TaleMachine_Store_27 rfl rfl (kdec dk_cX6_putByte 11 rfl) e29 ?_
    refine kv_icmp_lt C 22 rfl 26 (kdec dk_cX6_putByte 12 rfl) (by decide) (fun d31 => ?_) (fun d31 => ?_)
    · skip
      refine kv_iconst C 27 rfl 2 (kdec dk_cX6_putByte 15 rfl) rfl ?_
      refine kv_callVv (As := [.int 2]) (rest := []) C 30 rfl 2 (k_raise l D τ ρ σ w 2 hI (by omega)) rfl rfl mml_TaleMachine_Store_70 mim_yX6_raise mse_yX6_raise mcd_yX6_raise min_yX6_raise hd_yX6_raise rfl rfl rfl (by decide) rfl (Nat.le_of_ble_eq_true rfl) (kdec dk_cX6_putByte 16 rfl) (fun w32 h33 => ?_)
      obtain ⟨I34, f35, p37⟩ := h33
      have F38 : kF [(2, some 9), (3, none)] w w32 := kF_call hF0 f35 (by decide)
      obtain ⟨x39, e40⟩ : ∃ z : Int32, w 2 9 = z := ⟨_, rfl⟩
      have b41 : (0 : Int) ≤ x39.toInt ∧ x39.toInt ≤ 13 := by rw [← e40]; exact hI 2 9
      obtain ⟨x42, e43⟩ : ∃ z : Int32, w32 2 9 = z := ⟨_, rfl⟩
      have b44 : (0 : Int) ≤ x42.toInt ∧ x42.toInt ≤ 13 := by rw [← e43]; exact I34 2 9
      rw [e40, e43] at p37
      exact cut30 w32 a1 a2 x18 I34 F38 (by omega) (by rw [e43]; try omega) (by rw [e40, e43]; try omega)
    · skip
      refine kv_iconst C 23 rfl 1 (kdec dk_cX6_putByte 13 rfl) rfl ?_
      refine kv_goto C 27 (kdec dk_cX6_putByte 14 rfl) (by decide) ?_
      refine kv_callVv (As := [.int 1]) (rest := []) C 30 rfl 2 (k_raise l D τ ρ σ w 1 hI (by omega)) rfl rfl mml_TaleMachine_Store_70 mim_yX6_raise mse_yX6_raise mcd_yX6_raise min_yX6_raise hd_yX6_raise rfl rfl rfl (by decide) rfl (Nat.le_of_ble_eq_true rfl) (kdec dk_cX6_putByte 16 rfl) (fun w45 h46 => ?_)
      obtain ⟨I47, f48, p50⟩ := h46
      have F51 : kF [(2, some 9), (3, none)] w w45 := kF_call hF0 f48 (by decide)
      obtain ⟨x52, e53⟩ : ∃ z : Int32, w 2 9 = z := ⟨_, rfl⟩
      have b54 : (0 : Int) ≤ x52.toInt ∧ x52.toInt ≤ 13 := by rw [← e53]; exact hI 2 9
      obtain ⟨x55, e56⟩ : ∃ z : Int32, w45 2 9 = z := ⟨_, rfl⟩
      have b57 : (0 : Int) ≤ x55.toInt ∧ x55.toInt ≤ 13 := by rw [← e56]; exact I47 2 9
      rw [e53, e56] at p50
      exact cut30 w45 a1 a2 x18 I47 F51 (by omega) (by rw [e56]; try omega) (by rw [e53, e56]; try omega)

set_option maxHeartbeats 4000000 in
set_option maxRecDepth 100000 in
theorem k_putWord (l : Launch) (D : va_G) (τ : Nat → ClassId) (ρ σ : Nat → Nat) (w : kw) (a1 : Int32) (a2 : Int32) (hI : kI true w)  :
    kM l D τ ρ σ yX6_putWord cX6_putWord 5 none { frames := 1, cells := 0, slots := 0, locals := 36 } [.ref (ρ 2), .int a1, .int a2] w
      (fun o w' => o = none ∧ kI true w' ∧ kF [(2, some 9), (3, none)] w w' ∧ ((w 2 9).toInt = 0 ∨ ¬ (w' 2 9).toInt = 0)) := by
  refine kM_of (own := "TaleMachine$Store") rfl (by decide) (Nat.le_of_ble_eq_true rfl) ?_
  intro p e s m args below meth c C hr hlk
  have hF0 : kF [(2, some 9), (3, none)] w w := kF.rf
  have c_1 : (1 : Int32).toInt = 1 := by decide
  have c_2 : (2 : Int32).toInt = 2 := by decide
  have c_8 : (8 : Int32).toInt = 8 := by decide
  have c_255 : (255 : Int32).toInt = 255 := by decide
  have c_65535 : (65535 : Int32).toInt = 65535 := by decide
  refine kV.L (L' := [(0, .ref (ρ 2)), (1, .int a1), (2, .int a2)]) rfl ?_
  have g1 := kf_rng a1
  have g2 := kf_rng a2
  have cut68 : ∀ (w_68 : kw) (l1_68 l2_68 l3_68 l4_68 : Int32), kI true w_68 → kF [(2, some 9), (3, none)] w w_68 → (0 ≤ l3_68.toInt ∧ 0 ≤ l4_68.toInt) → (¬ (w_68 2 9).toInt = 0 ∨ l3_68.toInt < 1024 ∧ l4_68.toInt < 1024) → ((w 2 9).toInt = 0 ∨ ¬ (w_68 2 9).toInt = 0) → kV p l e { frames := 1, cells := 0, slots := 0, locals := 36 } s m args below meth c (kQ below args s D τ ρ (fun o w' => o = none ∧ kI true w' ∧ kF [(2, some 9), (3, none)] w w' ∧ ((w 2 9).toInt = 0 ∨ ¬ (w' 2 9).toInt = 0))) 5 D τ ρ 68 [(0, .ref (ρ 2)), (1, .int l1_68), (2, .int l2_68), (3, .int l3_68), (4, .int l4_68)] [] w_68 := by
    intro w_68 l1_68 l2_68 l3_68 l4_68 I_68 F_68 k68_0 k68_1 k68_2
    have gl1_68 := kf_rng l1_68
    have gl2_68 := kf_rng l2_68
    have gl3_68 := kf_rng l3_68
    have gl4_68 := kf_rng l4_68
    obtain ⟨x3, e4⟩ : ∃ z : Int32, w_68 2 9 = z := ⟨_, rfl⟩
    have b5 : (0 : Int) ≤ x3.toInt ∧ x3.toInt ≤ 13 := by rw [← e4]; exact I_68 2 9
    rw [e4] at k68_1
    obtain ⟨x6, e7⟩ : ∃ z : Int32, w 2 9 = z := ⟨_, rfl⟩
    have b8 : (0 : Int) ≤ x6.toInt ∧ x6.toInt ≤ 13 := by rw [← e7]; exact hI 2 9
    rw [e7, e4] at k68_2
    refine kv_aload_n C 69 rfl 0 (kdec dk_cX6_putWord 37 rfl) rfl rfl ?_
    refine kv_get C 72 rfl 2 9 rfl rfl inX6 (by decide) mfl_TaleMachine_Store_37 rfl rfl (kdec dk_cX6_putWord 38 rfl) e4 ?_
    refine kv_if_ne C 75 rfl 101 (kdec dk_cX6_putWord 39 rfl) (by decide) (fun d9 => ?_) (fun d9 => ?_)
    · skip
      exact kv_vret C hr hlk (kdec dk_cX6_putWord 56 rfl) ⟨rfl, I_68, F_68, (by rw [e7, e4]; try omega)⟩
    · skip
      refine kv_aload_n C 76 rfl 0 (kdec dk_cX6_putWord 40 rfl) rfl rfl ?_
      refine kv_getr C 79 rfl 2 0 rfl rfl inX6 (by decide) mfl_TaleMachine_Store_9 rfl rfl (kdec dk_cX6_putWord 41 rfl) ?_
      refine kv_iload_n C 80 rfl 3 (kdec dk_cX6_putWord 42 rfl) rfl rfl ?_
      refine kv_iload_n C 81 rfl 2 (kdec dk_cX6_putWord 43 rfl) rfl rfl ?_
      refine kv_bipush C 83 rfl 8 (kdec dk_cX6_putWord 44 rfl) rfl ?_
      refine kv_ishr C 84 rfl (kdec dk_cX6_putWord 45 rfl) (fun x10 h11e h11l h11u => ?_)
      refine kv_sipush C 87 rfl 255 (kdec dk_cX6_putWord 46 rfl) rfl ?_
      refine kv_iand C 88 rfl (kdec dk_cX6_putWord 47 rfl) (fun x12 h13e h13l h13u => ?_)
      have g14 := kf_and255 h13e
      refine kv_iast C 89 rfl 3 rfl (by omega) (by omega) (kdec dk_cX6_putWord 48 rfl) (fun w15 u16 => ?_)
      have I17 : kI true w15 := kI_put u16 I_68 (show (0 : Int) ≤ (x12 : Int32).toInt by omega) (show (x12 : Int32).toInt ≤ 255 by omega)
      have F18 : kF [(2, some 9), (3, none)] w w15 := kF_put u16 F_68 rfl
      refine kv_aload_n C 90 rfl 0 (kdec dk_cX6_putWord 49 rfl) rfl rfl ?_
      refine kv_getr C 93 rfl 2 0 rfl rfl inX6 (by decide) mfl_TaleMachine_Store_9 rfl rfl (kdec dk_cX6_putWord 50 rfl) ?_
      refine kv_iload C 95 rfl 4 (kdec dk_cX6_putWord 51 rfl) rfl ?_
      refine kv_iload_n C 96 rfl 2 (kdec dk_cX6_putWord 52 rfl) rfl rfl ?_
      refine kv_sipush C 99 rfl 255 (kdec dk_cX6_putWord 53 rfl) rfl ?_
      refine kv_iand C 100 rfl (kdec dk_cX6_putWord 54 rfl) (fun x19 h20e h20l h20u => ?_)
      have g21 := kf_and255 h20e
      refine kv_iast C 101 rfl 3 rfl (by omega) (by omega) (kdec dk_cX6_putWord 55 rfl) (fun w22 u23 => ?_)
      have I24 : kI true w22 := kI_put u23 I17 (show (0 : Int) ≤ (x19 : Int32).toInt by omega) (show (x19 : Int32).toInt ≤ 255 by omega)
      have F25 : kF [(2, some 9), (3, none)] w w22 := kF_put u23 F18 rfl
      have e26 : w22 2 9 = x3 := ((kup_ne u23 rfl : w22 2 9 = w15 2 9).trans ((kup_ne u16 rfl : w15 2 9 = w_68 2 9).trans e4))
      exact kv_vret C hr hlk (kdec dk_cX6_putWord 56 rfl) ⟨rfl, I24, F25, (by rw [e7, e26]; try omega)⟩
  refine kv_iload_n C 1 rfl 1 (kdec dk_cX6_putWord 0 rfl) rfl rfl ?_
  refine kv_ldc C 3 rfl 65535 (kdec dk_cX6_putWord 1 rfl) mco_TaleMachine_Store_69 ?_
  refine kv_iand C 4 rfl (kdec dk_cX6_putWord 2 rfl) (fun x27 h28e h28l h28u => ?_)
  have g29 := kf_and65535 h28e
  refine kv_istore_n C 5 rfl 3 [1, 2, 3, 0] [(0, .ref (ρ 2)), (1, .int a1), (2, .int a2), (3, .int x27)] (kdec dk_cX6_putWord 3 rfl) rfl (by decide) rfl ?_
  refine kv_iload_n C 6 rfl 1 (kdec dk_cX6_putWord 4 rfl) rfl rfl ?_
  refine kv_iconst C 7 rfl 1 (kdec dk_cX6_putWord 5 rfl) rfl ?_
  refine kv_iadd C 8 rfl (kdec dk_cX6_putWord 6 rfl) (fun x30 q32 h31e h31 h31l h31u => ?_)
  try have h31n : x30.toInt = a1.toInt + (1 : Int32).toInt := by omega
  clear h31 q32
  refine kv_ldc C 10 rfl 65535 (kdec dk_cX6_putWord 7 rfl) mco_TaleMachine_Store_69 ?_
  refine kv_iand C 11 rfl (kdec dk_cX6_putWord 8 rfl) (fun x33 h34e h34l h34u => ?_)
  have g35 := kf_and65535 h34e
  refine kv_istore C 13 rfl 4 [1, 2, 3, 4, 0] [(0, .ref (ρ 2)), (1, .int a1), (2, .int a2), (3, .int x27), (4, .int x33)] (kdec dk_cX6_putWord 9 rfl) (by decide) rfl ?_
  refine kv_iload_n C 14 rfl 3 (kdec dk_cX6_putWord 10 rfl) rfl rfl ?_
  refine kv_aload_n C 15 rfl 0 (kdec dk_cX6_putWord 11 rfl) rfl rfl ?_
  obtain ⟨x36, e37⟩ : ∃ z : Int32, w 2 3 = z := ⟨_, rfl⟩
  have b38 : (0 : Int) ≤ x36.toInt ∧ x36.toInt ≤ 1024 := by rw [← e37]; exact hI 2 3
  refine kv_get C 18 rfl 2 3 rfl rfl inX6 (by decide) mfl_TaleMachine_Store_44 rfl rfl (kdec dk_cX6_putWord 12 rfl) e37 ?_
  refine kv_icmp_lt C 21 rfl 41 (kdec dk_cX6_putWord 13 rfl) (by decide) (fun d39 => ?_) (fun d39 => ?_)
  · skip
    refine kv_iload C 43 rfl 4 (kdec dk_cX6_putWord 24 rfl) rfl ?_
    refine kv_aload_n C 44 rfl 0 (kdec dk_cX6_putWord 25 rfl) rfl rfl ?_
    refine kv_get C 47 rfl 2 3 rfl rfl inX6 (by decide) mfl_TaleMachine_Store_44 rfl rfl (kdec dk_cX6_putWord 26 rfl) e37 ?_
    refine kv_icmp_lt C 50 rfl 68 (kdec dk_cX6_putWord 27 rfl) (by decide) (fun d40 => ?_) (fun d40 => ?_)
    · skip
      obtain ⟨x41, e42⟩ : ∃ z : Int32, w 2 9 = z := ⟨_, rfl⟩
      have b43 : (0 : Int) ≤ x41.toInt ∧ x41.toInt ≤ 13 := by rw [← e42]; exact hI 2 9
      exact cut68 w a1 a2 x27 x33 hI hF0 (by omega) (by rw [e42]; try omega) (by rw [e42]; try omega)
    · skip
      refine kv_aload_n C 51 rfl 0 (kdec dk_cX6_putWord 28 rfl) rfl rfl ?_
      refine kv_iload C 53 rfl 4 (kdec dk_cX6_putWord 29 rfl) rfl ?_
      refine kv_aload_n C 54 rfl 0 (kdec dk_cX6_putWord 30 rfl) rfl rfl ?_
      obtain ⟨x44, e45⟩ : ∃ z : Int32, w 2 2 = z := ⟨_, rfl⟩
      have b46 : (0 : Int) ≤ x44.toInt ∧ x44.toInt ≤ 1024 := by rw [← e45]; exact hI 2 2
      refine kv_get C 57 rfl 2 2 rfl rfl inX6 (by decide) mfl_TaleMachine_Store_27 rfl rfl (kdec dk_cX6_putWord 31 rfl) e45 ?_
      refine kv_icmp_lt C 60 rfl 64 (kdec dk_cX6_putWord 32 rfl) (by decide) (fun d47 => ?_) (fun d47 => ?_)
      · skip
        refine kv_iconst C 65 rfl 2 (kdec dk_cX6_putWord 35 rfl) rfl ?_
        refine kv_callVv (As := [.int 2]) (rest := []) C 68 rfl 2 (k_raise l D τ ρ σ w 2 hI (by omega)) rfl rfl mml_TaleMachine_Store_70 mim_yX6_raise mse_yX6_raise mcd_yX6_raise min_yX6_raise hd_yX6_raise rfl rfl rfl (by decide) rfl (Nat.le_of_ble_eq_true rfl) (kdec dk_cX6_putWord 36 rfl) (fun w48 h49 => ?_)
        obtain ⟨I50, f51, p53⟩ := h49
        have F54 : kF [(2, some 9), (3, none)] w w48 := kF_call hF0 f51 (by decide)
        obtain ⟨x55, e56⟩ : ∃ z : Int32, w 2 9 = z := ⟨_, rfl⟩
        have b57 : (0 : Int) ≤ x55.toInt ∧ x55.toInt ≤ 13 := by rw [← e56]; exact hI 2 9
        obtain ⟨x58, e59⟩ : ∃ z : Int32, w48 2 9 = z := ⟨_, rfl⟩
        have b60 : (0 : Int) ≤ x58.toInt ∧ x58.toInt ≤ 13 := by rw [← e59]; exact I50 2 9
        rw [e56, e59] at p53
        exact cut68 w48 a1 a2 x27 x33 I50 F54 (by omega) (by rw [e59]; try omega) (by rw [e56, e59]; try omega)
      · skip
        refine kv_iconst C 61 rfl 1 (kdec dk_cX6_putWord 33 rfl) rfl ?_
        refine kv_goto C 65 (kdec dk_cX6_putWord 34 rfl) (by decide) ?_
        refine kv_callVv (As := [.int 1]) (rest := []) C 68 rfl 2 (k_raise l D τ ρ σ w 1 hI (by omega)) rfl rfl mml_TaleMachine_Store_70 mim_yX6_raise mse_yX6_raise mcd_yX6_raise min_yX6_raise hd_yX6_raise rfl rfl rfl (by decide) rfl (Nat.le_of_ble_eq_true rfl) (kdec dk_cX6_putWord 36 rfl) (fun w61 h62 => ?_)
        obtain ⟨I63, f64, p66⟩ := h62
        have F67 : kF [(2, some 9), (3, none)] w w61 := kF_call hF0 f64 (by decide)
        obtain ⟨x68, e69⟩ : ∃ z : Int32, w 2 9 = z := ⟨_, rfl⟩
        have b70 : (0 : Int) ≤ x68.toInt ∧ x68.toInt ≤ 13 := by rw [← e69]; exact hI 2 9
        obtain ⟨x71, e72⟩ : ∃ z : Int32, w61 2 9 = z := ⟨_, rfl⟩
        have b73 : (0 : Int) ≤ x71.toInt ∧ x71.toInt ≤ 13 := by rw [← e72]; exact I63 2 9
        rw [e69, e72] at p66
        exact cut68 w61 a1 a2 x27 x33 I63 F67 (by omega) (by rw [e72]; try omega) (by rw [e69, e72]; try omega)
  · skip
    refine kv_aload_n C 22 rfl 0 (kdec dk_cX6_putWord 14 rfl) rfl rfl ?_
    refine kv_iload_n C 23 rfl 3 (kdec dk_cX6_putWord 15 rfl) rfl rfl ?_
    refine kv_aload_n C 24 rfl 0 (kdec dk_cX6_putWord 16 rfl) rfl rfl ?_
    obtain ⟨x74, e75⟩ : ∃ z : Int32, w 2 2 = z := ⟨_, rfl⟩
    have b76 : (0 : Int) ≤ x74.toInt ∧ x74.toInt ≤ 1024 := by rw [← e75]; exact hI 2 2
    refine kv_get C 27 rfl 2 2 rfl rfl inX6 (by decide) mfl_TaleMachine_Store_27 rfl rfl (kdec dk_cX6_putWord 17 rfl) e75 ?_
    refine kv_icmp_lt C 30 rfl 34 (kdec dk_cX6_putWord 18 rfl) (by decide) (fun d77 => ?_) (fun d77 => ?_)
    · skip
      refine kv_iconst C 35 rfl 2 (kdec dk_cX6_putWord 21 rfl) rfl ?_
      refine kv_callVv (As := [.int 2]) (rest := []) C 38 rfl 2 (k_raise l D τ ρ σ w 2 hI (by omega)) rfl rfl mml_TaleMachine_Store_70 mim_yX6_raise mse_yX6_raise mcd_yX6_raise min_yX6_raise hd_yX6_raise rfl rfl rfl (by decide) rfl (Nat.le_of_ble_eq_true rfl) (kdec dk_cX6_putWord 22 rfl) (fun w78 h79 => ?_)
      obtain ⟨I80, f81, p83⟩ := h79
      have F84 : kF [(2, some 9), (3, none)] w w78 := kF_call hF0 f81 (by decide)
      obtain ⟨x85, e86⟩ : ∃ z : Int32, w 2 9 = z := ⟨_, rfl⟩
      have b87 : (0 : Int) ≤ x85.toInt ∧ x85.toInt ≤ 13 := by rw [← e86]; exact hI 2 9
      obtain ⟨x88, e89⟩ : ∃ z : Int32, w78 2 9 = z := ⟨_, rfl⟩
      have b90 : (0 : Int) ≤ x88.toInt ∧ x88.toInt ≤ 13 := by rw [← e89]; exact I80 2 9
      rw [e86, e89] at p83
      refine kv_goto C 68 (kdec dk_cX6_putWord 23 rfl) (by decide) ?_
      exact cut68 w78 a1 a2 x27 x33 I80 F84 (by omega) (by rw [e89]; try omega) (by rw [e86, e89]; try omega)
    · skip
      refine kv_iconst C 31 rfl 1 (kdec dk_cX6_putWord 19 rfl) rfl ?_
      refine kv_goto C 35 (kdec dk_cX6_putWord 20 rfl) (by decide) ?_
      refine kv_callVv (As := [.int 1]) (rest := []) C 38 rfl 2 (k_raise l D τ ρ σ w 1 hI (by omega)) rfl rfl mml_TaleMachine_Store_70 mim_yX6_raise mse_yX6_raise mcd_yX6_raise min_yX6_raise hd_yX6_raise rfl rfl rfl (by decide) rfl (Nat.le_of_ble_eq_true rfl) (kdec dk_cX6_putWord 22 rfl) (fun w91 h92 => ?_)
      obtain ⟨I93, f94, p96⟩ := h92
      have F97 : kF [(2, some 9), (3, none)] w w91 := kF_call hF0 f94 (by decide)
      obtain ⟨x98, e99⟩ : ∃ z : Int32, w 2 9 = z := ⟨_, rfl⟩
      have b100 : (0 : Int) ≤ x98.toInt ∧ x98.toInt ≤ 13 := by rw [← e99]; exact hI 2 9
      obtain ⟨x101, e102⟩ : ∃ z : Int32, w91 2 9 = z := ⟨_, rfl⟩
      have b103 : (0 : Int) ≤ x101.toInt ∧ x101.toInt ≤ 13 := by rw [← e102]; exact I93 2 9
      rw [e99, e102] at p96
      refine kv_goto C 68 (kdec dk_cX6_putWord 23 rfl) (by decide) ?_
      exact cut68 w91 a1 a2 x27 x33 I93 F97 (by omega) (by rw [e102]; try omega) (by rw [e99, e102]; try omega)

set_option maxHeartbeats 4000000 in
set_option maxRecDepth 100000 in
theorem k_renew (l : Launch) (D : va_G) (τ : Nat → ClassId) (ρ σ : Nat → Nat) (w : kw)  (hI : kI true w)  :
    kM l D τ ρ σ yX6_renew cX6_renew 1 none { frames := 2, cells := 0, slots := 0, locals := 72 } [.ref (ρ 2)] w
      (fun o w' => o = none ∧ kI true w' ∧ kF [(3, none)] w w') := by
  refine kM_of (own := "TaleMachine$Store") rfl (by decide) (Nat.le_of_ble_eq_true rfl) ?_
  intro p e s m args below meth c C hr hlk
  have hF0 : kF [(3, none)] w w := kF.rf
  have c_0 : (0 : Int32).toInt = 0 := by decide
  refine kV.L (L' := [(0, .ref (ρ 2))]) rfl ?_
  refine kv_aload_n C 1 rfl 0 (kdec dk_cX6_renew 0 rfl) rfl rfl ?_
  refine kv_getr C 4 rfl 2 1 rfl rfl inX6 (by decide) mfl_TaleMachine_Store_15 rfl rfl (kdec dk_cX6_renew 1 rfl) ?_
  refine kv_iconst C 5 rfl 0 (kdec dk_cX6_renew 2 rfl) rfl ?_
  refine kv_aload_n C 6 rfl 0 (kdec dk_cX6_renew 3 rfl) rfl rfl ?_
  refine kv_getr C 9 rfl 2 0 rfl rfl inX6 (by decide) mfl_TaleMachine_Store_9 rfl rfl (kdec dk_cX6_renew 4 rfl) ?_
  refine kv_iconst C 10 rfl 0 (kdec dk_cX6_renew 5 rfl) rfl ?_
  refine kv_aload_n C 11 rfl 0 (kdec dk_cX6_renew 6 rfl) rfl rfl ?_
  obtain ⟨x1, e2⟩ : ∃ z : Int32, w 2 2 = z := ⟨_, rfl⟩
  have b3 : (0 : Int) ≤ x1.toInt ∧ x1.toInt ≤ 1024 := by rw [← e2]; exact hI 2 2
  refine kv_get C 14 rfl 2 2 rfl rfl inX6 (by decide) mfl_TaleMachine_Store_27 rfl rfl (kdec dk_cX6_renew 7 rfl) e2 ?_
  refine kv_copy C 17 rfl 4 3 rfl rfl mml_TaleMachine_Store_31 jc_n jc_s jc_i (by omega) (by omega) (by omega) (by omega) (by omega) (by decide) (Nat.le_of_ble_eq_true rfl) (kdec dk_cX6_renew 8 rfl) (fun w4 u5 => ?_)
  have I6 : kI true w4 := kI_cpy u5 hI (fun _ => rfl) (fun _ _ => rfl)
  have F7 : kF [(3, none)] w w4 := kF_row u5 hF0 (fun _ => rfl)
  exact kv_vret C hr hlk (kdec dk_cX6_renew 9 rfl) ⟨rfl, I6, F7⟩

set_option maxHeartbeats 4000000 in
set_option maxRecDepth 100000 in
theorem k_loadedWord14 (l : Launch) (D : va_G) (τ : Nat → ClassId) (ρ σ : Nat → Nat) (w : kw)  (hI : kI false w)  :
    kM l D τ ρ σ yX6_loadedWord cX6_loadedWord 2 (some .int) { frames := 0, cells := 0, slots := 0, locals := 0 } [.ref (ρ 2), .int 14] w
      (fun o w' => ∃ r : Int32, o = some (.int r) ∧ kI false w' ∧ kF [] w w' ∧ (0 ≤ r.toInt ∧ r.toInt ≤ 65535) ∧ (r.toInt = 256 * (w 4 14).toInt + (w 4 15).toInt)) := by
  refine kM_of (own := "TaleMachine$Store") rfl (by decide) (Nat.le_of_ble_eq_true rfl) ?_
  intro p e s m args below meth c C hr hlk
  have hF0 : kF [] w w := kF.rf
  have c_1 : (1 : Int32).toInt = 1 := by decide
  have c_14 : (14 : Int32).toInt = 14 := by decide
  have c_15 : (15 : Int32).toInt = 15 := by decide
  have c_256 : (256 : Int32).toInt = 256 := by decide
  refine kV.L (L' := [(0, .ref (ρ 2)), (1, .int 14)]) rfl ?_
  refine kv_aload_n C 1 rfl 0 (kdec dk_cX6_loadedWord 0 rfl) rfl rfl ?_
  refine kv_getr C 4 rfl 2 1 rfl rfl inX6 (by decide) mfl_TaleMachine_Store_15 rfl rfl (kdec dk_cX6_loadedWord 1 rfl) ?_
  refine kv_iload_n C 5 rfl 1 (kdec dk_cX6_loadedWord 2 rfl) rfl rfl ?_
  obtain ⟨x1, e2⟩ : ∃ z : Int32, w 4 14 = z := ⟨_, rfl⟩
  have b3 : (0 : Int) ≤ x1.toInt ∧ x1.toInt ≤ 255 := by rw [← e2]; exact hI 4 14
  refine kv_iald C 6 rfl 4 rfl (by omega) (by omega) (show w 4 (14 : Int32).toNatClampNeg = x1 from e2) (kdec dk_cX6_loadedWord 3 rfl) ?_
  refine kv_sipush C 9 rfl 256 (kdec dk_cX6_loadedWord 4 rfl) rfl ?_
  refine kv_imul C 10 rfl (kdec dk_cX6_loadedWord 5 rfl) (fun x4 h5e h5l h5u => ?_)
  obtain ⟨q6, g7⟩ := kf_mul x1 256
  rw [← h5e, c_256] at g7
  try have h5n : x4.toInt = 256 * x1.toInt := by omega
  clear g7 q6
  refine kv_aload_n C 11 rfl 0 (kdec dk_cX6_loadedWord 6 rfl) rfl rfl ?_
  refine kv_getr C 14 rfl 2 1 rfl rfl inX6 (by decide) mfl_TaleMachine_Store_15 rfl rfl (kdec dk_cX6_loadedWord 7 rfl) ?_
  refine kv_iload_n C 15 rfl 1 (kdec dk_cX6_loadedWord 8 rfl) rfl rfl ?_
  refine kv_iconst C 16 rfl 1 (kdec dk_cX6_loadedWord 9 rfl) rfl ?_
  refine kv_iadd C 17 rfl (kdec dk_cX6_loadedWord 10 rfl) (fun x8 q10 h9e h9 h9l h9u => ?_)
  try have h9n : x8.toInt = (14 : Int32).toInt + (1 : Int32).toInt := by omega
  clear h9 q10
  obtain rfl : x8 = 15 := by rw [h9e]; decide
  obtain ⟨x11, e12⟩ : ∃ z : Int32, w 4 15 = z := ⟨_, rfl⟩
  have b13 : (0 : Int) ≤ x11.toInt ∧ x11.toInt ≤ 255 := by rw [← e12]; exact hI 4 15
  refine kv_iald C 18 rfl 4 rfl (by omega) (by omega) (show w 4 (15 : Int32).toNatClampNeg = x11 from e12) (kdec dk_cX6_loadedWord 11 rfl) ?_
  refine kv_iadd C 19 rfl (kdec dk_cX6_loadedWord 12 rfl) (fun x14 q16 h15e h15 h15l h15u => ?_)
  try have h15n : x14.toInt = x4.toInt + x11.toInt := by omega
  clear h15 q16
  exact kv_iret C hr hlk (kdec dk_cX6_loadedWord 13 rfl) ⟨_, rfl, hI, hF0, (by omega), (by rw [e2, e12]; try omega)⟩

set_option maxHeartbeats 4000000 in
set_option maxRecDepth 100000 in
theorem k_loadedWord6 (l : Launch) (D : va_G) (τ : Nat → ClassId) (ρ σ : Nat → Nat) (w : kw)  (hI : kI false w)  :
    kM l D τ ρ σ yX6_loadedWord cX6_loadedWord 2 (some .int) { frames := 0, cells := 0, slots := 0, locals := 0 } [.ref (ρ 2), .int 6] w
      (fun o w' => ∃ r : Int32, o = some (.int r) ∧ kI false w' ∧ kF [] w w' ∧ (0 ≤ r.toInt ∧ r.toInt ≤ 65535) ∧ (r.toInt = 256 * (w 4 6).toInt + (w 4 7).toInt)) := by
  refine kM_of (own := "TaleMachine$Store") rfl (by decide) (Nat.le_of_ble_eq_true rfl) ?_
  intro p e s m args below meth c C hr hlk
  have hF0 : kF [] w w := kF.rf
  have c_1 : (1 : Int32).toInt = 1 := by decide
  have c_6 : (6 : Int32).toInt = 6 := by decide
  have c_7 : (7 : Int32).toInt = 7 := by decide
  have c_256 : (256 : Int32).toInt = 256 := by decide
  refine kV.L (L' := [(0, .ref (ρ 2)), (1, .int 6)]) rfl ?_
  refine kv_aload_n C 1 rfl 0 (kdec dk_cX6_loadedWord 0 rfl) rfl rfl ?_
  refine kv_getr C 4 rfl 2 1 rfl rfl inX6 (by decide) mfl_TaleMachine_Store_15 rfl rfl (kdec dk_cX6_loadedWord 1 rfl) ?_
  refine kv_iload_n C 5 rfl 1 (kdec dk_cX6_loadedWord 2 rfl) rfl rfl ?_
  obtain ⟨x1, e2⟩ : ∃ z : Int32, w 4 6 = z := ⟨_, rfl⟩
  have b3 : (0 : Int) ≤ x1.toInt ∧ x1.toInt ≤ 255 := by rw [← e2]; exact hI 4 6
  refine kv_iald C 6 rfl 4 rfl (by omega) (by omega) (show w 4 (6 : Int32).toNatClampNeg = x1 from e2) (kdec dk_cX6_loadedWord 3 rfl) ?_
  refine kv_sipush C 9 rfl 256 (kdec dk_cX6_loadedWord 4 rfl) rfl ?_
  refine kv_imul C 10 rfl (kdec dk_cX6_loadedWord 5 rfl) (fun x4 h5e h5l h5u => ?_)
  obtain ⟨q6, g7⟩ := kf_mul x1 256
  rw [← h5e, c_256] at g7
  try have h5n : x4.toInt = 256 * x1.toInt := by omega
  clear g7 q6
  refine kv_aload_n C 11 rfl 0 (kdec dk_cX6_loadedWord 6 rfl) rfl rfl ?_
  refine kv_getr C 14 rfl 2 1 rfl rfl inX6 (by decide) mfl_TaleMachine_Store_15 rfl rfl (kdec dk_cX6_loadedWord 7 rfl) ?_
  refine kv_iload_n C 15 rfl 1 (kdec dk_cX6_loadedWord 8 rfl) rfl rfl ?_
  refine kv_iconst C 16 rfl 1 (kdec dk_cX6_loadedWord 9 rfl) rfl ?_
  refine kv_iadd C 17 rfl (kdec dk_cX6_loadedWord 10 rfl) (fun x8 q10 h9e h9 h9l h9u => ?_)
  try have h9n : x8.toInt = (6 : Int32).toInt + (1 : Int32).toInt := by omega
  clear h9 q10
  obtain rfl : x8 = 7 := by rw [h9e]; decide
  obtain ⟨x11, e12⟩ : ∃ z : Int32, w 4 7 = z := ⟨_, rfl⟩
  have b13 : (0 : Int) ≤ x11.toInt ∧ x11.toInt ≤ 255 := by rw [← e12]; exact hI 4 7
  refine kv_iald C 18 rfl 4 rfl (by omega) (by omega) (show w 4 (7 : Int32).toNatClampNeg = x11 from e12) (kdec dk_cX6_loadedWord 11 rfl) ?_
  refine kv_iadd C 19 rfl (kdec dk_cX6_loadedWord 12 rfl) (fun x14 q16 h15e h15 h15l h15u => ?_)
  try have h15n : x14.toInt = x4.toInt + x11.toInt := by omega
  clear h15 q16
  exact kv_iret C hr hlk (kdec dk_cX6_loadedWord 13 rfl) ⟨_, rfl, hI, hF0, (by omega), (by rw [e2, e12]; try omega)⟩

set_option maxHeartbeats 4000000 in
set_option maxRecDepth 100000 in
theorem k_loadedWord8 (l : Launch) (D : va_G) (τ : Nat → ClassId) (ρ σ : Nat → Nat) (w : kw)  (hI : kI false w)  :
    kM l D τ ρ σ yX6_loadedWord cX6_loadedWord 2 (some .int) { frames := 0, cells := 0, slots := 0, locals := 0 } [.ref (ρ 2), .int 8] w
      (fun o w' => ∃ r : Int32, o = some (.int r) ∧ kI false w' ∧ kF [] w w' ∧ (0 ≤ r.toInt ∧ r.toInt ≤ 65535) ∧ (r.toInt = 256 * (w 4 8).toInt + (w 4 9).toInt)) := by
  refine kM_of (own := "TaleMachine$Store") rfl (by decide) (Nat.le_of_ble_eq_true rfl) ?_
  intro p e s m args below meth c C hr hlk
  have hF0 : kF [] w w := kF.rf
  have c_1 : (1 : Int32).toInt = 1 := by decide
  have c_8 : (8 : Int32).toInt = 8 := by decide
  have c_9 : (9 : Int32).toInt = 9 := by decide
  have c_256 : (256 : Int32).toInt = 256 := by decide
  refine kV.L (L' := [(0, .ref (ρ 2)), (1, .int 8)]) rfl ?_
  refine kv_aload_n C 1 rfl 0 (kdec dk_cX6_loadedWord 0 rfl) rfl rfl ?_
  refine kv_getr C 4 rfl 2 1 rfl rfl inX6 (by decide) mfl_TaleMachine_Store_15 rfl rfl (kdec dk_cX6_loadedWord 1 rfl) ?_
  refine kv_iload_n C 5 rfl 1 (kdec dk_cX6_loadedWord 2 rfl) rfl rfl ?_
  obtain ⟨x1, e2⟩ : ∃ z : Int32, w 4 8 = z := ⟨_, rfl⟩
  have b3 : (0 : Int) ≤ x1.toInt ∧ x1.toInt ≤ 255 := by rw [← e2]; exact hI 4 8
  refine kv_iald C 6 rfl 4 rfl (by omega) (by omega) (show w 4 (8 : Int32).toNatClampNeg = x1 from e2) (kdec dk_cX6_loadedWord 3 rfl) ?_
  refine kv_sipush C 9 rfl 256 (kdec dk_cX6_loadedWord 4 rfl) rfl ?_
  refine kv_imul C 10 rfl (kdec dk_cX6_loadedWord 5 rfl) (fun x4 h5e h5l h5u => ?_)
  obtain ⟨q6, g7⟩ := kf_mul x1 256
  rw [← h5e, c_256] at g7
  try have h5n : x4.toInt = 256 * x1.toInt := by omega
  clear g7 q6
  refine kv_aload_n C 11 rfl 0 (kdec dk_cX6_loadedWord 6 rfl) rfl rfl ?_
  refine kv_getr C 14 rfl 2 1 rfl rfl inX6 (by decide) mfl_TaleMachine_Store_15 rfl rfl (kdec dk_cX6_loadedWord 7 rfl) ?_
  refine kv_iload_n C 15 rfl 1 (kdec dk_cX6_loadedWord 8 rfl) rfl rfl ?_
  refine kv_iconst C 16 rfl 1 (kdec dk_cX6_loadedWord 9 rfl) rfl ?_
  refine kv_iadd C 17 rfl (kdec dk_cX6_loadedWord 10 rfl) (fun x8 q10 h9e h9 h9l h9u => ?_)
  try have h9n : x8.toInt = (8 : Int32).toInt + (1 : Int32).toInt := by omega
  clear h9 q10
  obtain rfl : x8 = 9 := by rw [h9e]; decide
  obtain ⟨x11, e12⟩ : ∃ z : Int32, w 4 9 = z := ⟨_, rfl⟩
  have b13 : (0 : Int) ≤ x11.toInt ∧ x11.toInt ≤ 255 := by rw [← e12]; exact hI 4 9
  refine kv_iald C 18 rfl 4 rfl (by omega) (by omega) (show w 4 (9 : Int32).toNatClampNeg = x11 from e12) (kdec dk_cX6_loadedWord 11 rfl) ?_
  refine kv_iadd C 19 rfl (kdec dk_cX6_loadedWord 12 rfl) (fun x14 q16 h15e h15 h15l h15u => ?_)
  try have h15n : x14.toInt = x4.toInt + x11.toInt := by omega
  clear h15 q16
  exact kv_iret C hr hlk (kdec dk_cX6_loadedWord 13 rfl) ⟨_, rfl, hI, hF0, (by omega), (by rw [e2, e12]; try omega)⟩

set_option maxHeartbeats 4000000 in
set_option maxRecDepth 100000 in
theorem k_loadedWord10 (l : Launch) (D : va_G) (τ : Nat → ClassId) (ρ σ : Nat → Nat) (w : kw)  (hI : kI false w)  :
    kM l D τ ρ σ yX6_loadedWord cX6_loadedWord 2 (some .int) { frames := 0, cells := 0, slots := 0, locals := 0 } [.ref (ρ 2), .int 10] w
      (fun o w' => ∃ r : Int32, o = some (.int r) ∧ kI false w' ∧ kF [] w w' ∧ (0 ≤ r.toInt ∧ r.toInt ≤ 65535) ∧ (r.toInt = 256 * (w 4 10).toInt + (w 4 11).toInt)) := by
  refine kM_of (own := "TaleMachine$Store") rfl (by decide) (Nat.le_of_ble_eq_true rfl) ?_
  intro p e s m args below meth c C hr hlk
  have hF0 : kF [] w w := kF.rf
  have c_1 : (1 : Int32).toInt = 1 := by decide
  have c_10 : (10 : Int32).toInt = 10 := by decide
  have c_11 : (11 : Int32).toInt = 11 := by decide
  have c_256 : (256 : Int32).toInt = 256 := by decide
  refine kV.L (L' := [(0, .ref (ρ 2)), (1, .int 10)]) rfl ?_
  refine kv_aload_n C 1 rfl 0 (kdec dk_cX6_loadedWord 0 rfl) rfl rfl ?_
  refine kv_getr C 4 rfl 2 1 rfl rfl inX6 (by decide) mfl_TaleMachine_Store_15 rfl rfl (kdec dk_cX6_loadedWord 1 rfl) ?_
  refine kv_iload_n C 5 rfl 1 (kdec dk_cX6_loadedWord 2 rfl) rfl rfl ?_
  obtain ⟨x1, e2⟩ : ∃ z : Int32, w 4 10 = z := ⟨_, rfl⟩
  have b3 : (0 : Int) ≤ x1.toInt ∧ x1.toInt ≤ 255 := by rw [← e2]; exact hI 4 10
  refine kv_iald C 6 rfl 4 rfl (by omega) (by omega) (show w 4 (10 : Int32).toNatClampNeg = x1 from e2) (kdec dk_cX6_loadedWord 3 rfl) ?_
  refine kv_sipush C 9 rfl 256 (kdec dk_cX6_loadedWord 4 rfl) rfl ?_
  refine kv_imul C 10 rfl (kdec dk_cX6_loadedWord 5 rfl) (fun x4 h5e h5l h5u => ?_)
  obtain ⟨q6, g7⟩ := kf_mul x1 256
  rw [← h5e, c_256] at g7
  try have h5n : x4.toInt = 256 * x1.toInt := by omega
  clear g7 q6
  refine kv_aload_n C 11 rfl 0 (kdec dk_cX6_loadedWord 6 rfl) rfl rfl ?_
  refine kv_getr C 14 rfl 2 1 rfl rfl inX6 (by decide) mfl_TaleMachine_Store_15 rfl rfl (kdec dk_cX6_loadedWord 7 rfl) ?_
  refine kv_iload_n C 15 rfl 1 (kdec dk_cX6_loadedWord 8 rfl) rfl rfl ?_
  refine kv_iconst C 16 rfl 1 (kdec dk_cX6_loadedWord 9 rfl) rfl ?_
  refine kv_iadd C 17 rfl (kdec dk_cX6_loadedWord 10 rfl) (fun x8 q10 h9e h9 h9l h9u => ?_)
  try have h9n : x8.toInt = (10 : Int32).toInt + (1 : Int32).toInt := by omega
  clear h9 q10
  obtain rfl : x8 = 11 := by rw [h9e]; decide
  obtain ⟨x11, e12⟩ : ∃ z : Int32, w 4 11 = z := ⟨_, rfl⟩
  have b13 : (0 : Int) ≤ x11.toInt ∧ x11.toInt ≤ 255 := by rw [← e12]; exact hI 4 11
  refine kv_iald C 18 rfl 4 rfl (by omega) (by omega) (show w 4 (11 : Int32).toNatClampNeg = x11 from e12) (kdec dk_cX6_loadedWord 11 rfl) ?_
  refine kv_iadd C 19 rfl (kdec dk_cX6_loadedWord 12 rfl) (fun x14 q16 h15e h15 h15l h15u => ?_)
  try have h15n : x14.toInt = x4.toInt + x11.toInt := by omega
  clear h15 q16
  exact kv_iret C hr hlk (kdec dk_cX6_loadedWord 13 rfl) ⟨_, rfl, hI, hF0, (by omega), (by rw [e2, e12]; try omega)⟩

set_option maxHeartbeats 4000000 in
set_option maxRecDepth 100000 in
theorem k_loadedWord12 (l : Launch) (D : va_G) (τ : Nat → ClassId) (ρ σ : Nat → Nat) (w : kw)  (hI : kI false w)  :
    kM l D τ ρ σ yX6_loadedWord cX6_loadedWord 2 (some .int) { frames := 0, cells := 0, slots := 0, locals := 0 } [.ref (ρ 2), .int 12] w
      (fun o w' => ∃ r : Int32, o = some (.int r) ∧ kI false w' ∧ kF [] w w' ∧ (0 ≤ r.toInt ∧ r.toInt ≤ 65535) ∧ (r.toInt = 256 * (w 4 12).toInt + (w 4 13).toInt)) := by
  refine kM_of (own := "TaleMachine$Store") rfl (by decide) (Nat.le_of_ble_eq_true rfl) ?_
  intro p e s m args below meth c C hr hlk
  have hF0 : kF [] w w := kF.rf
  have c_1 : (1 : Int32).toInt = 1 := by decide
  have c_12 : (12 : Int32).toInt = 12 := by decide
  have c_13 : (13 : Int32).toInt = 13 := by decide
  have c_256 : (256 : Int32).toInt = 256 := by decide
  refine kV.L (L' := [(0, .ref (ρ 2)), (1, .int 12)]) rfl ?_
  refine kv_aload_n C 1 rfl 0 (kdec dk_cX6_loadedWord 0 rfl) rfl rfl ?_
  refine kv_getr C 4 rfl 2 1 rfl rfl inX6 (by decide) mfl_TaleMachine_Store_15 rfl rfl (kdec dk_cX6_loadedWord 1 rfl) ?_
  refine kv_iload_n C 5 rfl 1 (kdec dk_cX6_loadedWord 2 rfl) rfl rfl ?_
  obtain ⟨x1, e2⟩ : ∃ z : Int32, w 4 12 = z := ⟨_, rfl⟩
  have b3 : (0 : Int) ≤ x1.toInt ∧ x1.toInt ≤ 255 := by rw [← e2]; exact hI 4 12
  refine kv_iald C 6 rfl 4 rfl (by omega) (by omega) (show w 4 (12 : Int32).toNatClampNeg = x1 from e2) (kdec dk_cX6_loadedWord 3 rfl) ?_
  refine kv_sipush C 9 rfl 256 (kdec dk_cX6_loadedWord 4 rfl) rfl ?_
  refine kv_imul C 10 rfl (kdec dk_cX6_loadedWord 5 rfl) (fun x4 h5e h5l h5u => ?_)
  obtain ⟨q6, g7⟩ := kf_mul x1 256
  rw [← h5e, c_256] at g7
  try have h5n : x4.toInt = 256 * x1.toInt := by omega
  clear g7 q6
  refine kv_aload_n C 11 rfl 0 (kdec dk_cX6_loadedWord 6 rfl) rfl rfl ?_
  refine kv_getr C 14 rfl 2 1 rfl rfl inX6 (by decide) mfl_TaleMachine_Store_15 rfl rfl (kdec dk_cX6_loadedWord 7 rfl) ?_
  refine kv_iload_n C 15 rfl 1 (kdec dk_cX6_loadedWord 8 rfl) rfl rfl ?_
  refine kv_iconst C 16 rfl 1 (kdec dk_cX6_loadedWord 9 rfl) rfl ?_
  refine kv_iadd C 17 rfl (kdec dk_cX6_loadedWord 10 rfl) (fun x8 q10 h9e h9 h9l h9u => ?_)
  try have h9n : x8.toInt = (12 : Int32).toInt + (1 : Int32).toInt := by omega
  clear h9 q10
  obtain rfl : x8 = 13 := by rw [h9e]; decide
  obtain ⟨x11, e12⟩ : ∃ z : Int32, w 4 13 = z := ⟨_, rfl⟩
  have b13 : (0 : Int) ≤ x11.toInt ∧ x11.toInt ≤ 255 := by rw [← e12]; exact hI 4 13
  refine kv_iald C 18 rfl 4 rfl (by omega) (by omega) (show w 4 (13 : Int32).toNatClampNeg = x11 from e12) (kdec dk_cX6_loadedWord 11 rfl) ?_
  refine kv_iadd C 19 rfl (kdec dk_cX6_loadedWord 12 rfl) (fun x14 q16 h15e h15 h15l h15u => ?_)
  try have h15n : x14.toInt = x4.toInt + x11.toInt := by omega
  clear h15 q16
  exact kv_iret C hr hlk (kdec dk_cX6_loadedWord 13 rfl) ⟨_, rfl, hI, hF0, (by omega), (by rw [e2, e12]; try omega)⟩

set_option maxHeartbeats 4000000 in
set_option maxRecDepth 100000 in
theorem k_loadedWord24 (l : Launch) (D : va_G) (τ : Nat → ClassId) (ρ σ : Nat → Nat) (w : kw)  (hI : kI false w)  :
    kM l D τ ρ σ yX6_loadedWord cX6_loadedWord 2 (some .int) { frames := 0, cells := 0, slots := 0, locals := 0 } [.ref (ρ 2), .int 24] w
      (fun o w' => ∃ r : Int32, o = some (.int r) ∧ kI false w' ∧ kF [] w w' ∧ (0 ≤ r.toInt ∧ r.toInt ≤ 65535) ∧ (r.toInt = 256 * (w 4 24).toInt + (w 4 25).toInt)) := by
  refine kM_of (own := "TaleMachine$Store") rfl (by decide) (Nat.le_of_ble_eq_true rfl) ?_
  intro p e s m args below meth c C hr hlk
  have hF0 : kF [] w w := kF.rf
  have c_1 : (1 : Int32).toInt = 1 := by decide
  have c_24 : (24 : Int32).toInt = 24 := by decide
  have c_25 : (25 : Int32).toInt = 25 := by decide
  have c_256 : (256 : Int32).toInt = 256 := by decide
  refine kV.L (L' := [(0, .ref (ρ 2)), (1, .int 24)]) rfl ?_
  refine kv_aload_n C 1 rfl 0 (kdec dk_cX6_loadedWord 0 rfl) rfl rfl ?_
  refine kv_getr C 4 rfl 2 1 rfl rfl inX6 (by decide) mfl_TaleMachine_Store_15 rfl rfl (kdec dk_cX6_loadedWord 1 rfl) ?_
  refine kv_iload_n C 5 rfl 1 (kdec dk_cX6_loadedWord 2 rfl) rfl rfl ?_
  obtain ⟨x1, e2⟩ : ∃ z : Int32, w 4 24 = z := ⟨_, rfl⟩
  have b3 : (0 : Int) ≤ x1.toInt ∧ x1.toInt ≤ 255 := by rw [← e2]; exact hI 4 24
  refine kv_iald C 6 rfl 4 rfl (by omega) (by omega) (show w 4 (24 : Int32).toNatClampNeg = x1 from e2) (kdec dk_cX6_loadedWord 3 rfl) ?_
  refine kv_sipush C 9 rfl 256 (kdec dk_cX6_loadedWord 4 rfl) rfl ?_
  refine kv_imul C 10 rfl (kdec dk_cX6_loadedWord 5 rfl) (fun x4 h5e h5l h5u => ?_)
  obtain ⟨q6, g7⟩ := kf_mul x1 256
  rw [← h5e, c_256] at g7
  try have h5n : x4.toInt = 256 * x1.toInt := by omega
  clear g7 q6
  refine kv_aload_n C 11 rfl 0 (kdec dk_cX6_loadedWord 6 rfl) rfl rfl ?_
  refine kv_getr C 14 rfl 2 1 rfl rfl inX6 (by decide) mfl_TaleMachine_Store_15 rfl rfl (kdec dk_cX6_loadedWord 7 rfl) ?_
  refine kv_iload_n C 15 rfl 1 (kdec dk_cX6_loadedWord 8 rfl) rfl rfl ?_
  refine kv_iconst C 16 rfl 1 (kdec dk_cX6_loadedWord 9 rfl) rfl ?_
  refine kv_iadd C 17 rfl (kdec dk_cX6_loadedWord 10 rfl) (fun x8 q10 h9e h9 h9l h9u => ?_)
  try have h9n : x8.toInt = (24 : Int32).toInt + (1 : Int32).toInt := by omega
  clear h9 q10
  obtain rfl : x8 = 25 := by rw [h9e]; decide
  obtain ⟨x11, e12⟩ : ∃ z : Int32, w 4 25 = z := ⟨_, rfl⟩
  have b13 : (0 : Int) ≤ x11.toInt ∧ x11.toInt ≤ 255 := by rw [← e12]; exact hI 4 25
  refine kv_iald C 18 rfl 4 rfl (by omega) (by omega) (show w 4 (25 : Int32).toNatClampNeg = x11 from e12) (kdec dk_cX6_loadedWord 11 rfl) ?_
  refine kv_iadd C 19 rfl (kdec dk_cX6_loadedWord 12 rfl) (fun x14 q16 h15e h15 h15l h15u => ?_)
  try have h15n : x14.toInt = x4.toInt + x11.toInt := by omega
  clear h15 q16
  exact kv_iret C hr hlk (kdec dk_cX6_loadedWord 13 rfl) ⟨_, rfl, hI, hF0, (by omega), (by rw [e2, e12]; try omega)⟩

set_option maxHeartbeats 4000000 in
set_option maxRecDepth 100000 in
theorem k_loadedWord4 (l : Launch) (D : va_G) (τ : Nat → ClassId) (ρ σ : Nat → Nat) (w : kw)  (hI : kI false w)  :
    kM l D τ ρ σ yX6_loadedWord cX6_loadedWord 2 (some .int) { frames := 0, cells := 0, slots := 0, locals := 0 } [.ref (ρ 2), .int 4] w
      (fun o w' => ∃ r : Int32, o = some (.int r) ∧ kI false w' ∧ kF [] w w' ∧ (0 ≤ r.toInt ∧ r.toInt ≤ 65535) ∧ (r.toInt = 256 * (w 4 4).toInt + (w 4 5).toInt)) := by
  refine kM_of (own := "TaleMachine$Store") rfl (by decide) (Nat.le_of_ble_eq_true rfl) ?_
  intro p e s m args below meth c C hr hlk
  have hF0 : kF [] w w := kF.rf
  have c_1 : (1 : Int32).toInt = 1 := by decide
  have c_4 : (4 : Int32).toInt = 4 := by decide
  have c_5 : (5 : Int32).toInt = 5 := by decide
  have c_256 : (256 : Int32).toInt = 256 := by decide
  refine kV.L (L' := [(0, .ref (ρ 2)), (1, .int 4)]) rfl ?_
  refine kv_aload_n C 1 rfl 0 (kdec dk_cX6_loadedWord 0 rfl) rfl rfl ?_
  refine kv_getr C 4 rfl 2 1 rfl rfl inX6 (by decide) mfl_TaleMachine_Store_15 rfl rfl (kdec dk_cX6_loadedWord 1 rfl) ?_
  refine kv_iload_n C 5 rfl 1 (kdec dk_cX6_loadedWord 2 rfl) rfl rfl ?_
  obtain ⟨x1, e2⟩ : ∃ z : Int32, w 4 4 = z := ⟨_, rfl⟩
  have b3 : (0 : Int) ≤ x1.toInt ∧ x1.toInt ≤ 255 := by rw [← e2]; exact hI 4 4
  refine kv_iald C 6 rfl 4 rfl (by omega) (by omega) (show w 4 (4 : Int32).toNatClampNeg = x1 from e2) (kdec dk_cX6_loadedWord 3 rfl) ?_
  refine kv_sipush C 9 rfl 256 (kdec dk_cX6_loadedWord 4 rfl) rfl ?_
  refine kv_imul C 10 rfl (kdec dk_cX6_loadedWord 5 rfl) (fun x4 h5e h5l h5u => ?_)
  obtain ⟨q6, g7⟩ := kf_mul x1 256
  rw [← h5e, c_256] at g7
  try have h5n : x4.toInt = 256 * x1.toInt := by omega
  clear g7 q6
  refine kv_aload_n C 11 rfl 0 (kdec dk_cX6_loadedWord 6 rfl) rfl rfl ?_
  refine kv_getr C 14 rfl 2 1 rfl rfl inX6 (by decide) mfl_TaleMachine_Store_15 rfl rfl (kdec dk_cX6_loadedWord 7 rfl) ?_
  refine kv_iload_n C 15 rfl 1 (kdec dk_cX6_loadedWord 8 rfl) rfl rfl ?_
  refine kv_iconst C 16 rfl 1 (kdec dk_cX6_loadedWord 9 rfl) rfl ?_
  refine kv_iadd C 17 rfl (kdec dk_cX6_loadedWord 10 rfl) (fun x8 q10 h9e h9 h9l h9u => ?_)
  try have h9n : x8.toInt = (4 : Int32).toInt + (1 : Int32).toInt := by omega
  clear h9 q10
  obtain rfl : x8 = 5 := by rw [h9e]; decide
  obtain ⟨x11, e12⟩ : ∃ z : Int32, w 4 5 = z := ⟨_, rfl⟩
  have b13 : (0 : Int) ≤ x11.toInt ∧ x11.toInt ≤ 255 := by rw [← e12]; exact hI 4 5
  refine kv_iald C 18 rfl 4 rfl (by omega) (by omega) (show w 4 (5 : Int32).toNatClampNeg = x11 from e12) (kdec dk_cX6_loadedWord 11 rfl) ?_
  refine kv_iadd C 19 rfl (kdec dk_cX6_loadedWord 12 rfl) (fun x14 q16 h15e h15 h15l h15u => ?_)
  try have h15n : x14.toInt = x4.toInt + x11.toInt := by omega
  clear h15 q16
  exact kv_iret C hr hlk (kdec dk_cX6_loadedWord 13 rfl) ⟨_, rfl, hI, hF0, (by omega), (by rw [e2, e12]; try omega)⟩

set_option maxHeartbeats 4000000 in
set_option maxRecDepth 100000 in
theorem k_loadedWord26 (l : Launch) (D : va_G) (τ : Nat → ClassId) (ρ σ : Nat → Nat) (w : kw)  (hI : kI false w)  :
    kM l D τ ρ σ yX6_loadedWord cX6_loadedWord 2 (some .int) { frames := 0, cells := 0, slots := 0, locals := 0 } [.ref (ρ 2), .int 26] w
      (fun o w' => ∃ r : Int32, o = some (.int r) ∧ kI false w' ∧ kF [] w w' ∧ (0 ≤ r.toInt ∧ r.toInt ≤ 65535) ∧ (r.toInt = 256 * (w 4 26).toInt + (w 4 27).toInt)) := by
  refine kM_of (own := "TaleMachine$Store") rfl (by decide) (Nat.le_of_ble_eq_true rfl) ?_
  intro p e s m args below meth c C hr hlk
  have hF0 : kF [] w w := kF.rf
  have c_1 : (1 : Int32).toInt = 1 := by decide
  have c_26 : (26 : Int32).toInt = 26 := by decide
  have c_27 : (27 : Int32).toInt = 27 := by decide
  have c_256 : (256 : Int32).toInt = 256 := by decide
  refine kV.L (L' := [(0, .ref (ρ 2)), (1, .int 26)]) rfl ?_
  refine kv_aload_n C 1 rfl 0 (kdec dk_cX6_loadedWord 0 rfl) rfl rfl ?_
  refine kv_getr C 4 rfl 2 1 rfl rfl inX6 (by decide) mfl_TaleMachine_Store_15 rfl rfl (kdec dk_cX6_loadedWord 1 rfl) ?_
  refine kv_iload_n C 5 rfl 1 (kdec dk_cX6_loadedWord 2 rfl) rfl rfl ?_
  obtain ⟨x1, e2⟩ : ∃ z : Int32, w 4 26 = z := ⟨_, rfl⟩
  have b3 : (0 : Int) ≤ x1.toInt ∧ x1.toInt ≤ 255 := by rw [← e2]; exact hI 4 26
  refine kv_iald C 6 rfl 4 rfl (by omega) (by omega) (show w 4 (26 : Int32).toNatClampNeg = x1 from e2) (kdec dk_cX6_loadedWord 3 rfl) ?_
  refine kv_sipush C 9 rfl 256 (kdec dk_cX6_loadedWord 4 rfl) rfl ?_
  refine kv_imul C 10 rfl (kdec dk_cX6_loadedWord 5 rfl) (fun x4 h5e h5l h5u => ?_)
  obtain ⟨q6, g7⟩ := kf_mul x1 256
  rw [← h5e, c_256] at g7
  try have h5n : x4.toInt = 256 * x1.toInt := by omega
  clear g7 q6
  refine kv_aload_n C 11 rfl 0 (kdec dk_cX6_loadedWord 6 rfl) rfl rfl ?_
  refine kv_getr C 14 rfl 2 1 rfl rfl inX6 (by decide) mfl_TaleMachine_Store_15 rfl rfl (kdec dk_cX6_loadedWord 7 rfl) ?_
  refine kv_iload_n C 15 rfl 1 (kdec dk_cX6_loadedWord 8 rfl) rfl rfl ?_
  refine kv_iconst C 16 rfl 1 (kdec dk_cX6_loadedWord 9 rfl) rfl ?_
  refine kv_iadd C 17 rfl (kdec dk_cX6_loadedWord 10 rfl) (fun x8 q10 h9e h9 h9l h9u => ?_)
  try have h9n : x8.toInt = (26 : Int32).toInt + (1 : Int32).toInt := by omega
  clear h9 q10
  obtain rfl : x8 = 27 := by rw [h9e]; decide
  obtain ⟨x11, e12⟩ : ∃ z : Int32, w 4 27 = z := ⟨_, rfl⟩
  have b13 : (0 : Int) ≤ x11.toInt ∧ x11.toInt ≤ 255 := by rw [← e12]; exact hI 4 27
  refine kv_iald C 18 rfl 4 rfl (by omega) (by omega) (show w 4 (27 : Int32).toNatClampNeg = x11 from e12) (kdec dk_cX6_loadedWord 11 rfl) ?_
  refine kv_iadd C 19 rfl (kdec dk_cX6_loadedWord 12 rfl) (fun x14 q16 h15e h15 h15l h15u => ?_)
  try have h15n : x14.toInt = x4.toInt + x11.toInt := by omega
  clear h15 q16
  exact kv_iret C hr hlk (kdec dk_cX6_loadedWord 13 rfl) ⟨_, rfl, hI, hF0, (by omega), (by rw [e2, e12]; try omega)⟩

set_option maxHeartbeats 4000000 in
set_option maxRecDepth 100000 in
theorem k_loadedWord28 (l : Launch) (D : va_G) (τ : Nat → ClassId) (ρ σ : Nat → Nat) (w : kw)  (hI : kI false w)  :
    kM l D τ ρ σ yX6_loadedWord cX6_loadedWord 2 (some .int) { frames := 0, cells := 0, slots := 0, locals := 0 } [.ref (ρ 2), .int 28] w
      (fun o w' => ∃ r : Int32, o = some (.int r) ∧ kI false w' ∧ kF [] w w' ∧ (0 ≤ r.toInt ∧ r.toInt ≤ 65535) ∧ (r.toInt = 256 * (w 4 28).toInt + (w 4 29).toInt)) := by
  refine kM_of (own := "TaleMachine$Store") rfl (by decide) (Nat.le_of_ble_eq_true rfl) ?_
  intro p e s m args below meth c C hr hlk
  have hF0 : kF [] w w := kF.rf
  have c_1 : (1 : Int32).toInt = 1 := by decide
  have c_28 : (28 : Int32).toInt = 28 := by decide
  have c_29 : (29 : Int32).toInt = 29 := by decide
  have c_256 : (256 : Int32).toInt = 256 := by decide
  refine kV.L (L' := [(0, .ref (ρ 2)), (1, .int 28)]) rfl ?_
  refine kv_aload_n C 1 rfl 0 (kdec dk_cX6_loadedWord 0 rfl) rfl rfl ?_
  refine kv_getr C 4 rfl 2 1 rfl rfl inX6 (by decide) mfl_TaleMachine_Store_15 rfl rfl (kdec dk_cX6_loadedWord 1 rfl) ?_
  refine kv_iload_n C 5 rfl 1 (kdec dk_cX6_loadedWord 2 rfl) rfl rfl ?_
  obtain ⟨x1, e2⟩ : ∃ z : Int32, w 4 28 = z := ⟨_, rfl⟩
  have b3 : (0 : Int) ≤ x1.toInt ∧ x1.toInt ≤ 255 := by rw [← e2]; exact hI 4 28
  refine kv_iald C 6 rfl 4 rfl (by omega) (by omega) (show w 4 (28 : Int32).toNatClampNeg = x1 from e2) (kdec dk_cX6_loadedWord 3 rfl) ?_
  refine kv_sipush C 9 rfl 256 (kdec dk_cX6_loadedWord 4 rfl) rfl ?_
  refine kv_imul C 10 rfl (kdec dk_cX6_loadedWord 5 rfl) (fun x4 h5e h5l h5u => ?_)
  obtain ⟨q6, g7⟩ := kf_mul x1 256
  rw [← h5e, c_256] at g7
  try have h5n : x4.toInt = 256 * x1.toInt := by omega
  clear g7 q6
  refine kv_aload_n C 11 rfl 0 (kdec dk_cX6_loadedWord 6 rfl) rfl rfl ?_
  refine kv_getr C 14 rfl 2 1 rfl rfl inX6 (by decide) mfl_TaleMachine_Store_15 rfl rfl (kdec dk_cX6_loadedWord 7 rfl) ?_
  refine kv_iload_n C 15 rfl 1 (kdec dk_cX6_loadedWord 8 rfl) rfl rfl ?_
  refine kv_iconst C 16 rfl 1 (kdec dk_cX6_loadedWord 9 rfl) rfl ?_
  refine kv_iadd C 17 rfl (kdec dk_cX6_loadedWord 10 rfl) (fun x8 q10 h9e h9 h9l h9u => ?_)
  try have h9n : x8.toInt = (28 : Int32).toInt + (1 : Int32).toInt := by omega
  clear h9 q10
  obtain rfl : x8 = 29 := by rw [h9e]; decide
  obtain ⟨x11, e12⟩ : ∃ z : Int32, w 4 29 = z := ⟨_, rfl⟩
  have b13 : (0 : Int) ≤ x11.toInt ∧ x11.toInt ≤ 255 := by rw [← e12]; exact hI 4 29
  refine kv_iald C 18 rfl 4 rfl (by omega) (by omega) (show w 4 (29 : Int32).toNatClampNeg = x11 from e12) (kdec dk_cX6_loadedWord 11 rfl) ?_
  refine kv_iadd C 19 rfl (kdec dk_cX6_loadedWord 12 rfl) (fun x14 q16 h15e h15 h15l h15u => ?_)
  try have h15n : x14.toInt = x4.toInt + x11.toInt := by omega
  clear h15 q16
  exact kv_iret C hr hlk (kdec dk_cX6_loadedWord 13 rfl) ⟨_, rfl, hI, hF0, (by omega), (by rw [e2, e12]; try omega)⟩

set_option maxHeartbeats 4000000 in
set_option maxRecDepth 100000 in
theorem k_loadedSum (l : Launch) (D : va_G) (τ : Nat → ClassId) (ρ σ : Nat → Nat) (w : kw)  (hI : kI false w) (hp0 : 64 ≤ (w 2 2).toInt) :
    kM l D τ ρ σ yX6_loadedSum cX6_loadedSum 3 (some .int) { frames := 0, cells := 0, slots := 0, locals := 0 } [.ref (ρ 2)] w
      (fun o w' => ∃ r : Int32, o = some (.int r) ∧ kI false w' ∧ kF [] w w' ∧ (r.toInt = kS (w 4) ((w 2 2).toInt - 64).toNat % 65536)) := by
  refine kM_of (own := "TaleMachine$Store") rfl (by decide) (Nat.le_of_ble_eq_true rfl) ?_
  intro p e s m args below meth c C hr hlk
  have hF0 : kF [] w w := kF.rf
  have c_0 : (0 : Int32).toInt = 0 := by decide
  have c_64 : (64 : Int32).toInt = 64 := by decide
  have c_65535 : (65535 : Int32).toInt = 65535 := by decide
  refine kV.L (L' := [(0, .ref (ρ 2))]) rfl ?_
  obtain ⟨x1, e2⟩ : ∃ z : Int32, w 2 2 = z := ⟨_, rfl⟩
  have b3 : (0 : Int) ≤ x1.toInt ∧ x1.toInt ≤ 1024 := by rw [← e2]; exact hI 2 2
  rw [e2] at hp0
  have cut5 : ∀ (n_5 : Nat) (w_5 : kw) (l1_5 l2_5 : Int32), kI false w_5 → kF [] w w_5 → (64 ≤ l2_5.toInt ∧ l2_5.toInt ≤ (w 2 2).toInt ∧ l2_5.toInt ≤ 1024) → (0 ≤ l1_5.toInt ∧ l1_5.toInt ≤ 255 * (l2_5.toInt - 64)) → (l1_5.toInt = kS (w 4) (l2_5.toInt - 64).toNat) → ((2000 - l2_5.toInt) : Int) < (n_5 : Int) → kV p l e { frames := 0, cells := 0, slots := 0, locals := 0 } s m args below meth c (kQ below args s D τ ρ (fun o w' => ∃ r : Int32, o = some (.int r) ∧ kI false w' ∧ kF [] w w' ∧ (r.toInt = kS (w 4) ((w 2 2).toInt - 64).toNat % 65536))) 3 D τ ρ 5 [(0, .ref (ρ 2)), (1, .int l1_5), (2, .int l2_5)] [] w_5 := by
    intro n_5
    induction n_5 with
    | zero => intro w_5 l1_5 l2_5 I_5 F_5 k5_0 k5_1 R5_Sm hmz; exfalso; omega
    | succ n_5 ih5 =>
      intro w_5 l1_5 l2_5 I_5 F_5 k5_0 k5_1 R5_Sm hm5
      have gl1_5 := kf_rng l1_5
      have gl2_5 := kf_rng l2_5
      rw [e2] at k5_0
      refine kv_iload_n C 6 rfl 2 (kdec dk_cX6_loadedSum 4 rfl) rfl rfl ?_
      refine kv_aload_n C 7 rfl 0 (kdec dk_cX6_loadedSum 5 rfl) rfl rfl ?_
      have e4 : w_5 2 2 = x1 := ((F_5 2 2 rfl : w_5 2 2 = w 2 2).trans e2)
      refine kv_get C 10 rfl 2 2 rfl rfl inX6 (by decide) mfl_TaleMachine_Store_27 rfl rfl (kdec dk_cX6_loadedSum 6 rfl) e4 ?_
      refine kv_icmp_ge C 13 rfl 28 (kdec dk_cX6_loadedSum 7 rfl) (by decide) (fun d5 => ?_) (fun d5 => ?_)
      · skip
        refine kv_iload_n C 29 rfl 1 (kdec dk_cX6_loadedSum 17 rfl) rfl rfl ?_
        refine kv_ldc C 31 rfl 65535 (kdec dk_cX6_loadedSum 18 rfl) mco_TaleMachine_Store_69 ?_
        refine kv_iand C 32 rfl (kdec dk_cX6_loadedSum 19 rfl) (fun x6 h7e h7l h7u => ?_)
        have g8 := kf_and65535 h7e
        exact kv_iret C hr hlk (kdec dk_cX6_loadedSum 20 rfl) ⟨_, rfl, I_5, F_5, (by rw [e2, show (x1.toInt - 64).toNat = (l2_5.toInt - 64).toNat by omega, ← R5_Sm]; omega)⟩
      · skip
        refine kv_iload_n C 14 rfl 1 (kdec dk_cX6_loadedSum 8 rfl) rfl rfl ?_
        refine kv_aload_n C 15 rfl 0 (kdec dk_cX6_loadedSum 9 rfl) rfl rfl ?_
        refine kv_getr C 18 rfl 2 1 rfl rfl inX6 (by decide) mfl_TaleMachine_Store_15 rfl rfl (kdec dk_cX6_loadedSum 10 rfl) ?_
        refine kv_iload_n C 19 rfl 2 (kdec dk_cX6_loadedSum 11 rfl) rfl rfl ?_
        obtain ⟨x9, e10⟩ : ∃ z : Int32, w_5 4 (l2_5 : Int32).toNatClampNeg = z := ⟨_, rfl⟩
        have b11 : (0 : Int) ≤ x9.toInt ∧ x9.toInt ≤ 255 := by rw [← e10]; exact I_5 4 _
        refine kv_iald C 20 rfl 4 rfl (by omega) (by omega) e10 (kdec dk_cX6_loadedSum 12 rfl) ?_
        refine kv_iadd C 21 rfl (kdec dk_cX6_loadedSum 13 rfl) (fun x12 q14 h13e h13 h13l h13u => ?_)
        try have h13n : x12.toInt = l1_5.toInt + x9.toInt := by omega
        clear h13 q14
        refine kv_istore_n C 22 rfl 1 [1, 0, 2] [(0, .ref (ρ 2)), (1, .int x12), (2, .int l2_5)] (kdec dk_cX6_loadedSum 14 rfl) rfl (by decide) rfl ?_
        refine kv_iinc C 25 rfl 2 2 [1, 2, 0] (fun v9 => [(0, .ref (ρ 2)), (1, .int x12), (2, .int v9)]) (kdec dk_cX6_loadedSum 15 rfl) rfl (by decide) (fun _ => rfl) 1 rfl (fun x15 q16 h17e h17 h17l h17u => ?_)
        try have h17n : x15.toInt = l2_5.toInt + 1 := by omega
        clear h17 q16
        refine kv_goto C 5 (kdec dk_cX6_loadedSum 16 rfl) (by decide) ?_
        exact ih5 w_5 x12 x15 I_5 F_5 (by rw [e2]; try omega) (by omega) (by rw [kS_step (i := l2_5) (j := x15) (by omega) (by omega) ((F_5 4 _ rfl).symm.trans e10)]; omega) (by omega)
  refine kv_iconst C 1 rfl 0 (kdec dk_cX6_loadedSum 0 rfl) rfl ?_
  refine kv_istore_n C 2 rfl 1 [1, 0] [(0, .ref (ρ 2)), (1, .int 0)] (kdec dk_cX6_loadedSum 1 rfl) rfl (by decide) rfl ?_
  refine kv_bipush C 4 rfl 64 (kdec dk_cX6_loadedSum 2 rfl) rfl ?_
  refine kv_istore_n C 5 rfl 2 [1, 2, 0] [(0, .ref (ρ 2)), (1, .int 0), (2, .int 64)] (kdec dk_cX6_loadedSum 3 rfl) rfl (by decide) rfl ?_
  exact cut5 ((((2000 - (64 : Int32).toInt)) : Int).toNat + 1) w 0 64 hI hF0 (by rw [e2]; try omega) (by omega) (by rw [c_0, c_64]; rfl) (by omega)
