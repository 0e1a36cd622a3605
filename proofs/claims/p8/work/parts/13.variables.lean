set_option maxHeartbeats 4000000 in
set_option maxRecDepth 100000 in
theorem k_signed (l : Launch) (D : va_G) (τ : Nat → ClassId) (ρ σ : Nat → Nat) (w : kw) (a1 : Int32) (hI : kI true w)  :
    kM l D τ ρ σ yX9_signed cX9_signed 1 (some .int) { frames := 0, cells := 0, slots := 0, locals := 0 } [.int a1] w
      (fun o w' => ∃ r : Int32, o = some (.int r) ∧ kI true w' ∧ kF [] w w') := by
  refine kM_of (own := "TaleMachine") rfl (by decide) (Nat.le_of_ble_eq_true rfl) ?_
  intro p e s m args below meth c C hr hlk
  have hF0 : kF [] w w := kF.rf
  have c_32767 : (32767 : Int32).toInt = 32767 := by decide
  have c_65536 : (65536 : Int32).toInt = 65536 := by decide
  refine kV.L (L' := [(0, .int a1)]) rfl ?_
  have g1 := kf_rng a1
  refine kv_iload_n C 1 rfl 0 (kdec dk_cX9_signed 0 rfl) rfl rfl ?_
  refine kv_sipush C 4 rfl 32767 (kdec dk_cX9_signed 1 rfl) rfl ?_
  refine kv_icmp_le C 7 rfl 14 (kdec dk_cX9_signed 2 rfl) (by decide) (fun d2 => ?_) (fun d2 => ?_)
  · skip
    refine kv_iload_n C 15 rfl 0 (kdec dk_cX9_signed 7 rfl) rfl rfl ?_
    exact kv_iret C hr hlk (kdec dk_cX9_signed 8 rfl) ⟨_, rfl, hI, hF0⟩
  · skip
    refine kv_iload_n C 8 rfl 0 (kdec dk_cX9_signed 3 rfl) rfl rfl ?_
    refine kv_ldc C 10 rfl 65536 (kdec dk_cX9_signed 4 rfl) mco_TaleMachine_168 ?_
    refine kv_isub C 11 rfl (kdec dk_cX9_signed 5 rfl) (fun x3 q5 h4e h4 h4l h4u => ?_)
    try have h4n : x3.toInt = a1.toInt - (65536 : Int32).toInt := by omega
    clear h4 q5
    refine kv_goto C 15 (kdec dk_cX9_signed 6 rfl) (by decide) ?_
    exact kv_iret C hr hlk (kdec dk_cX9_signed 8 rfl) ⟨_, rfl, hI, hF0⟩

set_option maxHeartbeats 4000000 in
set_option maxRecDepth 100000 in
theorem k_globalAt (l : Launch) (D : va_G) (τ : Nat → ClassId) (ρ σ : Nat → Nat) (w : kw) (a1 : Int32) (hI : kI true w)  :
    kM l D τ ρ σ yX8_globalAt cX8_globalAt 2 (some .int) { frames := 0, cells := 0, slots := 0, locals := 0 } [.ref (ρ 21), .int a1] w
      (fun o w' => ∃ r : Int32, o = some (.int r) ∧ kI true w' ∧ kF [] w w') := by
  refine kM_of (own := "TaleMachine$Variables") rfl (by decide) (Nat.le_of_ble_eq_true rfl) ?_
  intro p e s m args below meth c C hr hlk
  have hF0 : kF [] w w := kF.rf
  have c_2 : (2 : Int32).toInt = 2 := by decide
  have c_16 : (16 : Int32).toInt = 16 := by decide
  refine kV.L (L' := [(0, .ref (ρ 21)), (1, .int a1)]) rfl ?_
  have g1 := kf_rng a1
  refine kv_aload_n C 1 rfl 0 (kdec dk_cX8_globalAt 0 rfl) rfl rfl ?_
  refine kv_getr C 4 rfl 21 0 rfl rfl inX8 (by decide) mfl_TaleMachine_Variables_9 rfl rfl (kdec dk_cX8_globalAt 1 rfl) ?_
  obtain ⟨x2, e3⟩ : ∃ z : Int32, w 2 7 = z := ⟨_, rfl⟩
  have b4 : (0 : Int) ≤ x2.toInt ∧ x2.toInt ≤ 65535 := by rw [← e3]; exact hI 2 7
  refine kv_getN C 7 rfl 2 7 rfl rfl inX6 (by decide) mfn_TaleMachine_Variables_59 rfl rfl (kdec dk_cX8_globalAt 2 rfl) e3 ?_
  refine kv_iconst C 8 rfl 2 (kdec dk_cX8_globalAt 3 rfl) rfl ?_
  refine kv_iload_n C 9 rfl 1 (kdec dk_cX8_globalAt 4 rfl) rfl rfl ?_
  refine kv_bipush C 11 rfl 16 (kdec dk_cX8_globalAt 5 rfl) rfl ?_
  refine kv_isub C 12 rfl (kdec dk_cX8_globalAt 6 rfl) (fun x5 q7 h6e h6 h6l h6u => ?_)
  try have h6n : x5.toInt = a1.toInt - (16 : Int32).toInt := by omega
  clear h6 q7
  refine kv_imul C 13 rfl (kdec dk_cX8_globalAt 7 rfl) (fun x8 h9e h9l h9u => ?_)
  obtain ⟨q10, g11⟩ := kf_mul 2 x5
  rw [← h9e, c_2] at g11
  try have h9n : x8.toInt = 2 * x5.toInt := by omega
  clear g11 q10
  refine kv_iadd C 14 rfl (kdec dk_cX8_globalAt 8 rfl) (fun x12 q14 h13e h13 h13l h13u => ?_)
  try have h13n : x12.toInt = x2.toInt + x8.toInt := by omega
  clear h13 q14
  exact kv_iret C hr hlk (kdec dk_cX8_globalAt 9 rfl) ⟨_, rfl, hI, hF0⟩

set_option maxHeartbeats 4000000 in
set_option maxRecDepth 100000 in
theorem k_push (l : Launch) (D : va_G) (τ : Nat → ClassId) (ρ σ : Nat → Nat) (w : kw) (a1 : Int32) (hI : kI true w)  :
    kM l D τ ρ σ yX8_push cX8_push 2 none { frames := 1, cells := 0, slots := 0, locals := 36 } [.ref (ρ 21), .int a1] w
      (fun o w' => o = none ∧ kI true w' ∧ kF [(2, some 9), (5, some 6), (6, none)] w w') := by
  refine kM_of (own := "TaleMachine$Variables") rfl (by decide) (Nat.le_of_ble_eq_true rfl) ?_
  intro p e s m args below meth c C hr hlk
  have hF0 : kF [(2, some 9), (5, some 6), (6, none)] w w := kF.rf
  have c_1 : (1 : Int32).toInt = 1 := by decide
  have c_3 : (3 : Int32).toInt = 3 := by decide
  have c_120 : (120 : Int32).toInt = 120 := by decide
  have c_65535 : (65535 : Int32).toInt = 65535 := by decide
  refine kV.L (L' := [(0, .ref (ρ 21)), (1, .int a1)]) rfl ?_
  have g1 := kf_rng a1
  refine kv_aload_n C 1 rfl 0 (kdec dk_cX8_push 0 rfl) rfl rfl ?_
  refine kv_getr C 4 rfl 21 1 rfl rfl inX8 (by decide) mfl_TaleMachine_Variables_15 rfl rfl (kdec dk_cX8_push 1 rfl) ?_
  obtain ⟨x2, e3⟩ : ∃ z : Int32, w 5 6 = z := ⟨_, rfl⟩
  have b4 : (0 : Int) ≤ x2.toInt ∧ x2.toInt ≤ 120 := by rw [← e3]; exact hI 5 6
  refine kv_getN C 7 rfl 5 6 rfl rfl inX3 (by decide) mfn_TaleMachine_Variables_62 rfl rfl (kdec dk_cX8_push 2 rfl) e3 ?_
  refine kv_bipush C 9 rfl 120 (kdec dk_cX8_push 3 rfl) rfl ?_
  refine kv_icmp_lt C 12 rfl 20 (kdec dk_cX8_push 4 rfl) (by decide) (fun d5 => ?_) (fun d5 => ?_)
  · skip
    refine kv_aload_n C 21 rfl 0 (kdec dk_cX8_push 9 rfl) rfl rfl ?_
    refine kv_getr C 24 rfl 21 0 rfl rfl inX8 (by decide) mfl_TaleMachine_Variables_9 rfl rfl (kdec dk_cX8_push 10 rfl) ?_
    obtain ⟨x6, e7⟩ : ∃ z : Int32, w 2 9 = z := ⟨_, rfl⟩
    have b8 : (0 : Int) ≤ x6.toInt ∧ x6.toInt ≤ 13 := by rw [← e7]; exact hI 2 9
    refine kv_getN C 27 rfl 2 9 rfl rfl inX6 (by decide) mfn_TaleMachine_Variables_41 rfl rfl (kdec dk_cX8_push 11 rfl) e7 ?_
    refine kv_if_ne C 30 rfl 62 (kdec dk_cX8_push 12 rfl) (by decide) (fun d9 => ?_) (fun d9 => ?_)
    · skip
      exact kv_vret C hr hlk (kdec dk_cX8_push 30 rfl) ⟨rfl, hI, hF0⟩
    · skip
      refine kv_aload_n C 31 rfl 0 (kdec dk_cX8_push 13 rfl) rfl rfl ?_
      refine kv_getr C 34 rfl 21 1 rfl rfl inX8 (by decide) mfl_TaleMachine_Variables_15 rfl rfl (kdec dk_cX8_push 14 rfl) ?_
      refine kv_getrN C 37 rfl 5 0 rfl rfl inX3 (by decide) mfn_TaleMachine_Variables_65 rfl rfl (kdec dk_cX8_push 15 rfl) ?_
      refine kv_aload_n C 38 rfl 0 (kdec dk_cX8_push 16 rfl) rfl rfl ?_
      refine kv_getr C 41 rfl 21 1 rfl rfl inX8 (by decide) mfl_TaleMachine_Variables_15 rfl rfl (kdec dk_cX8_push 17 rfl) ?_
      refine kv_getN C 44 rfl 5 6 rfl rfl inX3 (by decide) mfn_TaleMachine_Variables_62 rfl rfl (kdec dk_cX8_push 18 rfl) e3 ?_
      refine kv_iload_n C 45 rfl 1 (kdec dk_cX8_push 19 rfl) rfl rfl ?_
      refine kv_ldc C 47 rfl 65535 (kdec dk_cX8_push 20 rfl) mco_TaleMachine_Variables_55 ?_
      refine kv_iand C 48 rfl (kdec dk_cX8_push 21 rfl) (fun x10 h11e h11l h11u => ?_)
      have g12 := kf_and65535 h11e
      refine kv_iast C 49 rfl 6 rfl (by omega) (by omega) (kdec dk_cX8_push 22 rfl) (fun w13 u14 => ?_)
      have I15 : kI true w13 := kI_put u14 hI (kf_rng _).1 (kf_rng _).2
      have F16 : kF [(2, some 9), (5, some 6), (6, none)] w w13 := kF_put u14 hF0 rfl
      refine kv_aload_n C 50 rfl 0 (kdec dk_cX8_push 23 rfl) rfl rfl ?_
      refine kv_getr C 53 rfl 21 1 rfl rfl inX8 (by decide) mfl_TaleMachine_Variables_15 rfl rfl (kdec dk_cX8_push 24 rfl) ?_
      refine kv_dup C 54 rfl (kdec dk_cX8_push 25 rfl) rfl ?_
      have e17 : w13 5 6 = x2 := ((kup_ne u14 rfl : w13 5 6 = w 5 6).trans e3)
      refine kv_getN C 57 rfl 5 6 rfl rfl inX3 (by decide) mfn_TaleMachine_Variables_62 rfl rfl (kdec dk_cX8_push 26 rfl) e17 ?_
      refine kv_iconst C 58 rfl 1 (kdec dk_cX8_push 27 rfl) rfl ?_
      refine kv_iadd C 59 rfl (kdec dk_cX8_push 28 rfl) (fun x18 q20 h19e h19 h19l h19u => ?_)
      try have h19n : x18.toInt = x2.toInt + (1 : Int32).toInt := by omega
      clear h19 q20
      refine kv_putN C 62 rfl 5 6 rfl rfl inX3 (by decide) mfn_TaleMachine_Variables_62 rfl tyX3 tyX3_ok nmX3 rfl rfl (kdec dk_cX8_push 29 rfl) rfl rfl (fun w21 u22 => ?_)
      have I23 : kI true w21 := kI_put u22 I15 (show (0 : Int) ≤ (x18 : Int32).toInt by omega) (show (x18 : Int32).toInt ≤ 120 by omega)
      have F24 : kF [(2, some 9), (5, some 6), (6, none)] w w21 := kF_put u22 F16 rfl
      exact kv_vret C hr hlk (kdec dk_cX8_push 30 rfl) ⟨rfl, I23, F24⟩
  · skip
    refine kv_aload_n C 13 rfl 0 (kdec dk_cX8_push 5 rfl) rfl rfl ?_
    refine kv_getr C 16 rfl 21 0 rfl rfl inX8 (by decide) mfl_TaleMachine_Variables_9 rfl rfl (kdec dk_cX8_push 6 rfl) ?_
    refine kv_iconst C 17 rfl 3 (kdec dk_cX8_push 7 rfl) rfl ?_
    refine kv_callVNv (As := [.int 3]) (rest := []) C 20 rfl 2 (k_raise l D τ ρ σ w 3 hI (by omega)) rfl rfl mmn_TaleMachine_Variables_37 mim_yX6_raise mse_yX6_raise mcd_yX6_raise min_yX6_raise hd_yX6_raise rfl rfl rfl (by decide) rfl (Nat.le_of_ble_eq_true rfl) (kdec dk_cX8_push 8 rfl) (fun w25 h26 => ?_)
    obtain ⟨I27, f28, p30⟩ := h26
    have F31 : kF [(2, some 9), (5, some 6), (6, none)] w w25 := kF_call hF0 f28 (by decide)
    obtain ⟨x32, e33⟩ : ∃ z : Int32, w 2 9 = z := ⟨_, rfl⟩
    have b34 : (0 : Int) ≤ x32.toInt ∧ x32.toInt ≤ 13 := by rw [← e33]; exact hI 2 9
    obtain ⟨x35, e36⟩ : ∃ z : Int32, w25 2 9 = z := ⟨_, rfl⟩
    have b37 : (0 : Int) ≤ x35.toInt ∧ x35.toInt ≤ 13 := by rw [← e36]; exact I27 2 9
    rw [e33, e36] at p30
    refine kv_aload_n C 21 rfl 0 (kdec dk_cX8_push 9 rfl) rfl rfl ?_
    refine kv_getr C 24 rfl 21 0 rfl rfl inX8 (by decide) mfl_TaleMachine_Variables_9 rfl rfl (kdec dk_cX8_push 10 rfl) ?_
    refine kv_getN C 27 rfl 2 9 rfl rfl inX6 (by decide) mfn_TaleMachine_Variables_41 rfl rfl (kdec dk_cX8_push 11 rfl) e36 ?_
    refine kv_if_ne C 30 rfl 62 (kdec dk_cX8_push 12 rfl) (by decide) (fun d38 => ?_) (fun d38 => ?_)
    · skip
      exact kv_vret C hr hlk (kdec dk_cX8_push 30 rfl) ⟨rfl, I27, F31⟩
    · skip
      refine kv_aload_n C 31 rfl 0 (kdec dk_cX8_push 13 rfl) rfl rfl ?_
      refine kv_getr C 34 rfl 21 1 rfl rfl inX8 (by decide) mfl_TaleMachine_Variables_15 rfl rfl (kdec dk_cX8_push 14 rfl) ?_
      refine kv_getrN C 37 rfl 5 0 rfl rfl inX3 (by decide) mfn_TaleMachine_Variables_65 rfl rfl (kdec dk_cX8_push 15 rfl) ?_
      refine kv_aload_n C 38 rfl 0 (kdec dk_cX8_push 16 rfl) rfl rfl ?_
      refine kv_getr C 41 rfl 21 1 rfl rfl inX8 (by decide) mfl_TaleMachine_Variables_15 rfl rfl (kdec dk_cX8_push 17 rfl) ?_
      have e39 : w25 5 6 = x2 := ((f28 5 6 rfl : w25 5 6 = w 5 6).trans e3)
      refine kv_getN C 44 rfl 5 6 rfl rfl inX3 (by decide) mfn_TaleMachine_Variables_62 rfl rfl (kdec dk_cX8_push 18 rfl) e39 ?_
      refine kv_iload_n C 45 rfl 1 (kdec dk_cX8_push 19 rfl) rfl rfl ?_
      refine kv_ldc C 47 rfl 65535 (kdec dk_cX8_push 20 rfl) mco_TaleMachine_Variables_55 ?_
      refine kv_iand C 48 rfl (kdec dk_cX8_push 21 rfl) (fun x40 h41e h41l h41u => ?_)
      have g42 := kf_and65535 h41e
      refine kv_iast C 49 rfl 6 rfl (by omega) (by omega) (kdec dk_cX8_push 22 rfl) (fun w43 u44 => ?_)
      have I45 : kI true w43 := kI_put u44 I27 (kf_rng _).1 (kf_rng _).2
      have F46 : kF [(2, some 9), (5, some 6), (6, none)] w w43 := kF_put u44 F31 rfl
      refine kv_aload_n C 50 rfl 0 (kdec dk_cX8_push 23 rfl) rfl rfl ?_
      refine kv_getr C 53 rfl 21 1 rfl rfl inX8 (by decide) mfl_TaleMachine_Variables_15 rfl rfl (kdec dk_cX8_push 24 rfl) ?_
      refine kv_dup C 54 rfl (kdec dk_cX8_push 25 rfl) rfl ?_
      have e47 : w43 5 6 = x2 := ((kup_ne u44 rfl : w43 5 6 = w25 5 6).trans e39)
      refine kv_getN C 57 rfl 5 6 rfl rfl inX3 (by decide) mfn_TaleMachine_Variables_62 rfl rfl (kdec dk_cX8_push 26 rfl) e47 ?_
      refine kv_iconst C 58 rfl 1 (kdec dk_cX8_push 27 rfl) rfl ?_
      refine kv_iadd C 59 rfl (kdec dk_cX8_push 28 rfl) (fun x48 q50 h49e h49 h49l h49u => ?_)
      try have h49n : x48.toInt = x2.toInt + (1 : Int32).toInt := by omega
      clear h49 q50
      refine kv_putN C 62 rfl 5 6 rfl rfl inX3 (by decide) mfn_TaleMachine_Variables_62 rfl tyX3 tyX3_ok nmX3 rfl rfl (kdec dk_cX8_push 29 rfl) rfl rfl (fun w51 u52 => ?_)
      have I53 : kI true w51 := kI_put u52 I45 (show (0 : Int) ≤ (x48 : Int32).toInt by omega) (show (x48 : Int32).toInt ≤ 120 by omega)
      have F54 : kF [(2, some 9), (5, some 6), (6, none)] w w51 := kF_put u52 F46 rfl
      exact kv_vret C hr hlk (kdec dk_cX8_push 30 rfl) ⟨rfl, I53, F54⟩

set_option maxHeartbeats 4000000 in
set_option maxRecDepth 100000 in
theorem k_pop (l : Launch) (D : va_G) (τ : Nat → ClassId) (ρ σ : Nat → Nat) (w : kw)  (hI : kI true w)  :
    kM l D τ ρ σ yX8_pop cX8_pop 1 (some .int) { frames := 1, cells := 0, slots := 0, locals := 36 } [.ref (ρ 21)] w
      (fun o w' => ∃ r : Int32, o = some (.int r) ∧ kI true w' ∧ kF [(2, some 9), (5, some 6)] w w') := by
  refine kM_of (own := "TaleMachine$Variables") rfl (by decide) (Nat.le_of_ble_eq_true rfl) ?_
  intro p e s m args below meth c C hr hlk
  have hF0 : kF [(2, some 9), (5, some 6)] w w := kF.rf
  have c_0 : (0 : Int32).toInt = 0 := by decide
  have c_1 : (1 : Int32).toInt = 1 := by decide
  have c_4 : (4 : Int32).toInt = 4 := by decide
  refine kV.L (L' := [(0, .ref (ρ 21))]) rfl ?_
  refine kv_aload_n C 1 rfl 0 (kdec dk_cX8_pop 0 rfl) rfl rfl ?_
  refine kv_getr C 4 rfl 21 1 rfl rfl inX8 (by decide) mfl_TaleMachine_Variables_15 rfl rfl (kdec dk_cX8_pop 1 rfl) ?_
  refine kv_callVNi (As := []) (rest := []) C 7 rfl 5 (k_hasOwnWord l D τ ρ σ w  hI ) rfl rfl mmn_TaleMachine_Variables_69 mim_yX3_hasOwnWord mse_yX3_hasOwnWord mcd_yX3_hasOwnWord min_yX3_hasOwnWord hd_yX3_hasOwnWord rfl rfl rfl (by decide) rfl (Nat.le_of_ble_eq_true rfl) (kdec dk_cX8_pop 2 rfl) (fun x5 w1 h2 => ?_)
  obtain ⟨I3, f4, p6, p7⟩ := h2
  have F8 : kF [(2, some 9), (5, some 6)] w w1 := kF_call hF0 f4 (by decide)
  have g9 := kf_rng x5
  obtain ⟨x10, e11⟩ : ∃ z : Int32, w 5 6 = z := ⟨_, rfl⟩
  have b12 : (0 : Int) ≤ x10.toInt ∧ x10.toInt ≤ 120 := by rw [← e11]; exact hI 5 6
  rw [e11] at p6
  refine kv_if_ne C 10 rfl 18 (kdec dk_cX8_pop 3 rfl) (by decide) (fun d13 => ?_) (fun d13 => ?_)
  · skip
    refine kv_aload_n C 19 rfl 0 (kdec dk_cX8_pop 8 rfl) rfl rfl ?_
    refine kv_getr C 22 rfl 21 0 rfl rfl inX8 (by decide) mfl_TaleMachine_Variables_9 rfl rfl (kdec dk_cX8_pop 9 rfl) ?_
    obtain ⟨x14, e15⟩ : ∃ z : Int32, w 2 9 = z := ⟨_, rfl⟩
    have b16 : (0 : Int) ≤ x14.toInt ∧ x14.toInt ≤ 13 := by rw [← e15]; exact hI 2 9
    have e17 : w1 2 9 = x14 := ((f4 2 9 rfl : w1 2 9 = w 2 9).trans e15)
    refine kv_getN C 25 rfl 2 9 rfl rfl inX6 (by decide) mfn_TaleMachine_Variables_41 rfl rfl (kdec dk_cX8_pop 10 rfl) e17 ?_
    refine kv_if_eq C 28 rfl 30 (kdec dk_cX8_pop 11 rfl) (by decide) (fun d18 => ?_) (fun d18 => ?_)
    · skip
      refine kv_aload_n C 31 rfl 0 (kdec dk_cX8_pop 14 rfl) rfl rfl ?_
      refine kv_getr C 34 rfl 21 1 rfl rfl inX8 (by decide) mfl_TaleMachine_Variables_15 rfl rfl (kdec dk_cX8_pop 15 rfl) ?_
      refine kv_dup C 35 rfl (kdec dk_cX8_pop 16 rfl) rfl ?_
      have e19 : w1 5 6 = x10 := ((f4 5 6 rfl : w1 5 6 = w 5 6).trans e11)
      refine kv_getN C 38 rfl 5 6 rfl rfl inX3 (by decide) mfn_TaleMachine_Variables_62 rfl rfl (kdec dk_cX8_pop 17 rfl) e19 ?_
      refine kv_iconst C 39 rfl 1 (kdec dk_cX8_pop 18 rfl) rfl ?_
      refine kv_isub C 40 rfl (kdec dk_cX8_pop 19 rfl) (fun x20 q22 h21e h21 h21l h21u => ?_)
      try have h21n : x20.toInt = x10.toInt - (1 : Int32).toInt := by omega
      clear h21 q22
      refine kv_putN C 43 rfl 5 6 rfl rfl inX3 (by decide) mfn_TaleMachine_Variables_62 rfl tyX3 tyX3_ok nmX3 rfl rfl (kdec dk_cX8_pop 20 rfl) rfl rfl (fun w23 u24 => ?_)
      have I25 : kI true w23 := kI_put u24 I3 (show (0 : Int) ≤ (x20 : Int32).toInt by omega) (show (x20 : Int32).toInt ≤ 120 by omega)
      have F26 : kF [(2, some 9), (5, some 6)] w w23 := kF_put u24 F8 rfl
      refine kv_aload_n C 44 rfl 0 (kdec dk_cX8_pop 21 rfl) rfl rfl ?_
      refine kv_getr C 47 rfl 21 1 rfl rfl inX8 (by decide) mfl_TaleMachine_Variables_15 rfl rfl (kdec dk_cX8_pop 22 rfl) ?_
      refine kv_getrN C 50 rfl 5 0 rfl rfl inX3 (by decide) mfn_TaleMachine_Variables_65 rfl rfl (kdec dk_cX8_pop 23 rfl) ?_
      refine kv_aload_n C 51 rfl 0 (kdec dk_cX8_pop 24 rfl) rfl rfl ?_
      refine kv_getr C 54 rfl 21 1 rfl rfl inX8 (by decide) mfl_TaleMachine_Variables_15 rfl rfl (kdec dk_cX8_pop 25 rfl) ?_
      refine kv_getN C 57 rfl 5 6 rfl rfl inX3 (by decide) mfn_TaleMachine_Variables_62 rfl rfl (kdec dk_cX8_pop 26 rfl) (kup_eq u24) ?_
      obtain ⟨x27, e28⟩ : ∃ z : Int32, w23 6 (x20 : Int32).toNatClampNeg = z := ⟨_, rfl⟩
      have b29 : (-2147483648 : Int) ≤ x27.toInt ∧ x27.toInt ≤ 2147483647 := by rw [← e28]; exact I25 6 _
      refine kv_iald C 58 rfl 6 rfl (by omega) (by omega) e28 (kdec dk_cX8_pop 27 rfl) ?_
      exact kv_iret C hr hlk (kdec dk_cX8_pop 28 rfl) ⟨_, rfl, I25, F26⟩
    · skip
      refine kv_iconst C 29 rfl 0 (kdec dk_cX8_pop 12 rfl) rfl ?_
      exact kv_iret C hr hlk (kdec dk_cX8_pop 13 rfl) ⟨_, rfl, I3, F8⟩
  · skip
    refine kv_aload_n C 11 rfl 0 (kdec dk_cX8_pop 4 rfl) rfl rfl ?_
    refine kv_getr C 14 rfl 21 0 rfl rfl inX8 (by decide) mfl_TaleMachine_Variables_9 rfl rfl (kdec dk_cX8_pop 5 rfl) ?_
    refine kv_iconst C 15 rfl 4 (kdec dk_cX8_pop 6 rfl) rfl ?_
    refine kv_callVNv (As := [.int 4]) (rest := []) C 18 rfl 2 (k_raise l D τ ρ σ w1 4 I3 (by omega)) rfl rfl mmn_TaleMachine_Variables_37 mim_yX6_raise mse_yX6_raise mcd_yX6_raise min_yX6_raise hd_yX6_raise rfl rfl rfl (by decide) rfl (Nat.le_of_ble_eq_true rfl) (kdec dk_cX8_pop 7 rfl) (fun w30 h31 => ?_)
    obtain ⟨I32, f33, p35⟩ := h31
    have F36 : kF [(2, some 9), (5, some 6)] w w30 := kF_call F8 f33 (by decide)
    obtain ⟨x37, e38⟩ : ∃ z : Int32, w 2 9 = z := ⟨_, rfl⟩
    have b39 : (0 : Int) ≤ x37.toInt ∧ x37.toInt ≤ 13 := by rw [← e38]; exact hI 2 9
    have e40 : w1 2 9 = x37 := ((f4 2 9 rfl : w1 2 9 = w 2 9).trans e38)
    obtain ⟨x41, e42⟩ : ∃ z : Int32, w30 2 9 = z := ⟨_, rfl⟩
    have b43 : (0 : Int) ≤ x41.toInt ∧ x41.toInt ≤ 13 := by rw [← e42]; exact I32 2 9
    rw [e40, e42] at p35
    refine kv_aload_n C 19 rfl 0 (kdec dk_cX8_pop 8 rfl) rfl rfl ?_
    refine kv_getr C 22 rfl 21 0 rfl rfl inX8 (by decide) mfl_TaleMachine_Variables_9 rfl rfl (kdec dk_cX8_pop 9 rfl) ?_
    refine kv_getN C 25 rfl 2 9 rfl rfl inX6 (by decide) mfn_TaleMachine_Variables_41 rfl rfl (kdec dk_cX8_pop 10 rfl) e42 ?_
    refine kv_if_eq C 28 rfl 30 (kdec dk_cX8_pop 11 rfl) (by decide) (fun d44 => ?_) (fun d44 => ?_)
    · skip
      refine kv_aload_n C 31 rfl 0 (kdec dk_cX8_pop 14 rfl) rfl rfl ?_
      refine kv_getr C 34 rfl 21 1 rfl rfl inX8 (by decide) mfl_TaleMachine_Variables_15 rfl rfl (kdec dk_cX8_pop 15 rfl) ?_
      refine kv_dup C 35 rfl (kdec dk_cX8_pop 16 rfl) rfl ?_
      have e45 : w30 5 6 = x10 := ((f33 5 6 rfl : w30 5 6 = w1 5 6).trans ((f4 5 6 rfl : w1 5 6 = w 5 6).trans e11))
      refine kv_getN C 38 rfl 5 6 rfl rfl inX3 (by decide) mfn_TaleMachine_Variables_62 rfl rfl (kdec dk_cX8_pop 17 rfl) e45 ?_
      refine kv_iconst C 39 rfl 1 (kdec dk_cX8_pop 18 rfl) rfl ?_
      refine kv_isub C 40 rfl (kdec dk_cX8_pop 19 rfl) (fun x46 q48 h47e h47 h47l h47u => ?_)
      try have h47n : x46.toInt = x10.toInt - (1 : Int32).toInt := by omega
      clear h47 q48
      refine kv_putN C 43 rfl 5 6 rfl rfl inX3 (by decide) mfn_TaleMachine_Variables_62 rfl tyX3 tyX3_ok nmX3 rfl rfl (kdec dk_cX8_pop 20 rfl) rfl rfl (fun w49 u50 => ?_)
      have I51 : kI true w49 := kI_put u50 I32 (show (0 : Int) ≤ (x46 : Int32).toInt by omega) (show (x46 : Int32).toInt ≤ 120 by omega)
      have F52 : kF [(2, some 9), (5, some 6)] w w49 := kF_put u50 F36 rfl
      refine kv_aload_n C 44 rfl 0 (kdec dk_cX8_pop 21 rfl) rfl rfl ?_
      refine kv_getr C 47 rfl 21 1 rfl rfl inX8 (by decide) mfl_TaleMachine_Variables_15 rfl rfl (kdec dk_cX8_pop 22 rfl) ?_
      refine kv_getrN C 50 rfl 5 0 rfl rfl inX3 (by decide) mfn_TaleMachine_Variables_65 rfl rfl (kdec dk_cX8_pop 23 rfl) ?_
      refine kv_aload_n C 51 rfl 0 (kdec dk_cX8_pop 24 rfl) rfl rfl ?_
      refine kv_getr C 54 rfl 21 1 rfl rfl inX8 (by decide) mfl_TaleMachine_Variables_15 rfl rfl (kdec dk_cX8_pop 25 rfl) ?_
      refine kv_getN C 57 rfl 5 6 rfl rfl inX3 (by decide) mfn_TaleMachine_Variables_62 rfl rfl (kdec dk_cX8_pop 26 rfl) (kup_eq u50) ?_
      obtain ⟨x53, e54⟩ : ∃ z : Int32, w49 6 (x46 : Int32).toNatClampNeg = z := ⟨_, rfl⟩
      have b55 : (-2147483648 : Int) ≤ x53.toInt ∧ x53.toInt ≤ 2147483647 := by rw [← e54]; exact I51 6 _
      refine kv_iald C 58 rfl 6 rfl (by omega) (by omega) e54 (kdec dk_cX8_pop 27 rfl) ?_
      exact kv_iret C hr hlk (kdec dk_cX8_pop 28 rfl) ⟨_, rfl, I51, F52⟩
    · skip
      refine kv_iconst C 29 rfl 0 (kdec dk_cX8_pop 12 rfl) rfl ?_
      exact kv_iret C hr hlk (kdec dk_cX8_pop 13 rfl) ⟨_, rfl, I32, F36⟩

set_option maxHeartbeats 4000000 in
set_option maxRecDepth 100000 in
theorem k_valueOf (l : Launch) (D : va_G) (τ : Nat → ClassId) (ρ σ : Nat → Nat) (w : kw) (a1 : Int32) (hI : kI true w) (hp0 : 0 ≤ a1.toInt) :
    kM l D τ ρ σ yX8_valueOf cX8_valueOf 2 (some .int) { frames := 2, cells := 0, slots := 0, locals := 72 } [.ref (ρ 21), .int a1] w
      (fun o w' => ∃ r : Int32, o = some (.int r) ∧ kI true w' ∧ kF [(2, some 9), (5, some 6)] w w') := by
  refine kM_of (own := "TaleMachine$Variables") rfl (by decide) (Nat.le_of_ble_eq_true rfl) ?_
  intro p e s m args below meth c C hr hlk
  have hF0 : kF [(2, some 9), (5, some 6)] w w := kF.rf
  have c_0 : (0 : Int32).toInt = 0 := by decide
  have c_5 : (5 : Int32).toInt = 5 := by decide
  have c_16 : (16 : Int32).toInt = 16 := by decide
  refine kV.L (L' := [(0, .ref (ρ 21)), (1, .int a1)]) rfl ?_
  have g1 := kf_rng a1
  refine kv_iload_n C 1 rfl 1 (kdec dk_cX8_valueOf 0 rfl) rfl rfl ?_
  refine kv_if_ne C 4 rfl 9 (kdec dk_cX8_valueOf 1 rfl) (by decide) (fun d2 => ?_) (fun d2 => ?_)
  · skip
    refine kv_iload_n C 10 rfl 1 (kdec dk_cX8_valueOf 5 rfl) rfl rfl ?_
    refine kv_bipush C 12 rfl 16 (kdec dk_cX8_valueOf 6 rfl) rfl ?_
    refine kv_icmp_lt C 15 rfl 28 (kdec dk_cX8_valueOf 7 rfl) (by decide) (fun d3 => ?_) (fun d3 => ?_)
    · skip
      refine kv_iload_n C 29 rfl 1 (kdec dk_cX8_valueOf 15 rfl) rfl rfl ?_
      refine kv_aload_n C 30 rfl 0 (kdec dk_cX8_valueOf 16 rfl) rfl rfl ?_
      refine kv_getr C 33 rfl 21 1 rfl rfl inX8 (by decide) mfl_TaleMachine_Variables_15 rfl rfl (kdec dk_cX8_valueOf 17 rfl) ?_
      refine kv_callVNi (As := []) (rest := [.int a1]) C 36 rfl 5 (k_localCount l D τ ρ σ w  hI ) rfl rfl mmn_TaleMachine_Variables_32 mim_yX3_localCount mse_yX3_localCount mcd_yX3_localCount min_yX3_localCount hd_yX3_localCount rfl rfl rfl (by decide) rfl (Nat.le_of_ble_eq_true rfl) (kdec dk_cX8_valueOf 18 rfl) (fun x8 w4 h5 => ?_)
      obtain ⟨I6, f7, p9⟩ := h5
      have F10 : kF [(2, some 9), (5, some 6)] w w4 := kF_call hF0 f7 (by decide)
      have g11 := kf_rng x8
      refine kv_icmp_le C 39 rfl 47 (kdec dk_cX8_valueOf 19 rfl) (by decide) (fun d12 => ?_) (fun d12 => ?_)
      · skip
        refine kv_aload_n C 48 rfl 0 (kdec dk_cX8_valueOf 24 rfl) rfl rfl ?_
        refine kv_getr C 51 rfl 21 0 rfl rfl inX8 (by decide) mfl_TaleMachine_Variables_9 rfl rfl (kdec dk_cX8_valueOf 25 rfl) ?_
        obtain ⟨x13, e14⟩ : ∃ z : Int32, w 2 9 = z := ⟨_, rfl⟩
        have b15 : (0 : Int) ≤ x13.toInt ∧ x13.toInt ≤ 13 := by rw [← e14]; exact hI 2 9
        have e16 : w4 2 9 = x13 := ((f7 2 9 rfl : w4 2 9 = w 2 9).trans e14)
        refine kv_getN C 54 rfl 2 9 rfl rfl inX6 (by decide) mfn_TaleMachine_Variables_41 rfl rfl (kdec dk_cX8_valueOf 26 rfl) e16 ?_
        refine kv_if_ne C 57 rfl 68 (kdec dk_cX8_valueOf 27 rfl) (by decide) (fun d17 => ?_) (fun d17 => ?_)
        · skip
          refine kv_iconst C 69 rfl 0 (kdec dk_cX8_valueOf 33 rfl) rfl ?_
          exact kv_iret C hr hlk (kdec dk_cX8_valueOf 34 rfl) ⟨_, rfl, I6, F10⟩
        · skip
          refine kv_aload_n C 58 rfl 0 (kdec dk_cX8_valueOf 28 rfl) rfl rfl ?_
          refine kv_getr C 61 rfl 21 1 rfl rfl inX8 (by decide) mfl_TaleMachine_Variables_15 rfl rfl (kdec dk_cX8_valueOf 29 rfl) ?_
          refine kv_iload_n C 62 rfl 1 (kdec dk_cX8_valueOf 30 rfl) rfl rfl ?_
          refine kv_callVNi (As := [.int a1]) (rest := []) C 65 rfl 5 (k_localAt l D τ ρ σ w4 a1 I6 (by omega)) rfl rfl mmn_TaleMachine_Variables_45 mim_yX3_localAt mse_yX3_localAt mcd_yX3_localAt min_yX3_localAt hd_yX3_localAt rfl rfl rfl (by decide) rfl (Nat.le_of_ble_eq_true rfl) (kdec dk_cX8_valueOf 31 rfl) (fun x22 w18 h19 => ?_)
          obtain ⟨I20, f21⟩ := h19
          have F23 : kF [(2, some 9), (5, some 6)] w w18 := kF_call F10 f21 (by decide)
          have g24 := kf_rng x22
          refine kv_goto C 69 (kdec dk_cX8_valueOf 32 rfl) (by decide) ?_
          exact kv_iret C hr hlk (kdec dk_cX8_valueOf 34 rfl) ⟨_, rfl, I20, F23⟩
      · skip
        refine kv_aload_n C 40 rfl 0 (kdec dk_cX8_valueOf 20 rfl) rfl rfl ?_
        refine kv_getr C 43 rfl 21 0 rfl rfl inX8 (by decide) mfl_TaleMachine_Variables_9 rfl rfl (kdec dk_cX8_valueOf 21 rfl) ?_
        refine kv_iconst C 44 rfl 5 (kdec dk_cX8_valueOf 22 rfl) rfl ?_
        refine kv_callVNv (As := [.int 5]) (rest := []) C 47 rfl 2 (k_raise l D τ ρ σ w4 5 I6 (by omega)) rfl rfl mmn_TaleMachine_Variables_37 mim_yX6_raise mse_yX6_raise mcd_yX6_raise min_yX6_raise hd_yX6_raise rfl rfl rfl (by decide) rfl (Nat.le_of_ble_eq_true rfl) (kdec dk_cX8_valueOf 23 rfl) (fun w25 h26 => ?_)
        obtain ⟨I27, f28, p30⟩ := h26
        have F31 : kF [(2, some 9), (5, some 6)] w w25 := kF_call F10 f28 (by decide)
        obtain ⟨x32, e33⟩ : ∃ z : Int32, w 2 9 = z := ⟨_, rfl⟩
        have b34 : (0 : Int) ≤ x32.toInt ∧ x32.toInt ≤ 13 := by rw [← e33]; exact hI 2 9
        have e35 : w4 2 9 = x32 := ((f7 2 9 rfl : w4 2 9 = w 2 9).trans e33)
        obtain ⟨x36, e37⟩ : ∃ z : Int32, w25 2 9 = z := ⟨_, rfl⟩
        have b38 : (0 : Int) ≤ x36.toInt ∧ x36.toInt ≤ 13 := by rw [← e37]; exact I27 2 9
        rw [e35, e37] at p30
        refine kv_aload_n C 48 rfl 0 (kdec dk_cX8_valueOf 24 rfl) rfl rfl ?_
        refine kv_getr C 51 rfl 21 0 rfl rfl inX8 (by decide) mfl_TaleMachine_Variables_9 rfl rfl (kdec dk_cX8_valueOf 25 rfl) ?_
        refine kv_getN C 54 rfl 2 9 rfl rfl inX6 (by decide) mfn_TaleMachine_Variables_41 rfl rfl (kdec dk_cX8_valueOf 26 rfl) e37 ?_
        refine kv_if_ne C 57 rfl 68 (kdec dk_cX8_valueOf 27 rfl) (by decide) (fun d39 => ?_) (fun d39 => ?_)
        · skip
          refine kv_iconst C 69 rfl 0 (kdec dk_cX8_valueOf 33 rfl) rfl ?_
          exact kv_iret C hr hlk (kdec dk_cX8_valueOf 34 rfl) ⟨_, rfl, I27, F31⟩
        · skip
          refine kv_aload_n C 58 rfl 0 (kdec dk_cX8_valueOf 28 rfl) rfl rfl ?_
          refine kv_getr C 61 rfl 21 1 rfl rfl inX8 (by decide) mfl_TaleMachine_Variables_15 rfl rfl (kdec dk_cX8_valueOf 29 rfl) ?_
          refine kv_iload_n C 62 rfl 1 (kdec dk_cX8_valueOf 30 rfl) rfl rfl ?_
          refine kv_callVNi (As := [.int a1]) (rest := []) C 65 rfl 5 (k_localAt l D τ ρ σ w25 a1 I27 (by omega)) rfl rfl mmn_TaleMachine_Variables_45 mim_yX3_localAt mse_yX3_localAt mcd_yX3_localAt min_yX3_localAt hd_yX3_localAt rfl rfl rfl (by decide) rfl (Nat.le_of_ble_eq_true rfl) (kdec dk_cX8_valueOf 31 rfl) (fun x44 w40 h41 => ?_)
          obtain ⟨I42, f43⟩ := h41
          have F45 : kF [(2, some 9), (5, some 6)] w w40 := kF_call F31 f43 (by decide)
          have g46 := kf_rng x44
          refine kv_goto C 69 (kdec dk_cX8_valueOf 32 rfl) (by decide) ?_
          exact kv_iret C hr hlk (kdec dk_cX8_valueOf 34 rfl) ⟨_, rfl, I42, F45⟩
    · skip
      refine kv_aload_n C 16 rfl 0 (kdec dk_cX8_valueOf 8 rfl) rfl rfl ?_
      refine kv_getr C 19 rfl 21 0 rfl rfl inX8 (by decide) mfl_TaleMachine_Variables_9 rfl rfl (kdec dk_cX8_valueOf 9 rfl) ?_
      refine kv_aload_n C 20 rfl 0 (kdec dk_cX8_valueOf 10 rfl) rfl rfl ?_
      refine kv_iload_n C 21 rfl 1 (kdec dk_cX8_valueOf 11 rfl) rfl rfl ?_
      refine kv_callVi (As := [.int a1]) (rest := [.ref (ρ 2)]) C 24 rfl 21 (k_globalAt l D τ ρ σ w a1 hI ) rfl rfl mml_TaleMachine_Variables_23 mim_yX8_globalAt mse_yX8_globalAt mcd_yX8_globalAt min_yX8_globalAt hd_yX8_globalAt rfl rfl rfl (by decide) rfl (Nat.le_of_ble_eq_true rfl) (kdec dk_cX8_valueOf 12 rfl) (fun x51 w47 h48 => ?_)
      obtain ⟨I49, f50⟩ := h48
      have F52 : kF [(2, some 9), (5, some 6)] w w47 := kF_call hF0 f50 (by decide)
      have g53 := kf_rng x51
      refine kv_callVNi (As := [.int x51]) (rest := []) C 27 rfl 2 (k_wordAt l D τ ρ σ w47 x51 I49 ) rfl rfl mmn_TaleMachine_Variables_27 mim_yX6_wordAt mse_yX6_wordAt mcd_yX6_wordAt min_yX6_wordAt hd_yX6_wordAt rfl rfl rfl (by decide) rfl (Nat.le_of_ble_eq_true rfl) (kdec dk_cX8_valueOf 13 rfl) (fun x58 w54 h55 => ?_)
      obtain ⟨I56, f57, p59, p60⟩ := h55
      have F61 : kF [(2, some 9), (5, some 6)] w w54 := kF_call F52 f57 (by decide)
      have g62 := kf_rng x58
      obtain ⟨x63, e64⟩ : ∃ z : Int32, w 2 9 = z := ⟨_, rfl⟩
      have b65 : (0 : Int) ≤ x63.toInt ∧ x63.toInt ≤ 13 := by rw [← e64]; exact hI 2 9
      have e66 : w47 2 9 = x63 := ((f50 2 9 rfl : w47 2 9 = w 2 9).trans e64)
      obtain ⟨x67, e68⟩ : ∃ z : Int32, w54 2 9 = z := ⟨_, rfl⟩
      have b69 : (0 : Int) ≤ x67.toInt ∧ x67.toInt ≤ 13 := by rw [← e68]; exact I56 2 9
      rw [e66, e68] at p60
      exact kv_iret C hr hlk (kdec dk_cX8_valueOf 14 rfl) ⟨_, rfl, I56, F61⟩
  · skip
    refine kv_aload_n C 5 rfl 0 (kdec dk_cX8_valueOf 2 rfl) rfl rfl ?_
    refine kv_callVi (As := []) (rest := []) C 8 rfl 21 (k_pop l D τ ρ σ w  hI ) rfl rfl mml_TaleMachine_Variables_19 mim_yX8_pop mse_yX8_pop mcd_yX8_pop min_yX8_pop hd_yX8_pop rfl rfl rfl (by decide) rfl (Nat.le_of_ble_eq_true rfl) (kdec dk_cX8_valueOf 3 rfl) (fun x74 w70 h71 => ?_)
    obtain ⟨I72, f73⟩ := h71
    have F75 : kF [(2, some 9), (5, some 6)] w w70 := kF_call hF0 f73 (by decide)
    have g76 := kf_rng x74
    exact kv_iret C hr hlk (kdec dk_cX8_valueOf 4 rfl) ⟨_, rfl, I72, F75⟩

set_option maxHeartbeats 4000000 in
set_option maxRecDepth 100000 in
theorem k_assign (l : Launch) (D : va_G) (τ : Nat → ClassId) (ρ σ : Nat → Nat) (w : kw) (a1 : Int32) (a2 : Int32) (hI : kI true w) (hp0 : 0 ≤ a1.toInt) :
    kM l D τ ρ σ yX8_assign cX8_assign 3 none { frames := 2, cells := 0, slots := 0, locals := 72 } [.ref (ρ 21), .int a1, .int a2] w
      (fun o w' => o = none ∧ kI true w' ∧ kF [(2, some 9), (3, none), (5, some 6), (6, none), (7, none)] w w') := by
  refine kM_of (own := "TaleMachine$Variables") rfl (by decide) (Nat.le_of_ble_eq_true rfl) ?_
  intro p e s m args below meth c C hr hlk
  have hF0 : kF [(2, some 9), (3, none), (5, some 6), (6, none), (7, none)] w w := kF.rf
  have c_5 : (5 : Int32).toInt = 5 := by decide
  have c_16 : (16 : Int32).toInt = 16 := by decide
  have c_65535 : (65535 : Int32).toInt = 65535 := by decide
  refine kV.L (L' := [(0, .ref (ρ 21)), (1, .int a1), (2, .int a2)]) rfl ?_
  have g1 := kf_rng a1
  have g2 := kf_rng a2
  refine kv_iload_n C 1 rfl 1 (kdec dk_cX8_assign 0 rfl) rfl rfl ?_
  refine kv_if_ne C 4 rfl 10 (kdec dk_cX8_assign 1 rfl) (by decide) (fun d3 => ?_) (fun d3 => ?_)
  · skip
    refine kv_iload_n C 11 rfl 1 (kdec dk_cX8_assign 6 rfl) rfl rfl ?_
    refine kv_bipush C 13 rfl 16 (kdec dk_cX8_assign 7 rfl) rfl ?_
    refine kv_icmp_lt C 16 rfl 30 (kdec dk_cX8_assign 8 rfl) (by decide) (fun d4 => ?_) (fun d4 => ?_)
    · skip
      refine kv_iload_n C 31 rfl 1 (kdec dk_cX8_assign 17 rfl) rfl rfl ?_
      refine kv_aload_n C 32 rfl 0 (kdec dk_cX8_assign 18 rfl) rfl rfl ?_
      refine kv_getr C 35 rfl 21 1 rfl rfl inX8 (by decide) mfl_TaleMachine_Variables_15 rfl rfl (kdec dk_cX8_assign 19 rfl) ?_
      refine kv_callVNi (As := []) (rest := [.int a1]) C 38 rfl 5 (k_localCount l D τ ρ σ w  hI ) rfl rfl mmn_TaleMachine_Variables_32 mim_yX3_localCount mse_yX3_localCount mcd_yX3_localCount min_yX3_localCount hd_yX3_localCount rfl rfl rfl (by decide) rfl (Nat.le_of_ble_eq_true rfl) (kdec dk_cX8_assign 20 rfl) (fun x9 w5 h6 => ?_)
      obtain ⟨I7, f8, p10⟩ := h6
      have F11 : kF [(2, some 9), (3, none), (5, some 6), (6, none), (7, none)] w w5 := kF_call hF0 f8 (by decide)
      have g12 := kf_rng x9
      refine kv_icmp_le C 41 rfl 49 (kdec dk_cX8_assign 21 rfl) (by decide) (fun d13 => ?_) (fun d13 => ?_)
      · skip
        refine kv_aload_n C 50 rfl 0 (kdec dk_cX8_assign 26 rfl) rfl rfl ?_
        refine kv_getr C 53 rfl 21 0 rfl rfl inX8 (by decide) mfl_TaleMachine_Variables_9 rfl rfl (kdec dk_cX8_assign 27 rfl) ?_
        obtain ⟨x14, e15⟩ : ∃ z : Int32, w 2 9 = z := ⟨_, rfl⟩
        have b16 : (0 : Int) ≤ x14.toInt ∧ x14.toInt ≤ 13 := by rw [← e15]; exact hI 2 9
        have e17 : w5 2 9 = x14 := ((f8 2 9 rfl : w5 2 9 = w 2 9).trans e15)
        refine kv_getN C 56 rfl 2 9 rfl rfl inX6 (by decide) mfn_TaleMachine_Variables_41 rfl rfl (kdec dk_cX8_assign 28 rfl) e17 ?_
        refine kv_if_ne C 59 rfl 71 (kdec dk_cX8_assign 29 rfl) (by decide) (fun d18 => ?_) (fun d18 => ?_)
        · skip
          exact kv_vret C hr hlk (kdec dk_cX8_assign 37 rfl) ⟨rfl, I7, F11⟩
        · skip
          refine kv_aload_n C 60 rfl 0 (kdec dk_cX8_assign 30 rfl) rfl rfl ?_
          refine kv_getr C 63 rfl 21 1 rfl rfl inX8 (by decide) mfl_TaleMachine_Variables_15 rfl rfl (kdec dk_cX8_assign 31 rfl) ?_
          refine kv_iload_n C 64 rfl 1 (kdec dk_cX8_assign 32 rfl) rfl rfl ?_
          refine kv_iload_n C 65 rfl 2 (kdec dk_cX8_assign 33 rfl) rfl rfl ?_
          refine kv_ldc C 67 rfl 65535 (kdec dk_cX8_assign 34 rfl) mco_TaleMachine_Variables_55 ?_
          refine kv_iand C 68 rfl (kdec dk_cX8_assign 35 rfl) (fun x19 h20e h20l h20u => ?_)
          have g21 := kf_and65535 h20e
          refine kv_callVNv (As := [.int a1, .int x19]) (rest := []) C 71 rfl 5 (k_setLocal l D τ ρ σ w5 a1 x19 I7 (by omega)) rfl rfl mmn_TaleMachine_Variables_56 mim_yX3_setLocal mse_yX3_setLocal mcd_yX3_setLocal min_yX3_setLocal hd_yX3_setLocal rfl rfl rfl (by decide) rfl (Nat.le_of_ble_eq_true rfl) (kdec dk_cX8_assign 36 rfl) (fun w22 h23 => ?_)
          obtain ⟨I24, f25⟩ := h23
          have F27 : kF [(2, some 9), (3, none), (5, some 6), (6, none), (7, none)] w w22 := kF_call F11 f25 (by decide)
          exact kv_vret C hr hlk (kdec dk_cX8_assign 37 rfl) ⟨rfl, I24, F27⟩
      · skip
        refine kv_aload_n C 42 rfl 0 (kdec dk_cX8_assign 22 rfl) rfl rfl ?_
        refine kv_getr C 45 rfl 21 0 rfl rfl inX8 (by decide) mfl_TaleMachine_Variables_9 rfl rfl (kdec dk_cX8_assign 23 rfl) ?_
        refine kv_iconst C 46 rfl 5 (kdec dk_cX8_assign 24 rfl) rfl ?_
        refine kv_callVNv (As := [.int 5]) (rest := []) C 49 rfl 2 (k_raise l D τ ρ σ w5 5 I7 (by omega)) rfl rfl mmn_TaleMachine_Variables_37 mim_yX6_raise mse_yX6_raise mcd_yX6_raise min_yX6_raise hd_yX6_raise rfl rfl rfl (by decide) rfl (Nat.le_of_ble_eq_true rfl) (kdec dk_cX8_assign 25 rfl) (fun w28 h29 => ?_)
        obtain ⟨I30, f31, p33⟩ := h29
        have F34 : kF [(2, some 9), (3, none), (5, some 6), (6, none), (7, none)] w w28 := kF_call F11 f31 (by decide)
        obtain ⟨x35, e36⟩ : ∃ z : Int32, w 2 9 = z := ⟨_, rfl⟩
        have b37 : (0 : Int) ≤ x35.toInt ∧ x35.toInt ≤ 13 := by rw [← e36]; exact hI 2 9
        have e38 : w5 2 9 = x35 := ((f8 2 9 rfl : w5 2 9 = w 2 9).trans e36)
        obtain ⟨x39, e40⟩ : ∃ z : Int32, w28 2 9 = z := ⟨_, rfl⟩
        have b41 : (0 : Int) ≤ x39.toInt ∧ x39.toInt ≤ 13 := by rw [← e40]; exact I30 2 9
        rw [e38, e40] at p33
        refine kv_aload_n C 50 rfl 0 (kdec dk_cX8_assign 26 rfl) rfl rfl ?_
        refine kv_getr C 53 rfl 21 0 rfl rfl inX8 (by decide) mfl_TaleMachine_Variables_9 rfl rfl (kdec dk_cX8_assign 27 rfl) ?_
        refine kv_getN C 56 rfl 2 9 rfl rfl inX6 (by decide) mfn_TaleMachine_Variables_41 rfl rfl (kdec dk_cX8_assign 28 rfl) e40 ?_
        refine kv_if_ne C 59 rfl 71 (kdec dk_cX8_assign 29 rfl) (by decide) (fun d42 => ?_) (fun d42 => ?_)
        · skip
          exact kv_vret C hr hlk (kdec dk_cX8_assign 37 rfl) ⟨rfl, I30, F34⟩
        · skip
          refine kv_aload_n C 60 rfl 0 (kdec dk_cX8_assign 30 rfl) rfl rfl ?_
          refine kv_getr C 63 rfl 21 1 rfl rfl inX8 (by decide) mfl_TaleMachine_Variables_15 rfl rfl (kdec dk_cX8_assign 31 rfl) ?_
          refine kv_iload_n C 64 rfl 1 (kdec dk_cX8_assign 32 rfl) rfl rfl ?_
          refine kv_iload_n C 65 rfl 2 (kdec dk_cX8_assign 33 rfl) rfl rfl ?_
          refine kv_ldc C 67 rfl 65535 (kdec dk_cX8_assign 34 rfl) mco_TaleMachine_Variables_55 ?_
          refine kv_iand C 68 rfl (kdec dk_cX8_assign 35 rfl) (fun x43 h44e h44l h44u => ?_)
          have g45 := kf_and65535 h44e
          refine kv_callVNv (As := [.int a1, .int x43]) (rest := []) C 71 rfl 5 (k_setLocal l D τ ρ σ w28 a1 x43 I30 (by omega)) rfl rfl mmn_TaleMachine_Variables_56 mim_yX3_setLocal mse_yX3_setLocal mcd_yX3_setLocal min_yX3_setLocal hd_yX3_setLocal rfl rfl rfl (by decide) rfl (Nat.le_of_ble_eq_true rfl) (kdec dk_cX8_assign 36 rfl) (fun w46 h47 => ?_)
          obtain ⟨I48, f49⟩ := h47
          have F51 : kF [(2, some 9), (3, none), (5, some 6), (6, none), (7, none)] w w46 := kF_call F34 f49 (by decide)
          exact kv_vret C hr hlk (kdec dk_cX8_assign 37 rfl) ⟨rfl, I48, F51⟩
    · skip
      refine kv_aload_n C 17 rfl 0 (kdec dk_cX8_assign 9 rfl) rfl rfl ?_
      refine kv_getr C 20 rfl 21 0 rfl rfl inX8 (by decide) mfl_TaleMachine_Variables_9 rfl rfl (kdec dk_cX8_assign 10 rfl) ?_
      refine kv_aload_n C 21 rfl 0 (kdec dk_cX8_assign 11 rfl) rfl rfl ?_
      refine kv_iload_n C 22 rfl 1 (kdec dk_cX8_assign 12 rfl) rfl rfl ?_
      refine kv_callVi (As := [.int a1]) (rest := [.ref (ρ 2)]) C 25 rfl 21 (k_globalAt l D τ ρ σ w a1 hI ) rfl rfl mml_TaleMachine_Variables_23 mim_yX8_globalAt mse_yX8_globalAt mcd_yX8_globalAt min_yX8_globalAt hd_yX8_globalAt rfl rfl rfl (by decide) rfl (Nat.le_of_ble_eq_true rfl) (kdec dk_cX8_assign 13 rfl) (fun x56 w52 h53 => ?_)
      obtain ⟨I54, f55⟩ := h53
      have F57 : kF [(2, some 9), (3, none), (5, some 6), (6, none), (7, none)] w w52 := kF_call hF0 f55 (by decide)
      have g58 := kf_rng x56
      refine kv_iload_n C 26 rfl 2 (kdec dk_cX8_assign 14 rfl) rfl rfl ?_
      refine kv_callVNv (As := [.int x56, .int a2]) (rest := []) C 29 rfl 2 (k_putWord l D τ ρ σ w52 x56 a2 I54 ) rfl rfl mmn_TaleMachine_Variables_51 mim_yX6_putWord mse_yX6_putWord mcd_yX6_putWord min_yX6_putWord hd_yX6_putWord rfl rfl rfl (by decide) rfl (Nat.le_of_ble_eq_true rfl) (kdec dk_cX8_assign 15 rfl) (fun w59 h60 => ?_)
      obtain ⟨I61, f62, p64⟩ := h60
      have F65 : kF [(2, some 9), (3, none), (5, some 6), (6, none), (7, none)] w w59 := kF_call F57 f62 (by decide)
      obtain ⟨x66, e67⟩ : ∃ z : Int32, w 2 9 = z := ⟨_, rfl⟩
      have b68 : (0 : Int) ≤ x66.toInt ∧ x66.toInt ≤ 13 := by rw [← e67]; exact hI 2 9
      have e69 : w52 2 9 = x66 := ((f55 2 9 rfl : w52 2 9 = w 2 9).trans e67)
      obtain ⟨x70, e71⟩ : ∃ z : Int32, w59 2 9 = z := ⟨_, rfl⟩
      have b72 : (0 : Int) ≤ x70.toInt ∧ x70.toInt ≤ 13 := by rw [← e71]; exact I61 2 9
      rw [e69, e71] at p64
      exact kv_vret C hr hlk (kdec dk_cX8_assign 16 rfl) ⟨rfl, I61, F65⟩
  · skip
    refine kv_aload_n C 5 rfl 0 (kdec dk_cX8_assign 2 rfl) rfl rfl ?_
    refine kv_iload_n C 6 rfl 2 (kdec dk_cX8_assign 3 rfl) rfl rfl ?_
    refine kv_callVv (As := [.int a2]) (rest := []) C 9 rfl 21 (k_push l D τ ρ σ w a2 hI ) rfl rfl mml_TaleMachine_Variables_48 mim_yX8_push mse_yX8_push mcd_yX8_push min_yX8_push hd_yX8_push rfl rfl rfl (by decide) rfl (Nat.le_of_ble_eq_true rfl) (kdec dk_cX8_assign 4 rfl) (fun w73 h74 => ?_)
    obtain ⟨I75, f76⟩ := h74
    have F78 : kF [(2, some 9), (3, none), (5, some 6), (6, none), (7, none)] w w73 := kF_call hF0 f76 (by decide)
    exact kv_vret C hr hlk (kdec dk_cX8_assign 5 rfl) ⟨rfl, I75, F78⟩

set_option maxHeartbeats 4000000 in
set_option maxRecDepth 100000 in
theorem k_namedValue (l : Launch) (D : va_G) (τ : Nat → ClassId) (ρ σ : Nat → Nat) (w : kw) (a1 : Int32) (hI : kI true w)  :
    kM l D τ ρ σ yX8_namedValue cX8_namedValue 3 (some .int) { frames := 3, cells := 0, slots := 0, locals := 108 } [.ref (ρ 21), .int a1] w
      (fun o w' => ∃ r : Int32, o = some (.int r) ∧ kI true w' ∧ kF [(2, some 9), (5, some 6)] w w') := by
  refine kM_of (own := "TaleMachine$Variables") rfl (by decide) (Nat.le_of_ble_eq_true rfl) ?_
  intro p e s m args below meth c C hr hlk
  have hF0 : kF [(2, some 9), (5, some 6)] w w := kF.rf
  have c_0 : (0 : Int32).toInt = 0 := by decide
  have c_1 : (1 : Int32).toInt = 1 := by decide
  have c_4 : (4 : Int32).toInt = 4 := by decide
  have c_255 : (255 : Int32).toInt = 255 := by decide
  refine kV.L (L' := [(0, .ref (ρ 21)), (1, .int a1)]) rfl ?_
  have g1 := kf_rng a1
  refine kv_iload_n C 1 rfl 1 (kdec dk_cX8_namedValue 0 rfl) rfl rfl ?_
  refine kv_sipush C 4 rfl 255 (kdec dk_cX8_namedValue 1 rfl) rfl ?_
  refine kv_iand C 5 rfl (kdec dk_cX8_namedValue 2 rfl) (fun x2 h3e h3l h3u => ?_)
  have g4 := kf_and255 h3e
  refine kv_istore_n C 6 rfl 2 [1, 2, 0] [(0, .ref (ρ 21)), (1, .int a1), (2, .int x2)] (kdec dk_cX8_namedValue 3 rfl) rfl (by decide) rfl ?_
  refine kv_iload_n C 7 rfl 2 (kdec dk_cX8_namedValue 4 rfl) rfl rfl ?_
  refine kv_if_eq C 10 rfl 16 (kdec dk_cX8_namedValue 5 rfl) (by decide) (fun d5 => ?_) (fun d5 => ?_)
  · skip
    refine kv_aload_n C 17 rfl 0 (kdec dk_cX8_namedValue 10 rfl) rfl rfl ?_
    refine kv_getr C 20 rfl 21 1 rfl rfl inX8 (by decide) mfl_TaleMachine_Variables_15 rfl rfl (kdec dk_cX8_namedValue 11 rfl) ?_
    refine kv_callVNi (As := []) (rest := []) C 23 rfl 5 (k_hasOwnWord l D τ ρ σ w  hI ) rfl rfl mmn_TaleMachine_Variables_69 mim_yX3_hasOwnWord mse_yX3_hasOwnWord mcd_yX3_hasOwnWord min_yX3_hasOwnWord hd_yX3_hasOwnWord rfl rfl rfl (by decide) rfl (Nat.le_of_ble_eq_true rfl) (kdec dk_cX8_namedValue 12 rfl) (fun x10 w6 h7 => ?_)
    obtain ⟨I8, f9, p11, p12⟩ := h7
    have F13 : kF [(2, some 9), (5, some 6)] w w6 := kF_call hF0 f9 (by decide)
    have g14 := kf_rng x10
    obtain ⟨x15, e16⟩ : ∃ z : Int32, w 5 6 = z := ⟨_, rfl⟩
    have b17 : (0 : Int) ≤ x15.toInt ∧ x15.toInt ≤ 120 := by rw [← e16]; exact hI 5 6
    rw [e16] at p11
    refine kv_if_ne C 26 rfl 34 (kdec dk_cX8_namedValue 13 rfl) (by decide) (fun d18 => ?_) (fun d18 => ?_)
    · skip
      refine kv_aload_n C 35 rfl 0 (kdec dk_cX8_namedValue 18 rfl) rfl rfl ?_
      refine kv_getr C 38 rfl 21 0 rfl rfl inX8 (by decide) mfl_TaleMachine_Variables_9 rfl rfl (kdec dk_cX8_namedValue 19 rfl) ?_
      obtain ⟨x19, e20⟩ : ∃ z : Int32, w 2 9 = z := ⟨_, rfl⟩
      have b21 : (0 : Int) ≤ x19.toInt ∧ x19.toInt ≤ 13 := by rw [← e20]; exact hI 2 9
      have e22 : w6 2 9 = x19 := ((f9 2 9 rfl : w6 2 9 = w 2 9).trans e20)
      refine kv_getN C 41 rfl 2 9 rfl rfl inX6 (by decide) mfn_TaleMachine_Variables_41 rfl rfl (kdec dk_cX8_namedValue 20 rfl) e22 ?_
      refine kv_if_ne C 44 rfl 64 (kdec dk_cX8_namedValue 21 rfl) (by decide) (fun d23 => ?_) (fun d23 => ?_)
      · skip
        refine kv_iconst C 65 rfl 0 (kdec dk_cX8_namedValue 32 rfl) rfl ?_
        exact kv_iret C hr hlk (kdec dk_cX8_namedValue 33 rfl) ⟨_, rfl, I8, F13⟩
      · skip
        refine kv_aload_n C 45 rfl 0 (kdec dk_cX8_namedValue 22 rfl) rfl rfl ?_
        refine kv_getr C 48 rfl 21 1 rfl rfl inX8 (by decide) mfl_TaleMachine_Variables_15 rfl rfl (kdec dk_cX8_namedValue 23 rfl) ?_
        refine kv_getrN C 51 rfl 5 0 rfl rfl inX3 (by decide) mfn_TaleMachine_Variables_65 rfl rfl (kdec dk_cX8_namedValue 24 rfl) ?_
        refine kv_aload_n C 52 rfl 0 (kdec dk_cX8_namedValue 25 rfl) rfl rfl ?_
        refine kv_getr C 55 rfl 21 1 rfl rfl inX8 (by decide) mfl_TaleMachine_Variables_15 rfl rfl (kdec dk_cX8_namedValue 26 rfl) ?_
        have e24 : w6 5 6 = x15 := ((f9 5 6 rfl : w6 5 6 = w 5 6).trans e16)
        refine kv_getN C 58 rfl 5 6 rfl rfl inX3 (by decide) mfn_TaleMachine_Variables_62 rfl rfl (kdec dk_cX8_namedValue 27 rfl) e24 ?_
        refine kv_iconst C 59 rfl 1 (kdec dk_cX8_namedValue 28 rfl) rfl ?_
        refine kv_isub C 60 rfl (kdec dk_cX8_namedValue 29 rfl) (fun x25 q27 h26e h26 h26l h26u => ?_)
        try have h26n : x25.toInt = x15.toInt - (1 : Int32).toInt := by omega
        clear h26 q27
        obtain ⟨x28, e29⟩ : ∃ z : Int32, w6 6 (x25 : Int32).toNatClampNeg = z := ⟨_, rfl⟩
        have b30 : (-2147483648 : Int) ≤ x28.toInt ∧ x28.toInt ≤ 2147483647 := by rw [← e29]; exact I8 6 _
        refine kv_iald C 61 rfl 6 rfl (by omega) (by omega) e29 (kdec dk_cX8_namedValue 30 rfl) ?_
        refine kv_goto C 65 (kdec dk_cX8_namedValue 31 rfl) (by decide) ?_
        exact kv_iret C hr hlk (kdec dk_cX8_namedValue 33 rfl) ⟨_, rfl, I8, F13⟩
    · skip
      refine kv_aload_n C 27 rfl 0 (kdec dk_cX8_namedValue 14 rfl) rfl rfl ?_
      refine kv_getr C 30 rfl 21 0 rfl rfl inX8 (by decide) mfl_TaleMachine_Variables_9 rfl rfl (kdec dk_cX8_namedValue 15 rfl) ?_
      refine kv_iconst C 31 rfl 4 (kdec dk_cX8_namedValue 16 rfl) rfl ?_
      refine kv_callVNv (As := [.int 4]) (rest := []) C 34 rfl 2 (k_raise l D τ ρ σ w6 4 I8 (by omega)) rfl rfl mmn_TaleMachine_Variables_37 mim_yX6_raise mse_yX6_raise mcd_yX6_raise min_yX6_raise hd_yX6_raise rfl rfl rfl (by decide) rfl (Nat.le_of_ble_eq_true rfl) (kdec dk_cX8_namedValue 17 rfl) (fun w31 h32 => ?_)
      obtain ⟨I33, f34, p36⟩ := h32
      have F37 : kF [(2, some 9), (5, some 6)] w w31 := kF_call F13 f34 (by decide)
      obtain ⟨x38, e39⟩ : ∃ z : Int32, w 2 9 = z := ⟨_, rfl⟩
      have b40 : (0 : Int) ≤ x38.toInt ∧ x38.toInt ≤ 13 := by rw [← e39]; exact hI 2 9
      have e41 : w6 2 9 = x38 := ((f9 2 9 rfl : w6 2 9 = w 2 9).trans e39)
      obtain ⟨x42, e43⟩ : ∃ z : Int32, w31 2 9 = z := ⟨_, rfl⟩
      have b44 : (0 : Int) ≤ x42.toInt ∧ x42.toInt ≤ 13 := by rw [← e43]; exact I33 2 9
      rw [e41, e43] at p36
      refine kv_aload_n C 35 rfl 0 (kdec dk_cX8_namedValue 18 rfl) rfl rfl ?_
      refine kv_getr C 38 rfl 21 0 rfl rfl inX8 (by decide) mfl_TaleMachine_Variables_9 rfl rfl (kdec dk_cX8_namedValue 19 rfl) ?_
      refine kv_getN C 41 rfl 2 9 rfl rfl inX6 (by decide) mfn_TaleMachine_Variables_41 rfl rfl (kdec dk_cX8_namedValue 20 rfl) e43 ?_
      refine kv_if_ne C 44 rfl 64 (kdec dk_cX8_namedValue 21 rfl) (by decide) (fun d45 => ?_) (fun d45 => ?_)
      · skip
        refine kv_iconst C 65 rfl 0 (kdec dk_cX8_namedValue 32 rfl) rfl ?_
        exact kv_iret C hr hlk (kdec dk_cX8_namedValue 33 rfl) ⟨_, rfl, I33, F37⟩
      · skip
        refine kv_aload_n C 45 rfl 0 (kdec dk_cX8_namedValue 22 rfl) rfl rfl ?_
        refine kv_getr C 48 rfl 21 1 rfl rfl inX8 (by decide) mfl_TaleMachine_Variables_15 rfl rfl (kdec dk_cX8_namedValue 23 rfl) ?_
        refine kv_getrN C 51 rfl 5 0 rfl rfl inX3 (by decide) mfn_TaleMachine_Variables_65 rfl rfl (kdec dk_cX8_namedValue 24 rfl) ?_
        refine kv_aload_n C 52 rfl 0 (kdec dk_cX8_namedValue 25 rfl) rfl rfl ?_
        refine kv_getr C 55 rfl 21 1 rfl rfl inX8 (by decide) mfl_TaleMachine_Variables_15 rfl rfl (kdec dk_cX8_namedValue 26 rfl) ?_
        have e46 : w31 5 6 = x15 := ((f34 5 6 rfl : w31 5 6 = w6 5 6).trans ((f9 5 6 rfl : w6 5 6 = w 5 6).trans e16))
        refine kv_getN C 58 rfl 5 6 rfl rfl inX3 (by decide) mfn_TaleMachine_Variables_62 rfl rfl (kdec dk_cX8_namedValue 27 rfl) e46 ?_
        refine kv_iconst C 59 rfl 1 (kdec dk_cX8_namedValue 28 rfl) rfl ?_
        refine kv_isub C 60 rfl (kdec dk_cX8_namedValue 29 rfl) (fun x47 q49 h48e h48 h48l h48u => ?_)
        try have h48n : x47.toInt = x15.toInt - (1 : Int32).toInt := by omega
        clear h48 q49
        obtain ⟨x50, e51⟩ : ∃ z : Int32, w31 6 (x47 : Int32).toNatClampNeg = z := ⟨_, rfl⟩
        have b52 : (-2147483648 : Int) ≤ x50.toInt ∧ x50.toInt ≤ 2147483647 := by rw [← e51]; exact I33 6 _
        refine kv_iald C 61 rfl 6 rfl (by omega) (by omega) e51 (kdec dk_cX8_namedValue 30 rfl) ?_
        refine kv_goto C 65 (kdec dk_cX8_namedValue 31 rfl) (by decide) ?_
        exact kv_iret C hr hlk (kdec dk_cX8_namedValue 33 rfl) ⟨_, rfl, I33, F37⟩
  · skip
    refine kv_aload_n C 11 rfl 0 (kdec dk_cX8_namedValue 6 rfl) rfl rfl ?_
    refine kv_iload_n C 12 rfl 2 (kdec dk_cX8_namedValue 7 rfl) rfl rfl ?_
    refine kv_callVi (As := [.int x2]) (rest := []) C 15 rfl 21 (k_valueOf l D τ ρ σ w x2 hI (by omega)) rfl rfl mml_TaleMachine_Variables_73 mim_yX8_valueOf mse_yX8_valueOf mcd_yX8_valueOf min_yX8_valueOf hd_yX8_valueOf rfl rfl rfl (by decide) rfl (Nat.le_of_ble_eq_true rfl) (kdec dk_cX8_namedValue 8 rfl) (fun x57 w53 h54 => ?_)
    obtain ⟨I55, f56⟩ := h54
    have F58 : kF [(2, some 9), (5, some 6)] w w53 := kF_call hF0 f56 (by decide)
    have g59 := kf_rng x57
    exact kv_iret C hr hlk (kdec dk_cX8_namedValue 9 rfl) ⟨_, rfl, I55, F58⟩

set_option maxHeartbeats 4000000 in
set_option maxRecDepth 100000 in
theorem k_assignNamed (l : Launch) (D : va_G) (τ : Nat → ClassId) (ρ σ : Nat → Nat) (w : kw) (a1 : Int32) (a2 : Int32) (hI : kI true w)  :
    kM l D τ ρ σ yX8_assignNamed cX8_assignNamed 4 none { frames := 3, cells := 0, slots := 0, locals := 108 } [.ref (ρ 21), .int a1, .int a2] w
      (fun o w' => o = none ∧ kI true w' ∧ kF [(2, some 9), (3, none), (5, some 6), (6, none), (7, none)] w w') := by
  refine kM_of (own := "TaleMachine$Variables") rfl (by decide) (Nat.le_of_ble_eq_true rfl) ?_
  intro p e s m args below meth c C hr hlk
  have hF0 : kF [(2, some 9), (3, none), (5, some 6), (6, none), (7, none)] w w := kF.rf
  have c_1 : (1 : Int32).toInt = 1 := by decide
  have c_4 : (4 : Int32).toInt = 4 := by decide
  have c_255 : (255 : Int32).toInt = 255 := by decide
  have c_65535 : (65535 : Int32).toInt = 65535 := by decide
  refine kV.L (L' := [(0, .ref (ρ 21)), (1, .int a1), (2, .int a2)]) rfl ?_
  have g1 := kf_rng a1
  have g2 := kf_rng a2
  refine kv_iload_n C 1 rfl 1 (kdec dk_cX8_assignNamed 0 rfl) rfl rfl ?_
  refine kv_sipush C 4 rfl 255 (kdec dk_cX8_assignNamed 1 rfl) rfl ?_
  refine kv_iand C 5 rfl (kdec dk_cX8_assignNamed 2 rfl) (fun x3 h4e h4l h4u => ?_)
  have g5 := kf_and255 h4e
  refine kv_istore_n C 6 rfl 3 [1, 2, 3, 0] [(0, .ref (ρ 21)), (1, .int a1), (2, .int a2), (3, .int x3)] (kdec dk_cX8_assignNamed 3 rfl) rfl (by decide) rfl ?_
  refine kv_iload_n C 7 rfl 3 (kdec dk_cX8_assignNamed 4 rfl) rfl rfl ?_
  refine kv_if_eq C 10 rfl 17 (kdec dk_cX8_assignNamed 5 rfl) (by decide) (fun d6 => ?_) (fun d6 => ?_)
  · skip
    refine kv_aload_n C 18 rfl 0 (kdec dk_cX8_assignNamed 11 rfl) rfl rfl ?_
    refine kv_getr C 21 rfl 21 1 rfl rfl inX8 (by decide) mfl_TaleMachine_Variables_15 rfl rfl (kdec dk_cX8_assignNamed 12 rfl) ?_
    refine kv_callVNi (As := []) (rest := []) C 24 rfl 5 (k_hasOwnWord l D τ ρ σ w  hI ) rfl rfl mmn_TaleMachine_Variables_69 mim_yX3_hasOwnWord mse_yX3_hasOwnWord mcd_yX3_hasOwnWord min_yX3_hasOwnWord hd_yX3_hasOwnWord rfl rfl rfl (by decide) rfl (Nat.le_of_ble_eq_true rfl) (kdec dk_cX8_assignNamed 13 rfl) (fun x11 w7 h8 => ?_)
    obtain ⟨I9, f10, p12, p13⟩ := h8
    have F14 : kF [(2, some 9), (3, none), (5, some 6), (6, none), (7, none)] w w7 := kF_call hF0 f10 (by decide)
    have g15 := kf_rng x11
    obtain ⟨x16, e17⟩ : ∃ z : Int32, w 5 6 = z := ⟨_, rfl⟩
    have b18 : (0 : Int) ≤ x16.toInt ∧ x16.toInt ≤ 120 := by rw [← e17]; exact hI 5 6
    rw [e17] at p12
    refine kv_if_ne C 27 rfl 35 (kdec dk_cX8_assignNamed 14 rfl) (by decide) (fun d19 => ?_) (fun d19 => ?_)
    · skip
      refine kv_aload_n C 36 rfl 0 (kdec dk_cX8_assignNamed 19 rfl) rfl rfl ?_
      refine kv_getr C 39 rfl 21 0 rfl rfl inX8 (by decide) mfl_TaleMachine_Variables_9 rfl rfl (kdec dk_cX8_assignNamed 20 rfl) ?_
      obtain ⟨x20, e21⟩ : ∃ z : Int32, w 2 9 = z := ⟨_, rfl⟩
      have b22 : (0 : Int) ≤ x20.toInt ∧ x20.toInt ≤ 13 := by rw [← e21]; exact hI 2 9
      have e23 : w7 2 9 = x20 := ((f10 2 9 rfl : w7 2 9 = w 2 9).trans e21)
      refine kv_getN C 42 rfl 2 9 rfl rfl inX6 (by decide) mfn_TaleMachine_Variables_41 rfl rfl (kdec dk_cX8_assignNamed 21 rfl) e23 ?_
      refine kv_if_ne C 45 rfl 66 (kdec dk_cX8_assignNamed 22 rfl) (by decide) (fun d24 => ?_) (fun d24 => ?_)
      · skip
        exact kv_vret C hr hlk (kdec dk_cX8_assignNamed 35 rfl) ⟨rfl, I9, F14⟩
      · skip
        refine kv_aload_n C 46 rfl 0 (kdec dk_cX8_assignNamed 23 rfl) rfl rfl ?_
        refine kv_getr C 49 rfl 21 1 rfl rfl inX8 (by decide) mfl_TaleMachine_Variables_15 rfl rfl (kdec dk_cX8_assignNamed 24 rfl) ?_
        refine kv_getrN C 52 rfl 5 0 rfl rfl inX3 (by decide) mfn_TaleMachine_Variables_65 rfl rfl (kdec dk_cX8_assignNamed 25 rfl) ?_
        refine kv_aload_n C 53 rfl 0 (kdec dk_cX8_assignNamed 26 rfl) rfl rfl ?_
        refine kv_getr C 56 rfl 21 1 rfl rfl inX8 (by decide) mfl_TaleMachine_Variables_15 rfl rfl (kdec dk_cX8_assignNamed 27 rfl) ?_
        have e25 : w7 5 6 = x16 := ((f10 5 6 rfl : w7 5 6 = w 5 6).trans e17)
        refine kv_getN C 59 rfl 5 6 rfl rfl inX3 (by decide) mfn_TaleMachine_Variables_62 rfl rfl (kdec dk_cX8_assignNamed 28 rfl) e25 ?_
        refine kv_iconst C 60 rfl 1 (kdec dk_cX8_assignNamed 29 rfl) rfl ?_
        refine kv_isub C 61 rfl (kdec dk_cX8_assignNamed 30 rfl) (fun x26 q28 h27e h27 h27l h27u => ?_)
        try have h27n : x26.toInt = x16.toInt - (1 : Int32).toInt := by omega
        clear h27 q28
        refine kv_iload_n C 62 rfl 2 (kdec dk_cX8_assignNamed 31 rfl) rfl rfl ?_
        refine kv_ldc C 64 rfl 65535 (kdec dk_cX8_assignNamed 32 rfl) mco_TaleMachine_Variables_55 ?_
        refine kv_iand C 65 rfl (kdec dk_cX8_assignNamed 33 rfl) (fun x29 h30e h30l h30u => ?_)
        have g31 := kf_and65535 h30e
        refine kv_iast C 66 rfl 6 rfl (by omega) (by omega) (kdec dk_cX8_assignNamed 34 rfl) (fun w32 u33 => ?_)
        have I34 : kI true w32 := kI_put u33 I9 (kf_rng _).1 (kf_rng _).2
        have F35 : kF [(2, some 9), (3, none), (5, some 6), (6, none), (7, none)] w w32 := kF_put u33 F14 rfl
        exact kv_vret C hr hlk (kdec dk_cX8_assignNamed 35 rfl) ⟨rfl, I34, F35⟩
    · skip
      refine kv_aload_n C 28 rfl 0 (kdec dk_cX8_assignNamed 15 rfl) rfl rfl ?_
      refine kv_getr C 31 rfl 21 0 rfl rfl inX8 (by decide) mfl_TaleMachine_Variables_9 rfl rfl (kdec dk_cX8_assignNamed 16 rfl) ?_
      refine kv_iconst C 32 rfl 4 (kdec dk_cX8_assignNamed 17 rfl) rfl ?_
      refine kv_callVNv (As := [.int 4]) (rest := []) C 35 rfl 2 (k_raise l D τ ρ σ w7 4 I9 (by omega)) rfl rfl mmn_TaleMachine_Variables_37 mim_yX6_raise mse_yX6_raise mcd_yX6_raise min_yX6_raise hd_yX6_raise rfl rfl rfl (by decide) rfl (Nat.le_of_ble_eq_true rfl) (kdec dk_cX8_assignNamed 18 rfl) (fun w36 h37 => ?_)
      obtain ⟨I38, f39, p41⟩ := h37
      have F42 : kF [(2, some 9), (3, none), (5, some 6), (6, none), (7, none)] w w36 := kF_call F14 f39 (by decide)
      obtain ⟨x43, e44⟩ : ∃ z : Int32, w 2 9 = z := ⟨_, rfl⟩
      have b45 : (0 : Int) ≤ x43.toInt ∧ x43.toInt ≤ 13 := by rw [← e44]; exact hI 2 9
      have e46 : w7 2 9 = x43 := ((f10 2 9 rfl : w7 2 9 = w 2 9).trans e44)
      obtain ⟨x47, e48⟩ : ∃ z : Int32, w36 2 9 = z := ⟨_, rfl⟩
      have b49 : (0 : Int) ≤ x47.toInt ∧ x47.toInt ≤ 13 := by rw [← e48]; exact I38 2 9
      rw [e46, e48] at p41
      refine kv_aload_n C 36 rfl 0 (kdec dk_cX8_assignNamed 19 rfl) rfl rfl ?_
      refine kv_getr C 39 rfl 21 0 rfl rfl inX8 (by decide) mfl_TaleMachine_Variables_9 rfl rfl (kdec dk_cX8_assignNamed 20 rfl) ?_
      refine kv_getN C 42 rfl 2 9 rfl rfl inX6 (by decide) mfn_TaleMachine_Variables_41 rfl rfl (kdec dk_cX8_assignNamed 21 rfl) e48 ?_
      refine kv_if_ne C 45 rfl 66 (kdec dk_cX8_assignNamed 22 rfl) (by decide) (fun d50 => ?_) (fun d50 => ?_)
      · skip
        exact kv_vret C hr hlk (kdec dk_cX8_assignNamed 35 rfl) ⟨rfl, I38, F42⟩
      · skip
        refine kv_aload_n C 46 rfl 0 (kdec dk_cX8_assignNamed 23 rfl) rfl rfl ?_
        refine kv_getr C 49 rfl 21 1 rfl rfl inX8 (by decide) mfl_TaleMachine_Variables_15 rfl rfl (kdec dk_cX8_assignNamed 24 rfl) ?_
        refine kv_getrN C 52 rfl 5 0 rfl rfl inX3 (by decide) mfn_TaleMachine_Variables_65 rfl rfl (kdec dk_cX8_assignNamed 25 rfl) ?_
        refine kv_aload_n C 53 rfl 0 (kdec dk_cX8_assignNamed 26 rfl) rfl rfl ?_
        refine kv_getr C 56 rfl 21 1 rfl rfl inX8 (by decide) mfl_TaleMachine_Variables_15 rfl rfl (kdec dk_cX8_assignNamed 27 rfl) ?_
        have e51 : w36 5 6 = x16 := ((f39 5 6 rfl : w36 5 6 = w7 5 6).trans ((f10 5 6 rfl : w7 5 6 = w 5 6).trans e17))
        refine kv_getN C 59 rfl 5 6 rfl rfl inX3 (by decide) mfn_TaleMachine_Variables_62 rfl rfl (kdec dk_cX8_assignNamed 28 rfl) e51 ?_
        refine kv_iconst C 60 rfl 1 (kdec dk_cX8_assignNamed 29 rfl) rfl ?_
        refine kv_isub C 61 rfl (kdec dk_cX8_assignNamed 30 rfl) (fun x52 q54 h53e h53 h53l h53u => ?_)
        try have h53n : x52.toInt = x16.toInt - (1 : Int32).toInt := by omega
        clear h53 q54
        refine kv_iload_n C 62 rfl 2 (kdec dk_cX8_assignNamed 31 rfl) rfl rfl ?_
        refine kv_ldc C 64 rfl 65535 (kdec dk_cX8_assignNamed 32 rfl) mco_TaleMachine_Variables_55 ?_
        refine kv_iand C 65 rfl (kdec dk_cX8_assignNamed 33 rfl) (fun x55 h56e h56l h56u => ?_)
        have g57 := kf_and65535 h56e
        refine kv_iast C 66 rfl 6 rfl (by omega) (by omega) (kdec dk_cX8_assignNamed 34 rfl) (fun w58 u59 => ?_)
        have I60 : kI true w58 := kI_put u59 I38 (kf_rng _).1 (kf_rng _).2
        have F61 : kF [(2, some 9), (3, none), (5, some 6), (6, none), (7, none)] w w58 := kF_put u59 F42 rfl
        exact kv_vret C hr hlk (kdec dk_cX8_assignNamed 35 rfl) ⟨rfl, I60, F61⟩
  · skip
    refine kv_aload_n C 11 rfl 0 (kdec dk_cX8_assignNamed 6 rfl) rfl rfl ?_
    refine kv_iload_n C 12 rfl 3 (kdec dk_cX8_assignNamed 7 rfl) rfl rfl ?_
    refine kv_iload_n C 13 rfl 2 (kdec dk_cX8_assignNamed 8 rfl) rfl rfl ?_
    refine kv_callVv (As := [.int x3, .int a2]) (rest := []) C 16 rfl 21 (k_assign l D τ ρ σ w x3 a2 hI (by omega)) rfl rfl mml_TaleMachine_Variables_76 mim_yX8_assign mse_yX8_assign mcd_yX8_assign min_yX8_assign hd_yX8_assign rfl rfl rfl (by decide) rfl (Nat.le_of_ble_eq_true rfl) (kdec dk_cX8_assignNamed 9 rfl) (fun w62 h63 => ?_)
    obtain ⟨I64, f65⟩ := h63
    have F67 : kF [(2, some 9), (3, none), (5, some 6), (6, none), (7, none)] w w62 := kF_call hF0 f65 (by decide)
    exact kv_vret C hr hlk (kdec dk_cX8_assignNamed 10 rfl) ⟨rfl, I64, F67⟩

set_option maxHeartbeats 4000000 in
set_option maxRecDepth 100000 in
theorem k_stepNamed (l : Launch) (D : va_G) (τ : Nat → ClassId) (ρ σ : Nat → Nat) (w : kw) (a1 : Int32) (a2 : Int32) (hI : kI true w)  :
    kM l D τ ρ σ yX8_stepNamed cX8_stepNamed 4 (some .int) { frames := 4, cells := 0, slots := 0, locals := 144 } [.ref (ρ 21), .int a1, .int a2] w
      (fun o w' => ∃ r : Int32, o = some (.int r) ∧ kI true w' ∧ kF [(2, some 9), (3, none), (5, some 6), (6, none), (7, none)] w w') := by
  refine kM_of (own := "TaleMachine$Variables") rfl (by decide) (Nat.le_of_ble_eq_true rfl) ?_
  intro p e s m args below meth c C hr hlk
  have hF0 : kF [(2, some 9), (3, none), (5, some 6), (6, none), (7, none)] w w := kF.rf
  have c_65535 : (65535 : Int32).toInt = 65535 := by decide
  refine kV.L (L' := [(0, .ref (ρ 21)), (1, .int a1), (2, .int a2)]) rfl ?_
  have g1 := kf_rng a1
  have g2 := kf_rng a2
  refine kv_aload_n C 1 rfl 0 (kdec dk_cX8_stepNamed 0 rfl) rfl rfl ?_
  refine kv_iload_n C 2 rfl 1 (kdec dk_cX8_stepNamed 1 rfl) rfl rfl ?_
  refine kv_callVi (As := [.int a1]) (rest := []) C 5 rfl 21 (k_namedValue l D τ ρ σ w a1 hI ) rfl rfl mml_TaleMachine_Variables_79 mim_yX8_namedValue mse_yX8_namedValue mcd_yX8_namedValue min_yX8_namedValue hd_yX8_namedValue rfl rfl rfl (by decide) rfl (Nat.le_of_ble_eq_true rfl) (kdec dk_cX8_stepNamed 2 rfl) (fun x7 w3 h4 => ?_)
  obtain ⟨I5, f6⟩ := h4
  have F8 : kF [(2, some 9), (3, none), (5, some 6), (6, none), (7, none)] w w3 := kF_call hF0 f6 (by decide)
  have g9 := kf_rng x7
  refine kv_iload_n C 6 rfl 2 (kdec dk_cX8_stepNamed 3 rfl) rfl rfl ?_
  refine kv_iadd C 7 rfl (kdec dk_cX8_stepNamed 4 rfl) (fun x10 q12 h11e h11 h11l h11u => ?_)
  try have h11n : x10.toInt = x7.toInt + a2.toInt := by omega
  clear h11 q12
  refine kv_ldc C 9 rfl 65535 (kdec dk_cX8_stepNamed 5 rfl) mco_TaleMachine_Variables_55 ?_
  refine kv_iand C 10 rfl (kdec dk_cX8_stepNamed 6 rfl) (fun x13 h14e h14l h14u => ?_)
  have g15 := kf_and65535 h14e
  refine kv_istore_n C 11 rfl 3 [1, 2, 3, 0] [(0, .ref (ρ 21)), (1, .int a1), (2, .int a2), (3, .int x13)] (kdec dk_cX8_stepNamed 7 rfl) rfl (by decide) rfl ?_
  refine kv_aload_n C 12 rfl 0 (kdec dk_cX8_stepNamed 8 rfl) rfl rfl ?_
  refine kv_iload_n C 13 rfl 1 (kdec dk_cX8_stepNamed 9 rfl) rfl rfl ?_
  refine kv_iload_n C 14 rfl 3 (kdec dk_cX8_stepNamed 10 rfl) rfl rfl ?_
  refine kv_callVv (As := [.int a1, .int x13]) (rest := []) C 17 rfl 21 (k_assignNamed l D τ ρ σ w3 a1 x13 I5 ) rfl rfl mml_TaleMachine_Variables_82 mim_yX8_assignNamed mse_yX8_assignNamed mcd_yX8_assignNamed min_yX8_assignNamed hd_yX8_assignNamed rfl rfl rfl (by decide) rfl (Nat.le_of_ble_eq_true rfl) (kdec dk_cX8_stepNamed 11 rfl) (fun w16 h17 => ?_)
  obtain ⟨I18, f19⟩ := h17
  have F21 : kF [(2, some 9), (3, none), (5, some 6), (6, none), (7, none)] w w16 := kF_call F8 f19 (by decide)
  refine kv_iload_n C 18 rfl 3 (kdec dk_cX8_stepNamed 12 rfl) rfl rfl ?_
  exact kv_iret C hr hlk (kdec dk_cX8_stepNamed 13 rfl) ⟨_, rfl, I18, F21⟩
