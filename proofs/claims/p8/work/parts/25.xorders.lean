set_option maxHeartbeats 4000000 in
set_option maxRecDepth 100000 in
theorem k_x_operand (l : Launch) (D : va_G) (τ : Nat → ClassId) (ρ σ : Nat → Nat) (w : kw) (a1 : Int32) (hI : kI false w) (hp0 : (w 61 45).toInt ≤ 3) (hM : kMoT w) :
    kM l D τ ρ σ yX10_operand cX10_operand 3 none { frames := 4, cells := 0, slots := 0, locals := 144 } [.ref (ρ 61), .int a1] w
      (fun o w' => o = none ∧ kI false w' ∧ kF [(61, some 13), (61, some 15), (61, some 19), (61, some 45), (84, none)] w w' ∧ ((w' 61 45).toInt ≤ (w 61 45).toInt + 1) ∧ kMoT w') := by
  refine kM_of (own := "TaleMachineModel") rfl (by decide) (Nat.le_of_ble_eq_true rfl) ?_
  intro p e s m args below meth c C hr hlk
  have hF0 : kF [(61, some 13), (61, some 15), (61, some 19), (61, some 45), (84, none)] w w := kF.rf
  have c_1 : (1 : Int32).toInt = 1 := by decide
  have c_2 : (2 : Int32).toInt = 2 := by decide
  have c_256 : (256 : Int32).toInt = 256 := by decide
  refine kV.L (L' := [(0, .ref (ρ 61)), (1, .int a1)]) rfl ?_
  obtain ⟨x1, e2⟩ : ∃ z : Int32, w 61 45 = z := ⟨_, rfl⟩
  have b3 : (0 : Int) ≤ x1.toInt ∧ x1.toInt ≤ 4 := by rw [← e2]; exact hI 61 45
  rw [e2] at hp0
  have g4 := kf_rng a1
  obtain ⟨x5, e6⟩ : ∃ z : Int32, w 61 20 = z := ⟨_, rfl⟩
  have b7 : (0 : Int) ≤ x5.toInt ∧ x5.toInt ≤ 20 := by rw [← e6]; exact hI 61 20
  have r8 := kMoT_fr hM
  rw [e6] at r8
  have cut55 : ∀ (w_55 : kw) (l2_55 : Int32), kI false w_55 → kF [(61, some 13), (61, some 15), (61, some 19), (61, some 45), (84, none)] w w_55 → (0 ≤ l2_55.toInt ∧ l2_55.toInt ≤ 65535) → ((w_55 61 45).toInt = (w 61 45).toInt) → kMoT w_55 → kV p l e { frames := 4, cells := 0, slots := 0, locals := 144 } s m args below meth c (kQ below args s D τ ρ (fun o w' => o = none ∧ kI false w' ∧ kF [(61, some 13), (61, some 15), (61, some 19), (61, some 45), (84, none)] w w' ∧ ((w' 61 45).toInt ≤ (w 61 45).toInt + 1) ∧ kMoT w')) 3 D τ ρ 55 [(0, .ref (ρ 61)), (2, .int l2_55)] [] w_55 := by
    intro w_55 l2_55 I_55 F_55 k55_0 k55_1 M_55
    have gl2_55 := kf_rng l2_55
    have e9 : w_55 61 20 = x5 := ((F_55 61 20 rfl : w_55 61 20 = w 61 20).trans e6)
    have r10 := kMoT_fr M_55
    rw [e9] at r10
    obtain ⟨x11, e12⟩ : ∃ z : Int32, w_55 61 45 = z := ⟨_, rfl⟩
    have b13 : (0 : Int) ≤ x11.toInt ∧ x11.toInt ≤ 4 := by rw [← e12]; exact I_55 61 45
    rw [e2, e12] at k55_1
    refine kv_aload_n C 56 rfl 0 (kdec dk_cX10_operand 29 rfl) rfl rfl ?_
    refine kv_getr C 59 rfl 61 44 rfl rfl inX10 (by decide) mfl_TaleMachineModel_77 rfl rfl (kdec dk_cX10_operand 30 rfl) ?_
    refine kv_aload_n C 60 rfl 0 (kdec dk_cX10_operand 31 rfl) rfl rfl ?_
    refine kv_get C 63 rfl 61 45 rfl rfl inX10 (by decide) mfl_TaleMachineModel_261 rfl rfl (kdec dk_cX10_operand 32 rfl) e12 ?_
    refine kv_iload_n C 64 rfl 1 (kdec dk_cX10_operand 33 rfl) rfl rfl ?_
    refine kv_iast C 65 rfl 84 rfl (by omega) (by omega) (kdec dk_cX10_operand 34 rfl) (fun w14 u15 => ?_)
    have I16 : kI false w14 := kI_put u15 I_55 (show (0 : Int) ≤ (l2_55 : Int32).toInt by omega) (show (l2_55 : Int32).toInt ≤ 65535 by omega)
    have F17 : kF [(61, some 13), (61, some 15), (61, some 19), (61, some 45), (84, none)] w w14 := kF_put u15 F_55 rfl
    have M18 : kMoT w14 := kMoT_put u15 M_55 rfl rfl rfl
    refine kv_aload_n C 66 rfl 0 (kdec dk_cX10_operand 35 rfl) rfl rfl ?_
    refine kv_dup C 67 rfl (kdec dk_cX10_operand 36 rfl) rfl ?_
    have e19 : w14 61 45 = x11 := ((kup_ne u15 rfl : w14 61 45 = w_55 61 45).trans e12)
    refine kv_get C 70 rfl 61 45 rfl rfl inX10 (by decide) mfl_TaleMachineModel_261 rfl rfl (kdec dk_cX10_operand 37 rfl) e19 ?_
    refine kv_iconst C 71 rfl 1 (kdec dk_cX10_operand 38 rfl) rfl ?_
    refine kv_iadd C 72 rfl (kdec dk_cX10_operand 39 rfl) (fun x20 q22 h21e h21 h21l h21u => ?_)
    try have h21n : x20.toInt = x11.toInt + (1 : Int32).toInt := by omega
    clear h21 q22
    refine kv_put C 75 rfl 61 45 rfl rfl inX10 (by decide) mfl_TaleMachineModel_261 rfl tyX10 tyX10_ok nmX10 rfl rfl (kdec dk_cX10_operand 40 rfl) rfl rfl (fun w23 u24 => ?_)
    have I25 : kI false w23 := kI_put u24 I16 (show (0 : Int) ≤ (x20 : Int32).toInt by omega) (show (x20 : Int32).toInt ≤ 4 by omega)
    have F26 : kF [(61, some 13), (61, some 15), (61, some 19), (61, some 45), (84, none)] w w23 := kF_put u24 F17 rfl
    have M27 : kMoT w23 := kMoT_put u24 M18 rfl rfl rfl
    exact kv_vret C hr hlk (kdec dk_cX10_operand 41 rfl) ⟨rfl, I25, F26, (by rw [e2, (kup_eq u24)]; try omega), M27⟩
  refine kv_aload_n C 1 rfl 0 (kdec dk_cX10_operand 0 rfl) rfl rfl ?_
  obtain ⟨x28, e29⟩ : ∃ z : Int32, w 61 13 = z := ⟨_, rfl⟩
  have b30 : (0 : Int) ≤ x28.toInt ∧ x28.toInt ≤ 13 := by rw [← e29]; exact hI 61 13
  refine kv_get C 4 rfl 61 13 rfl rfl inX10 (by decide) mfl_TaleMachineModel_148 rfl rfl (kdec dk_cX10_operand 1 rfl) e29 ?_
  refine kv_if_ne C 7 rfl 75 (kdec dk_cX10_operand 2 rfl) (by decide) (fun d31 => ?_) (fun d31 => ?_)
  · skip
    exact kv_vret C hr hlk (kdec dk_cX10_operand 41 rfl) ⟨rfl, hI, hF0, (by rw [e2]; try omega), hM⟩
  · skip
    refine kv_aload_n C 8 rfl 0 (kdec dk_cX10_operand 3 rfl) rfl rfl ?_
    refine kv_callVi (As := []) (rest := []) C 11 rfl 61 (k_x_next l D τ ρ σ w  hI ) rfl rfl mml_TaleMachineModel_194 mim_yX10_next mse_yX10_next mcd_yX10_next min_yX10_next hd_yX10_next rfl rfl rfl (by decide) rfl (Nat.le_of_ble_eq_true rfl) (kdec dk_cX10_operand 4 rfl) (fun x36 w32 h33 => ?_)
    obtain ⟨I34, f35, p37, p38⟩ := h33
    have F39 : kF [(61, some 13), (61, some 15), (61, some 19), (61, some 45), (84, none)] w w32 := kF_call hF0 f35 (by decide)
    have M40 : kMoT w32 := kMoT_kF f35 hM rfl rfl (fun _ => rfl)
    have g41 := kf_rng x36
    obtain ⟨x42, e43⟩ : ∃ z : Int32, w32 61 13 = z := ⟨_, rfl⟩
    have b44 : (0 : Int) ≤ x42.toInt ∧ x42.toInt ≤ 13 := by rw [← e43]; exact I34 61 13
    rw [e29, e43] at p38
    refine kv_istore_n C 12 rfl 2 [1, 2, 0] [(0, .ref (ρ 61)), (1, .int a1), (2, .int x36)] (kdec dk_cX10_operand 5 rfl) rfl (by decide) rfl ?_
    refine kv_iload_n C 13 rfl 1 (kdec dk_cX10_operand 6 rfl) rfl rfl ?_
    refine kv_if_ne C 16 rfl 37 (kdec dk_cX10_operand 7 rfl) (by decide) (fun d45 => ?_) (fun d45 => ?_)
    · skip
      refine kv_iload_n C 38 rfl 1 (kdec dk_cX10_operand 19 rfl) rfl rfl ?_
      refine kv_iconst C 39 rfl 2 (kdec dk_cX10_operand 20 rfl) rfl ?_
      refine kv_icmp_ne C 42 rfl 55 (kdec dk_cX10_operand 21 rfl) (by decide) (fun d46 => ?_) (fun d46 => ?_)
      · skip
        have e47 : w32 61 45 = x1 := ((f35 61 45 rfl : w32 61 45 = w 61 45).trans e2)
        refine kV.sub [0, 2] (L' := [(0, .ref (ρ 61)), (2, .int x36)]) rfl ?_
        exact cut55 w32 x36 I34 F39 (by omega) (by rw [e2, e47]; try omega) M40
      · skip
        refine kv_aload_n C 43 rfl 0 (kdec dk_cX10_operand 22 rfl) rfl rfl ?_
        refine kv_get C 46 rfl 61 13 rfl rfl inX10 (by decide) mfl_TaleMachineModel_148 rfl rfl (kdec dk_cX10_operand 23 rfl) e43 ?_
        refine kv_if_ne C 49 rfl 55 (kdec dk_cX10_operand 24 rfl) (by decide) (fun d48 => ?_) (fun d48 => ?_)
        · skip
          have e49 : w32 61 45 = x1 := ((f35 61 45 rfl : w32 61 45 = w 61 45).trans e2)
          refine kV.sub [0, 2] (L' := [(0, .ref (ρ 61)), (2, .int x36)]) rfl ?_
          exact cut55 w32 x36 I34 F39 (by omega) (by rw [e2, e49]; try omega) M40
        · skip
          refine kv_aload_n C 50 rfl 0 (kdec dk_cX10_operand 25 rfl) rfl rfl ?_
          refine kv_iload_n C 51 rfl 2 (kdec dk_cX10_operand 26 rfl) rfl rfl ?_
          refine kv_callVi (As := [.int x36]) (rest := []) C 54 rfl 61 (k_x_get l D τ ρ σ w32 x36 I34 (by omega) M40) rfl rfl mml_TaleMachineModel_188 mim_yX10_get mse_yX10_get mcd_yX10_get min_yX10_get hd_yX10_get rfl rfl rfl (by decide) rfl (Nat.le_of_ble_eq_true rfl) (kdec dk_cX10_operand 27 rfl) (fun x54 w50 h51 => ?_)
          obtain ⟨I52, f53, p55, M56⟩ := h51
          have F57 : kF [(61, some 13), (61, some 15), (61, some 19), (61, some 45), (84, none)] w w50 := kF_call F39 f53 (by decide)
          have e58 : w50 61 20 = x5 := ((f53 61 20 rfl : w50 61 20 = w32 61 20).trans ((f35 61 20 rfl : w32 61 20 = w 61 20).trans e6))
          have r59 := kMoT_fr M56
          rw [e58] at r59
          have g60 := kf_rng x54
          refine kv_istore_n C 55 rfl 2 [1, 2, 0] [(0, .ref (ρ 61)), (1, .int a1), (2, .int x54)] (kdec dk_cX10_operand 28 rfl) rfl (by decide) rfl ?_
          have e61 : w50 61 45 = x1 := ((f53 61 45 rfl : w50 61 45 = w32 61 45).trans ((f35 61 45 rfl : w32 61 45 = w 61 45).trans e2))
          refine kV.sub [0, 2] (L' := [(0, .ref (ρ 61)), (2, .int x54)]) rfl ?_
          exact cut55 w50 x54 I52 F57 (by omega) (by rw [e2, e61]; try omega) M56
    · skip
      refine kv_aload_n C 17 rfl 0 (kdec dk_cX10_operand 8 rfl) rfl rfl ?_
      refine kv_get C 20 rfl 61 13 rfl rfl inX10 (by decide) mfl_TaleMachineModel_148 rfl rfl (kdec dk_cX10_operand 9 rfl) e43 ?_
      refine kv_if_ne C 23 rfl 37 (kdec dk_cX10_operand 10 rfl) (by decide) (fun d62 => ?_) (fun d62 => ?_)
      · skip
        refine kv_iload_n C 38 rfl 1 (kdec dk_cX10_operand 19 rfl) rfl rfl ?_
        refine kv_iconst C 39 rfl 2 (kdec dk_cX10_operand 20 rfl) rfl ?_
        refine kv_icmp_ne C 42 rfl 55 (kdec dk_cX10_operand 21 rfl) (by decide) (fun d63 => ?_) (fun d63 => ?_)
        · skip
          have e64 : w32 61 45 = x1 := ((f35 61 45 rfl : w32 61 45 = w 61 45).trans e2)
          refine kV.sub [0, 2] (L' := [(0, .ref (ρ 61)), (2, .int x36)]) rfl ?_
          exact cut55 w32 x36 I34 F39 (by omega) (by rw [e2, e64]; try omega) M40
        · skip
          refine kv_aload_n C 43 rfl 0 (kdec dk_cX10_operand 22 rfl) rfl rfl ?_
          refine kv_get C 46 rfl 61 13 rfl rfl inX10 (by decide) mfl_TaleMachineModel_148 rfl rfl (kdec dk_cX10_operand 23 rfl) e43 ?_
          refine kv_if_ne C 49 rfl 55 (kdec dk_cX10_operand 24 rfl) (by decide) (fun d65 => ?_) (fun d65 => ?_)
          · skip
            have e66 : w32 61 45 = x1 := ((f35 61 45 rfl : w32 61 45 = w 61 45).trans e2)
            refine kV.sub [0, 2] (L' := [(0, .ref (ρ 61)), (2, .int x36)]) rfl ?_
            exact cut55 w32 x36 I34 F39 (by omega) (by rw [e2, e66]; try omega) M40
          · skip
            refine kv_aload_n C 50 rfl 0 (kdec dk_cX10_operand 25 rfl) rfl rfl ?_
            refine kv_iload_n C 51 rfl 2 (kdec dk_cX10_operand 26 rfl) rfl rfl ?_
            refine kv_callVi (As := [.int x36]) (rest := []) C 54 rfl 61 (k_x_get l D τ ρ σ w32 x36 I34 (by omega) M40) rfl rfl mml_TaleMachineModel_188 mim_yX10_get mse_yX10_get mcd_yX10_get min_yX10_get hd_yX10_get rfl rfl rfl (by decide) rfl (Nat.le_of_ble_eq_true rfl) (kdec dk_cX10_operand 27 rfl) (fun x71 w67 h68 => ?_)
            obtain ⟨I69, f70, p72, M73⟩ := h68
            have F74 : kF [(61, some 13), (61, some 15), (61, some 19), (61, some 45), (84, none)] w w67 := kF_call F39 f70 (by decide)
            have e75 : w67 61 20 = x5 := ((f70 61 20 rfl : w67 61 20 = w32 61 20).trans ((f35 61 20 rfl : w32 61 20 = w 61 20).trans e6))
            have r76 := kMoT_fr M73
            rw [e75] at r76
            have g77 := kf_rng x71
            refine kv_istore_n C 55 rfl 2 [1, 2, 0] [(0, .ref (ρ 61)), (1, .int a1), (2, .int x71)] (kdec dk_cX10_operand 28 rfl) rfl (by decide) rfl ?_
            have e78 : w67 61 45 = x1 := ((f70 61 45 rfl : w67 61 45 = w32 61 45).trans ((f35 61 45 rfl : w32 61 45 = w 61 45).trans e2))
            refine kV.sub [0, 2] (L' := [(0, .ref (ρ 61)), (2, .int x71)]) rfl ?_
            exact cut55 w67 x71 I69 F74 (by omega) (by rw [e2, e78]; try omega) M73
      · skip
        refine kv_sipush C 26 rfl 256 (kdec dk_cX10_operand 11 rfl) rfl ?_
        refine kv_iload_n C 27 rfl 2 (kdec dk_cX10_operand 12 rfl) rfl rfl ?_
        refine kv_imul C 28 rfl (kdec dk_cX10_operand 13 rfl) (fun x79 h80e h80l h80u => ?_)
        obtain ⟨q81, g82⟩ := kf_mul 256 x36
        rw [← h80e, c_256] at g82
        try have h80n : x79.toInt = 256 * x36.toInt := by omega
        clear g82 q81
        refine kv_aload_n C 29 rfl 0 (kdec dk_cX10_operand 14 rfl) rfl rfl ?_
        refine kv_callVi (As := []) (rest := [.int x79]) C 32 rfl 61 (k_x_next l D τ ρ σ w32  I34 ) rfl rfl mml_TaleMachineModel_194 mim_yX10_next mse_yX10_next mcd_yX10_next min_yX10_next hd_yX10_next rfl rfl rfl (by decide) rfl (Nat.le_of_ble_eq_true rfl) (kdec dk_cX10_operand 15 rfl) (fun x87 w83 h84 => ?_)
        obtain ⟨I85, f86, p88, p89⟩ := h84
        have F90 : kF [(61, some 13), (61, some 15), (61, some 19), (61, some 45), (84, none)] w w83 := kF_call F39 f86 (by decide)
        have M91 : kMoT w83 := kMoT_kF f86 M40 rfl rfl (fun _ => rfl)
        have g92 := kf_rng x87
        obtain ⟨x93, e94⟩ : ∃ z : Int32, w83 61 13 = z := ⟨_, rfl⟩
        have b95 : (0 : Int) ≤ x93.toInt ∧ x93.toInt ≤ 13 := by rw [← e94]; exact I85 61 13
        rw [e43, e94] at p89
        refine kv_iadd C 33 rfl (kdec dk_cX10_operand 16 rfl) (fun x96 q98 h97e h97 h97l h97u => ?_)
        try have h97n : x96.toInt = x79.toInt + x87.toInt := by omega
        clear h97 q98
        refine kv_istore_n C 34 rfl 2 [1, 2, 0] [(0, .ref (ρ 61)), (1, .int a1), (2, .int x96)] (kdec dk_cX10_operand 17 rfl) rfl (by decide) rfl ?_
        refine kv_goto C 55 (kdec dk_cX10_operand 18 rfl) (by decide) ?_
        have e99 : w83 61 45 = x1 := ((f86 61 45 rfl : w83 61 45 = w32 61 45).trans ((f35 61 45 rfl : w32 61 45 = w 61 45).trans e2))
        refine kV.sub [0, 2] (L' := [(0, .ref (ρ 61)), (2, .int x96)]) rfl ?_
        exact cut55 w83 x96 I85 F90 (by omega) (by rw [e2, e99]; try omega) M91

set_option maxHeartbeats 4000000 in
set_option maxRecDepth 100000 in
theorem k_x_has (l : Launch) (D : va_G) (τ : Nat → ClassId) (ρ σ : Nat → Nat) (w : kw) (a1 : Int32) (hI : kI false w)  :
    kM l D τ ρ σ yX10_has cX10_has 2 (some .boolean) { frames := 1, cells := 0, slots := 0, locals := 36 } [.ref (ρ 61), .int a1] w
      (fun o w' => ∃ r : Int32, o = some (.int r) ∧ kI false w' ∧ kF [(61, some 13)] w w' ∧ (r.toInt = 0 ∨ (w' 61 13).toInt = 0) ∧ ((w 61 13).toInt = 0 ∨ ¬ (w' 61 13).toInt = 0) ∧ (0 ≤ r.toInt ∧ r.toInt ≤ 1)) := by
  refine kM_of (own := "TaleMachineModel") rfl (by decide) (Nat.le_of_ble_eq_true rfl) ?_
  intro p e s m args below meth c C hr hlk
  have hF0 : kF [(61, some 13)] w w := kF.rf
  have c_0 : (0 : Int32).toInt = 0 := by decide
  have c_1 : (1 : Int32).toInt = 1 := by decide
  have c_6 : (6 : Int32).toInt = 6 := by decide
  refine kV.L (L' := [(0, .ref (ρ 61)), (1, .int a1)]) rfl ?_
  have g1 := kf_rng a1
  refine kv_aload_n C 1 rfl 0 (kdec dk_cX10_has 0 rfl) rfl rfl ?_
  obtain ⟨x2, e3⟩ : ∃ z : Int32, w 61 13 = z := ⟨_, rfl⟩
  have b4 : (0 : Int) ≤ x2.toInt ∧ x2.toInt ≤ 13 := by rw [← e3]; exact hI 61 13
  refine kv_get C 4 rfl 61 13 rfl rfl inX10 (by decide) mfl_TaleMachineModel_148 rfl rfl (kdec dk_cX10_has 1 rfl) e3 ?_
  refine kv_if_ne C 7 rfl 21 (kdec dk_cX10_has 2 rfl) (by decide) (fun d5 => ?_) (fun d5 => ?_)
  · skip
    refine kv_aload_n C 22 rfl 0 (kdec dk_cX10_has 10 rfl) rfl rfl ?_
    refine kv_get C 25 rfl 61 13 rfl rfl inX10 (by decide) mfl_TaleMachineModel_148 rfl rfl (kdec dk_cX10_has 11 rfl) e3 ?_
    refine kv_if_ne C 28 rfl 32 (kdec dk_cX10_has 12 rfl) (by decide) (fun d6 => ?_) (fun d6 => ?_)
    · skip
      refine kv_iconst C 33 rfl 0 (kdec dk_cX10_has 15 rfl) rfl ?_
      exact kv_zret C hr hlk (kdec dk_cX10_has 16 rfl) (kf_bool (by decide)) ⟨_, rfl, hI, hF0, (by rw [e3]; try omega), (by rw [e3]; try omega), (by omega)⟩
    · skip
      refine kv_iconst C 29 rfl 1 (kdec dk_cX10_has 13 rfl) rfl ?_
      refine kv_goto C 33 (kdec dk_cX10_has 14 rfl) (by decide) ?_
      exact kv_zret C hr hlk (kdec dk_cX10_has 16 rfl) (kf_bool (by decide)) ⟨_, rfl, hI, hF0, (by rw [e3]; try omega), (by rw [e3]; try omega), (by omega)⟩
  · skip
    refine kv_aload_n C 8 rfl 0 (kdec dk_cX10_has 3 rfl) rfl rfl ?_
    obtain ⟨x7, e8⟩ : ∃ z : Int32, w 61 45 = z := ⟨_, rfl⟩
    have b9 : (0 : Int) ≤ x7.toInt ∧ x7.toInt ≤ 4 := by rw [← e8]; exact hI 61 45
    refine kv_get C 11 rfl 61 45 rfl rfl inX10 (by decide) mfl_TaleMachineModel_261 rfl rfl (kdec dk_cX10_has 4 rfl) e8 ?_
    refine kv_iload_n C 12 rfl 1 (kdec dk_cX10_has 5 rfl) rfl rfl ?_
    refine kv_icmp_ge C 15 rfl 21 (kdec dk_cX10_has 6 rfl) (by decide) (fun d10 => ?_) (fun d10 => ?_)
    · skip
      refine kv_aload_n C 22 rfl 0 (kdec dk_cX10_has 10 rfl) rfl rfl ?_
      refine kv_get C 25 rfl 61 13 rfl rfl inX10 (by decide) mfl_TaleMachineModel_148 rfl rfl (kdec dk_cX10_has 11 rfl) e3 ?_
      refine kv_if_ne C 28 rfl 32 (kdec dk_cX10_has 12 rfl) (by decide) (fun d11 => ?_) (fun d11 => ?_)
      · skip
        refine kv_iconst C 33 rfl 0 (kdec dk_cX10_has 15 rfl) rfl ?_
        exact kv_zret C hr hlk (kdec dk_cX10_has 16 rfl) (kf_bool (by decide)) ⟨_, rfl, hI, hF0, (by rw [e3]; try omega), (by rw [e3]; try omega), (by omega)⟩
      · skip
        refine kv_iconst C 29 rfl 1 (kdec dk_cX10_has 13 rfl) rfl ?_
        refine kv_goto C 33 (kdec dk_cX10_has 14 rfl) (by decide) ?_
        exact kv_zret C hr hlk (kdec dk_cX10_has 16 rfl) (kf_bool (by decide)) ⟨_, rfl, hI, hF0, (by rw [e3]; try omega), (by rw [e3]; try omega), (by omega)⟩
    · skip
      refine kv_aload_n C 16 rfl 0 (kdec dk_cX10_has 7 rfl) rfl rfl ?_
      refine kv_bipush C 18 rfl 6 (kdec dk_cX10_has 8 rfl) rfl ?_
      refine kv_callVv (As := [.int 6]) (rest := []) C 21 rfl 61 (k_x_halts l D τ ρ σ w 6 hI (by omega)) rfl rfl mml_TaleMachineModel_160 mim_yX10_halts mse_yX10_halts mcd_yX10_halts min_yX10_halts hd_yX10_halts rfl rfl rfl (by decide) rfl (Nat.le_of_ble_eq_true rfl) (kdec dk_cX10_has 9 rfl) (fun w12 h13 => ?_)
      obtain ⟨I14, f15, p17⟩ := h13
      have F18 : kF [(61, some 13)] w w12 := kF_call hF0 f15 (by decide)
      obtain ⟨x19, e20⟩ : ∃ z : Int32, w12 61 13 = z := ⟨_, rfl⟩
      have b21 : (0 : Int) ≤ x19.toInt ∧ x19.toInt ≤ 13 := by rw [← e20]; exact I14 61 13
      rw [e3, e20] at p17
      refine kv_aload_n C 22 rfl 0 (kdec dk_cX10_has 10 rfl) rfl rfl ?_
      refine kv_get C 25 rfl 61 13 rfl rfl inX10 (by decide) mfl_TaleMachineModel_148 rfl rfl (kdec dk_cX10_has 11 rfl) e20 ?_
      refine kv_if_ne C 28 rfl 32 (kdec dk_cX10_has 12 rfl) (by decide) (fun d22 => ?_) (fun d22 => ?_)
      · skip
        refine kv_iconst C 33 rfl 0 (kdec dk_cX10_has 15 rfl) rfl ?_
        exact kv_zret C hr hlk (kdec dk_cX10_has 16 rfl) (kf_bool (by decide)) ⟨_, rfl, I14, F18, (by rw [e20]; try omega), (by rw [e3, e20]; try omega), (by omega)⟩
      · skip
        refine kv_iconst C 29 rfl 1 (kdec dk_cX10_has 13 rfl) rfl ?_
        refine kv_goto C 33 (kdec dk_cX10_has 14 rfl) (by decide) ?_
        exact kv_zret C hr hlk (kdec dk_cX10_has 16 rfl) (kf_bool (by decide)) ⟨_, rfl, I14, F18, (by rw [e20]; try omega), (by rw [e3, e20]; try omega), (by omega)⟩

set_option maxHeartbeats 4000000 in
set_option maxRecDepth 100000 in
theorem k_x_isOneOf (l : Launch) (D : va_G) (τ : Nat → ClassId) (ρ σ : Nat → Nat) (w : kw) (a1 : Int32) (hI : kI false w)  :
    kM l D τ ρ σ yX10_isOneOf cX10_isOneOf 4 (some .boolean) { frames := 0, cells := 0, slots := 0, locals := 0 } [.ref (ρ 61), .int a1] w
      (fun o w' => ∃ r : Int32, o = some (.int r) ∧ kI false w' ∧ kF [] w w' ∧ (0 ≤ r.toInt ∧ r.toInt ≤ 1)) := by
  refine kM_of (own := "TaleMachineModel") rfl (by decide) (Nat.le_of_ble_eq_true rfl) ?_
  intro p e s m args below meth c C hr hlk
  have hF0 : kF [] w w := kF.rf
  have c_0 : (0 : Int32).toInt = 0 := by decide
  have c_1 : (1 : Int32).toInt = 1 := by decide
  refine kV.L (L' := [(0, .ref (ρ 61)), (1, .int a1)]) rfl ?_
  have g1 := kf_rng a1
  have cut4 : ∀ (n_4 : Nat) (w_4 : kw) (l1_4 l2_4 l3_4 : Int32), kI false w_4 → kF [] w w_4 → (1 ≤ l3_4.toInt ∧ l3_4.toInt ≤ 4) → (0 ≤ l2_4.toInt ∧ l2_4.toInt ≤ 1) → ((5 - l3_4.toInt) : Int) < (n_4 : Int) → kV p l e { frames := 0, cells := 0, slots := 0, locals := 0 } s m args below meth c (kQ below args s D τ ρ (fun o w' => ∃ r : Int32, o = some (.int r) ∧ kI false w' ∧ kF [] w w' ∧ (0 ≤ r.toInt ∧ r.toInt ≤ 1))) 4 D τ ρ 4 [(0, .ref (ρ 61)), (1, .int l1_4), (2, .int l2_4), (3, .int l3_4)] [] w_4 := by
    intro n_4
    induction n_4 with
    | zero => intro w_4 l1_4 l2_4 l3_4 I_4 F_4 k4_0 k4_1 hmz; exfalso; omega
    | succ n_4 ih4 =>
      intro w_4 l1_4 l2_4 l3_4 I_4 F_4 k4_0 k4_1 hm4
      have gl1_4 := kf_rng l1_4
      have gl2_4 := kf_rng l2_4
      have gl3_4 := kf_rng l3_4
      have cut31 : ∀ (w_31 : kw) (l1_31 l3_31 s0_31 : Int32), kI false w_31 → kF [] w w_31 → (1 ≤ l3_31.toInt ∧ l3_31.toInt ≤ 3 ∧ l3_31.toInt = l3_4.toInt) → (0 ≤ s0_31.toInt ∧ s0_31.toInt ≤ 1) → kV p l e { frames := 0, cells := 0, slots := 0, locals := 0 } s m args below meth c (kQ below args s D τ ρ (fun o w' => ∃ r : Int32, o = some (.int r) ∧ kI false w' ∧ kF [] w w' ∧ (0 ≤ r.toInt ∧ r.toInt ≤ 1))) 4 D τ ρ 31 [(0, .ref (ρ 61)), (1, .int l1_31), (3, .int l3_31)] [.int s0_31] w_31 := by
        intro w_31 l1_31 l3_31 s0_31 I_31 F_31 k31_0 k31_1
        have gl1_31 := kf_rng l1_31
        have gl3_31 := kf_rng l3_31
        have gs0_31 := kf_rng s0_31
        refine kv_istore_n C 32 rfl 2 [1, 2, 0, 3] [(0, .ref (ρ 61)), (1, .int l1_31), (2, .int s0_31), (3, .int l3_31)] (kdec dk_cX10_isOneOf 19 rfl) rfl (by decide) rfl ?_
        refine kv_iinc C 35 rfl 3 3 [1, 2, 3, 0] (fun v9 => [(0, .ref (ρ 61)), (1, .int l1_31), (2, .int s0_31), (3, .int v9)]) (kdec dk_cX10_isOneOf 20 rfl) rfl (by decide) (fun _ => rfl) 1 rfl (fun x2 q3 h4e h4 h4l h4u => ?_)
        try have h4n : x2.toInt = l3_31.toInt + 1 := by omega
        clear h4 q3
        refine kv_goto C 4 (kdec dk_cX10_isOneOf 21 rfl) (by decide) ?_
        exact ih4 w_31 l1_31 s0_31 x2 I_31 F_31 (by omega) (by omega) (by omega)
      refine kv_iload_n C 5 rfl 3 (kdec dk_cX10_isOneOf 4 rfl) rfl rfl ?_
      refine kv_aload_n C 6 rfl 0 (kdec dk_cX10_isOneOf 5 rfl) rfl rfl ?_
      obtain ⟨x5, e6⟩ : ∃ z : Int32, w 61 45 = z := ⟨_, rfl⟩
      have b7 : (0 : Int) ≤ x5.toInt ∧ x5.toInt ≤ 4 := by rw [← e6]; exact hI 61 45
      have e8 : w_4 61 45 = x5 := ((F_4 61 45 rfl : w_4 61 45 = w 61 45).trans e6)
      refine kv_get C 9 rfl 61 45 rfl rfl inX10 (by decide) mfl_TaleMachineModel_261 rfl rfl (kdec dk_cX10_isOneOf 6 rfl) e8 ?_
      refine kv_icmp_ge C 12 rfl 38 (kdec dk_cX10_isOneOf 7 rfl) (by decide) (fun d9 => ?_) (fun d9 => ?_)
      · skip
        refine kv_iload_n C 39 rfl 2 (kdec dk_cX10_isOneOf 22 rfl) rfl rfl ?_
        exact kv_zret C hr hlk (kdec dk_cX10_isOneOf 23 rfl) (kf_bool (by omega)) ⟨_, rfl, I_4, F_4, (by omega)⟩
      · skip
        refine kv_iload_n C 13 rfl 2 (kdec dk_cX10_isOneOf 8 rfl) rfl rfl ?_
        refine kv_if_ne C 16 rfl 26 (kdec dk_cX10_isOneOf 9 rfl) (by decide) (fun d10 => ?_) (fun d10 => ?_)
        · skip
          refine kv_iconst C 27 rfl 1 (kdec dk_cX10_isOneOf 16 rfl) rfl ?_
          refine kv_goto C 31 (kdec dk_cX10_isOneOf 17 rfl) (by decide) ?_
          refine kV.sub [0, 1, 3] (L' := [(0, .ref (ρ 61)), (1, .int l1_4), (3, .int l3_4)]) rfl ?_
          exact cut31 w_4 l1_4 l3_4 1 I_4 F_4 (by omega) (by omega)
        · skip
          refine kv_aload_n C 17 rfl 0 (kdec dk_cX10_isOneOf 10 rfl) rfl rfl ?_
          refine kv_getr C 20 rfl 61 44 rfl rfl inX10 (by decide) mfl_TaleMachineModel_77 rfl rfl (kdec dk_cX10_isOneOf 11 rfl) ?_
          refine kv_iload_n C 21 rfl 3 (kdec dk_cX10_isOneOf 12 rfl) rfl rfl ?_
          obtain ⟨x11, e12⟩ : ∃ z : Int32, w_4 84 (l3_4 : Int32).toNatClampNeg = z := ⟨_, rfl⟩
          have b13 : (0 : Int) ≤ x11.toInt ∧ x11.toInt ≤ 65535 := by rw [← e12]; exact I_4 84 _
          refine kv_iald C 22 rfl 84 rfl (by omega) (by omega) e12 (kdec dk_cX10_isOneOf 13 rfl) ?_
          refine kv_iload_n C 23 rfl 1 (kdec dk_cX10_isOneOf 14 rfl) rfl rfl ?_
          refine kv_icmp_ne C 26 rfl 30 (kdec dk_cX10_isOneOf 15 rfl) (by decide) (fun d14 => ?_) (fun d14 => ?_)
          · skip
            refine kv_iconst C 31 rfl 0 (kdec dk_cX10_isOneOf 18 rfl) rfl ?_
            refine kV.sub [0, 1, 3] (L' := [(0, .ref (ρ 61)), (1, .int l1_4), (3, .int l3_4)]) rfl ?_
            exact cut31 w_4 l1_4 l3_4 0 I_4 F_4 (by omega) (by omega)
          · skip
            refine kv_iconst C 27 rfl 1 (kdec dk_cX10_isOneOf 16 rfl) rfl ?_
            refine kv_goto C 31 (kdec dk_cX10_isOneOf 17 rfl) (by decide) ?_
            refine kV.sub [0, 1, 3] (L' := [(0, .ref (ρ 61)), (1, .int l1_4), (3, .int l3_4)]) rfl ?_
            exact cut31 w_4 l1_4 l3_4 1 I_4 F_4 (by omega) (by omega)
  refine kv_iconst C 1 rfl 0 (kdec dk_cX10_isOneOf 0 rfl) rfl ?_
  refine kv_istore_n C 2 rfl 2 [1, 2, 0] [(0, .ref (ρ 61)), (1, .int a1), (2, .int 0)] (kdec dk_cX10_isOneOf 1 rfl) rfl (by decide) rfl ?_
  refine kv_iconst C 3 rfl 1 (kdec dk_cX10_isOneOf 2 rfl) rfl ?_
  refine kv_istore_n C 4 rfl 3 [1, 2, 3, 0] [(0, .ref (ρ 61)), (1, .int a1), (2, .int 0), (3, .int 1)] (kdec dk_cX10_isOneOf 3 rfl) rfl (by decide) rfl ?_
  exact cut4 ((((5 - (1 : Int32).toInt)) : Int).toNat + 1) w a1 0 1 hI hF0 (by omega) (by omega) (by omega)

set_option maxHeartbeats 4000000 in
set_option maxRecDepth 100000 in
theorem k_x_works (l : Launch) (D : va_G) (τ : Nat → ClassId) (ρ σ : Nat → Nat) (w : kw) (a1 : Int32) (a2 : Int32) (a3 : Int32) (hI : kI false w) (hp0 : 20 ≤ a1.toInt ∧ a1.toInt ≤ 24) (hp1 : 0 ≤ a3.toInt ∧ a3.toInt ≤ 65535) (hM : kMoT w) :
    kM l D τ ρ σ yX10_works cX10_works 6 none { frames := 5, cells := 0, slots := 0, locals := 180 } [.ref (ρ 61), .int a1, .int a2, .int a3] w
      (fun o w' => o = none ∧ kI false w' ∧ kF [(61, some 13), (61, some 15), (61, some 19), (64, none), (66, none), (71, none)] w w' ∧ kMoT w') := by
  refine kM_of (own := "TaleMachineModel") rfl (by decide) (Nat.le_of_ble_eq_true rfl) ?_
  intro p e s m args below meth c C hr hlk
  have hF0 : kF [(61, some 13), (61, some 15), (61, some 19), (64, none), (66, none), (71, none)] w w := kF.rf
  have c_7 : (7 : Int32).toInt = 7 := by decide
  have c_20 : (20 : Int32).toInt = 20 := by decide
  have c_21 : (21 : Int32).toInt = 21 := by decide
  have c_22 : (22 : Int32).toInt = 22 := by decide
  have c_23 : (23 : Int32).toInt = 23 := by decide
  refine kV.L (L' := [(0, .ref (ρ 61)), (1, .int a1), (2, .int a2), (3, .int a3)]) rfl ?_
  have g1 := kf_rng a1
  have g2 := kf_rng a2
  have g3 := kf_rng a3
  obtain ⟨x4, e5⟩ : ∃ z : Int32, w 61 20 = z := ⟨_, rfl⟩
  have b6 : (0 : Int) ≤ x4.toInt ∧ x4.toInt ≤ 20 := by rw [← e5]; exact hI 61 20
  have r7 := kMoT_fr hM
  rw [e5] at r7
  have cut91 : ∀ (w_91 : kw) (s0_91 : Int32), kI false w_91 → kF [(61, some 13), (61, some 15), (61, some 19), (64, none), (66, none), (71, none)] w w_91 → kMoT w_91 → kV p l e { frames := 5, cells := 0, slots := 0, locals := 180 } s m args below meth c (kQ below args s D τ ρ (fun o w' => o = none ∧ kI false w' ∧ kF [(61, some 13), (61, some 15), (61, some 19), (64, none), (66, none), (71, none)] w w' ∧ kMoT w')) 6 D τ ρ 91 [] [.int s0_91, .ref (ρ 61)] w_91 := by
    intro w_91 s0_91 I_91 F_91  M_91
    have gs0_91 := kf_rng s0_91
    have e8 : w_91 61 20 = x4 := ((F_91 61 20 rfl : w_91 61 20 = w 61 20).trans e5)
    have r9 := kMoT_fr M_91
    rw [e8] at r9
    refine kv_callVv (As := [.int s0_91]) (rest := []) C 94 rfl 61 (k_x_answers l D τ ρ σ w_91 s0_91 I_91 M_91) rfl rfl mml_TaleMachineModel_237 mim_yX10_answers mse_yX10_answers mcd_yX10_answers min_yX10_answers hd_yX10_answers rfl rfl rfl (by decide) rfl (Nat.le_of_ble_eq_true rfl) (kdec dk_cX10_works 47 rfl) (fun w10 h11 => ?_)
    obtain ⟨I12, f13, M15⟩ := h11
    have F16 : kF [(61, some 13), (61, some 15), (61, some 19), (64, none), (66, none), (71, none)] w w10 := kF_call F_91 f13 (by decide)
    have e17 : w10 61 20 = x4 := ((f13 61 20 rfl : w10 61 20 = w_91 61 20).trans e8)
    have r18 := kMoT_fr M15
    rw [e17] at r18
    exact kv_vret C hr hlk (kdec dk_cX10_works 48 rfl) ⟨rfl, I12, F16, M15⟩
  refine kv_iload_n C 1 rfl 1 (kdec dk_cX10_works 0 rfl) rfl rfl ?_
  refine kv_bipush C 3 rfl 22 (kdec dk_cX10_works 1 rfl) rfl ?_
  refine kv_icmp_le C 6 rfl 17 (kdec dk_cX10_works 2 rfl) (by decide) (fun d19 => ?_) (fun d19 => ?_)
  · skip
    refine kv_iload_n C 18 rfl 2 (kdec dk_cX10_works 9 rfl) rfl rfl ?_
    refine kv_callSi (As := [.int a2]) (rest := []) C 21 rfl (k_x_signed l D τ ρ σ w a2 hI ) mml_TaleMachineModel_286 mst_yX10_signed mcd_yX10_signed min_yX10_signed hd_yX10_signed rfl rfl rfl (by decide) rfl (Nat.le_of_ble_eq_true rfl) (kdec dk_cX10_works 10 rfl) (fun x24 w20 h21 => ?_)
    obtain ⟨I22, f23, p25⟩ := h21
    have F26 : kF [(61, some 13), (61, some 15), (61, some 19), (64, none), (66, none), (71, none)] w w20 := kF_call hF0 f23 (by decide)
    have M27 : kMoT w20 := kMoT_kF f23 hM rfl rfl (fun _ => rfl)
    have g28 := kf_rng x24
    refine kv_istore C 23 rfl 4 [1, 2, 3, 4, 0] [(0, .ref (ρ 61)), (1, .int a1), (2, .int a2), (3, .int a3), (4, .int x24)] (kdec dk_cX10_works 11 rfl) (by decide) rfl ?_
    refine kv_iload_n C 24 rfl 3 (kdec dk_cX10_works 12 rfl) rfl rfl ?_
    refine kv_callSi (As := [.int a3]) (rest := []) C 27 rfl (k_x_signed l D τ ρ σ w20 a3 I22 ) mml_TaleMachineModel_286 mst_yX10_signed mcd_yX10_signed min_yX10_signed hd_yX10_signed rfl rfl rfl (by decide) rfl (Nat.le_of_ble_eq_true rfl) (kdec dk_cX10_works 13 rfl) (fun x33 w29 h30 => ?_)
    obtain ⟨I31, f32, p34⟩ := h30
    have F35 : kF [(61, some 13), (61, some 15), (61, some 19), (64, none), (66, none), (71, none)] w w29 := kF_call F26 f32 (by decide)
    have M36 : kMoT w29 := kMoT_kF f32 M27 rfl rfl (fun _ => rfl)
    have g37 := kf_rng x33
    refine kv_istore C 29 rfl 5 [1, 2, 3, 4, 5, 0] [(0, .ref (ρ 61)), (1, .int a1), (2, .int a2), (3, .int a3), (4, .int x24), (5, .int x33)] (kdec dk_cX10_works 14 rfl) (by decide) rfl ?_
    refine kv_aload_n C 30 rfl 0 (kdec dk_cX10_works 15 rfl) rfl rfl ?_
    refine kv_iload_n C 31 rfl 1 (kdec dk_cX10_works 16 rfl) rfl rfl ?_
    refine kv_bipush C 33 rfl 20 (kdec dk_cX10_works 17 rfl) rfl ?_
    refine kv_icmp_ne C 36 rfl 44 (kdec dk_cX10_works 18 rfl) (by decide) (fun d38 => ?_) (fun d38 => ?_)
    · skip
      refine kv_iload_n C 45 rfl 1 (kdec dk_cX10_works 23 rfl) rfl rfl ?_
      refine kv_bipush C 47 rfl 21 (kdec dk_cX10_works 24 rfl) rfl ?_
      refine kv_icmp_ne C 50 rfl 58 (kdec dk_cX10_works 25 rfl) (by decide) (fun d39 => ?_) (fun d39 => ?_)
      · skip
        refine kv_iload_n C 59 rfl 1 (kdec dk_cX10_works 30 rfl) rfl rfl ?_
        refine kv_bipush C 61 rfl 22 (kdec dk_cX10_works 31 rfl) rfl ?_
        refine kv_icmp_ne C 64 rfl 72 (kdec dk_cX10_works 32 rfl) (by decide) (fun d40 => ?_) (fun d40 => ?_)
        · skip
          refine kv_iload_n C 73 rfl 1 (kdec dk_cX10_works 37 rfl) rfl rfl ?_
          refine kv_bipush C 75 rfl 23 (kdec dk_cX10_works 38 rfl) rfl ?_
          refine kv_icmp_ne C 78 rfl 86 (kdec dk_cX10_works 39 rfl) (by decide) (fun d41 => ?_) (fun d41 => ?_)
          · skip
            refine kv_iload C 88 rfl 4 (kdec dk_cX10_works 44 rfl) rfl ?_
            refine kv_iload C 90 rfl 5 (kdec dk_cX10_works 45 rfl) rfl ?_
            refine kv_irem C 91 rfl (kdec dk_cX10_works 46 rfl) (fun h9 => by have := kc_eq_t0 h9; omega) (fun x42 h43e h43l h43u => ?_)
            refine kV.sub [] (L' := []) rfl ?_
            exact cut91 w29 x42 I31 F35 M36
          · skip
            refine kv_iload C 80 rfl 4 (kdec dk_cX10_works 40 rfl) rfl ?_
            refine kv_iload C 82 rfl 5 (kdec dk_cX10_works 41 rfl) rfl ?_
            refine kv_idiv C 83 rfl (kdec dk_cX10_works 42 rfl) (fun h9 => by have := kc_eq_t0 h9; omega) (fun x44 h45e h45l h45u => ?_)
            refine kv_goto C 91 (kdec dk_cX10_works 43 rfl) (by decide) ?_
            refine kV.sub [] (L' := []) rfl ?_
            exact cut91 w29 x44 I31 F35 M36
        · skip
          refine kv_iload C 66 rfl 4 (kdec dk_cX10_works 33 rfl) rfl ?_
          refine kv_iload C 68 rfl 5 (kdec dk_cX10_works 34 rfl) rfl ?_
          refine kv_imul C 69 rfl (kdec dk_cX10_works 35 rfl) (fun x46 h47e h47l h47u => ?_)
          refine kv_goto C 91 (kdec dk_cX10_works 36 rfl) (by decide) ?_
          refine kV.sub [] (L' := []) rfl ?_
          exact cut91 w29 x46 I31 F35 M36
      · skip
        refine kv_iload C 52 rfl 4 (kdec dk_cX10_works 26 rfl) rfl ?_
        refine kv_iload C 54 rfl 5 (kdec dk_cX10_works 27 rfl) rfl ?_
        refine kv_isub C 55 rfl (kdec dk_cX10_works 28 rfl) (fun x48 q50 h49e h49 h49l h49u => ?_)
        try have h49n : x48.toInt = x24.toInt - x33.toInt := by omega
        clear h49 q50
        refine kv_goto C 91 (kdec dk_cX10_works 29 rfl) (by decide) ?_
        refine kV.sub [] (L' := []) rfl ?_
        exact cut91 w29 x48 I31 F35 M36
    · skip
      refine kv_iload C 38 rfl 4 (kdec dk_cX10_works 19 rfl) rfl ?_
      refine kv_iload C 40 rfl 5 (kdec dk_cX10_works 20 rfl) rfl ?_
      refine kv_iadd C 41 rfl (kdec dk_cX10_works 21 rfl) (fun x51 q53 h52e h52 h52l h52u => ?_)
      try have h52n : x51.toInt = x24.toInt + x33.toInt := by omega
      clear h52 q53
      refine kv_goto C 91 (kdec dk_cX10_works 22 rfl) (by decide) ?_
      refine kV.sub [] (L' := []) rfl ?_
      exact cut91 w29 x51 I31 F35 M36
  · skip
    refine kv_iload_n C 7 rfl 3 (kdec dk_cX10_works 3 rfl) rfl rfl ?_
    refine kv_if_ne C 10 rfl 17 (kdec dk_cX10_works 4 rfl) (by decide) (fun d54 => ?_) (fun d54 => ?_)
    · skip
      refine kv_iload_n C 18 rfl 2 (kdec dk_cX10_works 9 rfl) rfl rfl ?_
      refine kv_callSi (As := [.int a2]) (rest := []) C 21 rfl (k_x_signed l D τ ρ σ w a2 hI ) mml_TaleMachineModel_286 mst_yX10_signed mcd_yX10_signed min_yX10_signed hd_yX10_signed rfl rfl rfl (by decide) rfl (Nat.le_of_ble_eq_true rfl) (kdec dk_cX10_works 10 rfl) (fun x59 w55 h56 => ?_)
      obtain ⟨I57, f58, p60⟩ := h56
      have F61 : kF [(61, some 13), (61, some 15), (61, some 19), (64, none), (66, none), (71, none)] w w55 := kF_call hF0 f58 (by decide)
      have M62 : kMoT w55 := kMoT_kF f58 hM rfl rfl (fun _ => rfl)
      have g63 := kf_rng x59
      refine kv_istore C 23 rfl 4 [1, 2, 3, 4, 0] [(0, .ref (ρ 61)), (1, .int a1), (2, .int a2), (3, .int a3), (4, .int x59)] (kdec dk_cX10_works 11 rfl) (by decide) rfl ?_
      refine kv_iload_n C 24 rfl 3 (kdec dk_cX10_works 12 rfl) rfl rfl ?_
      refine kv_callSi (As := [.int a3]) (rest := []) C 27 rfl (k_x_signed l D τ ρ σ w55 a3 I57 ) mml_TaleMachineModel_286 mst_yX10_signed mcd_yX10_signed min_yX10_signed hd_yX10_signed rfl rfl rfl (by decide) rfl (Nat.le_of_ble_eq_true rfl) (kdec dk_cX10_works 13 rfl) (fun x68 w64 h65 => ?_)
      obtain ⟨I66, f67, p69⟩ := h65
      have F70 : kF [(61, some 13), (61, some 15), (61, some 19), (64, none), (66, none), (71, none)] w w64 := kF_call F61 f67 (by decide)
      have M71 : kMoT w64 := kMoT_kF f67 M62 rfl rfl (fun _ => rfl)
      have g72 := kf_rng x68
      refine kv_istore C 29 rfl 5 [1, 2, 3, 4, 5, 0] [(0, .ref (ρ 61)), (1, .int a1), (2, .int a2), (3, .int a3), (4, .int x59), (5, .int x68)] (kdec dk_cX10_works 14 rfl) (by decide) rfl ?_
      refine kv_aload_n C 30 rfl 0 (kdec dk_cX10_works 15 rfl) rfl rfl ?_
      refine kv_iload_n C 31 rfl 1 (kdec dk_cX10_works 16 rfl) rfl rfl ?_
      refine kv_bipush C 33 rfl 20 (kdec dk_cX10_works 17 rfl) rfl ?_
      refine kv_icmp_ne C 36 rfl 44 (kdec dk_cX10_works 18 rfl) (by decide) (fun d73 => ?_) (fun d73 => ?_)
      · skip
        refine kv_iload_n C 45 rfl 1 (kdec dk_cX10_works 23 rfl) rfl rfl ?_
        refine kv_bipush C 47 rfl 21 (kdec dk_cX10_works 24 rfl) rfl ?_
        refine kv_icmp_ne C 50 rfl 58 (kdec dk_cX10_works 25 rfl) (by decide) (fun d74 => ?_) (fun d74 => ?_)
        · skip
          refine kv_iload_n C 59 rfl 1 (kdec dk_cX10_works 30 rfl) rfl rfl ?_
          refine kv_bipush C 61 rfl 22 (kdec dk_cX10_works 31 rfl) rfl ?_
          refine kv_icmp_ne C 64 rfl 72 (kdec dk_cX10_works 32 rfl) (by decide) (fun d75 => ?_) (fun d75 => ?_)
          · skip
            refine kv_iload_n C 73 rfl 1 (kdec dk_cX10_works 37 rfl) rfl rfl ?_
            refine kv_bipush C 75 rfl 23 (kdec dk_cX10_works 38 rfl) rfl ?_
            refine kv_icmp_ne C 78 rfl 86 (kdec dk_cX10_works 39 rfl) (by decide) (fun d76 => ?_) (fun d76 => ?_)
            · skip
              refine kv_iload C 88 rfl 4 (kdec dk_cX10_works 44 rfl) rfl ?_
              refine kv_iload C 90 rfl 5 (kdec dk_cX10_works 45 rfl) rfl ?_
              refine kv_irem C 91 rfl (kdec dk_cX10_works 46 rfl) (fun h9 => by have := kc_eq_t0 h9; omega) (fun x77 h78e h78l h78u => ?_)
              refine kV.sub [] (L' := []) rfl ?_
              exact cut91 w64 x77 I66 F70 M71
            · skip
              refine kv_iload C 80 rfl 4 (kdec dk_cX10_works 40 rfl) rfl ?_
              refine kv_iload C 82 rfl 5 (kdec dk_cX10_works 41 rfl) rfl ?_
              refine kv_idiv C 83 rfl (kdec dk_cX10_works 42 rfl) (fun h9 => by have := kc_eq_t0 h9; omega) (fun x79 h80e h80l h80u => ?_)
              refine kv_goto C 91 (kdec dk_cX10_works 43 rfl) (by decide) ?_
              refine kV.sub [] (L' := []) rfl ?_
              exact cut91 w64 x79 I66 F70 M71
          · skip
            refine kv_iload C 66 rfl 4 (kdec dk_cX10_works 33 rfl) rfl ?_
            refine kv_iload C 68 rfl 5 (kdec dk_cX10_works 34 rfl) rfl ?_
            refine kv_imul C 69 rfl (kdec dk_cX10_works 35 rfl) (fun x81 h82e h82l h82u => ?_)
            refine kv_goto C 91 (kdec dk_cX10_works 36 rfl) (by decide) ?_
            refine kV.sub [] (L' := []) rfl ?_
            exact cut91 w64 x81 I66 F70 M71
        · skip
          refine kv_iload C 52 rfl 4 (kdec dk_cX10_works 26 rfl) rfl ?_
          refine kv_iload C 54 rfl 5 (kdec dk_cX10_works 27 rfl) rfl ?_
          refine kv_isub C 55 rfl (kdec dk_cX10_works 28 rfl) (fun x83 q85 h84e h84 h84l h84u => ?_)
          try have h84n : x83.toInt = x59.toInt - x68.toInt := by omega
          clear h84 q85
          refine kv_goto C 91 (kdec dk_cX10_works 29 rfl) (by decide) ?_
          refine kV.sub [] (L' := []) rfl ?_
          exact cut91 w64 x83 I66 F70 M71
      · skip
        refine kv_iload C 38 rfl 4 (kdec dk_cX10_works 19 rfl) rfl ?_
        refine kv_iload C 40 rfl 5 (kdec dk_cX10_works 20 rfl) rfl ?_
        refine kv_iadd C 41 rfl (kdec dk_cX10_works 21 rfl) (fun x86 q88 h87e h87 h87l h87u => ?_)
        try have h87n : x86.toInt = x59.toInt + x68.toInt := by omega
        clear h87 q88
        refine kv_goto C 91 (kdec dk_cX10_works 22 rfl) (by decide) ?_
        refine kV.sub [] (L' := []) rfl ?_
        exact cut91 w64 x86 I66 F70 M71
    · skip
      refine kv_aload_n C 11 rfl 0 (kdec dk_cX10_works 5 rfl) rfl rfl ?_
      refine kv_bipush C 13 rfl 7 (kdec dk_cX10_works 6 rfl) rfl ?_
      refine kv_callVv (As := [.int 7]) (rest := []) C 16 rfl 61 (k_x_halts l D τ ρ σ w 7 hI (by omega)) rfl rfl mml_TaleMachineModel_160 mim_yX10_halts mse_yX10_halts mcd_yX10_halts min_yX10_halts hd_yX10_halts rfl rfl rfl (by decide) rfl (Nat.le_of_ble_eq_true rfl) (kdec dk_cX10_works 7 rfl) (fun w89 h90 => ?_)
      obtain ⟨I91, f92, p94⟩ := h90
      have F95 : kF [(61, some 13), (61, some 15), (61, some 19), (64, none), (66, none), (71, none)] w w89 := kF_call hF0 f92 (by decide)
      have M96 : kMoT w89 := kMoT_kF f92 hM rfl rfl (fun _ => rfl)
      obtain ⟨x97, e98⟩ : ∃ z : Int32, w 61 13 = z := ⟨_, rfl⟩
      have b99 : (0 : Int) ≤ x97.toInt ∧ x97.toInt ≤ 13 := by rw [← e98]; exact hI 61 13
      obtain ⟨x100, e101⟩ : ∃ z : Int32, w89 61 13 = z := ⟨_, rfl⟩
      have b102 : (0 : Int) ≤ x100.toInt ∧ x100.toInt ≤ 13 := by rw [← e101]; exact I91 61 13
      rw [e98, e101] at p94
      exact kv_vret C hr hlk (kdec dk_cX10_works 8 rfl) ⟨rfl, I91, F95, M96⟩

set_option maxHeartbeats 4000000 in
set_option maxRecDepth 100000 in
theorem k_x_calls (l : Launch) (D : va_G) (τ : Nat → ClassId) (ρ σ : Nat → Nat) (w : kw) (a1 : Int32) (hI : kI false w) (hM : kMoT w) :
    kM l D τ ρ σ yX10_calls cX10_calls 7 none { frames := 4, cells := 0, slots := 0, locals := 144 } [.ref (ρ 61), .int a1] w
      (fun o w' => o = none ∧ kI false w' ∧ kF [(61, some 13), (61, some 15), (61, some 19), (61, some 20), (64, none), (66, none), (67, none), (68, none), (69, none), (70, none), (71, none)] w w' ∧ kMoT w') := by
  refine kM_of (own := "TaleMachineModel") rfl (by decide) (Nat.le_of_ble_eq_true rfl) ?_
  intro p e s m args below meth c C hr hlk
  have hF0 : kF [(61, some 13), (61, some 15), (61, some 19), (61, some 20), (64, none), (66, none), (67, none), (68, none), (69, none), (70, none), (71, none)] w w := kF.rf
  have c_0 : (0 : Int32).toInt = 0 := by decide
  have c_1 : (1 : Int32).toInt = 1 := by decide
  have c_2 : (2 : Int32).toInt = 2 := by decide
  have c_3 : (3 : Int32).toInt = 3 := by decide
  have c_8 : (8 : Int32).toInt = 8 := by decide
  have c_15 : (15 : Int32).toInt = 15 := by decide
  have c_16 : (16 : Int32).toInt = 16 := by decide
  have c_20 : (20 : Int32).toInt = 20 := by decide
  have c_65535 : (65535 : Int32).toInt = 65535 := by decide
  refine kV.L (L' := [(0, .ref (ρ 61)), (1, .int a1)]) rfl ?_
  have g1 := kf_rng a1
  obtain ⟨x2, e3⟩ : ∃ z : Int32, w 61 20 = z := ⟨_, rfl⟩
  have b4 : (0 : Int) ≤ x2.toInt ∧ x2.toInt ≤ 20 := by rw [← e3]; exact hI 61 20
  have r5 := kMoT_fr hM
  rw [e3] at r5
  have cut160 : ∀ (w_160 : kw) (l2_160 l3_160 l4_160 : Int32), kI false w_160 → kF [(61, some 13), (61, some 15), (61, some 19), (61, some 20), (64, none), (66, none), (67, none), (68, none), (69, none), (70, none), (71, none)] w w_160 → (0 ≤ l2_160.toInt ∧ l2_160.toInt ≤ 255) → (0 ≤ l3_160.toInt ∧ l3_160.toInt ≤ 65535) → (0 ≤ l4_160.toInt ∧ l4_160.toInt ≤ 15) → ((w_160 61 20).toInt ≤ 19) → kMoT w_160 → kV p l e { frames := 4, cells := 0, slots := 0, locals := 144 } s m args below meth c (kQ below args s D τ ρ (fun o w' => o = none ∧ kI false w' ∧ kF [(61, some 13), (61, some 15), (61, some 19), (61, some 20), (64, none), (66, none), (67, none), (68, none), (69, none), (70, none), (71, none)] w w' ∧ kMoT w')) 7 D τ ρ 160 [(0, .ref (ρ 61)), (2, .int l2_160), (3, .int l3_160), (4, .int l4_160)] [] w_160 := by
    intro w_160 l2_160 l3_160 l4_160 I_160 F_160 k160_0 k160_1 k160_2 k160_3 M_160
    have gl2_160 := kf_rng l2_160
    have gl3_160 := kf_rng l3_160
    have gl4_160 := kf_rng l4_160
    obtain ⟨x6, e7⟩ : ∃ z : Int32, w_160 61 20 = z := ⟨_, rfl⟩
    have b8 : (0 : Int) ≤ x6.toInt ∧ x6.toInt ≤ 20 := by rw [← e7]; exact I_160 61 20
    have r9 := kMoT_fr M_160
    rw [e7] at r9
    rw [e7] at k160_3
    refine kv_aload_n C 161 rfl 0 (kdec dk_cX10_calls 86 rfl) rfl rfl ?_
    obtain ⟨x10, e11⟩ : ∃ z : Int32, w_160 61 13 = z := ⟨_, rfl⟩
    have b12 : (0 : Int) ≤ x10.toInt ∧ x10.toInt ≤ 13 := by rw [← e11]; exact I_160 61 13
    refine kv_get C 164 rfl 61 13 rfl rfl inX10 (by decide) mfl_TaleMachineModel_148 rfl rfl (kdec dk_cX10_calls 87 rfl) e11 ?_
    refine kv_if_le C 167 rfl 168 (kdec dk_cX10_calls 88 rfl) (by decide) (fun d13 => ?_) (fun d13 => ?_)
    · skip
      refine kv_aload_n C 169 rfl 0 (kdec dk_cX10_calls 90 rfl) rfl rfl ?_
      refine kv_getr C 172 rfl 61 21 rfl rfl inX10 (by decide) mfl_TaleMachineModel_25 rfl rfl (kdec dk_cX10_calls 91 rfl) ?_
      refine kv_aload_n C 173 rfl 0 (kdec dk_cX10_calls 92 rfl) rfl rfl ?_
      refine kv_get C 176 rfl 61 20 rfl rfl inX10 (by decide) mfl_TaleMachineModel_139 rfl rfl (kdec dk_cX10_calls 93 rfl) e7 ?_
      refine kv_aload_n C 177 rfl 0 (kdec dk_cX10_calls 94 rfl) rfl rfl ?_
      obtain ⟨x14, e15⟩ : ∃ z : Int32, w_160 61 19 = z := ⟨_, rfl⟩
      have b16 : (0 : Int) ≤ x14.toInt ∧ x14.toInt ≤ 120 := by rw [← e15]; exact I_160 61 19
      refine kv_get C 180 rfl 61 19 rfl rfl inX10 (by decide) mfl_TaleMachineModel_136 rfl rfl (kdec dk_cX10_calls 95 rfl) e15 ?_
      refine kv_iast C 181 rfl 67 rfl (by omega) (by omega) (kdec dk_cX10_calls 96 rfl) (fun w17 u18 => ?_)
      have I19 : kI false w17 := kI_put u18 I_160 (show (0 : Int) ≤ (x14 : Int32).toInt by omega) (show (x14 : Int32).toInt ≤ 120 by omega)
      have F20 : kF [(61, some 13), (61, some 15), (61, some 19), (61, some 20), (64, none), (66, none), (67, none), (68, none), (69, none), (70, none), (71, none)] w w17 := kF_put u18 F_160 rfl
      refine kv_aload_n C 182 rfl 0 (kdec dk_cX10_calls 97 rfl) rfl rfl ?_
      refine kv_getr C 185 rfl 61 22 rfl rfl inX10 (by decide) mfl_TaleMachineModel_28 rfl rfl (kdec dk_cX10_calls 98 rfl) ?_
      refine kv_aload_n C 186 rfl 0 (kdec dk_cX10_calls 99 rfl) rfl rfl ?_
      have e22 : w17 61 20 = x6 := ((kup_ne u18 rfl : w17 61 20 = w_160 61 20).trans e7)
      refine kv_get C 189 rfl 61 20 rfl rfl inX10 (by decide) mfl_TaleMachineModel_139 rfl rfl (kdec dk_cX10_calls 100 rfl) e22 ?_
      refine kv_aload_n C 190 rfl 0 (kdec dk_cX10_calls 101 rfl) rfl rfl ?_
      obtain ⟨x23, e24⟩ : ∃ z : Int32, w_160 61 15 = z := ⟨_, rfl⟩
      have b25 : (0 : Int) ≤ x23.toInt ∧ x23.toInt ≤ 65535 := by rw [← e24]; exact I_160 61 15
      have e26 : w17 61 15 = x23 := ((kup_ne u18 rfl : w17 61 15 = w_160 61 15).trans e24)
      refine kv_get C 193 rfl 61 15 rfl rfl inX10 (by decide) mfl_TaleMachineModel_170 rfl rfl (kdec dk_cX10_calls 102 rfl) e26 ?_
      refine kv_iast C 194 rfl 68 rfl (by omega) (by omega) (kdec dk_cX10_calls 103 rfl) (fun w27 u28 => ?_)
      have I29 : kI false w27 := kI_put u28 I19 (show (0 : Int) ≤ (x23 : Int32).toInt by omega) (show (x23 : Int32).toInt ≤ 65535 by omega)
      have F30 : kF [(61, some 13), (61, some 15), (61, some 19), (61, some 20), (64, none), (66, none), (67, none), (68, none), (69, none), (70, none), (71, none)] w w27 := kF_put u28 F20 rfl
      refine kv_aload_n C 195 rfl 0 (kdec dk_cX10_calls 104 rfl) rfl rfl ?_
      refine kv_getr C 198 rfl 61 23 rfl rfl inX10 (by decide) mfl_TaleMachineModel_31 rfl rfl (kdec dk_cX10_calls 105 rfl) ?_
      refine kv_aload_n C 199 rfl 0 (kdec dk_cX10_calls 106 rfl) rfl rfl ?_
      have e31 : w27 61 20 = x6 := ((kup_ne u28 rfl : w27 61 20 = w17 61 20).trans e22)
      refine kv_get C 202 rfl 61 20 rfl rfl inX10 (by decide) mfl_TaleMachineModel_139 rfl rfl (kdec dk_cX10_calls 107 rfl) e31 ?_
      refine kv_iload_n C 203 rfl 1 (kdec dk_cX10_calls 108 rfl) rfl rfl ?_
      refine kv_iast C 204 rfl 69 rfl (by omega) (by omega) (kdec dk_cX10_calls 109 rfl) (fun w32 u33 => ?_)
      have I34 : kI false w32 := kI_put u33 I29 (show (0 : Int) ≤ (l2_160 : Int32).toInt by omega) (show (l2_160 : Int32).toInt ≤ 255 by omega)
      have F35 : kF [(61, some 13), (61, some 15), (61, some 19), (61, some 20), (64, none), (66, none), (67, none), (68, none), (69, none), (70, none), (71, none)] w w32 := kF_put u33 F30 rfl
      refine kv_aload_n C 205 rfl 0 (kdec dk_cX10_calls 110 rfl) rfl rfl ?_
      refine kv_getr C 208 rfl 61 24 rfl rfl inX10 (by decide) mfl_TaleMachineModel_34 rfl rfl (kdec dk_cX10_calls 111 rfl) ?_
      refine kv_aload_n C 209 rfl 0 (kdec dk_cX10_calls 112 rfl) rfl rfl ?_
      have e36 : w32 61 20 = x6 := ((kup_ne u33 rfl : w32 61 20 = w27 61 20).trans e31)
      refine kv_get C 212 rfl 61 20 rfl rfl inX10 (by decide) mfl_TaleMachineModel_139 rfl rfl (kdec dk_cX10_calls 113 rfl) e36 ?_
      refine kv_iload C 214 rfl 3 (kdec dk_cX10_calls 114 rfl) rfl ?_
      refine kv_iast C 215 rfl 70 rfl (by omega) (by omega) (kdec dk_cX10_calls 115 rfl) (fun w37 u38 => ?_)
      have I39 : kI false w37 := kI_put u38 I34 (show (0 : Int) ≤ (l4_160 : Int32).toInt by omega) (show (l4_160 : Int32).toInt ≤ 15 by omega)
      have F40 : kF [(61, some 13), (61, some 15), (61, some 19), (61, some 20), (64, none), (66, none), (67, none), (68, none), (69, none), (70, none), (71, none)] w w37 := kF_put u38 F35 rfl
      refine kv_aload_n C 216 rfl 0 (kdec dk_cX10_calls 116 rfl) rfl rfl ?_
      refine kv_dup C 217 rfl (kdec dk_cX10_calls 117 rfl) rfl ?_
      have e41 : w37 61 20 = x6 := ((kup_ne u38 rfl : w37 61 20 = w32 61 20).trans e36)
      refine kv_get C 220 rfl 61 20 rfl rfl inX10 (by decide) mfl_TaleMachineModel_139 rfl rfl (kdec dk_cX10_calls 118 rfl) e41 ?_
      refine kv_iconst C 221 rfl 1 (kdec dk_cX10_calls 119 rfl) rfl ?_
      refine kv_iadd C 222 rfl (kdec dk_cX10_calls 120 rfl) (fun x42 q44 h43e h43 h43l h43u => ?_)
      try have h43n : x42.toInt = x6.toInt + (1 : Int32).toInt := by omega
      clear h43 q44
      refine kv_put C 225 rfl 61 20 rfl rfl inX10 (by decide) mfl_TaleMachineModel_139 rfl tyX10 tyX10_ok nmX10 rfl rfl (kdec dk_cX10_calls 121 rfl) rfl rfl (fun w45 u46 => ?_)
      have I47 : kI false w45 := kI_put u46 I39 (show (0 : Int) ≤ (x42 : Int32).toInt by omega) (show (x42 : Int32).toInt ≤ 20 by omega)
      have F48 : kF [(61, some 13), (61, some 15), (61, some 19), (61, some 20), (64, none), (66, none), (67, none), (68, none), (69, none), (70, none), (71, none)] w w45 := kF_put u46 F40 rfl
      have M49 : kMoT w45 := kMoT_call (f := x6.toNatClampNeg) M_160 (by rw [e7]; exact kn_of (by omega)) (by rw [kup_eq u46, e7]; omega) ((kup_ne u46 rfl : w45 61 19 = w37 61 19).trans ((kup_ne u38 rfl : w37 61 19 = w32 61 19).trans ((kup_ne u33 rfl : w32 61 19 = w27 61 19).trans ((kup_ne u28 rfl : w27 61 19 = w17 61 19).trans (kup_ne u18 rfl : w17 61 19 = w_160 61 19))))) (fun k9 hk9 => ((kup_ne u46 rfl : w45 67 k9 = w37 67 k9).trans ((kup_ne u38 rfl : w37 67 k9 = w32 67 k9).trans ((kup_ne u33 rfl : w32 67 k9 = w27 67 k9).trans (kup_ne u28 rfl : w27 67 k9 = w17 67 k9)))).trans (kup_nek u18 hk9)) (((kup_ne u46 rfl : w45 67 (x6.toNatClampNeg) = w37 67 (x6.toNatClampNeg)).trans ((kup_ne u38 rfl : w37 67 (x6.toNatClampNeg) = w32 67 (x6.toNatClampNeg)).trans ((kup_ne u33 rfl : w32 67 (x6.toNatClampNeg) = w27 67 (x6.toNatClampNeg)).trans (kup_ne u28 rfl : w27 67 (x6.toNatClampNeg) = w17 67 (x6.toNatClampNeg))))).trans ((kup_eq u18).trans e15.symm))
      have r50 := kMoT_fr M49
      rw [(kup_eq u46)] at r50
      refine kv_aload_n C 226 rfl 0 (kdec dk_cX10_calls 122 rfl) rfl rfl ?_
      refine kv_iload_n C 227 rfl 2 (kdec dk_cX10_calls 123 rfl) rfl rfl ?_
      refine kv_iconst C 228 rfl 1 (kdec dk_cX10_calls 124 rfl) rfl ?_
      refine kv_iadd C 229 rfl (kdec dk_cX10_calls 125 rfl) (fun x51 q53 h52e h52 h52l h52u => ?_)
      try have h52n : x51.toInt = l3_160.toInt + (1 : Int32).toInt := by omega
      clear h52 q53
      refine kv_iconst C 230 rfl 2 (kdec dk_cX10_calls 126 rfl) rfl ?_
      refine kv_iload C 232 rfl 3 (kdec dk_cX10_calls 127 rfl) rfl ?_
      refine kv_imul C 233 rfl (kdec dk_cX10_calls 128 rfl) (fun x54 h55e h55l h55u => ?_)
      obtain ⟨q56, g57⟩ := kf_mul 2 l4_160
      rw [← h55e, c_2] at g57
      try have h55n : x54.toInt = 2 * l4_160.toInt := by omega
      clear g57 q56
      refine kv_iadd C 234 rfl (kdec dk_cX10_calls 129 rfl) (fun x58 q60 h59e h59 h59l h59u => ?_)
      try have h59n : x58.toInt = x51.toInt + x54.toInt := by omega
      clear h59 q60
      refine kv_ldc C 236 rfl 65535 (kdec dk_cX10_calls 130 rfl) mco_TaleMachineModel_104 ?_
      refine kv_iand C 237 rfl (kdec dk_cX10_calls 131 rfl) (fun x61 h62e h62l h62u => ?_)
      have g63 := kf_and65535 h62e
      refine kv_put C 240 rfl 61 15 rfl rfl inX10 (by decide) mfl_TaleMachineModel_170 rfl tyX10 tyX10_ok nmX10 rfl rfl (kdec dk_cX10_calls 132 rfl) rfl rfl (fun w64 u65 => ?_)
      have I66 : kI false w64 := kI_put u65 I47 (show (0 : Int) ≤ (x61 : Int32).toInt by omega) (show (x61 : Int32).toInt ≤ 65535 by omega)
      have F67 : kF [(61, some 13), (61, some 15), (61, some 19), (61, some 20), (64, none), (66, none), (67, none), (68, none), (69, none), (70, none), (71, none)] w w64 := kF_put u65 F48 rfl
      have M68 : kMoT w64 := kMoT_put u65 M49 rfl rfl rfl
      exact kv_vret C hr hlk (kdec dk_cX10_calls 133 rfl) ⟨rfl, I66, F67, M68⟩
    · skip
      exact kv_vret C hr hlk (kdec dk_cX10_calls 89 rfl) ⟨rfl, I_160, F_160, M_160⟩
  have cut90 : ∀ (n_90 : Nat) (w_90 : kw) (l2_90 l3_90 l4_90 l5_90 : Int32), kI false w_90 → kF [(61, some 13), (61, some 15), (61, some 19), (61, some 20), (64, none), (66, none), (67, none), (68, none), (69, none), (70, none), (71, none)] w w_90 → (0 ≤ l2_90.toInt ∧ l2_90.toInt ≤ 255) → (0 ≤ l3_90.toInt ∧ l3_90.toInt ≤ 65535) → (0 ≤ l4_90.toInt ∧ l4_90.toInt ≤ 15) → ((w_90 61 20).toInt ≤ 19) → (1 ≤ l5_90.toInt ∧ l5_90.toInt ≤ 16) → kMoT w_90 → ((17 - l5_90.toInt) : Int) < (n_90 : Int) → kV p l e { frames := 4, cells := 0, slots := 0, locals := 144 } s m args below meth c (kQ below args s D τ ρ (fun o w' => o = none ∧ kI false w' ∧ kF [(61, some 13), (61, some 15), (61, some 19), (61, some 20), (64, none), (66, none), (67, none), (68, none), (69, none), (70, none), (71, none)] w w' ∧ kMoT w')) 7 D τ ρ 90 [(0, .ref (ρ 61)), (2, .int l2_90), (3, .int l3_90), (4, .int l4_90), (5, .int l5_90)] [] w_90 := by
    intro n_90
    induction n_90 with
    | zero => intro w_90 l2_90 l3_90 l4_90 l5_90 I_90 F_90 k90_0 k90_1 k90_2 k90_3 k90_4 M_90 hmz; exfalso; omega
    | succ n_90 ih90 =>
      intro w_90 l2_90 l3_90 l4_90 l5_90 I_90 F_90 k90_0 k90_1 k90_2 k90_3 k90_4 M_90 hm90
      have gl2_90 := kf_rng l2_90
      have gl3_90 := kf_rng l3_90
      have gl4_90 := kf_rng l4_90
      have gl5_90 := kf_rng l5_90
      obtain ⟨x69, e70⟩ : ∃ z : Int32, w_90 61 20 = z := ⟨_, rfl⟩
      have b71 : (0 : Int) ≤ x69.toInt ∧ x69.toInt ≤ 20 := by rw [← e70]; exact I_90 61 20
      have r72 := kMoT_fr M_90
      rw [e70] at r72
      rw [e70] at k90_3
      refine kv_iload C 92 rfl 4 (kdec dk_cX10_calls 49 rfl) rfl ?_
      refine kv_iload C 94 rfl 3 (kdec dk_cX10_calls 50 rfl) rfl ?_
      refine kv_icmp_gt C 97 rfl 160 (kdec dk_cX10_calls 51 rfl) (by decide) (fun d73 => ?_) (fun d73 => ?_)
      · skip
        refine kV.sub [0, 1, 2, 3] (L' := [(0, .ref (ρ 61)), (2, .int l2_90), (3, .int l3_90), (4, .int l4_90)]) rfl ?_
        exact cut160 w_90 l2_90 l3_90 l4_90 I_90 F_90 (by omega) (by omega) (by omega) (by rw [e70]; try omega) M_90
      · skip
        refine kv_aload_n C 98 rfl 0 (kdec dk_cX10_calls 52 rfl) rfl rfl ?_
        obtain ⟨x74, e75⟩ : ∃ z : Int32, w_90 61 13 = z := ⟨_, rfl⟩
        have b76 : (0 : Int) ≤ x74.toInt ∧ x74.toInt ≤ 13 := by rw [← e75]; exact I_90 61 13
        refine kv_get C 101 rfl 61 13 rfl rfl inX10 (by decide) mfl_TaleMachineModel_148 rfl rfl (kdec dk_cX10_calls 53 rfl) e75 ?_
        refine kv_if_ne C 104 rfl 160 (kdec dk_cX10_calls 54 rfl) (by decide) (fun d77 => ?_) (fun d77 => ?_)
        · skip
          refine kV.sub [0, 1, 2, 3] (L' := [(0, .ref (ρ 61)), (2, .int l2_90), (3, .int l3_90), (4, .int l4_90)]) rfl ?_
          exact cut160 w_90 l2_90 l3_90 l4_90 I_90 F_90 (by omega) (by omega) (by omega) (by rw [e70]; try omega) M_90
        · skip
          refine kv_aload_n C 105 rfl 0 (kdec dk_cX10_calls 55 rfl) rfl rfl ?_
          refine kv_iload_n C 106 rfl 2 (kdec dk_cX10_calls 56 rfl) rfl rfl ?_
          refine kv_iconst C 107 rfl 2 (kdec dk_cX10_calls 57 rfl) rfl ?_
          refine kv_iload C 109 rfl 4 (kdec dk_cX10_calls 58 rfl) rfl ?_
          refine kv_imul C 110 rfl (kdec dk_cX10_calls 59 rfl) (fun x78 h79e h79l h79u => ?_)
          obtain ⟨q80, g81⟩ := kf_mul 2 l5_90
          rw [← h79e, c_2] at g81
          try have h79n : x78.toInt = 2 * l5_90.toInt := by omega
          clear g81 q80
          refine kv_iadd C 111 rfl (kdec dk_cX10_calls 60 rfl) (fun x82 q84 h83e h83 h83l h83u => ?_)
          try have h83n : x82.toInt = l3_90.toInt + x78.toInt := by omega
          clear h83 q84
          refine kv_iconst C 112 rfl 1 (kdec dk_cX10_calls 61 rfl) rfl ?_
          refine kv_isub C 113 rfl (kdec dk_cX10_calls 62 rfl) (fun x85 q87 h86e h86 h86l h86u => ?_)
          try have h86n : x85.toInt = x82.toInt - (1 : Int32).toInt := by omega
          clear h86 q87
          refine kv_callVi (As := [.int x85]) (rest := []) C 116 rfl 61 (k_x_wordAt l D τ ρ σ w_90 x85 I_90 ) rfl rfl mml_TaleMachineModel_178 mim_yX10_wordAt mse_yX10_wordAt mcd_yX10_wordAt min_yX10_wordAt hd_yX10_wordAt rfl rfl rfl (by decide) rfl (Nat.le_of_ble_eq_true rfl) (kdec dk_cX10_calls 63 rfl) (fun x92 w88 h89 => ?_)
          obtain ⟨I90, f91, p93, p94⟩ := h89
          have F95 : kF [(61, some 13), (61, some 15), (61, some 19), (61, some 20), (64, none), (66, none), (67, none), (68, none), (69, none), (70, none), (71, none)] w w88 := kF_call F_90 f91 (by decide)
          have M96 : kMoT w88 := kMoT_kF f91 M_90 rfl rfl (fun _ => rfl)
          have g97 := kf_rng x92
          obtain ⟨x98, e99⟩ : ∃ z : Int32, w88 61 13 = z := ⟨_, rfl⟩
          have b100 : (0 : Int) ≤ x98.toInt ∧ x98.toInt ≤ 13 := by rw [← e99]; exact I90 61 13
          rw [e75, e99] at p94
          refine kv_istore C 118 rfl 6 [1, 2, 3, 4, 5, 0] [(0, .ref (ρ 61)), (2, .int l2_90), (3, .int l3_90), (4, .int l4_90), (5, .int l5_90), (6, .int x92)] (kdec dk_cX10_calls 64 rfl) (by decide) rfl ?_
          refine kv_aload_n C 119 rfl 0 (kdec dk_cX10_calls 65 rfl) rfl rfl ?_
          refine kv_getr C 122 rfl 61 25 rfl rfl inX10 (by decide) mfl_TaleMachineModel_37 rfl rfl (kdec dk_cX10_calls 66 rfl) ?_
          refine kv_bipush C 124 rfl 16 (kdec dk_cX10_calls 67 rfl) rfl ?_
          refine kv_aload_n C 125 rfl 0 (kdec dk_cX10_calls 68 rfl) rfl rfl ?_
          have e101 : w88 61 20 = x69 := ((f91 61 20 rfl : w88 61 20 = w_90 61 20).trans e70)
          refine kv_get C 128 rfl 61 20 rfl rfl inX10 (by decide) mfl_TaleMachineModel_139 rfl rfl (kdec dk_cX10_calls 69 rfl) e101 ?_
          refine kv_imul C 129 rfl (kdec dk_cX10_calls 70 rfl) (fun x102 h103e h103l h103u => ?_)
          obtain ⟨q104, g105⟩ := kf_mul 16 x69
          rw [← h103e, c_16] at g105
          try have h103n : x102.toInt = 16 * x69.toInt := by omega
          clear g105 q104
          refine kv_iload C 131 rfl 4 (kdec dk_cX10_calls 71 rfl) rfl ?_
          refine kv_iadd C 132 rfl (kdec dk_cX10_calls 72 rfl) (fun x106 q108 h107e h107 h107l h107u => ?_)
          try have h107n : x106.toInt = x102.toInt + l5_90.toInt := by omega
          clear h107 q108
          refine kv_iload C 134 rfl 4 (kdec dk_cX10_calls 73 rfl) rfl ?_
          refine kv_aload_n C 135 rfl 0 (kdec dk_cX10_calls 74 rfl) rfl rfl ?_
          obtain ⟨x109, e110⟩ : ∃ z : Int32, w 61 45 = z := ⟨_, rfl⟩
          have b111 : (0 : Int) ≤ x109.toInt ∧ x109.toInt ≤ 4 := by rw [← e110]; exact hI 61 45
          have e112 : w88 61 45 = x109 := ((f91 61 45 rfl : w88 61 45 = w_90 61 45).trans ((F_90 61 45 rfl : w_90 61 45 = w 61 45).trans e110))
          refine kv_get C 138 rfl 61 45 rfl rfl inX10 (by decide) mfl_TaleMachineModel_261 rfl rfl (kdec dk_cX10_calls 75 rfl) e112 ?_
          refine kv_icmp_ge C 141 rfl 151 (kdec dk_cX10_calls 76 rfl) (by decide) (fun d113 => ?_) (fun d113 => ?_)
          · skip
            refine kv_iload C 153 rfl 5 (kdec dk_cX10_calls 82 rfl) rfl ?_
            refine kv_iast C 154 rfl 71 rfl (by omega) (by omega) (kdec dk_cX10_calls 83 rfl) (fun w114 u115 => ?_)
            have I116 : kI false w114 := kI_put u115 I90 (show (0 : Int) ≤ (x92 : Int32).toInt by omega) (show (x92 : Int32).toInt ≤ 65535 by omega)
            have F117 : kF [(61, some 13), (61, some 15), (61, some 19), (61, some 20), (64, none), (66, none), (67, none), (68, none), (69, none), (70, none), (71, none)] w w114 := kF_put u115 F95 rfl
            have M118 : kMoT w114 := kMoT_put u115 M96 rfl rfl rfl
            refine kv_iinc C 157 rfl 5 4 [1, 2, 3, 4, 0, 5] (fun v9 => [(0, .ref (ρ 61)), (2, .int l2_90), (3, .int l3_90), (4, .int l4_90), (5, .int v9), (6, .int x92)]) (kdec dk_cX10_calls 84 rfl) rfl (by decide) (fun _ => rfl) 1 rfl (fun x119 q120 h121e h121 h121l h121u => ?_)
            try have h121n : x119.toInt = l5_90.toInt + 1 := by omega
            clear h121 q120
            refine kv_goto C 90 (kdec dk_cX10_calls 85 rfl) (by decide) ?_
            have e122 : w114 61 20 = x69 := ((kup_ne u115 rfl : w114 61 20 = w88 61 20).trans e101)
            refine kV.sub [0, 1, 2, 3, 4] (L' := [(0, .ref (ρ 61)), (2, .int l2_90), (3, .int l3_90), (4, .int l4_90), (5, .int x119)]) rfl ?_
            exact ih90 w114 l2_90 l3_90 l4_90 x119 I116 F117 (by omega) (by omega) (by omega) (by rw [e122]; try omega) (by omega) M118 (by omega)
          · skip
            refine kv_aload_n C 142 rfl 0 (kdec dk_cX10_calls 77 rfl) rfl rfl ?_
            refine kv_getr C 145 rfl 61 44 rfl rfl inX10 (by decide) mfl_TaleMachineModel_77 rfl rfl (kdec dk_cX10_calls 78 rfl) ?_
            refine kv_iload C 147 rfl 4 (kdec dk_cX10_calls 79 rfl) rfl ?_
            obtain ⟨x123, e124⟩ : ∃ z : Int32, w88 84 (l5_90 : Int32).toNatClampNeg = z := ⟨_, rfl⟩
            have b125 : (0 : Int) ≤ x123.toInt ∧ x123.toInt ≤ 65535 := by rw [← e124]; exact I90 84 _
            refine kv_iald C 148 rfl 84 rfl (by omega) (by omega) e124 (kdec dk_cX10_calls 80 rfl) ?_
            refine kv_goto C 153 (kdec dk_cX10_calls 81 rfl) (by decide) ?_
            refine kv_iast C 154 rfl 71 rfl (by omega) (by omega) (kdec dk_cX10_calls 83 rfl) (fun w126 u127 => ?_)
            have I128 : kI false w126 := kI_put u127 I90 (show (0 : Int) ≤ (x123 : Int32).toInt by omega) (show (x123 : Int32).toInt ≤ 65535 by omega)
            have F129 : kF [(61, some 13), (61, some 15), (61, some 19), (61, some 20), (64, none), (66, none), (67, none), (68, none), (69, none), (70, none), (71, none)] w w126 := kF_put u127 F95 rfl
            have M130 : kMoT w126 := kMoT_put u127 M96 rfl rfl rfl
            refine kv_iinc C 157 rfl 5 4 [1, 2, 3, 4, 0, 5] (fun v9 => [(0, .ref (ρ 61)), (2, .int l2_90), (3, .int l3_90), (4, .int l4_90), (5, .int v9), (6, .int x92)]) (kdec dk_cX10_calls 84 rfl) rfl (by decide) (fun _ => rfl) 1 rfl (fun x131 q132 h133e h133 h133l h133u => ?_)
            try have h133n : x131.toInt = l5_90.toInt + 1 := by omega
            clear h133 q132
            refine kv_goto C 90 (kdec dk_cX10_calls 85 rfl) (by decide) ?_
            have e134 : w126 61 20 = x69 := ((kup_ne u127 rfl : w126 61 20 = w88 61 20).trans e101)
            refine kV.sub [0, 1, 2, 3, 4] (L' := [(0, .ref (ρ 61)), (2, .int l2_90), (3, .int l3_90), (4, .int l4_90), (5, .int x131)]) rfl ?_
            exact ih90 w126 l2_90 l3_90 l4_90 x131 I128 F129 (by omega) (by omega) (by omega) (by rw [e134]; try omega) (by omega) M130 (by omega)
  have cut79 : ∀ (w_79 : kw) (l2_79 l3_79 l4_79 : Int32), kI false w_79 → kF [(61, some 13), (61, some 15), (61, some 19), (61, some 20), (64, none), (66, none), (67, none), (68, none), (69, none), (70, none), (71, none)] w w_79 → (0 ≤ l2_79.toInt ∧ l2_79.toInt ≤ 255) → (0 ≤ l3_79.toInt ∧ l3_79.toInt ≤ 65535) → (0 ≤ l4_79.toInt ∧ (l4_79.toInt ≤ 15 ∧ (w_79 61 20).toInt ≤ 19 ∨ ¬ (w_79 61 13).toInt = 0)) → kMoT w_79 → kV p l e { frames := 4, cells := 0, slots := 0, locals := 144 } s m args below meth c (kQ below args s D τ ρ (fun o w' => o = none ∧ kI false w' ∧ kF [(61, some 13), (61, some 15), (61, some 19), (61, some 20), (64, none), (66, none), (67, none), (68, none), (69, none), (70, none), (71, none)] w w' ∧ kMoT w')) 7 D τ ρ 79 [(0, .ref (ρ 61)), (2, .int l2_79), (3, .int l3_79), (4, .int l4_79)] [] w_79 := by
    intro w_79 l2_79 l3_79 l4_79 I_79 F_79 k79_0 k79_1 k79_2 M_79
    have gl2_79 := kf_rng l2_79
    have gl3_79 := kf_rng l3_79
    have gl4_79 := kf_rng l4_79
    obtain ⟨x135, e136⟩ : ∃ z : Int32, w_79 61 20 = z := ⟨_, rfl⟩
    have b137 : (0 : Int) ≤ x135.toInt ∧ x135.toInt ≤ 20 := by rw [← e136]; exact I_79 61 20
    have r138 := kMoT_fr M_79
    rw [e136] at r138
    obtain ⟨x139, e140⟩ : ∃ z : Int32, w_79 61 13 = z := ⟨_, rfl⟩
    have b141 : (0 : Int) ≤ x139.toInt ∧ x139.toInt ≤ 13 := by rw [← e140]; exact I_79 61 13
    rw [e136, e140] at k79_2
    refine kv_aload_n C 80 rfl 0 (kdec dk_cX10_calls 43 rfl) rfl rfl ?_
    refine kv_get C 83 rfl 61 13 rfl rfl inX10 (by decide) mfl_TaleMachineModel_148 rfl rfl (kdec dk_cX10_calls 44 rfl) e140 ?_
    refine kv_if_le C 86 rfl 87 (kdec dk_cX10_calls 45 rfl) (by decide) (fun d142 => ?_) (fun d142 => ?_)
    · skip
      refine kv_iconst C 88 rfl 1 (kdec dk_cX10_calls 47 rfl) rfl ?_
      refine kv_istore C 90 rfl 5 [1, 2, 3, 4, 0] [(0, .ref (ρ 61)), (2, .int l2_79), (3, .int l3_79), (4, .int l4_79), (5, .int 1)] (kdec dk_cX10_calls 48 rfl) (by decide) rfl ?_
      exact cut90 ((((17 - (1 : Int32).toInt)) : Int).toNat + 1) w_79 l2_79 l3_79 l4_79 1 I_79 F_79 (by omega) (by omega) (by omega) (by rw [e136]; try omega) (by omega) M_79 (by omega)
    · skip
      exact kv_vret C hr hlk (kdec dk_cX10_calls 46 rfl) ⟨rfl, I_79, F_79, M_79⟩
  have cut58 : ∀ (w_58 : kw) (l2_58 l3_58 l4_58 : Int32), kI false w_58 → kF [(61, some 13), (61, some 15), (61, some 19), (61, some 20), (64, none), (66, none), (67, none), (68, none), (69, none), (70, none), (71, none)] w w_58 → (0 ≤ l2_58.toInt ∧ l2_58.toInt ≤ 255) → (0 ≤ l3_58.toInt ∧ l3_58.toInt ≤ 65535) → (0 ≤ l4_58.toInt ∧ (l4_58.toInt ≤ 15 ∨ ¬ (w_58 61 13).toInt = 0)) → kMoT w_58 → kV p l e { frames := 4, cells := 0, slots := 0, locals := 144 } s m args below meth c (kQ below args s D τ ρ (fun o w' => o = none ∧ kI false w' ∧ kF [(61, some 13), (61, some 15), (61, some 19), (61, some 20), (64, none), (66, none), (67, none), (68, none), (69, none), (70, none), (71, none)] w w' ∧ kMoT w')) 7 D τ ρ 58 [(0, .ref (ρ 61)), (2, .int l2_58), (3, .int l3_58), (4, .int l4_58)] [] w_58 := by
    intro w_58 l2_58 l3_58 l4_58 I_58 F_58 k58_0 k58_1 k58_2 M_58
    have gl2_58 := kf_rng l2_58
    have gl3_58 := kf_rng l3_58
    have gl4_58 := kf_rng l4_58
    obtain ⟨x143, e144⟩ : ∃ z : Int32, w_58 61 20 = z := ⟨_, rfl⟩
    have b145 : (0 : Int) ≤ x143.toInt ∧ x143.toInt ≤ 20 := by rw [← e144]; exact I_58 61 20
    have r146 := kMoT_fr M_58
    rw [e144] at r146
    obtain ⟨x147, e148⟩ : ∃ z : Int32, w_58 61 13 = z := ⟨_, rfl⟩
    have b149 : (0 : Int) ≤ x147.toInt ∧ x147.toInt ≤ 13 := by rw [← e148]; exact I_58 61 13
    rw [e148] at k58_2
    refine kv_aload_n C 59 rfl 0 (kdec dk_cX10_calls 33 rfl) rfl rfl ?_
    refine kv_get C 62 rfl 61 13 rfl rfl inX10 (by decide) mfl_TaleMachineModel_148 rfl rfl (kdec dk_cX10_calls 34 rfl) e148 ?_
    refine kv_if_ne C 65 rfl 79 (kdec dk_cX10_calls 35 rfl) (by decide) (fun d150 => ?_) (fun d150 => ?_)
    · skip
      exact cut79 w_58 l2_58 l3_58 l4_58 I_58 F_58 (by omega) (by omega) (by rw [e144, e148]; try omega) M_58
    · skip
      refine kv_aload_n C 66 rfl 0 (kdec dk_cX10_calls 36 rfl) rfl rfl ?_
      refine kv_get C 69 rfl 61 20 rfl rfl inX10 (by decide) mfl_TaleMachineModel_139 rfl rfl (kdec dk_cX10_calls 37 rfl) e144 ?_
      refine kv_bipush C 71 rfl 20 (kdec dk_cX10_calls 38 rfl) rfl ?_
      refine kv_icmp_ne C 74 rfl 79 (kdec dk_cX10_calls 39 rfl) (by decide) (fun d151 => ?_) (fun d151 => ?_)
      · skip
        exact cut79 w_58 l2_58 l3_58 l4_58 I_58 F_58 (by omega) (by omega) (by rw [e144, e148]; try omega) M_58
      · skip
        refine kv_aload_n C 75 rfl 0 (kdec dk_cX10_calls 40 rfl) rfl rfl ?_
        refine kv_iconst C 76 rfl 3 (kdec dk_cX10_calls 41 rfl) rfl ?_
        refine kv_callVv (As := [.int 3]) (rest := []) C 79 rfl 61 (k_x_halts l D τ ρ σ w_58 3 I_58 (by omega)) rfl rfl mml_TaleMachineModel_160 mim_yX10_halts mse_yX10_halts mcd_yX10_halts min_yX10_halts hd_yX10_halts rfl rfl rfl (by decide) rfl (Nat.le_of_ble_eq_true rfl) (kdec dk_cX10_calls 42 rfl) (fun w152 h153 => ?_)
        obtain ⟨I154, f155, p157⟩ := h153
        have F158 : kF [(61, some 13), (61, some 15), (61, some 19), (61, some 20), (64, none), (66, none), (67, none), (68, none), (69, none), (70, none), (71, none)] w w152 := kF_call F_58 f155 (by decide)
        have M159 : kMoT w152 := kMoT_kF f155 M_58 rfl rfl (fun _ => rfl)
        obtain ⟨x160, e161⟩ : ∃ z : Int32, w152 61 13 = z := ⟨_, rfl⟩
        have b162 : (0 : Int) ≤ x160.toInt ∧ x160.toInt ≤ 13 := by rw [← e161]; exact I154 61 13
        rw [e148, e161] at p157
        have e163 : w152 61 20 = x143 := ((f155 61 20 rfl : w152 61 20 = w_58 61 20).trans e144)
        exact cut79 w152 l2_58 l3_58 l4_58 I154 F158 (by omega) (by omega) (by rw [e163, e161]; try omega) M159
  refine kv_aload_n C 1 rfl 0 (kdec dk_cX10_calls 0 rfl) rfl rfl ?_
  refine kv_callVi (As := []) (rest := []) C 4 rfl 61 (k_x_next l D τ ρ σ w  hI ) rfl rfl mml_TaleMachineModel_194 mim_yX10_next mse_yX10_next mcd_yX10_next min_yX10_next hd_yX10_next rfl rfl rfl (by decide) rfl (Nat.le_of_ble_eq_true rfl) (kdec dk_cX10_calls 1 rfl) (fun x168 w164 h165 => ?_)
  obtain ⟨I166, f167, p169, p170⟩ := h165
  have F171 : kF [(61, some 13), (61, some 15), (61, some 19), (61, some 20), (64, none), (66, none), (67, none), (68, none), (69, none), (70, none), (71, none)] w w164 := kF_call hF0 f167 (by decide)
  have M172 : kMoT w164 := kMoT_kF f167 hM rfl rfl (fun _ => rfl)
  have g173 := kf_rng x168
  obtain ⟨x174, e175⟩ : ∃ z : Int32, w 61 13 = z := ⟨_, rfl⟩
  have b176 : (0 : Int) ≤ x174.toInt ∧ x174.toInt ≤ 13 := by rw [← e175]; exact hI 61 13
  obtain ⟨x177, e178⟩ : ∃ z : Int32, w164 61 13 = z := ⟨_, rfl⟩
  have b179 : (0 : Int) ≤ x177.toInt ∧ x177.toInt ≤ 13 := by rw [← e178]; exact I166 61 13
  rw [e175, e178] at p170
  refine kv_istore_n C 5 rfl 2 [1, 2, 0] [(0, .ref (ρ 61)), (1, .int a1), (2, .int x168)] (kdec dk_cX10_calls 2 rfl) rfl (by decide) rfl ?_
  refine kv_aload_n C 6 rfl 0 (kdec dk_cX10_calls 3 rfl) rfl rfl ?_
  refine kv_get C 9 rfl 61 13 rfl rfl inX10 (by decide) mfl_TaleMachineModel_148 rfl rfl (kdec dk_cX10_calls 4 rfl) e178 ?_
  refine kv_if_le C 12 rfl 13 (kdec dk_cX10_calls 5 rfl) (by decide) (fun d180 => ?_) (fun d180 => ?_)
  · skip
    refine kv_iload_n C 14 rfl 1 (kdec dk_cX10_calls 7 rfl) rfl rfl ?_
    refine kv_if_ne C 17 rfl 24 (kdec dk_cX10_calls 8 rfl) (by decide) (fun d181 => ?_) (fun d181 => ?_)
    · skip
      refine kv_iconst C 25 rfl 2 (kdec dk_cX10_calls 14 rfl) rfl ?_
      refine kv_iload_n C 26 rfl 1 (kdec dk_cX10_calls 15 rfl) rfl rfl ?_
      refine kv_imul C 27 rfl (kdec dk_cX10_calls 16 rfl) (fun x182 h183e h183l h183u => ?_)
      obtain ⟨q184, g185⟩ := kf_mul 2 a1
      rw [← h183e, c_2] at g185
      try have h183n : x182.toInt = 2 * a1.toInt := by omega
      clear g185 q184
      refine kv_ldc C 29 rfl 65535 (kdec dk_cX10_calls 17 rfl) mco_TaleMachineModel_104 ?_
      refine kv_iand C 30 rfl (kdec dk_cX10_calls 18 rfl) (fun x186 h187e h187l h187u => ?_)
      have g188 := kf_and65535 h187e
      refine kv_istore_n C 31 rfl 3 [1, 2, 3, 0] [(0, .ref (ρ 61)), (1, .int a1), (2, .int x168), (3, .int x186)] (kdec dk_cX10_calls 19 rfl) rfl (by decide) rfl ?_
      refine kv_aload_n C 32 rfl 0 (kdec dk_cX10_calls 20 rfl) rfl rfl ?_
      refine kv_iload_n C 33 rfl 3 (kdec dk_cX10_calls 21 rfl) rfl rfl ?_
      refine kv_callVi (As := [.int x186]) (rest := []) C 36 rfl 61 (k_x_byteAt l D τ ρ σ w164 x186 I166 ) rfl rfl mml_TaleMachineModel_163 mim_yX10_byteAt mse_yX10_byteAt mcd_yX10_byteAt min_yX10_byteAt hd_yX10_byteAt rfl rfl rfl (by decide) rfl (Nat.le_of_ble_eq_true rfl) (kdec dk_cX10_calls 22 rfl) (fun x193 w189 h190 => ?_)
      obtain ⟨I191, f192, p194, p195, p196⟩ := h190
      have F197 : kF [(61, some 13), (61, some 15), (61, some 19), (61, some 20), (64, none), (66, none), (67, none), (68, none), (69, none), (70, none), (71, none)] w w189 := kF_call F171 f192 (by decide)
      have M198 : kMoT w189 := kMoT_kF f192 M172 rfl rfl (fun _ => rfl)
      have g199 := kf_rng x193
      obtain ⟨x200, e201⟩ : ∃ z : Int32, w189 61 13 = z := ⟨_, rfl⟩
      have b202 : (0 : Int) ≤ x200.toInt ∧ x200.toInt ≤ 13 := by rw [← e201]; exact I191 61 13
      rw [e178, e201] at p195
      rw [e201] at p196
      refine kv_istore C 38 rfl 4 [1, 2, 3, 4, 0] [(0, .ref (ρ 61)), (1, .int a1), (2, .int x168), (3, .int x186), (4, .int x193)] (kdec dk_cX10_calls 23 rfl) (by decide) rfl ?_
      refine kv_aload_n C 39 rfl 0 (kdec dk_cX10_calls 24 rfl) rfl rfl ?_
      refine kv_get C 42 rfl 61 13 rfl rfl inX10 (by decide) mfl_TaleMachineModel_148 rfl rfl (kdec dk_cX10_calls 25 rfl) e201 ?_
      refine kv_if_ne C 45 rfl 58 (kdec dk_cX10_calls 26 rfl) (by decide) (fun d203 => ?_) (fun d203 => ?_)
      · skip
        refine kV.sub [0, 2, 3, 4] (L' := [(0, .ref (ρ 61)), (2, .int x168), (3, .int x186), (4, .int x193)]) rfl ?_
        exact cut58 w189 x168 x186 x193 I191 F197 (by omega) (by omega) (by rw [e201]; try omega) M198
      · skip
        refine kv_iload C 47 rfl 4 (kdec dk_cX10_calls 27 rfl) rfl ?_
        refine kv_bipush C 49 rfl 15 (kdec dk_cX10_calls 28 rfl) rfl ?_
        refine kv_icmp_le C 52 rfl 58 (kdec dk_cX10_calls 29 rfl) (by decide) (fun d204 => ?_) (fun d204 => ?_)
        · skip
          refine kV.sub [0, 2, 3, 4] (L' := [(0, .ref (ρ 61)), (2, .int x168), (3, .int x186), (4, .int x193)]) rfl ?_
          exact cut58 w189 x168 x186 x193 I191 F197 (by omega) (by omega) (by rw [e201]; try omega) M198
        · skip
          refine kv_aload_n C 53 rfl 0 (kdec dk_cX10_calls 30 rfl) rfl rfl ?_
          refine kv_bipush C 55 rfl 8 (kdec dk_cX10_calls 31 rfl) rfl ?_
          refine kv_callVv (As := [.int 8]) (rest := []) C 58 rfl 61 (k_x_halts l D τ ρ σ w189 8 I191 (by omega)) rfl rfl mml_TaleMachineModel_160 mim_yX10_halts mse_yX10_halts mcd_yX10_halts min_yX10_halts hd_yX10_halts rfl rfl rfl (by decide) rfl (Nat.le_of_ble_eq_true rfl) (kdec dk_cX10_calls 32 rfl) (fun w205 h206 => ?_)
          obtain ⟨I207, f208, p210⟩ := h206
          have F211 : kF [(61, some 13), (61, some 15), (61, some 19), (61, some 20), (64, none), (66, none), (67, none), (68, none), (69, none), (70, none), (71, none)] w w205 := kF_call F197 f208 (by decide)
          have M212 : kMoT w205 := kMoT_kF f208 M198 rfl rfl (fun _ => rfl)
          obtain ⟨x213, e214⟩ : ∃ z : Int32, w205 61 13 = z := ⟨_, rfl⟩
          have b215 : (0 : Int) ≤ x213.toInt ∧ x213.toInt ≤ 13 := by rw [← e214]; exact I207 61 13
          rw [e201, e214] at p210
          refine kV.sub [0, 2, 3, 4] (L' := [(0, .ref (ρ 61)), (2, .int x168), (3, .int x186), (4, .int x193)]) rfl ?_
          exact cut58 w205 x168 x186 x193 I207 F211 (by omega) (by omega) (by rw [e214]; try omega) M212
    · skip
      refine kv_aload_n C 18 rfl 0 (kdec dk_cX10_calls 9 rfl) rfl rfl ?_
      refine kv_iload_n C 19 rfl 2 (kdec dk_cX10_calls 10 rfl) rfl rfl ?_
      refine kv_iconst C 20 rfl 0 (kdec dk_cX10_calls 11 rfl) rfl ?_
      refine kv_callVv (As := [.int x168, .int 0]) (rest := []) C 23 rfl 61 (k_x_set l D τ ρ σ w164 x168 0 I166 (by omega) M172) rfl rfl mml_TaleMachineModel_191 mim_yX10_set mse_yX10_set mcd_yX10_set min_yX10_set hd_yX10_set rfl rfl rfl (by decide) rfl (Nat.le_of_ble_eq_true rfl) (kdec dk_cX10_calls 12 rfl) (fun w216 h217 => ?_)
      obtain ⟨I218, f219, M221⟩ := h217
      have F222 : kF [(61, some 13), (61, some 15), (61, some 19), (61, some 20), (64, none), (66, none), (67, none), (68, none), (69, none), (70, none), (71, none)] w w216 := kF_call F171 f219 (by decide)
      have e223 : w216 61 20 = x2 := ((f219 61 20 rfl : w216 61 20 = w164 61 20).trans ((f167 61 20 rfl : w164 61 20 = w 61 20).trans e3))
      have r224 := kMoT_fr M221
      rw [e223] at r224
      exact kv_vret C hr hlk (kdec dk_cX10_calls 13 rfl) ⟨rfl, I218, F222, M221⟩
  · skip
    exact kv_vret C hr hlk (kdec dk_cX10_calls 6 rfl) ⟨rfl, I166, F171, M172⟩

set_option maxHeartbeats 4000000 in
set_option maxRecDepth 100000 in
theorem k_x_draws (l : Launch) (D : va_G) (τ : Nat → ClassId) (ρ σ : Nat → Nat) (w : kw) (a1 : Int32) (hI : kI false w) (hM : kMoT w) :
    kM l D τ ρ σ yX10_draws cX10_draws 3 none { frames := 5, cells := 0, slots := 0, locals := 180 } [.ref (ρ 61), .int a1] w
      (fun o w' => o = none ∧ kI false w' ∧ kF [(61, some 13), (61, some 15), (61, some 17), (61, some 19), (64, none), (66, none), (71, none)] w w' ∧ kMoT w') := by
  refine kM_of (own := "TaleMachineModel") rfl (by decide) (Nat.le_of_ble_eq_true rfl) ?_
  intro p e s m args below meth c C hr hlk
  have hF0 : kF [(61, some 13), (61, some 15), (61, some 17), (61, some 19), (64, none), (66, none), (71, none)] w w := kF.rf
  have c_0 : (0 : Int32).toInt = 0 := by decide
  have c_1 : (1 : Int32).toInt = 1 := by decide
  have c_16 : (16 : Int32).toInt = 16 := by decide
  have c_12345 : (12345 : Int32).toInt = 12345 := by decide
  have c_32767 : (32767 : Int32).toInt = 32767 := by decide
  have c_1103515245 : (1103515245 : Int32).toInt = 1103515245 := by decide
  refine kV.L (L' := [(0, .ref (ρ 61)), (1, .int a1)]) rfl ?_
  have g1 := kf_rng a1
  obtain ⟨x2, e3⟩ : ∃ z : Int32, w 61 20 = z := ⟨_, rfl⟩
  have b4 : (0 : Int) ≤ x2.toInt ∧ x2.toInt ≤ 20 := by rw [← e3]; exact hI 61 20
  have r5 := kMoT_fr hM
  rw [e3] at r5
  have cut51 : ∀ (w_51 : kw) (l2_51 : Int32), kI false w_51 → kF [(61, some 13), (61, some 15), (61, some 17), (61, some 19), (64, none), (66, none), (71, none)] w w_51 → kMoT w_51 → kV p l e { frames := 5, cells := 0, slots := 0, locals := 180 } s m args below meth c (kQ below args s D τ ρ (fun o w' => o = none ∧ kI false w' ∧ kF [(61, some 13), (61, some 15), (61, some 17), (61, some 19), (64, none), (66, none), (71, none)] w w' ∧ kMoT w')) 3 D τ ρ 51 [(0, .ref (ρ 61)), (2, .int l2_51)] [] w_51 := by
    intro w_51 l2_51 I_51 F_51  M_51
    have gl2_51 := kf_rng l2_51
    have e6 : w_51 61 20 = x2 := ((F_51 61 20 rfl : w_51 61 20 = w 61 20).trans e3)
    have r7 := kMoT_fr M_51
    rw [e6] at r7
    refine kv_aload_n C 52 rfl 0 (kdec dk_cX10_draws 30 rfl) rfl rfl ?_
    refine kv_iload_n C 53 rfl 1 (kdec dk_cX10_draws 31 rfl) rfl rfl ?_
    refine kv_callVv (As := [.int l2_51]) (rest := []) C 56 rfl 61 (k_x_answers l D τ ρ σ w_51 l2_51 I_51 M_51) rfl rfl mml_TaleMachineModel_237 mim_yX10_answers mse_yX10_answers mcd_yX10_answers min_yX10_answers hd_yX10_answers rfl rfl rfl (by decide) rfl (Nat.le_of_ble_eq_true rfl) (kdec dk_cX10_draws 32 rfl) (fun w8 h9 => ?_)
    obtain ⟨I10, f11, M13⟩ := h9
    have F14 : kF [(61, some 13), (61, some 15), (61, some 17), (61, some 19), (64, none), (66, none), (71, none)] w w8 := kF_call F_51 f11 (by decide)
    have e15 : w8 61 20 = x2 := ((f11 61 20 rfl : w8 61 20 = w_51 61 20).trans e6)
    have r16 := kMoT_fr M13
    rw [e15] at r16
    exact kv_vret C hr hlk (kdec dk_cX10_draws 33 rfl) ⟨rfl, I10, F14, M13⟩
  refine kv_iconst C 1 rfl 0 (kdec dk_cX10_draws 0 rfl) rfl ?_
  refine kv_istore_n C 2 rfl 2 [1, 2, 0] [(0, .ref (ρ 61)), (1, .int a1), (2, .int 0)] (kdec dk_cX10_draws 1 rfl) rfl (by decide) rfl ?_
  refine kv_iload_n C 3 rfl 1 (kdec dk_cX10_draws 2 rfl) rfl rfl ?_
  refine kv_if_le C 6 rfl 41 (kdec dk_cX10_draws 3 rfl) (by decide) (fun d17 => ?_) (fun d17 => ?_)
  · skip
    refine kv_iload_n C 42 rfl 1 (kdec dk_cX10_draws 24 rfl) rfl rfl ?_
    refine kv_if_ge C 45 rfl 51 (kdec dk_cX10_draws 25 rfl) (by decide) (fun d18 => ?_) (fun d18 => ?_)
    · skip
      refine kV.sub [0, 2] (L' := [(0, .ref (ρ 61)), (2, .int 0)]) rfl ?_
      exact cut51 w 0 hI hF0 hM
    · skip
      refine kv_aload_n C 46 rfl 0 (kdec dk_cX10_draws 26 rfl) rfl rfl ?_
      refine kv_iload_n C 47 rfl 1 (kdec dk_cX10_draws 27 rfl) rfl rfl ?_
      refine kv_ineg C 48 rfl (kdec dk_cX10_draws 28 rfl) (fun x19 h20e h20l h20u => ?_)
      refine kv_put C 51 rfl 61 17 rfl rfl inX10 (by decide) mfl_TaleMachineModel_154 rfl tyX10 tyX10_ok nmX10 rfl rfl (kdec dk_cX10_draws 29 rfl) rfl rfl (fun w21 u22 => ?_)
      have I23 : kI false w21 := kI_put u22 hI (kf_rng _).1 (kf_rng _).2
      have F24 : kF [(61, some 13), (61, some 15), (61, some 17), (61, some 19), (64, none), (66, none), (71, none)] w w21 := kF_put u22 hF0 rfl
      have M25 : kMoT w21 := kMoT_put u22 hM rfl rfl rfl
      refine kV.sub [0, 2] (L' := [(0, .ref (ρ 61)), (2, .int 0)]) rfl ?_
      exact cut51 w21 0 I23 F24 M25
  · skip
    refine kv_aload_n C 7 rfl 0 (kdec dk_cX10_draws 4 rfl) rfl rfl ?_
    refine kv_aload_n C 8 rfl 0 (kdec dk_cX10_draws 5 rfl) rfl rfl ?_
    obtain ⟨x26, e27⟩ : ∃ z : Int32, w 61 17 = z := ⟨_, rfl⟩
    have b28 : (-2147483648 : Int) ≤ x26.toInt ∧ x26.toInt ≤ 2147483647 := by rw [← e27]; exact hI 61 17
    refine kv_get C 11 rfl 61 17 rfl rfl inX10 (by decide) mfl_TaleMachineModel_154 rfl rfl (kdec dk_cX10_draws 6 rfl) e27 ?_
    refine kv_ldcw C 14 rfl 1103515245 (kdec dk_cX10_draws 7 rfl) mco_TaleMachineModel_335 ?_
    refine kv_imul C 15 rfl (kdec dk_cX10_draws 8 rfl) (fun x29 h30e h30l h30u => ?_)
    obtain ⟨q31, g32⟩ := kf_mul x26 1103515245
    rw [← h30e, c_1103515245] at g32
    try have h30n : x29.toInt = 1103515245 * x26.toInt := by omega
    clear g32 q31
    refine kv_sipush C 18 rfl 12345 (kdec dk_cX10_draws 9 rfl) rfl ?_
    refine kv_iadd C 19 rfl (kdec dk_cX10_draws 10 rfl) (fun x33 q35 h34e h34 h34l h34u => ?_)
    try have h34n : x33.toInt = x29.toInt + (12345 : Int32).toInt := by omega
    clear h34 q35
    refine kv_put C 22 rfl 61 17 rfl rfl inX10 (by decide) mfl_TaleMachineModel_154 rfl tyX10 tyX10_ok nmX10 rfl rfl (kdec dk_cX10_draws 11 rfl) rfl rfl (fun w36 u37 => ?_)
    have I38 : kI false w36 := kI_put u37 hI (kf_rng _).1 (kf_rng _).2
    have F39 : kF [(61, some 13), (61, some 15), (61, some 17), (61, some 19), (64, none), (66, none), (71, none)] w w36 := kF_put u37 hF0 rfl
    have M40 : kMoT w36 := kMoT_put u37 hM rfl rfl rfl
    refine kv_aload_n C 23 rfl 0 (kdec dk_cX10_draws 12 rfl) rfl rfl ?_
    refine kv_get C 26 rfl 61 17 rfl rfl inX10 (by decide) mfl_TaleMachineModel_154 rfl rfl (kdec dk_cX10_draws 13 rfl) (kup_eq u37) ?_
    refine kv_bipush C 28 rfl 16 (kdec dk_cX10_draws 14 rfl) rfl ?_
    refine kv_ishr C 29 rfl (kdec dk_cX10_draws 15 rfl) (fun x41 h42e h42l h42u => ?_)
    refine kv_sipush C 32 rfl 32767 (kdec dk_cX10_draws 16 rfl) rfl ?_
    refine kv_iand C 33 rfl (kdec dk_cX10_draws 17 rfl) (fun x43 h44e h44l h44u => ?_)
    have g45 := kf_and32767 h44e
    refine kv_iload_n C 34 rfl 1 (kdec dk_cX10_draws 18 rfl) rfl rfl ?_
    refine kv_irem C 35 rfl (kdec dk_cX10_draws 19 rfl) (fun h9 => by have := kc_eq_t0 h9; omega) (fun x46 h47e h47l h47u => ?_)
    refine kv_iconst C 36 rfl 1 (kdec dk_cX10_draws 20 rfl) rfl ?_
    refine kv_iadd C 37 rfl (kdec dk_cX10_draws 21 rfl) (fun x48 q50 h49e h49 h49l h49u => ?_)
    try have h49n : x48.toInt = x46.toInt + (1 : Int32).toInt := by omega
    clear h49 q50
    refine kv_istore_n C 38 rfl 2 [1, 2, 0] [(0, .ref (ρ 61)), (1, .int a1), (2, .int x48)] (kdec dk_cX10_draws 22 rfl) rfl (by decide) rfl ?_
    refine kv_goto C 51 (kdec dk_cX10_draws 23 rfl) (by decide) ?_
    refine kV.sub [0, 2] (L' := [(0, .ref (ρ 61)), (2, .int x48)]) rfl ?_
    exact cut51 w36 x48 I38 F39 M40

set_option maxHeartbeats 4000000 in
set_option maxRecDepth 100000 in
theorem k_x_two (l : Launch) (D : va_G) (τ : Nat → ClassId) (ρ σ : Nat → Nat) (w : kw) (a1 : Int32) (hI : kI false w) (hM : kMoT w) :
    kM l D τ ρ σ yX10_two cX10_two 5 none { frames := 8, cells := 0, slots := 0, locals := 288 } [.ref (ρ 61), .int a1] w
      (fun o w' => o = none ∧ kI false w' ∧ kF [(61, some 13), (61, some 15), (61, some 19), (61, some 20), (64, none), (66, none), (71, none)] w w' ∧ kMoT w') := by
  refine kM_of (own := "TaleMachineModel") rfl (by decide) (Nat.le_of_ble_eq_true rfl) ?_
  intro p e s m args below meth c C hr hlk
  have hF0 : kF [(61, some 13), (61, some 15), (61, some 19), (61, some 20), (64, none), (66, none), (71, none)] w w := kF.rf
  have c_m4 : (-4 : Int32).toInt = -4 := by decide
  have c_m1 : (-1 : Int32).toInt = -1 := by decide
  have c_0 : (0 : Int32).toInt = 0 := by decide
  have c_1 : (1 : Int32).toInt = 1 := by decide
  have c_2 : (2 : Int32).toInt = 2 := by decide
  have c_4 : (4 : Int32).toInt = 4 := by decide
  have c_6 : (6 : Int32).toInt = 6 := by decide
  have c_65535 : (65535 : Int32).toInt = 65535 := by decide
  refine kV.L (L' := [(0, .ref (ρ 61)), (1, .int a1)]) rfl ?_
  have g1 := kf_rng a1
  obtain ⟨x2, e3⟩ : ∃ z : Int32, w 61 20 = z := ⟨_, rfl⟩
  have b4 : (0 : Int) ≤ x2.toInt ∧ x2.toInt ≤ 20 := by rw [← e3]; exact hI 61 20
  have r5 := kMoT_fr hM
  rw [e3] at r5
  have cut472 : ∀ (w_472 : kw), kI false w_472 → kF [(61, some 13), (61, some 15), (61, some 19), (61, some 20), (64, none), (66, none), (71, none)] w w_472 → kMoT w_472 → kV p l e { frames := 8, cells := 0, slots := 0, locals := 288 } s m args below meth c (kQ below args s D τ ρ (fun o w' => o = none ∧ kI false w' ∧ kF [(61, some 13), (61, some 15), (61, some 19), (61, some 20), (64, none), (66, none), (71, none)] w w' ∧ kMoT w')) 5 D τ ρ 472 [] [] w_472 := by
    intro w_472  I_472 F_472  M_472
    obtain ⟨x6, e7⟩ : ∃ z : Int32, w_472 61 20 = z := ⟨_, rfl⟩
    have b8 : (0 : Int) ≤ x6.toInt ∧ x6.toInt ≤ 20 := by rw [← e7]; exact I_472 61 20
    have r9 := kMoT_fr M_472
    rw [e7] at r9
    exact kv_vret C hr hlk (kdec dk_cX10_two 211 rfl) ⟨rfl, I_472, F_472, M_472⟩
  have cut18 : ∀ (w_18 : kw) (l1_18 : Int32), kI false w_18 → kF [(61, some 13), (61, some 15), (61, some 19), (61, some 20), (64, none), (66, none), (71, none)] w w_18 → (1 ≤ l1_18.toInt ∧ l1_18.toInt ≤ 24 ∨ ¬ (w_18 61 13).toInt = 0) → kMoT w_18 → kV p l e { frames := 8, cells := 0, slots := 0, locals := 288 } s m args below meth c (kQ below args s D τ ρ (fun o w' => o = none ∧ kI false w' ∧ kF [(61, some 13), (61, some 15), (61, some 19), (61, some 20), (64, none), (66, none), (71, none)] w w' ∧ kMoT w')) 5 D τ ρ 18 [(0, .ref (ρ 61)), (1, .int l1_18)] [] w_18 := by
    intro w_18 l1_18 I_18 F_18 k18_0 M_18
    have gl1_18 := kf_rng l1_18
    obtain ⟨x10, e11⟩ : ∃ z : Int32, w_18 61 20 = z := ⟨_, rfl⟩
    have b12 : (0 : Int) ≤ x10.toInt ∧ x10.toInt ≤ 20 := by rw [← e11]; exact I_18 61 20
    have r13 := kMoT_fr M_18
    rw [e11] at r13
    obtain ⟨x14, e15⟩ : ∃ z : Int32, w_18 61 13 = z := ⟨_, rfl⟩
    have b16 : (0 : Int) ≤ x14.toInt ∧ x14.toInt ≤ 13 := by rw [← e15]; exact I_18 61 13
    rw [e15] at k18_0
    refine kv_aload_n C 19 rfl 0 (kdec dk_cX10_two 9 rfl) rfl rfl ?_
    refine kv_iconst C 20 rfl 2 (kdec dk_cX10_two 10 rfl) rfl ?_
    refine kv_callVi (As := [.int 2]) (rest := []) C 23 rfl 61 (k_x_has l D τ ρ σ w_18 2 I_18 ) rfl rfl mml_TaleMachineModel_280 mim_yX10_has mse_yX10_has mcd_yX10_has min_yX10_has hd_yX10_has rfl rfl rfl (by decide) rfl (Nat.le_of_ble_eq_true rfl) (kdec dk_cX10_two 11 rfl) (fun x21 w17 h18 => ?_)
    obtain ⟨I19, f20, p22, p23, p24⟩ := h18
    have F25 : kF [(61, some 13), (61, some 15), (61, some 19), (61, some 20), (64, none), (66, none), (71, none)] w w17 := kF_call F_18 f20 (by decide)
    have M26 : kMoT w17 := kMoT_kF f20 M_18 rfl rfl (fun _ => rfl)
    have g27 := kf_rng x21
    obtain ⟨x28, e29⟩ : ∃ z : Int32, w17 61 13 = z := ⟨_, rfl⟩
    have b30 : (0 : Int) ≤ x28.toInt ∧ x28.toInt ≤ 13 := by rw [← e29]; exact I19 61 13
    rw [e29] at p22
    rw [e15, e29] at p23
    refine kv_if_ne C 26 rfl 27 (kdec dk_cX10_two 12 rfl) (by decide) (fun d31 => ?_) (fun d31 => ?_)
    · skip
      refine kv_aload_n C 28 rfl 0 (kdec dk_cX10_two 14 rfl) rfl rfl ?_
      refine kv_getr C 31 rfl 61 44 rfl rfl inX10 (by decide) mfl_TaleMachineModel_77 rfl rfl (kdec dk_cX10_two 15 rfl) ?_
      refine kv_iconst C 32 rfl 0 (kdec dk_cX10_two 16 rfl) rfl ?_
      obtain ⟨x32, e33⟩ : ∃ z : Int32, w 84 0 = z := ⟨_, rfl⟩
      have b34 : (0 : Int) ≤ x32.toInt ∧ x32.toInt ≤ 65535 := by rw [← e33]; exact hI 84 0
      have e35 : w17 84 0 = x32 := ((f20 84 0 rfl : w17 84 0 = w_18 84 0).trans ((F_18 84 0 rfl : w_18 84 0 = w 84 0).trans e33))
      refine kv_iald C 33 rfl 84 rfl (by omega) (by omega) (show w17 84 (0 : Int32).toNatClampNeg = x32 from e35) (kdec dk_cX10_two 17 rfl) ?_
      refine kv_istore_n C 34 rfl 2 [1, 2, 0] [(0, .ref (ρ 61)), (1, .int l1_18), (2, .int x32)] (kdec dk_cX10_two 18 rfl) rfl (by decide) rfl ?_
      refine kv_aload_n C 35 rfl 0 (kdec dk_cX10_two 19 rfl) rfl rfl ?_
      refine kv_getr C 38 rfl 61 44 rfl rfl inX10 (by decide) mfl_TaleMachineModel_77 rfl rfl (kdec dk_cX10_two 20 rfl) ?_
      refine kv_iconst C 39 rfl 1 (kdec dk_cX10_two 21 rfl) rfl ?_
      obtain ⟨x36, e37⟩ : ∃ z : Int32, w 84 1 = z := ⟨_, rfl⟩
      have b38 : (0 : Int) ≤ x36.toInt ∧ x36.toInt ≤ 65535 := by rw [← e37]; exact hI 84 1
      have e39 : w17 84 1 = x36 := ((f20 84 1 rfl : w17 84 1 = w_18 84 1).trans ((F_18 84 1 rfl : w_18 84 1 = w 84 1).trans e37))
      refine kv_iald C 40 rfl 84 rfl (by omega) (by omega) (show w17 84 (1 : Int32).toNatClampNeg = x36 from e39) (kdec dk_cX10_two 22 rfl) ?_
      refine kv_istore_n C 41 rfl 3 [1, 2, 3, 0] [(0, .ref (ρ 61)), (1, .int l1_18), (2, .int x32), (3, .int x36)] (kdec dk_cX10_two 23 rfl) rfl (by decide) rfl ?_
      refine kv_iload_n C 42 rfl 1 (kdec dk_cX10_two 24 rfl) rfl rfl ?_
      by_cases d40 : l1_18.toInt = 1
      · skip
        refine kv_tableIn C 1 132 (kdec dk_cX10_two 25 rfl) d40 (by decide) (by decide) rfl (by decide) ?_
        refine kv_aload_n C 133 rfl 0 (kdec dk_cX10_two 26 rfl) rfl rfl ?_
        refine kv_aload_n C 134 rfl 0 (kdec dk_cX10_two 27 rfl) rfl rfl ?_
        refine kv_iload_n C 135 rfl 2 (kdec dk_cX10_two 28 rfl) rfl rfl ?_
        refine kv_callVi (As := [.int x32]) (rest := [.ref (ρ 61)]) C 138 rfl 61 (k_x_isOneOf l D τ ρ σ w17 x32 I19 ) rfl rfl mml_TaleMachineModel_283 mim_yX10_isOneOf mse_yX10_isOneOf mcd_yX10_isOneOf min_yX10_isOneOf hd_yX10_isOneOf rfl rfl rfl (by decide) rfl (Nat.le_of_ble_eq_true rfl) (kdec dk_cX10_two 29 rfl) (fun x45 w41 h42 => ?_)
        obtain ⟨I43, f44, p46⟩ := h42
        have F47 : kF [(61, some 13), (61, some 15), (61, some 19), (61, some 20), (64, none), (66, none), (71, none)] w w41 := kF_call F25 f44 (by decide)
        have M48 : kMoT w41 := kMoT_kF f44 M26 rfl rfl (fun _ => rfl)
        have g49 := kf_rng x45
        refine kv_callVv (As := [.int x45]) (rest := []) C 141 rfl 61 (k_x_branches l D τ ρ σ w41 x45 I43 M48) rfl rfl mml_TaleMachineModel_227 mim_yX10_branches mse_yX10_branches mcd_yX10_branches min_yX10_branches hd_yX10_branches rfl rfl rfl (by decide) rfl (Nat.le_of_ble_eq_true rfl) (kdec dk_cX10_two 30 rfl) (fun w50 h51 => ?_)
        obtain ⟨I52, f53, M55⟩ := h51
        have F56 : kF [(61, some 13), (61, some 15), (61, some 19), (61, some 20), (64, none), (66, none), (71, none)] w w50 := kF_call F47 f53 (by decide)
        obtain ⟨x57, e58⟩ : ∃ z : Int32, w50 61 20 = z := ⟨_, rfl⟩
        have b59 : (0 : Int) ≤ x57.toInt ∧ x57.toInt ≤ 20 := by rw [← e58]; exact I52 61 20
        have r60 := kMoT_fr M55
        rw [e58] at r60
        refine kv_goto C 472 (kdec dk_cX10_two 31 rfl) (by decide) ?_
        refine kV.sub [] (L' := []) rfl ?_
        exact cut472 w50  I52 F56 M55
      by_cases d61 : l1_18.toInt = 2
      · skip
        refine kv_tableIn C 2 144 (kdec dk_cX10_two 25 rfl) d61 (by decide) (by decide) rfl (by decide) ?_
        refine kv_aload_n C 145 rfl 0 (kdec dk_cX10_two 32 rfl) rfl rfl ?_
        refine kv_iload_n C 146 rfl 2 (kdec dk_cX10_two 33 rfl) rfl rfl ?_
        refine kv_callSi (As := [.int x32]) (rest := [.ref (ρ 61)]) C 149 rfl (k_x_signed l D τ ρ σ w17 x32 I19 ) mml_TaleMachineModel_286 mst_yX10_signed mcd_yX10_signed min_yX10_signed hd_yX10_signed rfl rfl rfl (by decide) rfl (Nat.le_of_ble_eq_true rfl) (kdec dk_cX10_two 34 rfl) (fun x66 w62 h63 => ?_)
        obtain ⟨I64, f65, p67⟩ := h63
        have F68 : kF [(61, some 13), (61, some 15), (61, some 19), (61, some 20), (64, none), (66, none), (71, none)] w w62 := kF_call F25 f65 (by decide)
        have M69 : kMoT w62 := kMoT_kF f65 M26 rfl rfl (fun _ => rfl)
        have g70 := kf_rng x66
        refine kv_iload_n C 150 rfl 3 (kdec dk_cX10_two 35 rfl) rfl rfl ?_
        refine kv_callSi (As := [.int x36]) (rest := [.int x66, .ref (ρ 61)]) C 153 rfl (k_x_signed l D τ ρ σ w62 x36 I64 ) mml_TaleMachineModel_286 mst_yX10_signed mcd_yX10_signed min_yX10_signed hd_yX10_signed rfl rfl rfl (by decide) rfl (Nat.le_of_ble_eq_true rfl) (kdec dk_cX10_two 36 rfl) (fun x75 w71 h72 => ?_)
        obtain ⟨I73, f74, p76⟩ := h72
        have F77 : kF [(61, some 13), (61, some 15), (61, some 19), (61, some 20), (64, none), (66, none), (71, none)] w w71 := kF_call F68 f74 (by decide)
        have M78 : kMoT w71 := kMoT_kF f74 M69 rfl rfl (fun _ => rfl)
        have g79 := kf_rng x75
        refine kv_icmp_ge C 156 rfl 160 (kdec dk_cX10_two 37 rfl) (by decide) (fun d80 => ?_) (fun d80 => ?_)
        · skip
          refine kv_iconst C 161 rfl 0 (kdec dk_cX10_two 40 rfl) rfl ?_
          refine kv_callVv (As := [.int 0]) (rest := []) C 164 rfl 61 (k_x_branches l D τ ρ σ w71 0 I73 M78) rfl rfl mml_TaleMachineModel_227 mim_yX10_branches mse_yX10_branches mcd_yX10_branches min_yX10_branches hd_yX10_branches rfl rfl rfl (by decide) rfl (Nat.le_of_ble_eq_true rfl) (kdec dk_cX10_two 41 rfl) (fun w81 h82 => ?_)
          obtain ⟨I83, f84, M86⟩ := h82
          have F87 : kF [(61, some 13), (61, some 15), (61, some 19), (61, some 20), (64, none), (66, none), (71, none)] w w81 := kF_call F77 f84 (by decide)
          obtain ⟨x88, e89⟩ : ∃ z : Int32, w81 61 20 = z := ⟨_, rfl⟩
          have b90 : (0 : Int) ≤ x88.toInt ∧ x88.toInt ≤ 20 := by rw [← e89]; exact I83 61 20
          have r91 := kMoT_fr M86
          rw [e89] at r91
          refine kv_goto C 472 (kdec dk_cX10_two 42 rfl) (by decide) ?_
          refine kV.sub [] (L' := []) rfl ?_
          exact cut472 w81  I83 F87 M86
        · skip
          refine kv_iconst C 157 rfl 1 (kdec dk_cX10_two 38 rfl) rfl ?_
          refine kv_goto C 161 (kdec dk_cX10_two 39 rfl) (by decide) ?_
          refine kv_callVv (As := [.int 1]) (rest := []) C 164 rfl 61 (k_x_branches l D τ ρ σ w71 1 I73 M78) rfl rfl mml_TaleMachineModel_227 mim_yX10_branches mse_yX10_branches mcd_yX10_branches min_yX10_branches hd_yX10_branches rfl rfl rfl (by decide) rfl (Nat.le_of_ble_eq_true rfl) (kdec dk_cX10_two 41 rfl) (fun w92 h93 => ?_)
          obtain ⟨I94, f95, M97⟩ := h93
          have F98 : kF [(61, some 13), (61, some 15), (61, some 19), (61, some 20), (64, none), (66, none), (71, none)] w w92 := kF_call F77 f95 (by decide)
          obtain ⟨x99, e100⟩ : ∃ z : Int32, w92 61 20 = z := ⟨_, rfl⟩
          have b101 : (0 : Int) ≤ x99.toInt ∧ x99.toInt ≤ 20 := by rw [← e100]; exact I94 61 20
          have r102 := kMoT_fr M97
          rw [e100] at r102
          refine kv_goto C 472 (kdec dk_cX10_two 42 rfl) (by decide) ?_
          refine kV.sub [] (L' := []) rfl ?_
          exact cut472 w92  I94 F98 M97
      by_cases d103 : l1_18.toInt = 3
      · skip
        refine kv_tableIn C 3 167 (kdec dk_cX10_two 25 rfl) d103 (by decide) (by decide) rfl (by decide) ?_
        refine kv_aload_n C 168 rfl 0 (kdec dk_cX10_two 43 rfl) rfl rfl ?_
        refine kv_iload_n C 169 rfl 2 (kdec dk_cX10_two 44 rfl) rfl rfl ?_
        refine kv_callSi (As := [.int x32]) (rest := [.ref (ρ 61)]) C 172 rfl (k_x_signed l D τ ρ σ w17 x32 I19 ) mml_TaleMachineModel_286 mst_yX10_signed mcd_yX10_signed min_yX10_signed hd_yX10_signed rfl rfl rfl (by decide) rfl (Nat.le_of_ble_eq_true rfl) (kdec dk_cX10_two 45 rfl) (fun x108 w104 h105 => ?_)
        obtain ⟨I106, f107, p109⟩ := h105
        have F110 : kF [(61, some 13), (61, some 15), (61, some 19), (61, some 20), (64, none), (66, none), (71, none)] w w104 := kF_call F25 f107 (by decide)
        have M111 : kMoT w104 := kMoT_kF f107 M26 rfl rfl (fun _ => rfl)
        have g112 := kf_rng x108
        refine kv_iload_n C 173 rfl 3 (kdec dk_cX10_two 46 rfl) rfl rfl ?_
        refine kv_callSi (As := [.int x36]) (rest := [.int x108, .ref (ρ 61)]) C 176 rfl (k_x_signed l D τ ρ σ w104 x36 I106 ) mml_TaleMachineModel_286 mst_yX10_signed mcd_yX10_signed min_yX10_signed hd_yX10_signed rfl rfl rfl (by decide) rfl (Nat.le_of_ble_eq_true rfl) (kdec dk_cX10_two 47 rfl) (fun x117 w113 h114 => ?_)
        obtain ⟨I115, f116, p118⟩ := h114
        have F119 : kF [(61, some 13), (61, some 15), (61, some 19), (61, some 20), (64, none), (66, none), (71, none)] w w113 := kF_call F110 f116 (by decide)
        have M120 : kMoT w113 := kMoT_kF f116 M111 rfl rfl (fun _ => rfl)
        have g121 := kf_rng x117
        refine kv_icmp_le C 179 rfl 183 (kdec dk_cX10_two 48 rfl) (by decide) (fun d122 => ?_) (fun d122 => ?_)
        · skip
          refine kv_iconst C 184 rfl 0 (kdec dk_cX10_two 51 rfl) rfl ?_
          refine kv_callVv (As := [.int 0]) (rest := []) C 187 rfl 61 (k_x_branches l D τ ρ σ w113 0 I115 M120) rfl rfl mml_TaleMachineModel_227 mim_yX10_branches mse_yX10_branches mcd_yX10_branches min_yX10_branches hd_yX10_branches rfl rfl rfl (by decide) rfl (Nat.le_of_ble_eq_true rfl) (kdec dk_cX10_two 52 rfl) (fun w123 h124 => ?_)
          obtain ⟨I125, f126, M128⟩ := h124
          have F129 : kF [(61, some 13), (61, some 15), (61, some 19), (61, some 20), (64, none), (66, none), (71, none)] w w123 := kF_call F119 f126 (by decide)
          obtain ⟨x130, e131⟩ : ∃ z : Int32, w123 61 20 = z := ⟨_, rfl⟩
          have b132 : (0 : Int) ≤ x130.toInt ∧ x130.toInt ≤ 20 := by rw [← e131]; exact I125 61 20
          have r133 := kMoT_fr M128
          rw [e131] at r133
          refine kv_goto C 472 (kdec dk_cX10_two 53 rfl) (by decide) ?_
          refine kV.sub [] (L' := []) rfl ?_
          exact cut472 w123  I125 F129 M128
        · skip
          refine kv_iconst C 180 rfl 1 (kdec dk_cX10_two 49 rfl) rfl ?_
          refine kv_goto C 184 (kdec dk_cX10_two 50 rfl) (by decide) ?_
          refine kv_callVv (As := [.int 1]) (rest := []) C 187 rfl 61 (k_x_branches l D τ ρ σ w113 1 I115 M120) rfl rfl mml_TaleMachineModel_227 mim_yX10_branches mse_yX10_branches mcd_yX10_branches min_yX10_branches hd_yX10_branches rfl rfl rfl (by decide) rfl (Nat.le_of_ble_eq_true rfl) (kdec dk_cX10_two 52 rfl) (fun w134 h135 => ?_)
          obtain ⟨I136, f137, M139⟩ := h135
          have F140 : kF [(61, some 13), (61, some 15), (61, some 19), (61, some 20), (64, none), (66, none), (71, none)] w w134 := kF_call F119 f137 (by decide)
          obtain ⟨x141, e142⟩ : ∃ z : Int32, w134 61 20 = z := ⟨_, rfl⟩
          have b143 : (0 : Int) ≤ x141.toInt ∧ x141.toInt ≤ 20 := by rw [← e142]; exact I136 61 20
          have r144 := kMoT_fr M139
          rw [e142] at r144
          refine kv_goto C 472 (kdec dk_cX10_two 53 rfl) (by decide) ?_
          refine kV.sub [] (L' := []) rfl ?_
          exact cut472 w134  I136 F140 M139
      by_cases d145 : l1_18.toInt = 4
      · skip
        refine kv_tableIn C 4 190 (kdec dk_cX10_two 25 rfl) d145 (by decide) (by decide) rfl (by decide) ?_
        refine kv_aload_n C 191 rfl 0 (kdec dk_cX10_two 54 rfl) rfl rfl ?_
        refine kv_iload_n C 192 rfl 2 (kdec dk_cX10_two 55 rfl) rfl rfl ?_
        refine kv_callVi (As := [.int x32]) (rest := []) C 195 rfl 61 (k_x_getNamed l D τ ρ σ w17 x32 I19 M26) rfl rfl mml_TaleMachineModel_289 mim_yX10_getNamed mse_yX10_getNamed mcd_yX10_getNamed min_yX10_getNamed hd_yX10_getNamed rfl rfl rfl (by decide) rfl (Nat.le_of_ble_eq_true rfl) (kdec dk_cX10_two 56 rfl) (fun x150 w146 h147 => ?_)
        obtain ⟨I148, f149, p151, M152⟩ := h147
        have F153 : kF [(61, some 13), (61, some 15), (61, some 19), (61, some 20), (64, none), (66, none), (71, none)] w w146 := kF_call F25 f149 (by decide)
        have e154 : w146 61 20 = x10 := ((f149 61 20 rfl : w146 61 20 = w17 61 20).trans ((f20 61 20 rfl : w17 61 20 = w_18 61 20).trans e11))
        have r155 := kMoT_fr M152
        rw [e154] at r155
        have g156 := kf_rng x150
        refine kv_iload_n C 196 rfl 1 (kdec dk_cX10_two 57 rfl) rfl rfl ?_
        refine kv_iconst C 197 rfl 4 (kdec dk_cX10_two 58 rfl) rfl ?_
        refine kv_icmp_ne C 200 rfl 204 (kdec dk_cX10_two 59 rfl) (by decide) (fun d157 => ?_) (fun d157 => ?_)
        · skip
          refine kv_iconst C 205 rfl 1 (kdec dk_cX10_two 62 rfl) rfl ?_
          refine kv_iadd C 206 rfl (kdec dk_cX10_two 63 rfl) (fun x158 q160 h159e h159 h159l h159u => ?_)
          try have h159n : x158.toInt = x150.toInt + (1 : Int32).toInt := by omega
          clear h159 q160
          refine kv_ldc C 208 rfl 65535 (kdec dk_cX10_two 64 rfl) mco_TaleMachineModel_104 ?_
          refine kv_iand C 209 rfl (kdec dk_cX10_two 65 rfl) (fun x161 h162e h162l h162u => ?_)
          have g163 := kf_and65535 h162e
          refine kv_istore C 211 rfl 4 [1, 2, 3, 4, 0] [(0, .ref (ρ 61)), (1, .int l1_18), (2, .int x32), (3, .int x36), (4, .int x161)] (kdec dk_cX10_two 66 rfl) (by decide) rfl ?_
          refine kv_aload_n C 212 rfl 0 (kdec dk_cX10_two 67 rfl) rfl rfl ?_
          refine kv_iload_n C 213 rfl 2 (kdec dk_cX10_two 68 rfl) rfl rfl ?_
          refine kv_iload C 215 rfl 4 (kdec dk_cX10_two 69 rfl) rfl ?_
          refine kv_callVv (As := [.int x32, .int x161]) (rest := []) C 218 rfl 61 (k_x_setNamed l D τ ρ σ w146 x32 x161 I148 M152) rfl rfl mml_TaleMachineModel_292 mim_yX10_setNamed mse_yX10_setNamed mcd_yX10_setNamed min_yX10_setNamed hd_yX10_setNamed rfl rfl rfl (by decide) rfl (Nat.le_of_ble_eq_true rfl) (kdec dk_cX10_two 70 rfl) (fun w164 h165 => ?_)
          obtain ⟨I166, f167, M169⟩ := h165
          have F170 : kF [(61, some 13), (61, some 15), (61, some 19), (61, some 20), (64, none), (66, none), (71, none)] w w164 := kF_call F153 f167 (by decide)
          have e171 : w164 61 20 = x10 := ((f167 61 20 rfl : w164 61 20 = w146 61 20).trans e154)
          have r172 := kMoT_fr M169
          rw [e171] at r172
          refine kv_aload_n C 219 rfl 0 (kdec dk_cX10_two 71 rfl) rfl rfl ?_
          refine kv_iload_n C 220 rfl 1 (kdec dk_cX10_two 72 rfl) rfl rfl ?_
          refine kv_iconst C 221 rfl 4 (kdec dk_cX10_two 73 rfl) rfl ?_
          refine kv_icmp_ne C 224 rfl 244 (kdec dk_cX10_two 74 rfl) (by decide) (fun d173 => ?_) (fun d173 => ?_)
          · skip
            refine kv_iload C 246 rfl 4 (kdec dk_cX10_two 84 rfl) rfl ?_
            refine kv_callSi (As := [.int x161]) (rest := [.ref (ρ 61)]) C 249 rfl (k_x_signed l D τ ρ σ w164 x161 I166 ) mml_TaleMachineModel_286 mst_yX10_signed mcd_yX10_signed min_yX10_signed hd_yX10_signed rfl rfl rfl (by decide) rfl (Nat.le_of_ble_eq_true rfl) (kdec dk_cX10_two 85 rfl) (fun x178 w174 h175 => ?_)
            obtain ⟨I176, f177, p179⟩ := h175
            have F180 : kF [(61, some 13), (61, some 15), (61, some 19), (61, some 20), (64, none), (66, none), (71, none)] w w174 := kF_call F170 f177 (by decide)
            have M181 : kMoT w174 := kMoT_kF f177 M169 rfl rfl (fun _ => rfl)
            have g182 := kf_rng x178
            refine kv_iload_n C 250 rfl 3 (kdec dk_cX10_two 86 rfl) rfl rfl ?_
            refine kv_callSi (As := [.int x36]) (rest := [.int x178, .ref (ρ 61)]) C 253 rfl (k_x_signed l D τ ρ σ w174 x36 I176 ) mml_TaleMachineModel_286 mst_yX10_signed mcd_yX10_signed min_yX10_signed hd_yX10_signed rfl rfl rfl (by decide) rfl (Nat.le_of_ble_eq_true rfl) (kdec dk_cX10_two 87 rfl) (fun x187 w183 h184 => ?_)
            obtain ⟨I185, f186, p188⟩ := h184
            have F189 : kF [(61, some 13), (61, some 15), (61, some 19), (61, some 20), (64, none), (66, none), (71, none)] w w183 := kF_call F180 f186 (by decide)
            have M190 : kMoT w183 := kMoT_kF f186 M181 rfl rfl (fun _ => rfl)
            have g191 := kf_rng x187
            refine kv_icmp_le C 256 rfl 260 (kdec dk_cX10_two 88 rfl) (by decide) (fun d192 => ?_) (fun d192 => ?_)
            · skip
              refine kv_iconst C 261 rfl 0 (kdec dk_cX10_two 91 rfl) rfl ?_
              refine kv_callVv (As := [.int 0]) (rest := []) C 264 rfl 61 (k_x_branches l D τ ρ σ w183 0 I185 M190) rfl rfl mml_TaleMachineModel_227 mim_yX10_branches mse_yX10_branches mcd_yX10_branches min_yX10_branches hd_yX10_branches rfl rfl rfl (by decide) rfl (Nat.le_of_ble_eq_true rfl) (kdec dk_cX10_two 92 rfl) (fun w193 h194 => ?_)
              obtain ⟨I195, f196, M198⟩ := h194
              have F199 : kF [(61, some 13), (61, some 15), (61, some 19), (61, some 20), (64, none), (66, none), (71, none)] w w193 := kF_call F189 f196 (by decide)
              obtain ⟨x200, e201⟩ : ∃ z : Int32, w193 61 20 = z := ⟨_, rfl⟩
              have b202 : (0 : Int) ≤ x200.toInt ∧ x200.toInt ≤ 20 := by rw [← e201]; exact I195 61 20
              have r203 := kMoT_fr M198
              rw [e201] at r203
              refine kv_goto C 472 (kdec dk_cX10_two 93 rfl) (by decide) ?_
              refine kV.sub [] (L' := []) rfl ?_
              exact cut472 w193  I195 F199 M198
            · skip
              refine kv_iconst C 257 rfl 1 (kdec dk_cX10_two 89 rfl) rfl ?_
              refine kv_goto C 261 (kdec dk_cX10_two 90 rfl) (by decide) ?_
              refine kv_callVv (As := [.int 1]) (rest := []) C 264 rfl 61 (k_x_branches l D τ ρ σ w183 1 I185 M190) rfl rfl mml_TaleMachineModel_227 mim_yX10_branches mse_yX10_branches mcd_yX10_branches min_yX10_branches hd_yX10_branches rfl rfl rfl (by decide) rfl (Nat.le_of_ble_eq_true rfl) (kdec dk_cX10_two 92 rfl) (fun w204 h205 => ?_)
              obtain ⟨I206, f207, M209⟩ := h205
              have F210 : kF [(61, some 13), (61, some 15), (61, some 19), (61, some 20), (64, none), (66, none), (71, none)] w w204 := kF_call F189 f207 (by decide)
              obtain ⟨x211, e212⟩ : ∃ z : Int32, w204 61 20 = z := ⟨_, rfl⟩
              have b213 : (0 : Int) ≤ x211.toInt ∧ x211.toInt ≤ 20 := by rw [← e212]; exact I206 61 20
              have r214 := kMoT_fr M209
              rw [e212] at r214
              refine kv_goto C 472 (kdec dk_cX10_two 93 rfl) (by decide) ?_
              refine kV.sub [] (L' := []) rfl ?_
              exact cut472 w204  I206 F210 M209
          · skip
            refine kv_iload C 226 rfl 4 (kdec dk_cX10_two 75 rfl) rfl ?_
            refine kv_callSi (As := [.int x161]) (rest := [.ref (ρ 61)]) C 229 rfl (k_x_signed l D τ ρ σ w164 x161 I166 ) mml_TaleMachineModel_286 mst_yX10_signed mcd_yX10_signed min_yX10_signed hd_yX10_signed rfl rfl rfl (by decide) rfl (Nat.le_of_ble_eq_true rfl) (kdec dk_cX10_two 76 rfl) (fun x219 w215 h216 => ?_)
            obtain ⟨I217, f218, p220⟩ := h216
            have F221 : kF [(61, some 13), (61, some 15), (61, some 19), (61, some 20), (64, none), (66, none), (71, none)] w w215 := kF_call F170 f218 (by decide)
            have M222 : kMoT w215 := kMoT_kF f218 M169 rfl rfl (fun _ => rfl)
            have g223 := kf_rng x219
            refine kv_iload_n C 230 rfl 3 (kdec dk_cX10_two 77 rfl) rfl rfl ?_
            refine kv_callSi (As := [.int x36]) (rest := [.int x219, .ref (ρ 61)]) C 233 rfl (k_x_signed l D τ ρ σ w215 x36 I217 ) mml_TaleMachineModel_286 mst_yX10_signed mcd_yX10_signed min_yX10_signed hd_yX10_signed rfl rfl rfl (by decide) rfl (Nat.le_of_ble_eq_true rfl) (kdec dk_cX10_two 78 rfl) (fun x228 w224 h225 => ?_)
            obtain ⟨I226, f227, p229⟩ := h225
            have F230 : kF [(61, some 13), (61, some 15), (61, some 19), (61, some 20), (64, none), (66, none), (71, none)] w w224 := kF_call F221 f227 (by decide)
            have M231 : kMoT w224 := kMoT_kF f227 M222 rfl rfl (fun _ => rfl)
            have g232 := kf_rng x228
            refine kv_icmp_ge C 236 rfl 240 (kdec dk_cX10_two 79 rfl) (by decide) (fun d233 => ?_) (fun d233 => ?_)
            · skip
              refine kv_iconst C 241 rfl 0 (kdec dk_cX10_two 82 rfl) rfl ?_
              refine kv_goto C 261 (kdec dk_cX10_two 83 rfl) (by decide) ?_
              refine kv_callVv (As := [.int 0]) (rest := []) C 264 rfl 61 (k_x_branches l D τ ρ σ w224 0 I226 M231) rfl rfl mml_TaleMachineModel_227 mim_yX10_branches mse_yX10_branches mcd_yX10_branches min_yX10_branches hd_yX10_branches rfl rfl rfl (by decide) rfl (Nat.le_of_ble_eq_true rfl) (kdec dk_cX10_two 92 rfl) (fun w234 h235 => ?_)
              obtain ⟨I236, f237, M239⟩ := h235
              have F240 : kF [(61, some 13), (61, some 15), (61, some 19), (61, some 20), (64, none), (66, none), (71, none)] w w234 := kF_call F230 f237 (by decide)
              obtain ⟨x241, e242⟩ : ∃ z : Int32, w234 61 20 = z := ⟨_, rfl⟩
              have b243 : (0 : Int) ≤ x241.toInt ∧ x241.toInt ≤ 20 := by rw [← e242]; exact I236 61 20
              have r244 := kMoT_fr M239
              rw [e242] at r244
              refine kv_goto C 472 (kdec dk_cX10_two 93 rfl) (by decide) ?_
              refine kV.sub [] (L' := []) rfl ?_
              exact cut472 w234  I236 F240 M239
            · skip
              refine kv_iconst C 237 rfl 1 (kdec dk_cX10_two 80 rfl) rfl ?_
              refine kv_goto C 261 (kdec dk_cX10_two 81 rfl) (by decide) ?_
              refine kv_callVv (As := [.int 1]) (rest := []) C 264 rfl 61 (k_x_branches l D τ ρ σ w224 1 I226 M231) rfl rfl mml_TaleMachineModel_227 mim_yX10_branches mse_yX10_branches mcd_yX10_branches min_yX10_branches hd_yX10_branches rfl rfl rfl (by decide) rfl (Nat.le_of_ble_eq_true rfl) (kdec dk_cX10_two 92 rfl) (fun w245 h246 => ?_)
              obtain ⟨I247, f248, M250⟩ := h246
              have F251 : kF [(61, some 13), (61, some 15), (61, some 19), (61, some 20), (64, none), (66, none), (71, none)] w w245 := kF_call F230 f248 (by decide)
              obtain ⟨x252, e253⟩ : ∃ z : Int32, w245 61 20 = z := ⟨_, rfl⟩
              have b254 : (0 : Int) ≤ x252.toInt ∧ x252.toInt ≤ 20 := by rw [← e253]; exact I247 61 20
              have r255 := kMoT_fr M250
              rw [e253] at r255
              refine kv_goto C 472 (kdec dk_cX10_two 93 rfl) (by decide) ?_
              refine kV.sub [] (L' := []) rfl ?_
              exact cut472 w245  I247 F251 M250
        · skip
          refine kv_iconst C 201 rfl (-1) (kdec dk_cX10_two 60 rfl) rfl ?_
          refine kv_goto C 205 (kdec dk_cX10_two 61 rfl) (by decide) ?_
          refine kv_iadd C 206 rfl (kdec dk_cX10_two 63 rfl) (fun x256 q258 h257e h257 h257l h257u => ?_)
          try have h257n : x256.toInt = x150.toInt + ((-1) : Int32).toInt := by omega
          clear h257 q258
          refine kv_ldc C 208 rfl 65535 (kdec dk_cX10_two 64 rfl) mco_TaleMachineModel_104 ?_
          refine kv_iand C 209 rfl (kdec dk_cX10_two 65 rfl) (fun x259 h260e h260l h260u => ?_)
          have g261 := kf_and65535 h260e
          refine kv_istore C 211 rfl 4 [1, 2, 3, 4, 0] [(0, .ref (ρ 61)), (1, .int l1_18), (2, .int x32), (3, .int x36), (4, .int x259)] (kdec dk_cX10_two 66 rfl) (by decide) rfl ?_
          refine kv_aload_n C 212 rfl 0 (kdec dk_cX10_two 67 rfl) rfl rfl ?_
          refine kv_iload_n C 213 rfl 2 (kdec dk_cX10_two 68 rfl) rfl rfl ?_
          refine kv_iload C 215 rfl 4 (kdec dk_cX10_two 69 rfl) rfl ?_
          refine kv_callVv (As := [.int x32, .int x259]) (rest := []) C 218 rfl 61 (k_x_setNamed l D τ ρ σ w146 x32 x259 I148 M152) rfl rfl mml_TaleMachineModel_292 mim_yX10_setNamed mse_yX10_setNamed mcd_yX10_setNamed min_yX10_setNamed hd_yX10_setNamed rfl rfl rfl (by decide) rfl (Nat.le_of_ble_eq_true rfl) (kdec dk_cX10_two 70 rfl) (fun w262 h263 => ?_)
          obtain ⟨I264, f265, M267⟩ := h263
          have F268 : kF [(61, some 13), (61, some 15), (61, some 19), (61, some 20), (64, none), (66, none), (71, none)] w w262 := kF_call F153 f265 (by decide)
          have e269 : w262 61 20 = x10 := ((f265 61 20 rfl : w262 61 20 = w146 61 20).trans e154)
          have r270 := kMoT_fr M267
          rw [e269] at r270
          refine kv_aload_n C 219 rfl 0 (kdec dk_cX10_two 71 rfl) rfl rfl ?_
          refine kv_iload_n C 220 rfl 1 (kdec dk_cX10_two 72 rfl) rfl rfl ?_
          refine kv_iconst C 221 rfl 4 (kdec dk_cX10_two 73 rfl) rfl ?_
          refine kv_icmp_ne C 224 rfl 244 (kdec dk_cX10_two 74 rfl) (by decide) (fun d271 => ?_) (fun d271 => ?_)
          · skip
            refine kv_iload C 246 rfl 4 (kdec dk_cX10_two 84 rfl) rfl ?_
            refine kv_callSi (As := [.int x259]) (rest := [.ref (ρ 61)]) C 249 rfl (k_x_signed l D τ ρ σ w262 x259 I264 ) mml_TaleMachineModel_286 mst_yX10_signed mcd_yX10_signed min_yX10_signed hd_yX10_signed rfl rfl rfl (by decide) rfl (Nat.le_of_ble_eq_true rfl) (kdec dk_cX10_two 85 rfl) (fun x276 w272 h273 => ?_)
            obtain ⟨I274, f275, p277⟩ := h273
            have F278 : kF [(61, some 13), (61, some 15), (61, some 19), (61, some 20), (64, none), (66, none), (71, none)] w w272 := kF_call F268 f275 (by decide)
            have M279 : kMoT w272 := kMoT_kF f275 M267 rfl rfl (fun _ => rfl)
            have g280 := kf_rng x276
            refine kv_iload_n C 250 rfl 3 (kdec dk_cX10_two 86 rfl) rfl rfl ?_
            refine kv_callSi (As := [.int x36]) (rest := [.int x276, .ref (ρ 61)]) C 253 rfl (k_x_signed l D τ ρ σ w272 x36 I274 ) mml_TaleMachineModel_286 mst_yX10_signed mcd_yX10_signed min_yX10_signed hd_yX10_signed rfl rfl rfl (by decide) rfl (Nat.le_of_ble_eq_true rfl) (kdec dk_cX10_two 87 rfl) (fun x285 w281 h282 => ?_)
            obtain ⟨I283, f284, p286⟩ := h282
            have F287 : kF [(61, some 13), (61, some 15), (61, some 19), (61, some 20), (64, none), (66, none), (71, none)] w w281 := kF_call F278 f284 (by decide)
            have M288 : kMoT w281 := kMoT_kF f284 M279 rfl rfl (fun _ => rfl)
            have g289 := kf_rng x285
            refine kv_icmp_le C 256 rfl 260 (kdec dk_cX10_two 88 rfl) (by decide) (fun d290 => ?_) (fun d290 => ?_)
            · skip
              refine kv_iconst C 261 rfl 0 (kdec dk_cX10_two 91 rfl) rfl ?_
              refine kv_callVv (As := [.int 0]) (rest := []) C 264 rfl 61 (k_x_branches l D τ ρ σ w281 0 I283 M288) rfl rfl mml_TaleMachineModel_227 mim_yX10_branches mse_yX10_branches mcd_yX10_branches min_yX10_branches hd_yX10_branches rfl rfl rfl (by decide) rfl (Nat.le_of_ble_eq_true rfl) (kdec dk_cX10_two 92 rfl) (fun w291 h292 => ?_)
              obtain ⟨I293, f294, M296⟩ := h292
              have F297 : kF [(61, some 13), (61, some 15), (61, some 19), (61, some 20), (64, none), (66, none), (71, none)] w w291 := kF_call F287 f294 (by decide)
              obtain ⟨x298, e299⟩ : ∃ z : Int32, w291 61 20 = z := ⟨_, rfl⟩
              have b300 : (0 : Int) ≤ x298.toInt ∧ x298.toInt ≤ 20 := by rw [← e299]; exact I293 61 20
              have r301 := kMoT_fr M296
              rw [e299] at r301
              refine kv_goto C 472 (kdec dk_cX10_two 93 rfl) (by decide) ?_
              refine kV.sub [] (L' := []) rfl ?_
              exact cut472 w291  I293 F297 M296
            · skip
              refine kv_iconst C 257 rfl 1 (kdec dk_cX10_two 89 rfl) rfl ?_
              refine kv_goto C 261 (kdec dk_cX10_two 90 rfl) (by decide) ?_
              refine kv_callVv (As := [.int 1]) (rest := []) C 264 rfl 61 (k_x_branches l D τ ρ σ w281 1 I283 M288) rfl rfl mml_TaleMachineModel_227 mim_yX10_branches mse_yX10_branches mcd_yX10_branches min_yX10_branches hd_yX10_branches rfl rfl rfl (by decide) rfl (Nat.le_of_ble_eq_true rfl) (kdec dk_cX10_two 92 rfl) (fun w302 h303 => ?_)
              obtain ⟨I304, f305, M307⟩ := h303
              have F308 : kF [(61, some 13), (61, some 15), (61, some 19), (61, some 20), (64, none), (66, none), (71, none)] w w302 := kF_call F287 f305 (by decide)
              obtain ⟨x309, e310⟩ : ∃ z : Int32, w302 61 20 = z := ⟨_, rfl⟩
              have b311 : (0 : Int) ≤ x309.toInt ∧ x309.toInt ≤ 20 := by rw [← e310]; exact I304 61 20
              have r312 := kMoT_fr M307
              rw [e310] at r312
              refine kv_goto C 472 (kdec dk_cX10_two 93 rfl) (by decide) ?_
              refine kV.sub [] (L' := []) rfl ?_
              exact cut472 w302  I304 F308 M307
          · skip
            refine kv_iload C 226 rfl 4 (kdec dk_cX10_two 75 rfl) rfl ?_
            refine kv_callSi (As := [.int x259]) (rest := [.ref (ρ 61)]) C 229 rfl (k_x_signed l D τ ρ σ w262 x259 I264 ) mml_TaleMachineModel_286 mst_yX10_signed mcd_yX10_signed min_yX10_signed hd_yX10_signed rfl rfl rfl (by decide) rfl (Nat.le_of_ble_eq_true rfl) (kdec dk_cX10_two 76 rfl) (fun x317 w313 h314 => ?_)
            obtain ⟨I315, f316, p318⟩ := h314
            have F319 : kF [(61, some 13), (61, some 15), (61, some 19), (61, some 20), (64, none), (66, none), (71, none)] w w313 := kF_call F268 f316 (by decide)
            have M320 : kMoT w313 := kMoT_kF f316 M267 rfl rfl (fun _ => rfl)
            have g321 := kf_rng x317
            refine kv_iload_n C 230 rfl 3 (kdec dk_cX10_two 77 rfl) rfl rfl ?_
            refine kv_callSi (As := [.int x36]) (rest := [.int x317, .ref (ρ 61)]) C 233 rfl (k_x_signed l D τ ρ σ w313 x36 I315 ) mml_TaleMachineModel_286 mst_yX10_signed mcd_yX10_signed min_yX10_signed hd_yX10_signed rfl rfl rfl (by decide) rfl (Nat.le_of_ble_eq_true rfl) (kdec dk_cX10_two 78 rfl) (fun x326 w322 h323 => ?_)
            obtain ⟨I324, f325, p327⟩ := h323
            have F328 : kF [(61, some 13), (61, some 15), (61, some 19), (61, some 20), (64, none), (66, none), (71, none)] w w322 := kF_call F319 f325 (by decide)
            have M329 : kMoT w322 := kMoT_kF f325 M320 rfl rfl (fun _ => rfl)
            have g330 := kf_rng x326
            refine kv_icmp_ge C 236 rfl 240 (kdec dk_cX10_two 79 rfl) (by decide) (fun d331 => ?_) (fun d331 => ?_)
            · skip
              refine kv_iconst C 241 rfl 0 (kdec dk_cX10_two 82 rfl) rfl ?_
              refine kv_goto C 261 (kdec dk_cX10_two 83 rfl) (by decide) ?_
              refine kv_callVv (As := [.int 0]) (rest := []) C 264 rfl 61 (k_x_branches l D τ ρ σ w322 0 I324 M329) rfl rfl mml_TaleMachineModel_227 mim_yX10_branches mse_yX10_branches mcd_yX10_branches min_yX10_branches hd_yX10_branches rfl rfl rfl (by decide) rfl (Nat.le_of_ble_eq_true rfl) (kdec dk_cX10_two 92 rfl) (fun w332 h333 => ?_)
              obtain ⟨I334, f335, M337⟩ := h333
              have F338 : kF [(61, some 13), (61, some 15), (61, some 19), (61, some 20), (64, none), (66, none), (71, none)] w w332 := kF_call F328 f335 (by decide)
              obtain ⟨x339, e340⟩ : ∃ z : Int32, w332 61 20 = z := ⟨_, rfl⟩
              have b341 : (0 : Int) ≤ x339.toInt ∧ x339.toInt ≤ 20 := by rw [← e340]; exact I334 61 20
              have r342 := kMoT_fr M337
              rw [e340] at r342
              refine kv_goto C 472 (kdec dk_cX10_two 93 rfl) (by decide) ?_
              refine kV.sub [] (L' := []) rfl ?_
              exact cut472 w332  I334 F338 M337
            · skip
              refine kv_iconst C 237 rfl 1 (kdec dk_cX10_two 80 rfl) rfl ?_
              refine kv_goto C 261 (kdec dk_cX10_two 81 rfl) (by decide) ?_
              refine kv_callVv (As := [.int 1]) (rest := []) C 264 rfl 61 (k_x_branches l D τ ρ σ w322 1 I324 M329) rfl rfl mml_TaleMachineModel_227 mim_yX10_branches mse_yX10_branches mcd_yX10_branches min_yX10_branches hd_yX10_branches rfl rfl rfl (by decide) rfl (Nat.le_of_ble_eq_true rfl) (kdec dk_cX10_two 92 rfl) (fun w343 h344 => ?_)
              obtain ⟨I345, f346, M348⟩ := h344
              have F349 : kF [(61, some 13), (61, some 15), (61, some 19), (61, some 20), (64, none), (66, none), (71, none)] w w343 := kF_call F328 f346 (by decide)
              obtain ⟨x350, e351⟩ : ∃ z : Int32, w343 61 20 = z := ⟨_, rfl⟩
              have b352 : (0 : Int) ≤ x350.toInt ∧ x350.toInt ≤ 20 := by rw [← e351]; exact I345 61 20
              have r353 := kMoT_fr M348
              rw [e351] at r353
              refine kv_goto C 472 (kdec dk_cX10_two 93 rfl) (by decide) ?_
              refine kV.sub [] (L' := []) rfl ?_
              exact cut472 w343  I345 F349 M348
      by_cases d354 : l1_18.toInt = 5
      · skip
        refine kv_tableIn C 5 190 (kdec dk_cX10_two 25 rfl) d354 (by decide) (by decide) rfl (by decide) ?_
        refine kv_aload_n C 191 rfl 0 (kdec dk_cX10_two 54 rfl) rfl rfl ?_
        refine kv_iload_n C 192 rfl 2 (kdec dk_cX10_two 55 rfl) rfl rfl ?_
        refine kv_callVi (As := [.int x32]) (rest := []) C 195 rfl 61 (k_x_getNamed l D τ ρ σ w17 x32 I19 M26) rfl rfl mml_TaleMachineModel_289 mim_yX10_getNamed mse_yX10_getNamed mcd_yX10_getNamed min_yX10_getNamed hd_yX10_getNamed rfl rfl rfl (by decide) rfl (Nat.le_of_ble_eq_true rfl) (kdec dk_cX10_two 56 rfl) (fun x359 w355 h356 => ?_)
        obtain ⟨I357, f358, p360, M361⟩ := h356
        have F362 : kF [(61, some 13), (61, some 15), (61, some 19), (61, some 20), (64, none), (66, none), (71, none)] w w355 := kF_call F25 f358 (by decide)
        have e363 : w355 61 20 = x10 := ((f358 61 20 rfl : w355 61 20 = w17 61 20).trans ((f20 61 20 rfl : w17 61 20 = w_18 61 20).trans e11))
        have r364 := kMoT_fr M361
        rw [e363] at r364
        have g365 := kf_rng x359
        refine kv_iload_n C 196 rfl 1 (kdec dk_cX10_two 57 rfl) rfl rfl ?_
        refine kv_iconst C 197 rfl 4 (kdec dk_cX10_two 58 rfl) rfl ?_
        refine kv_icmp_ne C 200 rfl 204 (kdec dk_cX10_two 59 rfl) (by decide) (fun d366 => ?_) (fun d366 => ?_)
        · skip
          refine kv_iconst C 205 rfl 1 (kdec dk_cX10_two 62 rfl) rfl ?_
          refine kv_iadd C 206 rfl (kdec dk_cX10_two 63 rfl) (fun x367 q369 h368e h368 h368l h368u => ?_)
          try have h368n : x367.toInt = x359.toInt + (1 : Int32).toInt := by omega
          clear h368 q369
          refine kv_ldc C 208 rfl 65535 (kdec dk_cX10_two 64 rfl) mco_TaleMachineModel_104 ?_
          refine kv_iand C 209 rfl (kdec dk_cX10_two 65 rfl) (fun x370 h371e h371l h371u => ?_)
          have g372 := kf_and65535 h371e
          refine kv_istore C 211 rfl 4 [1, 2, 3, 4, 0] [(0, .ref (ρ 61)), (1, .int l1_18), (2, .int x32), (3, .int x36), (4, .int x370)] (kdec dk_cX10_two 66 rfl) (by decide) rfl ?_
          refine kv_aload_n C 212 rfl 0 (kdec dk_cX10_two 67 rfl) rfl rfl ?_
          refine kv_iload_n C 213 rfl 2 (kdec dk_cX10_two 68 rfl) rfl rfl ?_
          refine kv_iload C 215 rfl 4 (kdec dk_cX10_two 69 rfl) rfl ?_
          refine kv_callVv (As := [.int x32, .int x370]) (rest := []) C 218 rfl 61 (k_x_setNamed l D τ ρ σ w355 x32 x370 I357 M361) rfl rfl mml_TaleMachineModel_292 mim_yX10_setNamed mse_yX10_setNamed mcd_yX10_setNamed min_yX10_setNamed hd_yX10_setNamed rfl rfl rfl (by decide) rfl (Nat.le_of_ble_eq_true rfl) (kdec dk_cX10_two 70 rfl) (fun w373 h374 => ?_)
          obtain ⟨I375, f376, M378⟩ := h374
          have F379 : kF [(61, some 13), (61, some 15), (61, some 19), (61, some 20), (64, none), (66, none), (71, none)] w w373 := kF_call F362 f376 (by decide)
          have e380 : w373 61 20 = x10 := ((f376 61 20 rfl : w373 61 20 = w355 61 20).trans e363)
          have r381 := kMoT_fr M378
          rw [e380] at r381
          refine kv_aload_n C 219 rfl 0 (kdec dk_cX10_two 71 rfl) rfl rfl ?_
          refine kv_iload_n C 220 rfl 1 (kdec dk_cX10_two 72 rfl) rfl rfl ?_
          refine kv_iconst C 221 rfl 4 (kdec dk_cX10_two 73 rfl) rfl ?_
          refine kv_icmp_ne C 224 rfl 244 (kdec dk_cX10_two 74 rfl) (by decide) (fun d382 => ?_) (fun d382 => ?_)
          · skip
            refine kv_iload C 246 rfl 4 (kdec dk_cX10_two 84 rfl) rfl ?_
            refine kv_callSi (As := [.int x370]) (rest := [.ref (ρ 61)]) C 249 rfl (k_x_signed l D τ ρ σ w373 x370 I375 ) mml_TaleMachineModel_286 mst_yX10_signed mcd_yX10_signed min_yX10_signed hd_yX10_signed rfl rfl rfl (by decide) rfl (Nat.le_of_ble_eq_true rfl) (kdec dk_cX10_two 85 rfl) (fun x387 w383 h384 => ?_)
            obtain ⟨I385, f386, p388⟩ := h384
            have F389 : kF [(61, some 13), (61, some 15), (61, some 19), (61, some 20), (64, none), (66, none), (71, none)] w w383 := kF_call F379 f386 (by decide)
            have M390 : kMoT w383 := kMoT_kF f386 M378 rfl rfl (fun _ => rfl)
            have g391 := kf_rng x387
            refine kv_iload_n C 250 rfl 3 (kdec dk_cX10_two 86 rfl) rfl rfl ?_
            refine kv_callSi (As := [.int x36]) (rest := [.int x387, .ref (ρ 61)]) C 253 rfl (k_x_signed l D τ ρ σ w383 x36 I385 ) mml_TaleMachineModel_286 mst_yX10_signed mcd_yX10_signed min_yX10_signed hd_yX10_signed rfl rfl rfl (by decide) rfl (Nat.le_of_ble_eq_true rfl) (kdec dk_cX10_two 87 rfl) (fun x396 w392 h393 => ?_)
            obtain ⟨I394, f395, p397⟩ := h393
            have F398 : kF [(61, some 13), (61, some 15), (61, some 19), (61, some 20), (64, none), (66, none), (71, none)] w w392 := kF_call F389 f395 (by decide)
            have M399 : kMoT w392 := kMoT_kF f395 M390 rfl rfl (fun _ => rfl)
            have g400 := kf_rng x396
            refine kv_icmp_le C 256 rfl 260 (kdec dk_cX10_two 88 rfl) (by decide) (fun d401 => ?_) (fun d401 => ?_)
            · skip
              refine kv_iconst C 261 rfl 0 (kdec dk_cX10_two 91 rfl) rfl ?_
              refine kv_callVv (As := [.int 0]) (rest := []) C 264 rfl 61 (k_x_branches l D τ ρ σ w392 0 I394 M399) rfl rfl mml_TaleMachineModel_227 mim_yX10_branches mse_yX10_branches mcd_yX10_branches min_yX10_branches hd_yX10_branches rfl rfl rfl (by decide) rfl (Nat.le_of_ble_eq_true rfl) (kdec dk_cX10_two 92 rfl) (fun w402 h403 => ?_)
              obtain ⟨I404, f405, M407⟩ := h403
              have F408 : kF [(61, some 13), (61, some 15), (61, some 19), (61, some 20), (64, none), (66, none), (71, none)] w w402 := kF_call F398 f405 (by decide)
              obtain ⟨x409, e410⟩ : ∃ z : Int32, w402 61 20 = z := ⟨_, rfl⟩
              have b411 : (0 : Int) ≤ x409.toInt ∧ x409.toInt ≤ 20 := by rw [← e410]; exact I404 61 20
              have r412 := kMoT_fr M407
              rw [e410] at r412
              refine kv_goto C 472 (kdec dk_cX10_two 93 rfl) (by decide) ?_
              refine kV.sub [] (L' := []) rfl ?_
              exact cut472 w402  I404 F408 M407
            · skip
              refine kv_iconst C 257 rfl 1 (kdec dk_cX10_two 89 rfl) rfl ?_
              refine kv_goto C 261 (kdec dk_cX10_two 90 rfl) (by decide) ?_
              refine kv_callVv (As := [.int 1]) (rest := []) C 264 rfl 61 (k_x_branches l D τ ρ σ w392 1 I394 M399) rfl rfl mml_TaleMachineModel_227 mim_yX10_branches mse_yX10_branches mcd_yX10_branches min_yX10_branches hd_yX10_branches rfl rfl rfl (by decide) rfl (Nat.le_of_ble_eq_true rfl) (kdec dk_cX10_two 92 rfl) (fun w413 h414 => ?_)
              obtain ⟨I415, f416, M418⟩ := h414
              have F419 : kF [(61, some 13), (61, some 15), (61, some 19), (61, some 20), (64, none), (66, none), (71, none)] w w413 := kF_call F398 f416 (by decide)
              obtain ⟨x420, e421⟩ : ∃ z : Int32, w413 61 20 = z := ⟨_, rfl⟩
              have b422 : (0 : Int) ≤ x420.toInt ∧ x420.toInt ≤ 20 := by rw [← e421]; exact I415 61 20
              have r423 := kMoT_fr M418
              rw [e421] at r423
              refine kv_goto C 472 (kdec dk_cX10_two 93 rfl) (by decide) ?_
              refine kV.sub [] (L' := []) rfl ?_
              exact cut472 w413  I415 F419 M418
          · skip
            refine kv_iload C 226 rfl 4 (kdec dk_cX10_two 75 rfl) rfl ?_
            refine kv_callSi (As := [.int x370]) (rest := [.ref (ρ 61)]) C 229 rfl (k_x_signed l D τ ρ σ w373 x370 I375 ) mml_TaleMachineModel_286 mst_yX10_signed mcd_yX10_signed min_yX10_signed hd_yX10_signed rfl rfl rfl (by decide) rfl (Nat.le_of_ble_eq_true rfl) (kdec dk_cX10_two 76 rfl) (fun x428 w424 h425 => ?_)
            obtain ⟨I426, f427, p429⟩ := h425
            have F430 : kF [(61, some 13), (61, some 15), (61, some 19), (61, some 20), (64, none), (66, none), (71, none)] w w424 := kF_call F379 f427 (by decide)
            have M431 : kMoT w424 := kMoT_kF f427 M378 rfl rfl (fun _ => rfl)
            have g432 := kf_rng x428
            refine kv_iload_n C 230 rfl 3 (kdec dk_cX10_two 77 rfl) rfl rfl ?_
            refine kv_callSi (As := [.int x36]) (rest := [.int x428, .ref (ρ 61)]) C 233 rfl (k_x_signed l D τ ρ σ w424 x36 I426 ) mml_TaleMachineModel_286 mst_yX10_signed mcd_yX10_signed min_yX10_signed hd_yX10_signed rfl rfl rfl (by decide) rfl (Nat.le_of_ble_eq_true rfl) (kdec dk_cX10_two 78 rfl) (fun x437 w433 h434 => ?_)
            obtain ⟨I435, f436, p438⟩ := h434
            have F439 : kF [(61, some 13), (61, some 15), (61, some 19), (61, some 20), (64, none), (66, none), (71, none)] w w433 := kF_call F430 f436 (by decide)
            have M440 : kMoT w433 := kMoT_kF f436 M431 rfl rfl (fun _ => rfl)
            have g441 := kf_rng x437
            refine kv_icmp_ge C 236 rfl 240 (kdec dk_cX10_two 79 rfl) (by decide) (fun d442 => ?_) (fun d442 => ?_)
            · skip
              refine kv_iconst C 241 rfl 0 (kdec dk_cX10_two 82 rfl) rfl ?_
              refine kv_goto C 261 (kdec dk_cX10_two 83 rfl) (by decide) ?_
              refine kv_callVv (As := [.int 0]) (rest := []) C 264 rfl 61 (k_x_branches l D τ ρ σ w433 0 I435 M440) rfl rfl mml_TaleMachineModel_227 mim_yX10_branches mse_yX10_branches mcd_yX10_branches min_yX10_branches hd_yX10_branches rfl rfl rfl (by decide) rfl (Nat.le_of_ble_eq_true rfl) (kdec dk_cX10_two 92 rfl) (fun w443 h444 => ?_)
              obtain ⟨I445, f446, M448⟩ := h444
              have F449 : kF [(61, some 13), (61, some 15), (61, some 19), (61, some 20), (64, none), (66, none), (71, none)] w w443 := kF_call F439 f446 (by decide)
              obtain ⟨x450, e451⟩ : ∃ z : Int32, w443 61 20 = z := ⟨_, rfl⟩
              have b452 : (0 : Int) ≤ x450.toInt ∧ x450.toInt ≤ 20 := by rw [← e451]; exact I445 61 20
              have r453 := kMoT_fr M448
              rw [e451] at r453
              refine kv_goto C 472 (kdec dk_cX10_two 93 rfl) (by decide) ?_
              refine kV.sub [] (L' := []) rfl ?_
              exact cut472 w443  I445 F449 M448
            · skip
              refine kv_iconst C 237 rfl 1 (kdec dk_cX10_two 80 rfl) rfl ?_
              refine kv_goto C 261 (kdec dk_cX10_two 81 rfl) (by decide) ?_
              refine kv_callVv (As := [.int 1]) (rest := []) C 264 rfl 61 (k_x_branches l D τ ρ σ w433 1 I435 M440) rfl rfl mml_TaleMachineModel_227 mim_yX10_branches mse_yX10_branches mcd_yX10_branches min_yX10_branches hd_yX10_branches rfl rfl rfl (by decide) rfl (Nat.le_of_ble_eq_true rfl) (kdec dk_cX10_two 92 rfl) (fun w454 h455 => ?_)
              obtain ⟨I456, f457, M459⟩ := h455
              have F460 : kF [(61, some 13), (61, some 15), (61, some 19), (61, some 20), (64, none), (66, none), (71, none)] w w454 := kF_call F439 f457 (by decide)
              obtain ⟨x461, e462⟩ : ∃ z : Int32, w454 61 20 = z := ⟨_, rfl⟩
              have b463 : (0 : Int) ≤ x461.toInt ∧ x461.toInt ≤ 20 := by rw [← e462]; exact I456 61 20
              have r464 := kMoT_fr M459
              rw [e462] at r464
              refine kv_goto C 472 (kdec dk_cX10_two 93 rfl) (by decide) ?_
              refine kV.sub [] (L' := []) rfl ?_
              exact cut472 w454  I456 F460 M459
        · skip
          refine kv_iconst C 201 rfl (-1) (kdec dk_cX10_two 60 rfl) rfl ?_
          refine kv_goto C 205 (kdec dk_cX10_two 61 rfl) (by decide) ?_
          refine kv_iadd C 206 rfl (kdec dk_cX10_two 63 rfl) (fun x465 q467 h466e h466 h466l h466u => ?_)
          try have h466n : x465.toInt = x359.toInt + ((-1) : Int32).toInt := by omega
          clear h466 q467
          refine kv_ldc C 208 rfl 65535 (kdec dk_cX10_two 64 rfl) mco_TaleMachineModel_104 ?_
          refine kv_iand C 209 rfl (kdec dk_cX10_two 65 rfl) (fun x468 h469e h469l h469u => ?_)
          have g470 := kf_and65535 h469e
          refine kv_istore C 211 rfl 4 [1, 2, 3, 4, 0] [(0, .ref (ρ 61)), (1, .int l1_18), (2, .int x32), (3, .int x36), (4, .int x468)] (kdec dk_cX10_two 66 rfl) (by decide) rfl ?_
          refine kv_aload_n C 212 rfl 0 (kdec dk_cX10_two 67 rfl) rfl rfl ?_
          refine kv_iload_n C 213 rfl 2 (kdec dk_cX10_two 68 rfl) rfl rfl ?_
          refine kv_iload C 215 rfl 4 (kdec dk_cX10_two 69 rfl) rfl ?_
          refine kv_callVv (As := [.int x32, .int x468]) (rest := []) C 218 rfl 61 (k_x_setNamed l D τ ρ σ w355 x32 x468 I357 M361) rfl rfl mml_TaleMachineModel_292 mim_yX10_setNamed mse_yX10_setNamed mcd_yX10_setNamed min_yX10_setNamed hd_yX10_setNamed rfl rfl rfl (by decide) rfl (Nat.le_of_ble_eq_true rfl) (kdec dk_cX10_two 70 rfl) (fun w471 h472 => ?_)
          obtain ⟨I473, f474, M476⟩ := h472
          have F477 : kF [(61, some 13), (61, some 15), (61, some 19), (61, some 20), (64, none), (66, none), (71, none)] w w471 := kF_call F362 f474 (by decide)
          have e478 : w471 61 20 = x10 := ((f474 61 20 rfl : w471 61 20 = w355 61 20).trans e363)
          have r479 := kMoT_fr M476
          rw [e478] at r479
          refine kv_aload_n C 219 rfl 0 (kdec dk_cX10_two 71 rfl) rfl rfl ?_
          refine kv_iload_n C 220 rfl 1 (kdec dk_cX10_two 72 rfl) rfl rfl ?_
          refine kv_iconst C 221 rfl 4 (kdec dk_cX10_two 73 rfl) rfl ?_
          refine kv_icmp_ne C 224 rfl 244 (kdec dk_cX10_two 74 rfl) (by decide) (fun d480 => ?_) (fun d480 => ?_)
          · skip
            refine kv_iload C 246 rfl 4 (kdec dk_cX10_two 84 rfl) rfl ?_
            refine kv_callSi (As := [.int x468]) (rest := [.ref (ρ 61)]) C 249 rfl (k_x_signed l D τ ρ σ w471 x468 I473 ) mml_TaleMachineModel_286 mst_yX10_signed mcd_yX10_signed min_yX10_signed hd_yX10_signed rfl rfl rfl (by decide) rfl (Nat.le_of_ble_eq_true rfl) (kdec dk_cX10_two 85 rfl) (fun x485 w481 h482 => ?_)
            obtain ⟨I483, f484, p486⟩ := h482
            have F487 : kF [(61, some 13), (61, some 15), (61, some 19), (61, some 20), (64, none), (66, none), (71, none)] w w481 := kF_call F477 f484 (by decide)
            have M488 : kMoT w481 := kMoT_kF f484 M476 rfl rfl (fun _ => rfl)
            have g489 := kf_rng x485
            refine kv_iload_n C 250 rfl 3 (kdec dk_cX10_two 86 rfl) rfl rfl ?_
            refine kv_callSi (As := [.int x36]) (rest := [.int x485, .ref (ρ 61)]) C 253 rfl (k_x_signed l D τ ρ σ w481 x36 I483 ) mml_TaleMachineModel_286 mst_yX10_signed mcd_yX10_signed min_yX10_signed hd_yX10_signed rfl rfl rfl (by decide) rfl (Nat.le_of_ble_eq_true rfl) (kdec dk_cX10_two 87 rfl) (fun x494 w490 h491 => ?_)
            obtain ⟨I492, f493, p495⟩ := h491
            have F496 : kF [(61, some 13), (61, some 15), (61, some 19), (61, some 20), (64, none), (66, none), (71, none)] w w490 := kF_call F487 f493 (by decide)
            have M497 : kMoT w490 := kMoT_kF f493 M488 rfl rfl (fun _ => rfl)
            have g498 := kf_rng x494
            refine kv_icmp_le C 256 rfl 260 (kdec dk_cX10_two 88 rfl) (by decide) (fun d499 => ?_) (fun d499 => ?_)
            · skip
              refine kv_iconst C 261 rfl 0 (kdec dk_cX10_two 91 rfl) rfl ?_
              refine kv_callVv (As := [.int 0]) (rest := []) C 264 rfl 61 (k_x_branches l D τ ρ σ w490 0 I492 M497) rfl rfl mml_TaleMachineModel_227 mim_yX10_branches mse_yX10_branches mcd_yX10_branches min_yX10_branches hd_yX10_branches rfl rfl rfl (by decide) rfl (Nat.le_of_ble_eq_true rfl) (kdec dk_cX10_two 92 rfl) (fun w500 h501 => ?_)
              obtain ⟨I502, f503, M505⟩ := h501
              have F506 : kF [(61, some 13), (61, some 15), (61, some 19), (61, some 20), (64, none), (66, none), (71, none)] w w500 := kF_call F496 f503 (by decide)
              obtain ⟨x507, e508⟩ : ∃ z : Int32, w500 61 20 = z := ⟨_, rfl⟩
              have b509 : (0 : Int) ≤ x507.toInt ∧ x507.toInt ≤ 20 := by rw [← e508]; exact I502 61 20
              have r510 := kMoT_fr M505
              rw [e508] at r510
              refine kv_goto C 472 (kdec dk_cX10_two 93 rfl) (by decide) ?_
              refine kV.sub [] (L' := []) rfl ?_
              exact cut472 w500  I502 F506 M505
            · skip
              refine kv_iconst C 257 rfl 1 (kdec dk_cX10_two 89 rfl) rfl ?_
              refine kv_goto C 261 (kdec dk_cX10_two 90 rfl) (by decide) ?_
              refine kv_callVv (As := [.int 1]) (rest := []) C 264 rfl 61 (k_x_branches l D τ ρ σ w490 1 I492 M497) rfl rfl mml_TaleMachineModel_227 mim_yX10_branches mse_yX10_branches mcd_yX10_branches min_yX10_branches hd_yX10_branches rfl rfl rfl (by decide) rfl (Nat.le_of_ble_eq_true rfl) (kdec dk_cX10_two 92 rfl) (fun w511 h512 => ?_)
              obtain ⟨I513, f514, M516⟩ := h512
              have F517 : kF [(61, some 13), (61, some 15), (61, some 19), (61, some 20), (64, none), (66, none), (71, none)] w w511 := kF_call F496 f514 (by decide)
              obtain ⟨x518, e519⟩ : ∃ z : Int32, w511 61 20 = z := ⟨_, rfl⟩
              have b520 : (0 : Int) ≤ x518.toInt ∧ x518.toInt ≤ 20 := by rw [← e519]; exact I513 61 20
              have r521 := kMoT_fr M516
              rw [e519] at r521
              refine kv_goto C 472 (kdec dk_cX10_two 93 rfl) (by decide) ?_
              refine kV.sub [] (L' := []) rfl ?_
              exact cut472 w511  I513 F517 M516
          · skip
            refine kv_iload C 226 rfl 4 (kdec dk_cX10_two 75 rfl) rfl ?_
            refine kv_callSi (As := [.int x468]) (rest := [.ref (ρ 61)]) C 229 rfl (k_x_signed l D τ ρ σ w471 x468 I473 ) mml_TaleMachineModel_286 mst_yX10_signed mcd_yX10_signed min_yX10_signed hd_yX10_signed rfl rfl rfl (by decide) rfl (Nat.le_of_ble_eq_true rfl) (kdec dk_cX10_two 76 rfl) (fun x526 w522 h523 => ?_)
            obtain ⟨I524, f525, p527⟩ := h523
            have F528 : kF [(61, some 13), (61, some 15), (61, some 19), (61, some 20), (64, none), (66, none), (71, none)] w w522 := kF_call F477 f525 (by decide)
            have M529 : kMoT w522 := kMoT_kF f525 M476 rfl rfl (fun _ => rfl)
            have g530 := kf_rng x526
            refine kv_iload_n C 230 rfl 3 (kdec dk_cX10_two 77 rfl) rfl rfl ?_
            refine kv_callSi (As := [.int x36]) (rest := [.int x526, .ref (ρ 61)]) C 233 rfl (k_x_signed l D τ ρ σ w522 x36 I524 ) mml_TaleMachineModel_286 mst_yX10_signed mcd_yX10_signed min_yX10_signed hd_yX10_signed rfl rfl rfl (by decide) rfl (Nat.le_of_ble_eq_true rfl) (kdec dk_cX10_two 78 rfl) (fun x535 w531 h532 => ?_)
            obtain ⟨I533, f534, p536⟩ := h532
            have F537 : kF [(61, some 13), (61, some 15), (61, some 19), (61, some 20), (64, none), (66, none), (71, none)] w w531 := kF_call F528 f534 (by decide)
            have M538 : kMoT w531 := kMoT_kF f534 M529 rfl rfl (fun _ => rfl)
            have g539 := kf_rng x535
            refine kv_icmp_ge C 236 rfl 240 (kdec dk_cX10_two 79 rfl) (by decide) (fun d540 => ?_) (fun d540 => ?_)
            · skip
              refine kv_iconst C 241 rfl 0 (kdec dk_cX10_two 82 rfl) rfl ?_
              refine kv_goto C 261 (kdec dk_cX10_two 83 rfl) (by decide) ?_
              refine kv_callVv (As := [.int 0]) (rest := []) C 264 rfl 61 (k_x_branches l D τ ρ σ w531 0 I533 M538) rfl rfl mml_TaleMachineModel_227 mim_yX10_branches mse_yX10_branches mcd_yX10_branches min_yX10_branches hd_yX10_branches rfl rfl rfl (by decide) rfl (Nat.le_of_ble_eq_true rfl) (kdec dk_cX10_two 92 rfl) (fun w541 h542 => ?_)
              obtain ⟨I543, f544, M546⟩ := h542
              have F547 : kF [(61, some 13), (61, some 15), (61, some 19), (61, some 20), (64, none), (66, none), (71, none)] w w541 := kF_call F537 f544 (by decide)
              obtain ⟨x548, e549⟩ : ∃ z : Int32, w541 61 20 = z := ⟨_, rfl⟩
              have b550 : (0 : Int) ≤ x548.toInt ∧ x548.toInt ≤ 20 := by rw [← e549]; exact I543 61 20
              have r551 := kMoT_fr M546
              rw [e549] at r551
              refine kv_goto C 472 (kdec dk_cX10_two 93 rfl) (by decide) ?_
              refine kV.sub [] (L' := []) rfl ?_
              exact cut472 w541  I543 F547 M546
            · skip
              refine kv_iconst C 237 rfl 1 (kdec dk_cX10_two 80 rfl) rfl ?_
              refine kv_goto C 261 (kdec dk_cX10_two 81 rfl) (by decide) ?_
              refine kv_callVv (As := [.int 1]) (rest := []) C 264 rfl 61 (k_x_branches l D τ ρ σ w531 1 I533 M538) rfl rfl mml_TaleMachineModel_227 mim_yX10_branches mse_yX10_branches mcd_yX10_branches min_yX10_branches hd_yX10_branches rfl rfl rfl (by decide) rfl (Nat.le_of_ble_eq_true rfl) (kdec dk_cX10_two 92 rfl) (fun w552 h553 => ?_)
              obtain ⟨I554, f555, M557⟩ := h553
              have F558 : kF [(61, some 13), (61, some 15), (61, some 19), (61, some 20), (64, none), (66, none), (71, none)] w w552 := kF_call F537 f555 (by decide)
              obtain ⟨x559, e560⟩ : ∃ z : Int32, w552 61 20 = z := ⟨_, rfl⟩
              have b561 : (0 : Int) ≤ x559.toInt ∧ x559.toInt ≤ 20 := by rw [← e560]; exact I554 61 20
              have r562 := kMoT_fr M557
              rw [e560] at r562
              refine kv_goto C 472 (kdec dk_cX10_two 93 rfl) (by decide) ?_
              refine kV.sub [] (L' := []) rfl ?_
              exact cut472 w552  I554 F558 M557
      by_cases d563 : l1_18.toInt = 6
      · skip
        refine kv_tableIn C 6 267 (kdec dk_cX10_two 25 rfl) d563 (by decide) (by decide) rfl (by decide) ?_
        refine kv_aload_n C 268 rfl 0 (kdec dk_cX10_two 94 rfl) rfl rfl ?_
        refine kv_iload_n C 269 rfl 2 (kdec dk_cX10_two 95 rfl) rfl rfl ?_
        refine kv_iconst C 270 rfl 4 (kdec dk_cX10_two 96 rfl) rfl ?_
        refine kv_callVi (As := [.int x32, .int 4]) (rest := []) C 273 rfl 61 (k_x_kin l D τ ρ σ w17 x32 4 I19 ) rfl rfl mml_TaleMachineModel_211 mim_yX10_kin mse_yX10_kin mcd_yX10_kin min_yX10_kin hd_yX10_kin rfl rfl rfl (by decide) rfl (Nat.le_of_ble_eq_true rfl) (kdec dk_cX10_two 97 rfl) (fun x568 w564 h565 => ?_)
        obtain ⟨I566, f567, p569⟩ := h565
        have F570 : kF [(61, some 13), (61, some 15), (61, some 19), (61, some 20), (64, none), (66, none), (71, none)] w w564 := kF_call F25 f567 (by decide)
        have M571 : kMoT w564 := kMoT_kF f567 M26 rfl rfl (fun _ => rfl)
        have g572 := kf_rng x568
        refine kv_istore C 275 rfl 4 [1, 2, 3, 4, 0] [(0, .ref (ρ 61)), (1, .int l1_18), (2, .int x32), (3, .int x36), (4, .int x568)] (kdec dk_cX10_two 98 rfl) (by decide) rfl ?_
        refine kv_aload_n C 276 rfl 0 (kdec dk_cX10_two 99 rfl) rfl rfl ?_
        refine kv_iload C 278 rfl 4 (kdec dk_cX10_two 100 rfl) rfl ?_
        refine kv_iload_n C 279 rfl 3 (kdec dk_cX10_two 101 rfl) rfl rfl ?_
        refine kv_icmp_ne C 282 rfl 286 (kdec dk_cX10_two 102 rfl) (by decide) (fun d573 => ?_) (fun d573 => ?_)
        · skip
          refine kv_iconst C 287 rfl 0 (kdec dk_cX10_two 105 rfl) rfl ?_
          refine kv_callVv (As := [.int 0]) (rest := []) C 290 rfl 61 (k_x_branches l D τ ρ σ w564 0 I566 M571) rfl rfl mml_TaleMachineModel_227 mim_yX10_branches mse_yX10_branches mcd_yX10_branches min_yX10_branches hd_yX10_branches rfl rfl rfl (by decide) rfl (Nat.le_of_ble_eq_true rfl) (kdec dk_cX10_two 106 rfl) (fun w574 h575 => ?_)
          obtain ⟨I576, f577, M579⟩ := h575
          have F580 : kF [(61, some 13), (61, some 15), (61, some 19), (61, some 20), (64, none), (66, none), (71, none)] w w574 := kF_call F570 f577 (by decide)
          obtain ⟨x581, e582⟩ : ∃ z : Int32, w574 61 20 = z := ⟨_, rfl⟩
          have b583 : (0 : Int) ≤ x581.toInt ∧ x581.toInt ≤ 20 := by rw [← e582]; exact I576 61 20
          have r584 := kMoT_fr M579
          rw [e582] at r584
          refine kv_goto C 472 (kdec dk_cX10_two 107 rfl) (by decide) ?_
          refine kV.sub [] (L' := []) rfl ?_
          exact cut472 w574  I576 F580 M579
        · skip
          refine kv_iconst C 283 rfl 1 (kdec dk_cX10_two 103 rfl) rfl ?_
          refine kv_goto C 287 (kdec dk_cX10_two 104 rfl) (by decide) ?_
          refine kv_callVv (As := [.int 1]) (rest := []) C 290 rfl 61 (k_x_branches l D τ ρ σ w564 1 I566 M571) rfl rfl mml_TaleMachineModel_227 mim_yX10_branches mse_yX10_branches mcd_yX10_branches min_yX10_branches hd_yX10_branches rfl rfl rfl (by decide) rfl (Nat.le_of_ble_eq_true rfl) (kdec dk_cX10_two 106 rfl) (fun w585 h586 => ?_)
          obtain ⟨I587, f588, M590⟩ := h586
          have F591 : kF [(61, some 13), (61, some 15), (61, some 19), (61, some 20), (64, none), (66, none), (71, none)] w w585 := kF_call F570 f588 (by decide)
          obtain ⟨x592, e593⟩ : ∃ z : Int32, w585 61 20 = z := ⟨_, rfl⟩
          have b594 : (0 : Int) ≤ x592.toInt ∧ x592.toInt ≤ 20 := by rw [← e593]; exact I587 61 20
          have r595 := kMoT_fr M590
          rw [e593] at r595
          refine kv_goto C 472 (kdec dk_cX10_two 107 rfl) (by decide) ?_
          refine kV.sub [] (L' := []) rfl ?_
          exact cut472 w585  I587 F591 M590
      by_cases d596 : l1_18.toInt = 7
      · skip
        refine kv_tableIn C 7 293 (kdec dk_cX10_two 25 rfl) d596 (by decide) (by decide) rfl (by decide) ?_
        refine kv_aload_n C 294 rfl 0 (kdec dk_cX10_two 108 rfl) rfl rfl ?_
        refine kv_iload_n C 295 rfl 2 (kdec dk_cX10_two 109 rfl) rfl rfl ?_
        refine kv_iload_n C 296 rfl 3 (kdec dk_cX10_two 110 rfl) rfl rfl ?_
        refine kv_iand C 297 rfl (kdec dk_cX10_two 111 rfl) (fun x597 h598e h598l h598u => ?_)
        refine kv_iload_n C 298 rfl 3 (kdec dk_cX10_two 112 rfl) rfl rfl ?_
        refine kv_icmp_ne C 301 rfl 305 (kdec dk_cX10_two 113 rfl) (by decide) (fun d599 => ?_) (fun d599 => ?_)
        · skip
          refine kv_iconst C 306 rfl 0 (kdec dk_cX10_two 116 rfl) rfl ?_
          refine kv_callVv (As := [.int 0]) (rest := []) C 309 rfl 61 (k_x_branches l D τ ρ σ w17 0 I19 M26) rfl rfl mml_TaleMachineModel_227 mim_yX10_branches mse_yX10_branches mcd_yX10_branches min_yX10_branches hd_yX10_branches rfl rfl rfl (by decide) rfl (Nat.le_of_ble_eq_true rfl) (kdec dk_cX10_two 117 rfl) (fun w600 h601 => ?_)
          obtain ⟨I602, f603, M605⟩ := h601
          have F606 : kF [(61, some 13), (61, some 15), (61, some 19), (61, some 20), (64, none), (66, none), (71, none)] w w600 := kF_call F25 f603 (by decide)
          obtain ⟨x607, e608⟩ : ∃ z : Int32, w600 61 20 = z := ⟨_, rfl⟩
          have b609 : (0 : Int) ≤ x607.toInt ∧ x607.toInt ≤ 20 := by rw [← e608]; exact I602 61 20
          have r610 := kMoT_fr M605
          rw [e608] at r610
          refine kv_goto C 472 (kdec dk_cX10_two 118 rfl) (by decide) ?_
          refine kV.sub [] (L' := []) rfl ?_
          exact cut472 w600  I602 F606 M605
        · skip
          refine kv_iconst C 302 rfl 1 (kdec dk_cX10_two 114 rfl) rfl ?_
          refine kv_goto C 306 (kdec dk_cX10_two 115 rfl) (by decide) ?_
          refine kv_callVv (As := [.int 1]) (rest := []) C 309 rfl 61 (k_x_branches l D τ ρ σ w17 1 I19 M26) rfl rfl mml_TaleMachineModel_227 mim_yX10_branches mse_yX10_branches mcd_yX10_branches min_yX10_branches hd_yX10_branches rfl rfl rfl (by decide) rfl (Nat.le_of_ble_eq_true rfl) (kdec dk_cX10_two 117 rfl) (fun w611 h612 => ?_)
          obtain ⟨I613, f614, M616⟩ := h612
          have F617 : kF [(61, some 13), (61, some 15), (61, some 19), (61, some 20), (64, none), (66, none), (71, none)] w w611 := kF_call F25 f614 (by decide)
          obtain ⟨x618, e619⟩ : ∃ z : Int32, w611 61 20 = z := ⟨_, rfl⟩
          have b620 : (0 : Int) ≤ x618.toInt ∧ x618.toInt ≤ 20 := by rw [← e619]; exact I613 61 20
          have r621 := kMoT_fr M616
          rw [e619] at r621
          refine kv_goto C 472 (kdec dk_cX10_two 118 rfl) (by decide) ?_
          refine kV.sub [] (L' := []) rfl ?_
          exact cut472 w611  I613 F617 M616
      by_cases d622 : l1_18.toInt = 8
      · skip
        refine kv_tableIn C 8 312 (kdec dk_cX10_two 25 rfl) d622 (by decide) (by decide) rfl (by decide) ?_
        refine kv_aload_n C 313 rfl 0 (kdec dk_cX10_two 119 rfl) rfl rfl ?_
        refine kv_iload_n C 314 rfl 2 (kdec dk_cX10_two 120 rfl) rfl rfl ?_
        refine kv_iload_n C 315 rfl 3 (kdec dk_cX10_two 121 rfl) rfl rfl ?_
        refine kv_ior C 316 rfl (kdec dk_cX10_two 122 rfl) (fun x623 h624e h624l h624u => ?_)
        refine kv_callVv (As := [.int x623]) (rest := []) C 319 rfl 61 (k_x_answers l D τ ρ σ w17 x623 I19 M26) rfl rfl mml_TaleMachineModel_237 mim_yX10_answers mse_yX10_answers mcd_yX10_answers min_yX10_answers hd_yX10_answers rfl rfl rfl (by decide) rfl (Nat.le_of_ble_eq_true rfl) (kdec dk_cX10_two 123 rfl) (fun w625 h626 => ?_)
        obtain ⟨I627, f628, M630⟩ := h626
        have F631 : kF [(61, some 13), (61, some 15), (61, some 19), (61, some 20), (64, none), (66, none), (71, none)] w w625 := kF_call F25 f628 (by decide)
        have e632 : w625 61 20 = x10 := ((f628 61 20 rfl : w625 61 20 = w17 61 20).trans ((f20 61 20 rfl : w17 61 20 = w_18 61 20).trans e11))
        have r633 := kMoT_fr M630
        rw [e632] at r633
        refine kv_goto C 472 (kdec dk_cX10_two 124 rfl) (by decide) ?_
        refine kV.sub [] (L' := []) rfl ?_
        exact cut472 w625  I627 F631 M630
      by_cases d634 : l1_18.toInt = 9
      · skip
        refine kv_tableIn C 9 322 (kdec dk_cX10_two 25 rfl) d634 (by decide) (by decide) rfl (by decide) ?_
        refine kv_aload_n C 323 rfl 0 (kdec dk_cX10_two 125 rfl) rfl rfl ?_
        refine kv_iload_n C 324 rfl 2 (kdec dk_cX10_two 126 rfl) rfl rfl ?_
        refine kv_iload_n C 325 rfl 3 (kdec dk_cX10_two 127 rfl) rfl rfl ?_
        refine kv_iand C 326 rfl (kdec dk_cX10_two 128 rfl) (fun x635 h636e h636l h636u => ?_)
        refine kv_callVv (As := [.int x635]) (rest := []) C 329 rfl 61 (k_x_answers l D τ ρ σ w17 x635 I19 M26) rfl rfl mml_TaleMachineModel_237 mim_yX10_answers mse_yX10_answers mcd_yX10_answers min_yX10_answers hd_yX10_answers rfl rfl rfl (by decide) rfl (Nat.le_of_ble_eq_true rfl) (kdec dk_cX10_two 129 rfl) (fun w637 h638 => ?_)
        obtain ⟨I639, f640, M642⟩ := h638
        have F643 : kF [(61, some 13), (61, some 15), (61, some 19), (61, some 20), (64, none), (66, none), (71, none)] w w637 := kF_call F25 f640 (by decide)
        have e644 : w637 61 20 = x10 := ((f640 61 20 rfl : w637 61 20 = w17 61 20).trans ((f20 61 20 rfl : w17 61 20 = w_18 61 20).trans e11))
        have r645 := kMoT_fr M642
        rw [e644] at r645
        refine kv_goto C 472 (kdec dk_cX10_two 130 rfl) (by decide) ?_
        refine kV.sub [] (L' := []) rfl ?_
        exact cut472 w637  I639 F643 M642
      by_cases d646 : l1_18.toInt = 10
      · skip
        refine kv_tableIn C 10 332 (kdec dk_cX10_two 25 rfl) d646 (by decide) (by decide) rfl (by decide) ?_
        refine kv_aload_n C 333 rfl 0 (kdec dk_cX10_two 131 rfl) rfl rfl ?_
        refine kv_iload_n C 334 rfl 2 (kdec dk_cX10_two 132 rfl) rfl rfl ?_
        refine kv_iload_n C 335 rfl 3 (kdec dk_cX10_two 133 rfl) rfl rfl ?_
        refine kv_callVv (As := [.int x32, .int x36]) (rest := []) C 338 rfl 61 (k_x_hasAttribute l D τ ρ σ w17 x32 x36 I19 M26) rfl rfl mml_TaleMachineModel_295 mim_yX10_hasAttribute mse_yX10_hasAttribute mcd_yX10_hasAttribute min_yX10_hasAttribute hd_yX10_hasAttribute rfl rfl rfl (by decide) rfl (Nat.le_of_ble_eq_true rfl) (kdec dk_cX10_two 134 rfl) (fun w647 h648 => ?_)
        obtain ⟨I649, f650, M652⟩ := h648
        have F653 : kF [(61, some 13), (61, some 15), (61, some 19), (61, some 20), (64, none), (66, none), (71, none)] w w647 := kF_call F25 f650 (by decide)
        obtain ⟨x654, e655⟩ : ∃ z : Int32, w647 61 20 = z := ⟨_, rfl⟩
        have b656 : (0 : Int) ≤ x654.toInt ∧ x654.toInt ≤ 20 := by rw [← e655]; exact I649 61 20
        have r657 := kMoT_fr M652
        rw [e655] at r657
        refine kv_goto C 472 (kdec dk_cX10_two 135 rfl) (by decide) ?_
        refine kV.sub [] (L' := []) rfl ?_
        exact cut472 w647  I649 F653 M652
      by_cases d658 : l1_18.toInt = 11
      · skip
        refine kv_tableIn C 11 341 (kdec dk_cX10_two 25 rfl) d658 (by decide) (by decide) rfl (by decide) ?_
        refine kv_aload_n C 342 rfl 0 (kdec dk_cX10_two 136 rfl) rfl rfl ?_
        refine kv_iload_n C 343 rfl 2 (kdec dk_cX10_two 137 rfl) rfl rfl ?_
        refine kv_iload_n C 344 rfl 3 (kdec dk_cX10_two 138 rfl) rfl rfl ?_
        refine kv_iconst C 345 rfl 1 (kdec dk_cX10_two 139 rfl) rfl ?_
        refine kv_callVv (As := [.int x32, .int x36, .int 1]) (rest := []) C 348 rfl 61 (k_x_attribute l D τ ρ σ w17 x32 x36 1 I19 ) rfl rfl mml_TaleMachineModel_298 mim_yX10_attribute mse_yX10_attribute mcd_yX10_attribute min_yX10_attribute hd_yX10_attribute rfl rfl rfl (by decide) rfl (Nat.le_of_ble_eq_true rfl) (kdec dk_cX10_two 140 rfl) (fun w659 h660 => ?_)
        obtain ⟨I661, f662⟩ := h660
        have F664 : kF [(61, some 13), (61, some 15), (61, some 19), (61, some 20), (64, none), (66, none), (71, none)] w w659 := kF_call F25 f662 (by decide)
        have M665 : kMoT w659 := kMoT_kF f662 M26 rfl rfl (fun _ => rfl)
        refine kv_goto C 472 (kdec dk_cX10_two 141 rfl) (by decide) ?_
        refine kV.sub [] (L' := []) rfl ?_
        exact cut472 w659  I661 F664 M665
      by_cases d666 : l1_18.toInt = 12
      · skip
        refine kv_tableIn C 12 351 (kdec dk_cX10_two 25 rfl) d666 (by decide) (by decide) rfl (by decide) ?_
        refine kv_aload_n C 352 rfl 0 (kdec dk_cX10_two 142 rfl) rfl rfl ?_
        refine kv_iload_n C 353 rfl 2 (kdec dk_cX10_two 143 rfl) rfl rfl ?_
        refine kv_iload_n C 354 rfl 3 (kdec dk_cX10_two 144 rfl) rfl rfl ?_
        refine kv_iconst C 355 rfl 0 (kdec dk_cX10_two 145 rfl) rfl ?_
        refine kv_callVv (As := [.int x32, .int x36, .int 0]) (rest := []) C 358 rfl 61 (k_x_attribute l D τ ρ σ w17 x32 x36 0 I19 ) rfl rfl mml_TaleMachineModel_298 mim_yX10_attribute mse_yX10_attribute mcd_yX10_attribute min_yX10_attribute hd_yX10_attribute rfl rfl rfl (by decide) rfl (Nat.le_of_ble_eq_true rfl) (kdec dk_cX10_two 146 rfl) (fun w667 h668 => ?_)
        obtain ⟨I669, f670⟩ := h668
        have F672 : kF [(61, some 13), (61, some 15), (61, some 19), (61, some 20), (64, none), (66, none), (71, none)] w w667 := kF_call F25 f670 (by decide)
        have M673 : kMoT w667 := kMoT_kF f670 M26 rfl rfl (fun _ => rfl)
        refine kv_goto C 472 (kdec dk_cX10_two 147 rfl) (by decide) ?_
        refine kV.sub [] (L' := []) rfl ?_
        exact cut472 w667  I669 F672 M673
      by_cases d674 : l1_18.toInt = 13
      · skip
        refine kv_tableIn C 13 361 (kdec dk_cX10_two 25 rfl) d674 (by decide) (by decide) rfl (by decide) ?_
        refine kv_aload_n C 362 rfl 0 (kdec dk_cX10_two 148 rfl) rfl rfl ?_
        refine kv_iload_n C 363 rfl 2 (kdec dk_cX10_two 149 rfl) rfl rfl ?_
        refine kv_iload_n C 364 rfl 3 (kdec dk_cX10_two 150 rfl) rfl rfl ?_
        refine kv_callVv (As := [.int x32, .int x36]) (rest := []) C 367 rfl 61 (k_x_setNamed l D τ ρ σ w17 x32 x36 I19 M26) rfl rfl mml_TaleMachineModel_292 mim_yX10_setNamed mse_yX10_setNamed mcd_yX10_setNamed min_yX10_setNamed hd_yX10_setNamed rfl rfl rfl (by decide) rfl (Nat.le_of_ble_eq_true rfl) (kdec dk_cX10_two 151 rfl) (fun w675 h676 => ?_)
        obtain ⟨I677, f678, M680⟩ := h676
        have F681 : kF [(61, some 13), (61, some 15), (61, some 19), (61, some 20), (64, none), (66, none), (71, none)] w w675 := kF_call F25 f678 (by decide)
        have e682 : w675 61 20 = x10 := ((f678 61 20 rfl : w675 61 20 = w17 61 20).trans ((f20 61 20 rfl : w17 61 20 = w_18 61 20).trans e11))
        have r683 := kMoT_fr M680
        rw [e682] at r683
        refine kv_goto C 472 (kdec dk_cX10_two 152 rfl) (by decide) ?_
        refine kV.sub [] (L' := []) rfl ?_
        exact cut472 w675  I677 F681 M680
      by_cases d684 : l1_18.toInt = 14
      · skip
        refine kv_tableIn C 14 370 (kdec dk_cX10_two 25 rfl) d684 (by decide) (by decide) rfl (by decide) ?_
        refine kv_aload_n C 371 rfl 0 (kdec dk_cX10_two 153 rfl) rfl rfl ?_
        refine kv_iload_n C 372 rfl 2 (kdec dk_cX10_two 154 rfl) rfl rfl ?_
        refine kv_iload_n C 373 rfl 3 (kdec dk_cX10_two 155 rfl) rfl rfl ?_
        refine kv_callVv (As := [.int x32, .int x36]) (rest := []) C 376 rfl 61 (k_x_inserts l D τ ρ σ w17 x32 x36 I19 ) rfl rfl mml_TaleMachineModel_302 mim_yX10_inserts mse_yX10_inserts mcd_yX10_inserts min_yX10_inserts hd_yX10_inserts rfl rfl rfl (by decide) rfl (Nat.le_of_ble_eq_true rfl) (kdec dk_cX10_two 156 rfl) (fun w685 h686 => ?_)
        obtain ⟨I687, f688⟩ := h686
        have F690 : kF [(61, some 13), (61, some 15), (61, some 19), (61, some 20), (64, none), (66, none), (71, none)] w w685 := kF_call F25 f688 (by decide)
        have M691 : kMoT w685 := kMoT_kF f688 M26 rfl rfl (fun _ => rfl)
        refine kv_goto C 472 (kdec dk_cX10_two 157 rfl) (by decide) ?_
        refine kV.sub [] (L' := []) rfl ?_
        exact cut472 w685  I687 F690 M691
      by_cases d692 : l1_18.toInt = 15
      · skip
        refine kv_tableIn C 15 379 (kdec dk_cX10_two 25 rfl) d692 (by decide) (by decide) rfl (by decide) ?_
        refine kv_aload_n C 380 rfl 0 (kdec dk_cX10_two 158 rfl) rfl rfl ?_
        refine kv_iload_n C 381 rfl 2 (kdec dk_cX10_two 159 rfl) rfl rfl ?_
        refine kv_iconst C 382 rfl 2 (kdec dk_cX10_two 160 rfl) rfl ?_
        refine kv_iload_n C 383 rfl 3 (kdec dk_cX10_two 161 rfl) rfl rfl ?_
        refine kv_imul C 384 rfl (kdec dk_cX10_two 162 rfl) (fun x693 h694e h694l h694u => ?_)
        obtain ⟨q695, g696⟩ := kf_mul 2 x36
        rw [← h694e, c_2] at g696
        try have h694n : x693.toInt = 2 * x36.toInt := by omega
        clear g696 q695
        refine kv_iadd C 385 rfl (kdec dk_cX10_two 163 rfl) (fun x697 q699 h698e h698 h698l h698u => ?_)
        try have h698n : x697.toInt = x32.toInt + x693.toInt := by omega
        clear h698 q699
        refine kv_callVi (As := [.int x697]) (rest := []) C 388 rfl 61 (k_x_wordAt l D τ ρ σ w17 x697 I19 ) rfl rfl mml_TaleMachineModel_178 mim_yX10_wordAt mse_yX10_wordAt mcd_yX10_wordAt min_yX10_wordAt hd_yX10_wordAt rfl rfl rfl (by decide) rfl (Nat.le_of_ble_eq_true rfl) (kdec dk_cX10_two 164 rfl) (fun x704 w700 h701 => ?_)
        obtain ⟨I702, f703, p705, p706⟩ := h701
        have F707 : kF [(61, some 13), (61, some 15), (61, some 19), (61, some 20), (64, none), (66, none), (71, none)] w w700 := kF_call F25 f703 (by decide)
        have M708 : kMoT w700 := kMoT_kF f703 M26 rfl rfl (fun _ => rfl)
        have g709 := kf_rng x704
        obtain ⟨x710, e711⟩ : ∃ z : Int32, w700 61 13 = z := ⟨_, rfl⟩
        have b712 : (0 : Int) ≤ x710.toInt ∧ x710.toInt ≤ 13 := by rw [← e711]; exact I702 61 13
        rw [e29, e711] at p706
        refine kv_istore C 390 rfl 4 [1, 2, 3, 4, 0] [(0, .ref (ρ 61)), (1, .int l1_18), (2, .int x32), (3, .int x36), (4, .int x704)] (kdec dk_cX10_two 165 rfl) (by decide) rfl ?_
        refine kv_aload_n C 391 rfl 0 (kdec dk_cX10_two 166 rfl) rfl rfl ?_
        refine kv_iload C 393 rfl 4 (kdec dk_cX10_two 167 rfl) rfl ?_
        refine kv_callVv (As := [.int x704]) (rest := []) C 396 rfl 61 (k_x_answers l D τ ρ σ w700 x704 I702 M708) rfl rfl mml_TaleMachineModel_237 mim_yX10_answers mse_yX10_answers mcd_yX10_answers min_yX10_answers hd_yX10_answers rfl rfl rfl (by decide) rfl (Nat.le_of_ble_eq_true rfl) (kdec dk_cX10_two 168 rfl) (fun w713 h714 => ?_)
        obtain ⟨I715, f716, M718⟩ := h714
        have F719 : kF [(61, some 13), (61, some 15), (61, some 19), (61, some 20), (64, none), (66, none), (71, none)] w w713 := kF_call F707 f716 (by decide)
        have e720 : w713 61 20 = x10 := ((f716 61 20 rfl : w713 61 20 = w700 61 20).trans ((f703 61 20 rfl : w700 61 20 = w17 61 20).trans ((f20 61 20 rfl : w17 61 20 = w_18 61 20).trans e11)))
        have r721 := kMoT_fr M718
        rw [e720] at r721
        refine kv_goto C 472 (kdec dk_cX10_two 169 rfl) (by decide) ?_
        refine kV.sub [] (L' := []) rfl ?_
        exact cut472 w713  I715 F719 M718
      by_cases d722 : l1_18.toInt = 16
      · skip
        refine kv_tableIn C 16 399 (kdec dk_cX10_two 25 rfl) d722 (by decide) (by decide) rfl (by decide) ?_
        refine kv_aload_n C 400 rfl 0 (kdec dk_cX10_two 170 rfl) rfl rfl ?_
        refine kv_iload_n C 401 rfl 2 (kdec dk_cX10_two 171 rfl) rfl rfl ?_
        refine kv_iload_n C 402 rfl 3 (kdec dk_cX10_two 172 rfl) rfl rfl ?_
        refine kv_iadd C 403 rfl (kdec dk_cX10_two 173 rfl) (fun x723 q725 h724e h724 h724l h724u => ?_)
        try have h724n : x723.toInt = x32.toInt + x36.toInt := by omega
        clear h724 q725
        refine kv_callVi (As := [.int x723]) (rest := []) C 406 rfl 61 (k_x_byteAt l D τ ρ σ w17 x723 I19 ) rfl rfl mml_TaleMachineModel_163 mim_yX10_byteAt mse_yX10_byteAt mcd_yX10_byteAt min_yX10_byteAt hd_yX10_byteAt rfl rfl rfl (by decide) rfl (Nat.le_of_ble_eq_true rfl) (kdec dk_cX10_two 174 rfl) (fun x730 w726 h727 => ?_)
        obtain ⟨I728, f729, p731, p732, p733⟩ := h727
        have F734 : kF [(61, some 13), (61, some 15), (61, some 19), (61, some 20), (64, none), (66, none), (71, none)] w w726 := kF_call F25 f729 (by decide)
        have M735 : kMoT w726 := kMoT_kF f729 M26 rfl rfl (fun _ => rfl)
        have g736 := kf_rng x730
        obtain ⟨x737, e738⟩ : ∃ z : Int32, w726 61 13 = z := ⟨_, rfl⟩
        have b739 : (0 : Int) ≤ x737.toInt ∧ x737.toInt ≤ 13 := by rw [← e738]; exact I728 61 13
        rw [e29, e738] at p732
        rw [e738] at p733
        refine kv_istore C 408 rfl 4 [1, 2, 3, 4, 0] [(0, .ref (ρ 61)), (1, .int l1_18), (2, .int x32), (3, .int x36), (4, .int x730)] (kdec dk_cX10_two 175 rfl) (by decide) rfl ?_
        refine kv_aload_n C 409 rfl 0 (kdec dk_cX10_two 176 rfl) rfl rfl ?_
        refine kv_iload C 411 rfl 4 (kdec dk_cX10_two 177 rfl) rfl ?_
        refine kv_callVv (As := [.int x730]) (rest := []) C 414 rfl 61 (k_x_answers l D τ ρ σ w726 x730 I728 M735) rfl rfl mml_TaleMachineModel_237 mim_yX10_answers mse_yX10_answers mcd_yX10_answers min_yX10_answers hd_yX10_answers rfl rfl rfl (by decide) rfl (Nat.le_of_ble_eq_true rfl) (kdec dk_cX10_two 178 rfl) (fun w740 h741 => ?_)
        obtain ⟨I742, f743, M745⟩ := h741
        have F746 : kF [(61, some 13), (61, some 15), (61, some 19), (61, some 20), (64, none), (66, none), (71, none)] w w740 := kF_call F734 f743 (by decide)
        have e747 : w740 61 20 = x10 := ((f743 61 20 rfl : w740 61 20 = w726 61 20).trans ((f729 61 20 rfl : w726 61 20 = w17 61 20).trans ((f20 61 20 rfl : w17 61 20 = w_18 61 20).trans e11)))
        have r748 := kMoT_fr M745
        rw [e747] at r748
        refine kv_goto C 472 (kdec dk_cX10_two 179 rfl) (by decide) ?_
        refine kV.sub [] (L' := []) rfl ?_
        exact cut472 w740  I742 F746 M745
      by_cases d749 : l1_18.toInt = 17
      · skip
        refine kv_tableIn C 17 417 (kdec dk_cX10_two 25 rfl) d749 (by decide) (by decide) rfl (by decide) ?_
        refine kv_aload_n C 418 rfl 0 (kdec dk_cX10_two 180 rfl) rfl rfl ?_
        refine kv_iload_n C 419 rfl 2 (kdec dk_cX10_two 181 rfl) rfl rfl ?_
        refine kv_iload_n C 420 rfl 3 (kdec dk_cX10_two 182 rfl) rfl rfl ?_
        refine kv_callVv (As := [.int x32, .int x36]) (rest := []) C 423 rfl 61 (k_x_getProperty l D τ ρ σ w17 x32 x36 I19 M26) rfl rfl mml_TaleMachineModel_305 mim_yX10_getProperty mse_yX10_getProperty mcd_yX10_getProperty min_yX10_getProperty hd_yX10_getProperty rfl rfl rfl (by decide) rfl (Nat.le_of_ble_eq_true rfl) (kdec dk_cX10_two 183 rfl) (fun w750 h751 => ?_)
        obtain ⟨I752, f753, M755⟩ := h751
        have F756 : kF [(61, some 13), (61, some 15), (61, some 19), (61, some 20), (64, none), (66, none), (71, none)] w w750 := kF_call F25 f753 (by decide)
        have e757 : w750 61 20 = x10 := ((f753 61 20 rfl : w750 61 20 = w17 61 20).trans ((f20 61 20 rfl : w17 61 20 = w_18 61 20).trans e11))
        have r758 := kMoT_fr M755
        rw [e757] at r758
        refine kv_goto C 472 (kdec dk_cX10_two 184 rfl) (by decide) ?_
        refine kV.sub [] (L' := []) rfl ?_
        exact cut472 w750  I752 F756 M755
      by_cases d759 : l1_18.toInt = 18
      · skip
        refine kv_tableIn C 18 426 (kdec dk_cX10_two 25 rfl) d759 (by decide) (by decide) rfl (by decide) ?_
        refine kv_aload_n C 427 rfl 0 (kdec dk_cX10_two 185 rfl) rfl rfl ?_
        refine kv_iload_n C 428 rfl 2 (kdec dk_cX10_two 186 rfl) rfl rfl ?_
        refine kv_iload_n C 429 rfl 3 (kdec dk_cX10_two 187 rfl) rfl rfl ?_
        refine kv_callVi (As := [.int x32, .int x36]) (rest := []) C 432 rfl 61 (k_x_property l D τ ρ σ w17 x32 x36 I19 ) rfl rfl mml_TaleMachineModel_234 mim_yX10_property mse_yX10_property mcd_yX10_property min_yX10_property hd_yX10_property rfl rfl rfl (by decide) rfl (Nat.le_of_ble_eq_true rfl) (kdec dk_cX10_two 188 rfl) (fun x764 w760 h761 => ?_)
        obtain ⟨I762, f763⟩ := h761
        have F765 : kF [(61, some 13), (61, some 15), (61, some 19), (61, some 20), (64, none), (66, none), (71, none)] w w760 := kF_call F25 f763 (by decide)
        have M766 : kMoT w760 := kMoT_kF f763 M26 rfl rfl (fun _ => rfl)
        have g767 := kf_rng x764
        refine kv_istore C 434 rfl 4 [1, 2, 3, 4, 0] [(0, .ref (ρ 61)), (1, .int l1_18), (2, .int x32), (3, .int x36), (4, .int x764)] (kdec dk_cX10_two 189 rfl) (by decide) rfl ?_
        refine kv_aload_n C 435 rfl 0 (kdec dk_cX10_two 190 rfl) rfl rfl ?_
        refine kv_iload C 437 rfl 4 (kdec dk_cX10_two 191 rfl) rfl ?_
        refine kv_bipush C 439 rfl (-4) (kdec dk_cX10_two 192 rfl) rfl ?_
        refine kv_icmp_ne C 442 rfl 446 (kdec dk_cX10_two 193 rfl) (by decide) (fun d768 => ?_) (fun d768 => ?_)
        · skip
          refine kv_iload C 448 rfl 4 (kdec dk_cX10_two 196 rfl) rfl ?_
          refine kv_iconst C 449 rfl 1 (kdec dk_cX10_two 197 rfl) rfl ?_
          refine kv_iadd C 450 rfl (kdec dk_cX10_two 198 rfl) (fun x769 q771 h770e h770 h770l h770u => ?_)
          try have h770n : x769.toInt = x764.toInt + (1 : Int32).toInt := by omega
          clear h770 q771
          refine kv_callVv (As := [.int x769]) (rest := []) C 453 rfl 61 (k_x_answers l D τ ρ σ w760 x769 I762 M766) rfl rfl mml_TaleMachineModel_237 mim_yX10_answers mse_yX10_answers mcd_yX10_answers min_yX10_answers hd_yX10_answers rfl rfl rfl (by decide) rfl (Nat.le_of_ble_eq_true rfl) (kdec dk_cX10_two 199 rfl) (fun w772 h773 => ?_)
          obtain ⟨I774, f775, M777⟩ := h773
          have F778 : kF [(61, some 13), (61, some 15), (61, some 19), (61, some 20), (64, none), (66, none), (71, none)] w w772 := kF_call F765 f775 (by decide)
          have e779 : w772 61 20 = x10 := ((f775 61 20 rfl : w772 61 20 = w760 61 20).trans ((f763 61 20 rfl : w760 61 20 = w17 61 20).trans ((f20 61 20 rfl : w17 61 20 = w_18 61 20).trans e11)))
          have r780 := kMoT_fr M777
          rw [e779] at r780
          refine kv_goto C 472 (kdec dk_cX10_two 200 rfl) (by decide) ?_
          refine kV.sub [] (L' := []) rfl ?_
          exact cut472 w772  I774 F778 M777
        · skip
          refine kv_iconst C 443 rfl 0 (kdec dk_cX10_two 194 rfl) rfl ?_
          refine kv_goto C 450 (kdec dk_cX10_two 195 rfl) (by decide) ?_
          refine kv_callVv (As := [.int 0]) (rest := []) C 453 rfl 61 (k_x_answers l D τ ρ σ w760 0 I762 M766) rfl rfl mml_TaleMachineModel_237 mim_yX10_answers mse_yX10_answers mcd_yX10_answers min_yX10_answers hd_yX10_answers rfl rfl rfl (by decide) rfl (Nat.le_of_ble_eq_true rfl) (kdec dk_cX10_two 199 rfl) (fun w781 h782 => ?_)
          obtain ⟨I783, f784, M786⟩ := h782
          have F787 : kF [(61, some 13), (61, some 15), (61, some 19), (61, some 20), (64, none), (66, none), (71, none)] w w781 := kF_call F765 f784 (by decide)
          have e788 : w781 61 20 = x10 := ((f784 61 20 rfl : w781 61 20 = w760 61 20).trans ((f763 61 20 rfl : w760 61 20 = w17 61 20).trans ((f20 61 20 rfl : w17 61 20 = w_18 61 20).trans e11)))
          have r789 := kMoT_fr M786
          rw [e788] at r789
          refine kv_goto C 472 (kdec dk_cX10_two 200 rfl) (by decide) ?_
          refine kV.sub [] (L' := []) rfl ?_
          exact cut472 w781  I783 F787 M786
      by_cases d790 : l1_18.toInt = 19
      · skip
        refine kv_tableIn C 19 456 (kdec dk_cX10_two 25 rfl) d790 (by decide) (by decide) rfl (by decide) ?_
        refine kv_aload_n C 457 rfl 0 (kdec dk_cX10_two 201 rfl) rfl rfl ?_
        refine kv_iload_n C 458 rfl 2 (kdec dk_cX10_two 202 rfl) rfl rfl ?_
        refine kv_iload_n C 459 rfl 3 (kdec dk_cX10_two 203 rfl) rfl rfl ?_
        refine kv_callVv (As := [.int x32, .int x36]) (rest := []) C 462 rfl 61 (k_x_nextProperty l D τ ρ σ w17 x32 x36 I19 M26) rfl rfl mml_TaleMachineModel_308 mim_yX10_nextProperty mse_yX10_nextProperty mcd_yX10_nextProperty min_yX10_nextProperty hd_yX10_nextProperty rfl rfl rfl (by decide) rfl (Nat.le_of_ble_eq_true rfl) (kdec dk_cX10_two 204 rfl) (fun w791 h792 => ?_)
        obtain ⟨I793, f794, M796⟩ := h792
        have F797 : kF [(61, some 13), (61, some 15), (61, some 19), (61, some 20), (64, none), (66, none), (71, none)] w w791 := kF_call F25 f794 (by decide)
        have e798 : w791 61 20 = x10 := ((f794 61 20 rfl : w791 61 20 = w17 61 20).trans ((f20 61 20 rfl : w17 61 20 = w_18 61 20).trans e11))
        have r799 := kMoT_fr M796
        rw [e798] at r799
        refine kv_goto C 472 (kdec dk_cX10_two 205 rfl) (by decide) ?_
        refine kV.sub [] (L' := []) rfl ?_
        exact cut472 w791  I793 F797 M796
      refine kv_tableOut C 465 (kdec dk_cX10_two 25 rfl) (by omega) (by decide) ?_
      refine kv_aload_n C 466 rfl 0 (kdec dk_cX10_two 206 rfl) rfl rfl ?_
      refine kv_iload_n C 467 rfl 1 (kdec dk_cX10_two 207 rfl) rfl rfl ?_
      refine kv_iload_n C 468 rfl 2 (kdec dk_cX10_two 208 rfl) rfl rfl ?_
      refine kv_iload_n C 469 rfl 3 (kdec dk_cX10_two 209 rfl) rfl rfl ?_
      refine kv_callVv (As := [.int l1_18, .int x32, .int x36]) (rest := []) C 472 rfl 61 (k_x_works l D τ ρ σ w17 l1_18 x32 x36 I19 (by omega) (by omega) M26) rfl rfl mml_TaleMachineModel_311 mim_yX10_works mse_yX10_works mcd_yX10_works min_yX10_works hd_yX10_works rfl rfl rfl (by decide) rfl (Nat.le_of_ble_eq_true rfl) (kdec dk_cX10_two 210 rfl) (fun w800 h801 => ?_)
      obtain ⟨I802, f803, M805⟩ := h801
      have F806 : kF [(61, some 13), (61, some 15), (61, some 19), (61, some 20), (64, none), (66, none), (71, none)] w w800 := kF_call F25 f803 (by decide)
      have e807 : w800 61 20 = x10 := ((f803 61 20 rfl : w800 61 20 = w17 61 20).trans ((f20 61 20 rfl : w17 61 20 = w_18 61 20).trans e11))
      have r808 := kMoT_fr M805
      rw [e807] at r808
      refine kV.sub [] (L' := []) rfl ?_
      exact cut472 w800  I802 F806 M805
    · skip
      exact kv_vret C hr hlk (kdec dk_cX10_two 13 rfl) ⟨rfl, I19, F25, M26⟩
  refine kv_iload_n C 1 rfl 1 (kdec dk_cX10_two 0 rfl) rfl rfl ?_
  refine kv_i2l C 2 rfl (kdec dk_cX10_two 1 rfl) ?_
  have h809 := kf_i2l a1
  refine kv_lconst C 3 rfl 1 (kdec dk_cX10_two 2 rfl) rfl ?_
  have h810 : (1 : Int64).toInt = 1 := by decide
  refine kv_ldc2 C 6 rfl 24 (kdec dk_cX10_two 3 rfl) mcl_TaleMachineModel_278 ?_
  have h811 : (24 : Int64).toInt = 24 := by decide
  refine kv_callSi (As := [.long (a1 : Int32).toInt64, .long (1 : Int64), .long (24 : Int64)]) (rest := []) C 9 rfl (k_x_in l D τ ρ σ w (a1 : Int32).toInt64 (1 : Int64) (24 : Int64) hI ) mml_TaleMachineModel_94 mst_yX10_in mcd_yX10_in min_yX10_in hd_yX10_in rfl rfl rfl (by decide) rfl (Nat.le_of_ble_eq_true rfl) (kdec dk_cX10_two 4 rfl) (fun x816 w812 h813 => ?_)
  obtain ⟨I814, f815, p817, p818⟩ := h813
  have F819 : kF [(61, some 13), (61, some 15), (61, some 19), (61, some 20), (64, none), (66, none), (71, none)] w w812 := kF_call hF0 f815 (by decide)
  have M820 : kMoT w812 := kMoT_kF f815 hM rfl rfl (fun _ => rfl)
  have g821 := kf_rng x816
  refine kv_if_ne C 12 rfl 18 (kdec dk_cX10_two 5 rfl) (by decide) (fun d822 => ?_) (fun d822 => ?_)
  · skip
    obtain ⟨x823, e824⟩ : ∃ z : Int32, w 61 13 = z := ⟨_, rfl⟩
    have b825 : (0 : Int) ≤ x823.toInt ∧ x823.toInt ≤ 13 := by rw [← e824]; exact hI 61 13
    have e826 : w812 61 13 = x823 := ((f815 61 13 rfl : w812 61 13 = w 61 13).trans e824)
    exact cut18 w812 a1 I814 F819 (by rw [e826]; try omega) M820
  · skip
    refine kv_aload_n C 13 rfl 0 (kdec dk_cX10_two 6 rfl) rfl rfl ?_
    refine kv_bipush C 15 rfl 6 (kdec dk_cX10_two 7 rfl) rfl ?_
    refine kv_callVv (As := [.int 6]) (rest := []) C 18 rfl 61 (k_x_halts l D τ ρ σ w812 6 I814 (by omega)) rfl rfl mml_TaleMachineModel_160 mim_yX10_halts mse_yX10_halts mcd_yX10_halts min_yX10_halts hd_yX10_halts rfl rfl rfl (by decide) rfl (Nat.le_of_ble_eq_true rfl) (kdec dk_cX10_two 8 rfl) (fun w827 h828 => ?_)
    obtain ⟨I829, f830, p832⟩ := h828
    have F833 : kF [(61, some 13), (61, some 15), (61, some 19), (61, some 20), (64, none), (66, none), (71, none)] w w827 := kF_call F819 f830 (by decide)
    have M834 : kMoT w827 := kMoT_kF f830 M820 rfl rfl (fun _ => rfl)
    obtain ⟨x835, e836⟩ : ∃ z : Int32, w 61 13 = z := ⟨_, rfl⟩
    have b837 : (0 : Int) ≤ x835.toInt ∧ x835.toInt ≤ 13 := by rw [← e836]; exact hI 61 13
    have e838 : w812 61 13 = x835 := ((f815 61 13 rfl : w812 61 13 = w 61 13).trans e836)
    obtain ⟨x839, e840⟩ : ∃ z : Int32, w827 61 13 = z := ⟨_, rfl⟩
    have b841 : (0 : Int) ≤ x839.toInt ∧ x839.toInt ≤ 13 := by rw [← e840]; exact I829 61 13
    rw [e838, e840] at p832
    exact cut18 w827 a1 I829 F833 (by rw [e840]; try omega) M834

set_option maxHeartbeats 4000000 in
set_option maxRecDepth 100000 in
theorem k_x_one (l : Launch) (D : va_G) (τ : Nat → ClassId) (ρ σ : Nat → Nat) (w : kw) (a1 : Int32) (a2 : Int32) (hI : kI false w) (hp0 : (w 61 31).toInt ≤ 2147481000 ∧ (w 61 29).toInt ≤ 2147481000) (hM : kMoT w) :
    kM l D τ ρ σ yX10_one cX10_one 4 none { frames := 7, cells := 0, slots := 0, locals := 252 } [.ref (ρ 61), .int a1, .int a2] w
      (fun o w' => o = none ∧ kI false w' ∧ kF [(61, some 13), (61, some 15), (61, some 19), (61, some 20), (61, some 29), (61, some 31), (61, some 43), (64, none), (66, none), (71, none), (72, none), (73, none), (81, none), (82, none), (83, none)] w w' ∧ ((w' 61 31).toInt ≤ (w 61 31).toInt + 501 ∧ (w' 61 29).toInt ≤ (w 61 29).toInt + 501) ∧ kMoT w') := by
  refine kM_of (own := "TaleMachineModel") rfl (by decide) (Nat.le_of_ble_eq_true rfl) ?_
  intro p e s m args below meth c C hr hlk
  have hF0 : kF [(61, some 13), (61, some 15), (61, some 19), (61, some 20), (61, some 29), (61, some 31), (61, some 43), (64, none), (66, none), (71, none), (72, none), (73, none), (81, none), (82, none), (83, none)] w w := kF.rf
  have c_m1 : (-1 : Int32).toInt = -1 := by decide
  have c_0 : (0 : Int32).toInt = 0 := by decide
  have c_1 : (1 : Int32).toInt = 1 := by decide
  have c_2 : (2 : Int32).toInt = 2 := by decide
  have c_4 : (4 : Int32).toInt = 4 := by decide
  have c_5 : (5 : Int32).toInt = 5 := by decide
  have c_6 : (6 : Int32).toInt = 6 := by decide
  have c_7 : (7 : Int32).toInt = 7 := by decide
  have c_32 : (32 : Int32).toInt = 32 := by decide
  refine kV.L (L' := [(0, .ref (ρ 61)), (1, .int a1), (2, .int a2)]) rfl ?_
  obtain ⟨x1, e2⟩ : ∃ z : Int32, w 61 31 = z := ⟨_, rfl⟩
  have b3 : (0 : Int) ≤ x1.toInt ∧ x1.toInt ≤ 2147483647 := by rw [← e2]; exact hI 61 31
  obtain ⟨x4, e5⟩ : ∃ z : Int32, w 61 29 = z := ⟨_, rfl⟩
  have b6 : (0 : Int) ≤ x4.toInt ∧ x4.toInt ≤ 2147483647 := by rw [← e5]; exact hI 61 29
  rw [e2, e5] at hp0
  have g7 := kf_rng a1
  have g8 := kf_rng a2
  obtain ⟨x9, e10⟩ : ∃ z : Int32, w 61 20 = z := ⟨_, rfl⟩
  have b11 : (0 : Int) ≤ x9.toInt ∧ x9.toInt ≤ 20 := by rw [← e10]; exact hI 61 20
  have r12 := kMoT_fr hM
  rw [e10] at r12
  refine kv_iload_n C 1 rfl 1 (kdec dk_cX10_one 0 rfl) rfl rfl ?_
  by_cases d13 : a1.toInt = 0
  · skip
    refine kv_tableIn C 0 80 (kdec dk_cX10_one 1 rfl) d13 (by decide) (by decide) rfl (by decide) ?_
    refine kv_aload_n C 81 rfl 0 (kdec dk_cX10_one 2 rfl) rfl rfl ?_
    refine kv_iload_n C 82 rfl 2 (kdec dk_cX10_one 3 rfl) rfl rfl ?_
    refine kv_if_ne C 85 rfl 89 (kdec dk_cX10_one 4 rfl) (by decide) (fun d14 => ?_) (fun d14 => ?_)
    · skip
      refine kv_iconst C 90 rfl 0 (kdec dk_cX10_one 7 rfl) rfl ?_
      refine kv_callVv (As := [.int 0]) (rest := []) C 93 rfl 61 (k_x_branches l D τ ρ σ w 0 hI hM) rfl rfl mml_TaleMachineModel_227 mim_yX10_branches mse_yX10_branches mcd_yX10_branches min_yX10_branches hd_yX10_branches rfl rfl rfl (by decide) rfl (Nat.le_of_ble_eq_true rfl) (kdec dk_cX10_one 8 rfl) (fun w15 h16 => ?_)
      obtain ⟨I17, f18, M20⟩ := h16
      have F21 : kF [(61, some 13), (61, some 15), (61, some 19), (61, some 20), (61, some 29), (61, some 31), (61, some 43), (64, none), (66, none), (71, none), (72, none), (73, none), (81, none), (82, none), (83, none)] w w15 := kF_call hF0 f18 (by decide)
      obtain ⟨x22, e23⟩ : ∃ z : Int32, w15 61 20 = z := ⟨_, rfl⟩
      have b24 : (0 : Int) ≤ x22.toInt ∧ x22.toInt ≤ 20 := by rw [← e23]; exact I17 61 20
      have r25 := kMoT_fr M20
      rw [e23] at r25
      refine kv_goto C 325 (kdec dk_cX10_one 9 rfl) (by decide) ?_
      have e26 : w15 61 31 = x1 := ((f18 61 31 rfl : w15 61 31 = w 61 31).trans e2)
      have e27 : w15 61 29 = x4 := ((f18 61 29 rfl : w15 61 29 = w 61 29).trans e5)
      exact kv_vret C hr hlk (kdec dk_cX10_one 141 rfl) ⟨rfl, I17, F21, (by rw [e2, e5, e26, e27]; try omega), M20⟩
    · skip
      refine kv_iconst C 86 rfl 1 (kdec dk_cX10_one 5 rfl) rfl ?_
      refine kv_goto C 90 (kdec dk_cX10_one 6 rfl) (by decide) ?_
      refine kv_callVv (As := [.int 1]) (rest := []) C 93 rfl 61 (k_x_branches l D τ ρ σ w 1 hI hM) rfl rfl mml_TaleMachineModel_227 mim_yX10_branches mse_yX10_branches mcd_yX10_branches min_yX10_branches hd_yX10_branches rfl rfl rfl (by decide) rfl (Nat.le_of_ble_eq_true rfl) (kdec dk_cX10_one 8 rfl) (fun w28 h29 => ?_)
      obtain ⟨I30, f31, M33⟩ := h29
      have F34 : kF [(61, some 13), (61, some 15), (61, some 19), (61, some 20), (61, some 29), (61, some 31), (61, some 43), (64, none), (66, none), (71, none), (72, none), (73, none), (81, none), (82, none), (83, none)] w w28 := kF_call hF0 f31 (by decide)
      obtain ⟨x35, e36⟩ : ∃ z : Int32, w28 61 20 = z := ⟨_, rfl⟩
      have b37 : (0 : Int) ≤ x35.toInt ∧ x35.toInt ≤ 20 := by rw [← e36]; exact I30 61 20
      have r38 := kMoT_fr M33
      rw [e36] at r38
      refine kv_goto C 325 (kdec dk_cX10_one 9 rfl) (by decide) ?_
      have e39 : w28 61 31 = x1 := ((f31 61 31 rfl : w28 61 31 = w 61 31).trans e2)
      have e40 : w28 61 29 = x4 := ((f31 61 29 rfl : w28 61 29 = w 61 29).trans e5)
      exact kv_vret C hr hlk (kdec dk_cX10_one 141 rfl) ⟨rfl, I30, F34, (by rw [e2, e5, e39, e40]; try omega), M33⟩
  by_cases d41 : a1.toInt = 1
  · skip
    refine kv_tableIn C 1 96 (kdec dk_cX10_one 1 rfl) d41 (by decide) (by decide) rfl (by decide) ?_
    refine kv_aload_n C 97 rfl 0 (kdec dk_cX10_one 10 rfl) rfl rfl ?_
    refine kv_iload_n C 98 rfl 2 (kdec dk_cX10_one 11 rfl) rfl rfl ?_
    refine kv_iload_n C 99 rfl 1 (kdec dk_cX10_one 12 rfl) rfl rfl ?_
    refine kv_iconst C 100 rfl 1 (kdec dk_cX10_one 13 rfl) rfl ?_
    refine kv_icmp_ne C 103 rfl 107 (kdec dk_cX10_one 14 rfl) (by decide) (fun d42 => ?_) (fun d42 => ?_)
    · skip
      refine kv_bipush C 109 rfl 6 (kdec dk_cX10_one 17 rfl) rfl ?_
      refine kv_callVi (As := [.int a2, .int 6]) (rest := []) C 112 rfl 61 (k_x_kin l D τ ρ σ w a2 6 hI ) rfl rfl mml_TaleMachineModel_211 mim_yX10_kin mse_yX10_kin mcd_yX10_kin min_yX10_kin hd_yX10_kin rfl rfl rfl (by decide) rfl (Nat.le_of_ble_eq_true rfl) (kdec dk_cX10_one 18 rfl) (fun x47 w43 h44 => ?_)
      obtain ⟨I45, f46, p48⟩ := h44
      have F49 : kF [(61, some 13), (61, some 15), (61, some 19), (61, some 20), (61, some 29), (61, some 31), (61, some 43), (64, none), (66, none), (71, none), (72, none), (73, none), (81, none), (82, none), (83, none)] w w43 := kF_call hF0 f46 (by decide)
      have M50 : kMoT w43 := kMoT_kF f46 hM rfl rfl (fun _ => rfl)
      have g51 := kf_rng x47
      refine kv_istore_n C 113 rfl 3 [1, 2, 3, 0] [(0, .ref (ρ 61)), (1, .int a1), (2, .int a2), (3, .int x47)] (kdec dk_cX10_one 19 rfl) rfl (by decide) rfl ?_
      refine kv_aload_n C 114 rfl 0 (kdec dk_cX10_one 20 rfl) rfl rfl ?_
      refine kv_iload_n C 115 rfl 3 (kdec dk_cX10_one 21 rfl) rfl rfl ?_
      refine kv_callVv (As := [.int x47]) (rest := []) C 118 rfl 61 (k_x_answers l D τ ρ σ w43 x47 I45 M50) rfl rfl mml_TaleMachineModel_237 mim_yX10_answers mse_yX10_answers mcd_yX10_answers min_yX10_answers hd_yX10_answers rfl rfl rfl (by decide) rfl (Nat.le_of_ble_eq_true rfl) (kdec dk_cX10_one 22 rfl) (fun w52 h53 => ?_)
      obtain ⟨I54, f55, M57⟩ := h53
      have F58 : kF [(61, some 13), (61, some 15), (61, some 19), (61, some 20), (61, some 29), (61, some 31), (61, some 43), (64, none), (66, none), (71, none), (72, none), (73, none), (81, none), (82, none), (83, none)] w w52 := kF_call F49 f55 (by decide)
      have e59 : w52 61 20 = x9 := ((f55 61 20 rfl : w52 61 20 = w43 61 20).trans ((f46 61 20 rfl : w43 61 20 = w 61 20).trans e10))
      have r60 := kMoT_fr M57
      rw [e59] at r60
      refine kv_aload_n C 119 rfl 0 (kdec dk_cX10_one 23 rfl) rfl rfl ?_
      refine kv_iload_n C 120 rfl 3 (kdec dk_cX10_one 24 rfl) rfl rfl ?_
      refine kv_if_eq C 123 rfl 127 (kdec dk_cX10_one 25 rfl) (by decide) (fun d61 => ?_) (fun d61 => ?_)
      · skip
        refine kv_iconst C 128 rfl 0 (kdec dk_cX10_one 28 rfl) rfl ?_
        refine kv_callVv (As := [.int 0]) (rest := []) C 131 rfl 61 (k_x_branches l D τ ρ σ w52 0 I54 M57) rfl rfl mml_TaleMachineModel_227 mim_yX10_branches mse_yX10_branches mcd_yX10_branches min_yX10_branches hd_yX10_branches rfl rfl rfl (by decide) rfl (Nat.le_of_ble_eq_true rfl) (kdec dk_cX10_one 29 rfl) (fun w62 h63 => ?_)
        obtain ⟨I64, f65, M67⟩ := h63
        have F68 : kF [(61, some 13), (61, some 15), (61, some 19), (61, some 20), (61, some 29), (61, some 31), (61, some 43), (64, none), (66, none), (71, none), (72, none), (73, none), (81, none), (82, none), (83, none)] w w62 := kF_call F58 f65 (by decide)
        obtain ⟨x69, e70⟩ : ∃ z : Int32, w62 61 20 = z := ⟨_, rfl⟩
        have b71 : (0 : Int) ≤ x69.toInt ∧ x69.toInt ≤ 20 := by rw [← e70]; exact I64 61 20
        have r72 := kMoT_fr M67
        rw [e70] at r72
        refine kv_goto C 325 (kdec dk_cX10_one 30 rfl) (by decide) ?_
        have e73 : w62 61 31 = x1 := ((f65 61 31 rfl : w62 61 31 = w52 61 31).trans ((f55 61 31 rfl : w52 61 31 = w43 61 31).trans ((f46 61 31 rfl : w43 61 31 = w 61 31).trans e2)))
        have e74 : w62 61 29 = x4 := ((f65 61 29 rfl : w62 61 29 = w52 61 29).trans ((f55 61 29 rfl : w52 61 29 = w43 61 29).trans ((f46 61 29 rfl : w43 61 29 = w 61 29).trans e5)))
        exact kv_vret C hr hlk (kdec dk_cX10_one 141 rfl) ⟨rfl, I64, F68, (by rw [e2, e5, e73, e74]; try omega), M67⟩
      · skip
        refine kv_iconst C 124 rfl 1 (kdec dk_cX10_one 26 rfl) rfl ?_
        refine kv_goto C 128 (kdec dk_cX10_one 27 rfl) (by decide) ?_
        refine kv_callVv (As := [.int 1]) (rest := []) C 131 rfl 61 (k_x_branches l D τ ρ σ w52 1 I54 M57) rfl rfl mml_TaleMachineModel_227 mim_yX10_branches mse_yX10_branches mcd_yX10_branches min_yX10_branches hd_yX10_branches rfl rfl rfl (by decide) rfl (Nat.le_of_ble_eq_true rfl) (kdec dk_cX10_one 29 rfl) (fun w75 h76 => ?_)
        obtain ⟨I77, f78, M80⟩ := h76
        have F81 : kF [(61, some 13), (61, some 15), (61, some 19), (61, some 20), (61, some 29), (61, some 31), (61, some 43), (64, none), (66, none), (71, none), (72, none), (73, none), (81, none), (82, none), (83, none)] w w75 := kF_call F58 f78 (by decide)
        obtain ⟨x82, e83⟩ : ∃ z : Int32, w75 61 20 = z := ⟨_, rfl⟩
        have b84 : (0 : Int) ≤ x82.toInt ∧ x82.toInt ≤ 20 := by rw [← e83]; exact I77 61 20
        have r85 := kMoT_fr M80
        rw [e83] at r85
        refine kv_goto C 325 (kdec dk_cX10_one 30 rfl) (by decide) ?_
        have e86 : w75 61 31 = x1 := ((f78 61 31 rfl : w75 61 31 = w52 61 31).trans ((f55 61 31 rfl : w52 61 31 = w43 61 31).trans ((f46 61 31 rfl : w43 61 31 = w 61 31).trans e2)))
        have e87 : w75 61 29 = x4 := ((f78 61 29 rfl : w75 61 29 = w52 61 29).trans ((f55 61 29 rfl : w52 61 29 = w43 61 29).trans ((f46 61 29 rfl : w43 61 29 = w 61 29).trans e5)))
        exact kv_vret C hr hlk (kdec dk_cX10_one 141 rfl) ⟨rfl, I77, F81, (by rw [e2, e5, e86, e87]; try omega), M80⟩
    · skip
      refine kv_iconst C 104 rfl 5 (kdec dk_cX10_one 15 rfl) rfl ?_
      refine kv_goto C 109 (kdec dk_cX10_one 16 rfl) (by decide) ?_
      refine kv_callVi (As := [.int a2, .int 5]) (rest := []) C 112 rfl 61 (k_x_kin l D τ ρ σ w a2 5 hI ) rfl rfl mml_TaleMachineModel_211 mim_yX10_kin mse_yX10_kin mcd_yX10_kin min_yX10_kin hd_yX10_kin rfl rfl rfl (by decide) rfl (Nat.le_of_ble_eq_true rfl) (kdec dk_cX10_one 18 rfl) (fun x92 w88 h89 => ?_)
      obtain ⟨I90, f91, p93⟩ := h89
      have F94 : kF [(61, some 13), (61, some 15), (61, some 19), (61, some 20), (61, some 29), (61, some 31), (61, some 43), (64, none), (66, none), (71, none), (72, none), (73, none), (81, none), (82, none), (83, none)] w w88 := kF_call hF0 f91 (by decide)
      have M95 : kMoT w88 := kMoT_kF f91 hM rfl rfl (fun _ => rfl)
      have g96 := kf_rng x92
      refine kv_istore_n C 113 rfl 3 [1, 2, 3, 0] [(0, .ref (ρ 61)), (1, .int a1), (2, .int a2), (3, .int x92)] (kdec dk_cX10_one 19 rfl) rfl (by decide) rfl ?_
      refine kv_aload_n C 114 rfl 0 (kdec dk_cX10_one 20 rfl) rfl rfl ?_
      refine kv_iload_n C 115 rfl 3 (kdec dk_cX10_one 21 rfl) rfl rfl ?_
      refine kv_callVv (As := [.int x92]) (rest := []) C 118 rfl 61 (k_x_answers l D τ ρ σ w88 x92 I90 M95) rfl rfl mml_TaleMachineModel_237 mim_yX10_answers mse_yX10_answers mcd_yX10_answers min_yX10_answers hd_yX10_answers rfl rfl rfl (by decide) rfl (Nat.le_of_ble_eq_true rfl) (kdec dk_cX10_one 22 rfl) (fun w97 h98 => ?_)
      obtain ⟨I99, f100, M102⟩ := h98
      have F103 : kF [(61, some 13), (61, some 15), (61, some 19), (61, some 20), (61, some 29), (61, some 31), (61, some 43), (64, none), (66, none), (71, none), (72, none), (73, none), (81, none), (82, none), (83, none)] w w97 := kF_call F94 f100 (by decide)
      have e104 : w97 61 20 = x9 := ((f100 61 20 rfl : w97 61 20 = w88 61 20).trans ((f91 61 20 rfl : w88 61 20 = w 61 20).trans e10))
      have r105 := kMoT_fr M102
      rw [e104] at r105
      refine kv_aload_n C 119 rfl 0 (kdec dk_cX10_one 23 rfl) rfl rfl ?_
      refine kv_iload_n C 120 rfl 3 (kdec dk_cX10_one 24 rfl) rfl rfl ?_
      refine kv_if_eq C 123 rfl 127 (kdec dk_cX10_one 25 rfl) (by decide) (fun d106 => ?_) (fun d106 => ?_)
      · skip
        refine kv_iconst C 128 rfl 0 (kdec dk_cX10_one 28 rfl) rfl ?_
        refine kv_callVv (As := [.int 0]) (rest := []) C 131 rfl 61 (k_x_branches l D τ ρ σ w97 0 I99 M102) rfl rfl mml_TaleMachineModel_227 mim_yX10_branches mse_yX10_branches mcd_yX10_branches min_yX10_branches hd_yX10_branches rfl rfl rfl (by decide) rfl (Nat.le_of_ble_eq_true rfl) (kdec dk_cX10_one 29 rfl) (fun w107 h108 => ?_)
        obtain ⟨I109, f110, M112⟩ := h108
        have F113 : kF [(61, some 13), (61, some 15), (61, some 19), (61, some 20), (61, some 29), (61, some 31), (61, some 43), (64, none), (66, none), (71, none), (72, none), (73, none), (81, none), (82, none), (83, none)] w w107 := kF_call F103 f110 (by decide)
        obtain ⟨x114, e115⟩ : ∃ z : Int32, w107 61 20 = z := ⟨_, rfl⟩
        have b116 : (0 : Int) ≤ x114.toInt ∧ x114.toInt ≤ 20 := by rw [← e115]; exact I109 61 20
        have r117 := kMoT_fr M112
        rw [e115] at r117
        refine kv_goto C 325 (kdec dk_cX10_one 30 rfl) (by decide) ?_
        have e118 : w107 61 31 = x1 := ((f110 61 31 rfl : w107 61 31 = w97 61 31).trans ((f100 61 31 rfl : w97 61 31 = w88 61 31).trans ((f91 61 31 rfl : w88 61 31 = w 61 31).trans e2)))
        have e119 : w107 61 29 = x4 := ((f110 61 29 rfl : w107 61 29 = w97 61 29).trans ((f100 61 29 rfl : w97 61 29 = w88 61 29).trans ((f91 61 29 rfl : w88 61 29 = w 61 29).trans e5)))
        exact kv_vret C hr hlk (kdec dk_cX10_one 141 rfl) ⟨rfl, I109, F113, (by rw [e2, e5, e118, e119]; try omega), M112⟩
      · skip
        refine kv_iconst C 124 rfl 1 (kdec dk_cX10_one 26 rfl) rfl ?_
        refine kv_goto C 128 (kdec dk_cX10_one 27 rfl) (by decide) ?_
        refine kv_callVv (As := [.int 1]) (rest := []) C 131 rfl 61 (k_x_branches l D τ ρ σ w97 1 I99 M102) rfl rfl mml_TaleMachineModel_227 mim_yX10_branches mse_yX10_branches mcd_yX10_branches min_yX10_branches hd_yX10_branches rfl rfl rfl (by decide) rfl (Nat.le_of_ble_eq_true rfl) (kdec dk_cX10_one 29 rfl) (fun w120 h121 => ?_)
        obtain ⟨I122, f123, M125⟩ := h121
        have F126 : kF [(61, some 13), (61, some 15), (61, some 19), (61, some 20), (61, some 29), (61, some 31), (61, some 43), (64, none), (66, none), (71, none), (72, none), (73, none), (81, none), (82, none), (83, none)] w w120 := kF_call F103 f123 (by decide)
        obtain ⟨x127, e128⟩ : ∃ z : Int32, w120 61 20 = z := ⟨_, rfl⟩
        have b129 : (0 : Int) ≤ x127.toInt ∧ x127.toInt ≤ 20 := by rw [← e128]; exact I122 61 20
        have r130 := kMoT_fr M125
        rw [e128] at r130
        refine kv_goto C 325 (kdec dk_cX10_one 30 rfl) (by decide) ?_
        have e131 : w120 61 31 = x1 := ((f123 61 31 rfl : w120 61 31 = w97 61 31).trans ((f100 61 31 rfl : w97 61 31 = w88 61 31).trans ((f91 61 31 rfl : w88 61 31 = w 61 31).trans e2)))
        have e132 : w120 61 29 = x4 := ((f123 61 29 rfl : w120 61 29 = w97 61 29).trans ((f100 61 29 rfl : w97 61 29 = w88 61 29).trans ((f91 61 29 rfl : w88 61 29 = w 61 29).trans e5)))
        exact kv_vret C hr hlk (kdec dk_cX10_one 141 rfl) ⟨rfl, I122, F126, (by rw [e2, e5, e131, e132]; try omega), M125⟩
  by_cases d133 : a1.toInt = 2
  · skip
    refine kv_tableIn C 2 96 (kdec dk_cX10_one 1 rfl) d133 (by decide) (by decide) rfl (by decide) ?_
    refine kv_aload_n C 97 rfl 0 (kdec dk_cX10_one 10 rfl) rfl rfl ?_
    refine kv_iload_n C 98 rfl 2 (kdec dk_cX10_one 11 rfl) rfl rfl ?_
    refine kv_iload_n C 99 rfl 1 (kdec dk_cX10_one 12 rfl) rfl rfl ?_
    refine kv_iconst C 100 rfl 1 (kdec dk_cX10_one 13 rfl) rfl ?_
    refine kv_icmp_ne C 103 rfl 107 (kdec dk_cX10_one 14 rfl) (by decide) (fun d134 => ?_) (fun d134 => ?_)
    · skip
      refine kv_bipush C 109 rfl 6 (kdec dk_cX10_one 17 rfl) rfl ?_
      refine kv_callVi (As := [.int a2, .int 6]) (rest := []) C 112 rfl 61 (k_x_kin l D τ ρ σ w a2 6 hI ) rfl rfl mml_TaleMachineModel_211 mim_yX10_kin mse_yX10_kin mcd_yX10_kin min_yX10_kin hd_yX10_kin rfl rfl rfl (by decide) rfl (Nat.le_of_ble_eq_true rfl) (kdec dk_cX10_one 18 rfl) (fun x139 w135 h136 => ?_)
      obtain ⟨I137, f138, p140⟩ := h136
      have F141 : kF [(61, some 13), (61, some 15), (61, some 19), (61, some 20), (61, some 29), (61, some 31), (61, some 43), (64, none), (66, none), (71, none), (72, none), (73, none), (81, none), (82, none), (83, none)] w w135 := kF_call hF0 f138 (by decide)
      have M142 : kMoT w135 := kMoT_kF f138 hM rfl rfl (fun _ => rfl)
      have g143 := kf_rng x139
      refine kv_istore_n C 113 rfl 3 [1, 2, 3, 0] [(0, .ref (ρ 61)), (1, .int a1), (2, .int a2), (3, .int x139)] (kdec dk_cX10_one 19 rfl) rfl (by decide) rfl ?_
      refine kv_aload_n C 114 rfl 0 (kdec dk_cX10_one 20 rfl) rfl rfl ?_
      refine kv_iload_n C 115 rfl 3 (kdec dk_cX10_one 21 rfl) rfl rfl ?_
      refine kv_callVv (As := [.int x139]) (rest := []) C 118 rfl 61 (k_x_answers l D τ ρ σ w135 x139 I137 M142) rfl rfl mml_TaleMachineModel_237 mim_yX10_answers mse_yX10_answers mcd_yX10_answers min_yX10_answers hd_yX10_answers rfl rfl rfl (by decide) rfl (Nat.le_of_ble_eq_true rfl) (kdec dk_cX10_one 22 rfl) (fun w144 h145 => ?_)
      obtain ⟨I146, f147, M149⟩ := h145
      have F150 : kF [(61, some 13), (61, some 15), (61, some 19), (61, some 20), (61, some 29), (61, some 31), (61, some 43), (64, none), (66, none), (71, none), (72, none), (73, none), (81, none), (82, none), (83, none)] w w144 := kF_call F141 f147 (by decide)
      have e151 : w144 61 20 = x9 := ((f147 61 20 rfl : w144 61 20 = w135 61 20).trans ((f138 61 20 rfl : w135 61 20 = w 61 20).trans e10))
      have r152 := kMoT_fr M149
      rw [e151] at r152
      refine kv_aload_n C 119 rfl 0 (kdec dk_cX10_one 23 rfl) rfl rfl ?_
      refine kv_iload_n C 120 rfl 3 (kdec dk_cX10_one 24 rfl) rfl rfl ?_
      refine kv_if_eq C 123 rfl 127 (kdec dk_cX10_one 25 rfl) (by decide) (fun d153 => ?_) (fun d153 => ?_)
      · skip
        refine kv_iconst C 128 rfl 0 (kdec dk_cX10_one 28 rfl) rfl ?_
        refine kv_callVv (As := [.int 0]) (rest := []) C 131 rfl 61 (k_x_branches l D τ ρ σ w144 0 I146 M149) rfl rfl mml_TaleMachineModel_227 mim_yX10_branches mse_yX10_branches mcd_yX10_branches min_yX10_branches hd_yX10_branches rfl rfl rfl (by decide) rfl (Nat.le_of_ble_eq_true rfl) (kdec dk_cX10_one 29 rfl) (fun w154 h155 => ?_)
        obtain ⟨I156, f157, M159⟩ := h155
        have F160 : kF [(61, some 13), (61, some 15), (61, some 19), (61, some 20), (61, some 29), (61, some 31), (61, some 43), (64, none), (66, none), (71, none), (72, none), (73, none), (81, none), (82, none), (83, none)] w w154 := kF_call F150 f157 (by decide)
        obtain ⟨x161, e162⟩ : ∃ z : Int32, w154 61 20 = z := ⟨_, rfl⟩
        have b163 : (0 : Int) ≤ x161.toInt ∧ x161.toInt ≤ 20 := by rw [← e162]; exact I156 61 20
        have r164 := kMoT_fr M159
        rw [e162] at r164
        refine kv_goto C 325 (kdec dk_cX10_one 30 rfl) (by decide) ?_
        have e165 : w154 61 31 = x1 := ((f157 61 31 rfl : w154 61 31 = w144 61 31).trans ((f147 61 31 rfl : w144 61 31 = w135 61 31).trans ((f138 61 31 rfl : w135 61 31 = w 61 31).trans e2)))
        have e166 : w154 61 29 = x4 := ((f157 61 29 rfl : w154 61 29 = w144 61 29).trans ((f147 61 29 rfl : w144 61 29 = w135 61 29).trans ((f138 61 29 rfl : w135 61 29 = w 61 29).trans e5)))
        exact kv_vret C hr hlk (kdec dk_cX10_one 141 rfl) ⟨rfl, I156, F160, (by rw [e2, e5, e165, e166]; try omega), M159⟩
      · skip
        refine kv_iconst C 124 rfl 1 (kdec dk_cX10_one 26 rfl) rfl ?_
        refine kv_goto C 128 (kdec dk_cX10_one 27 rfl) (by decide) ?_
        refine kv_callVv (As := [.int 1]) (rest := []) C 131 rfl 61 (k_x_branches l D τ ρ σ w144 1 I146 M149) rfl rfl mml_TaleMachineModel_227 mim_yX10_branches mse_yX10_branches mcd_yX10_branches min_yX10_branches hd_yX10_branches rfl rfl rfl (by decide) rfl (Nat.le_of_ble_eq_true rfl) (kdec dk_cX10_one 29 rfl) (fun w167 h168 => ?_)
        obtain ⟨I169, f170, M172⟩ := h168
        have F173 : kF [(61, some 13), (61, some 15), (61, some 19), (61, some 20), (61, some 29), (61, some 31), (61, some 43), (64, none), (66, none), (71, none), (72, none), (73, none), (81, none), (82, none), (83, none)] w w167 := kF_call F150 f170 (by decide)
        obtain ⟨x174, e175⟩ : ∃ z : Int32, w167 61 20 = z := ⟨_, rfl⟩
        have b176 : (0 : Int) ≤ x174.toInt ∧ x174.toInt ≤ 20 := by rw [← e175]; exact I169 61 20
        have r177 := kMoT_fr M172
        rw [e175] at r177
        refine kv_goto C 325 (kdec dk_cX10_one 30 rfl) (by decide) ?_
        have e178 : w167 61 31 = x1 := ((f170 61 31 rfl : w167 61 31 = w144 61 31).trans ((f147 61 31 rfl : w144 61 31 = w135 61 31).trans ((f138 61 31 rfl : w135 61 31 = w 61 31).trans e2)))
        have e179 : w167 61 29 = x4 := ((f170 61 29 rfl : w167 61 29 = w144 61 29).trans ((f147 61 29 rfl : w144 61 29 = w135 61 29).trans ((f138 61 29 rfl : w135 61 29 = w 61 29).trans e5)))
        exact kv_vret C hr hlk (kdec dk_cX10_one 141 rfl) ⟨rfl, I169, F173, (by rw [e2, e5, e178, e179]; try omega), M172⟩
    · skip
      refine kv_iconst C 104 rfl 5 (kdec dk_cX10_one 15 rfl) rfl ?_
      refine kv_goto C 109 (kdec dk_cX10_one 16 rfl) (by decide) ?_
      refine kv_callVi (As := [.int a2, .int 5]) (rest := []) C 112 rfl 61 (k_x_kin l D τ ρ σ w a2 5 hI ) rfl rfl mml_TaleMachineModel_211 mim_yX10_kin mse_yX10_kin mcd_yX10_kin min_yX10_kin hd_yX10_kin rfl rfl rfl (by decide) rfl (Nat.le_of_ble_eq_true rfl) (kdec dk_cX10_one 18 rfl) (fun x184 w180 h181 => ?_)
      obtain ⟨I182, f183, p185⟩ := h181
      have F186 : kF [(61, some 13), (61, some 15), (61, some 19), (61, some 20), (61, some 29), (61, some 31), (61, some 43), (64, none), (66, none), (71, none), (72, none), (73, none), (81, none), (82, none), (83, none)] w w180 := kF_call hF0 f183 (by decide)
      have M187 : kMoT w180 := kMoT_kF f183 hM rfl rfl (fun _ => rfl)
      have g188 := kf_rng x184
      refine kv_istore_n C 113 rfl 3 [1, 2, 3, 0] [(0, .ref (ρ 61)), (1, .int a1), (2, .int a2), (3, .int x184)] (kdec dk_cX10_one 19 rfl) rfl (by decide) rfl ?_
      refine kv_aload_n C 114 rfl 0 (kdec dk_cX10_one 20 rfl) rfl rfl ?_
      refine kv_iload_n C 115 rfl 3 (kdec dk_cX10_one 21 rfl) rfl rfl ?_
      refine kv_callVv (As := [.int x184]) (rest := []) C 118 rfl 61 (k_x_answers l D τ ρ σ w180 x184 I182 M187) rfl rfl mml_TaleMachineModel_237 mim_yX10_answers mse_yX10_answers mcd_yX10_answers min_yX10_answers hd_yX10_answers rfl rfl rfl (by decide) rfl (Nat.le_of_ble_eq_true rfl) (kdec dk_cX10_one 22 rfl) (fun w189 h190 => ?_)
      obtain ⟨I191, f192, M194⟩ := h190
      have F195 : kF [(61, some 13), (61, some 15), (61, some 19), (61, some 20), (61, some 29), (61, some 31), (61, some 43), (64, none), (66, none), (71, none), (72, none), (73, none), (81, none), (82, none), (83, none)] w w189 := kF_call F186 f192 (by decide)
      have e196 : w189 61 20 = x9 := ((f192 61 20 rfl : w189 61 20 = w180 61 20).trans ((f183 61 20 rfl : w180 61 20 = w 61 20).trans e10))
      have r197 := kMoT_fr M194
      rw [e196] at r197
      refine kv_aload_n C 119 rfl 0 (kdec dk_cX10_one 23 rfl) rfl rfl ?_
      refine kv_iload_n C 120 rfl 3 (kdec dk_cX10_one 24 rfl) rfl rfl ?_
      refine kv_if_eq C 123 rfl 127 (kdec dk_cX10_one 25 rfl) (by decide) (fun d198 => ?_) (fun d198 => ?_)
      · skip
        refine kv_iconst C 128 rfl 0 (kdec dk_cX10_one 28 rfl) rfl ?_
        refine kv_callVv (As := [.int 0]) (rest := []) C 131 rfl 61 (k_x_branches l D τ ρ σ w189 0 I191 M194) rfl rfl mml_TaleMachineModel_227 mim_yX10_branches mse_yX10_branches mcd_yX10_branches min_yX10_branches hd_yX10_branches rfl rfl rfl (by decide) rfl (Nat.le_of_ble_eq_true rfl) (kdec dk_cX10_one 29 rfl) (fun w199 h200 => ?_)
        obtain ⟨I201, f202, M204⟩ := h200
        have F205 : kF [(61, some 13), (61, some 15), (61, some 19), (61, some 20), (61, some 29), (61, some 31), (61, some 43), (64, none), (66, none), (71, none), (72, none), (73, none), (81, none), (82, none), (83, none)] w w199 := kF_call F195 f202 (by decide)
        obtain ⟨x206, e207⟩ : ∃ z : Int32, w199 61 20 = z := ⟨_, rfl⟩
        have b208 : (0 : Int) ≤ x206.toInt ∧ x206.toInt ≤ 20 := by rw [← e207]; exact I201 61 20
        have r209 := kMoT_fr M204
        rw [e207] at r209
        refine kv_goto C 325 (kdec dk_cX10_one 30 rfl) (by decide) ?_
        have e210 : w199 61 31 = x1 := ((f202 61 31 rfl : w199 61 31 = w189 61 31).trans ((f192 61 31 rfl : w189 61 31 = w180 61 31).trans ((f183 61 31 rfl : w180 61 31 = w 61 31).trans e2)))
        have e211 : w199 61 29 = x4 := ((f202 61 29 rfl : w199 61 29 = w189 61 29).trans ((f192 61 29 rfl : w189 61 29 = w180 61 29).trans ((f183 61 29 rfl : w180 61 29 = w 61 29).trans e5)))
        exact kv_vret C hr hlk (kdec dk_cX10_one 141 rfl) ⟨rfl, I201, F205, (by rw [e2, e5, e210, e211]; try omega), M204⟩
      · skip
        refine kv_iconst C 124 rfl 1 (kdec dk_cX10_one 26 rfl) rfl ?_
        refine kv_goto C 128 (kdec dk_cX10_one 27 rfl) (by decide) ?_
        refine kv_callVv (As := [.int 1]) (rest := []) C 131 rfl 61 (k_x_branches l D τ ρ σ w189 1 I191 M194) rfl rfl mml_TaleMachineModel_227 mim_yX10_branches mse_yX10_branches mcd_yX10_branches min_yX10_branches hd_yX10_branches rfl rfl rfl (by decide) rfl (Nat.le_of_ble_eq_true rfl) (kdec dk_cX10_one 29 rfl) (fun w212 h213 => ?_)
        obtain ⟨I214, f215, M217⟩ := h213
        have F218 : kF [(61, some 13), (61, some 15), (61, some 19), (61, some 20), (61, some 29), (61, some 31), (61, some 43), (64, none), (66, none), (71, none), (72, none), (73, none), (81, none), (82, none), (83, none)] w w212 := kF_call F195 f215 (by decide)
        obtain ⟨x219, e220⟩ : ∃ z : Int32, w212 61 20 = z := ⟨_, rfl⟩
        have b221 : (0 : Int) ≤ x219.toInt ∧ x219.toInt ≤ 20 := by rw [← e220]; exact I214 61 20
        have r222 := kMoT_fr M217
        rw [e220] at r222
        refine kv_goto C 325 (kdec dk_cX10_one 30 rfl) (by decide) ?_
        have e223 : w212 61 31 = x1 := ((f215 61 31 rfl : w212 61 31 = w189 61 31).trans ((f192 61 31 rfl : w189 61 31 = w180 61 31).trans ((f183 61 31 rfl : w180 61 31 = w 61 31).trans e2)))
        have e224 : w212 61 29 = x4 := ((f215 61 29 rfl : w212 61 29 = w189 61 29).trans ((f192 61 29 rfl : w189 61 29 = w180 61 29).trans ((f183 61 29 rfl : w180 61 29 = w 61 29).trans e5)))
        exact kv_vret C hr hlk (kdec dk_cX10_one 141 rfl) ⟨rfl, I214, F218, (by rw [e2, e5, e223, e224]; try omega), M217⟩
  by_cases d225 : a1.toInt = 3
  · skip
    refine kv_tableIn C 3 134 (kdec dk_cX10_one 1 rfl) d225 (by decide) (by decide) rfl (by decide) ?_
    refine kv_aload_n C 135 rfl 0 (kdec dk_cX10_one 31 rfl) rfl rfl ?_
    refine kv_iload_n C 136 rfl 2 (kdec dk_cX10_one 32 rfl) rfl rfl ?_
    refine kv_iconst C 137 rfl 4 (kdec dk_cX10_one 33 rfl) rfl ?_
    refine kv_callVi (As := [.int a2, .int 4]) (rest := []) C 140 rfl 61 (k_x_kin l D τ ρ σ w a2 4 hI ) rfl rfl mml_TaleMachineModel_211 mim_yX10_kin mse_yX10_kin mcd_yX10_kin min_yX10_kin hd_yX10_kin rfl rfl rfl (by decide) rfl (Nat.le_of_ble_eq_true rfl) (kdec dk_cX10_one 34 rfl) (fun x230 w226 h227 => ?_)
    obtain ⟨I228, f229, p231⟩ := h227
    have F232 : kF [(61, some 13), (61, some 15), (61, some 19), (61, some 20), (61, some 29), (61, some 31), (61, some 43), (64, none), (66, none), (71, none), (72, none), (73, none), (81, none), (82, none), (83, none)] w w226 := kF_call hF0 f229 (by decide)
    have M233 : kMoT w226 := kMoT_kF f229 hM rfl rfl (fun _ => rfl)
    have g234 := kf_rng x230
    refine kv_istore_n C 141 rfl 3 [1, 2, 3, 0] [(0, .ref (ρ 61)), (1, .int a1), (2, .int a2), (3, .int x230)] (kdec dk_cX10_one 35 rfl) rfl (by decide) rfl ?_
    refine kv_aload_n C 142 rfl 0 (kdec dk_cX10_one 36 rfl) rfl rfl ?_
    refine kv_iload_n C 143 rfl 3 (kdec dk_cX10_one 37 rfl) rfl rfl ?_
    refine kv_callVv (As := [.int x230]) (rest := []) C 146 rfl 61 (k_x_answers l D τ ρ σ w226 x230 I228 M233) rfl rfl mml_TaleMachineModel_237 mim_yX10_answers mse_yX10_answers mcd_yX10_answers min_yX10_answers hd_yX10_answers rfl rfl rfl (by decide) rfl (Nat.le_of_ble_eq_true rfl) (kdec dk_cX10_one 38 rfl) (fun w235 h236 => ?_)
    obtain ⟨I237, f238, M240⟩ := h236
    have F241 : kF [(61, some 13), (61, some 15), (61, some 19), (61, some 20), (61, some 29), (61, some 31), (61, some 43), (64, none), (66, none), (71, none), (72, none), (73, none), (81, none), (82, none), (83, none)] w w235 := kF_call F232 f238 (by decide)
    have e242 : w235 61 20 = x9 := ((f238 61 20 rfl : w235 61 20 = w226 61 20).trans ((f229 61 20 rfl : w226 61 20 = w 61 20).trans e10))
    have r243 := kMoT_fr M240
    rw [e242] at r243
    refine kv_goto C 325 (kdec dk_cX10_one 39 rfl) (by decide) ?_
    have e244 : w235 61 31 = x1 := ((f238 61 31 rfl : w235 61 31 = w226 61 31).trans ((f229 61 31 rfl : w226 61 31 = w 61 31).trans e2))
    have e245 : w235 61 29 = x4 := ((f238 61 29 rfl : w235 61 29 = w226 61 29).trans ((f229 61 29 rfl : w226 61 29 = w 61 29).trans e5))
    exact kv_vret C hr hlk (kdec dk_cX10_one 141 rfl) ⟨rfl, I237, F241, (by rw [e2, e5, e244, e245]; try omega), M240⟩
  by_cases d246 : a1.toInt = 4
  · skip
    refine kv_tableIn C 4 149 (kdec dk_cX10_one 1 rfl) d246 (by decide) (by decide) rfl (by decide) ?_
    refine kv_iload_n C 150 rfl 2 (kdec dk_cX10_one 40 rfl) rfl rfl ?_
    refine kv_if_ne C 153 rfl 157 (kdec dk_cX10_one 41 rfl) (by decide) (fun d247 => ?_) (fun d247 => ?_)
    · skip
      refine kv_aload_n C 158 rfl 0 (kdec dk_cX10_one 44 rfl) rfl rfl ?_
      refine kv_iload_n C 159 rfl 2 (kdec dk_cX10_one 45 rfl) rfl rfl ?_
      refine kv_iconst C 160 rfl 1 (kdec dk_cX10_one 46 rfl) rfl ?_
      refine kv_isub C 161 rfl (kdec dk_cX10_one 47 rfl) (fun x248 q250 h249e h249 h249l h249u => ?_)
      try have h249n : x248.toInt = a2.toInt - (1 : Int32).toInt := by omega
      clear h249 q250
      refine kv_callVi (As := [.int x248]) (rest := []) C 164 rfl 61 (k_x_byteAt l D τ ρ σ w x248 hI ) rfl rfl mml_TaleMachineModel_163 mim_yX10_byteAt mse_yX10_byteAt mcd_yX10_byteAt min_yX10_byteAt hd_yX10_byteAt rfl rfl rfl (by decide) rfl (Nat.le_of_ble_eq_true rfl) (kdec dk_cX10_one 48 rfl) (fun x255 w251 h252 => ?_)
      obtain ⟨I253, f254, p256, p257, p258⟩ := h252
      have F259 : kF [(61, some 13), (61, some 15), (61, some 19), (61, some 20), (61, some 29), (61, some 31), (61, some 43), (64, none), (66, none), (71, none), (72, none), (73, none), (81, none), (82, none), (83, none)] w w251 := kF_call hF0 f254 (by decide)
      have M260 : kMoT w251 := kMoT_kF f254 hM rfl rfl (fun _ => rfl)
      have g261 := kf_rng x255
      obtain ⟨x262, e263⟩ : ∃ z : Int32, w 61 13 = z := ⟨_, rfl⟩
      have b264 : (0 : Int) ≤ x262.toInt ∧ x262.toInt ≤ 13 := by rw [← e263]; exact hI 61 13
      obtain ⟨x265, e266⟩ : ∃ z : Int32, w251 61 13 = z := ⟨_, rfl⟩
      have b267 : (0 : Int) ≤ x265.toInt ∧ x265.toInt ≤ 13 := by rw [← e266]; exact I253 61 13
      rw [e263, e266] at p257
      rw [e266] at p258
      refine kv_bipush C 166 rfl 32 (kdec dk_cX10_one 49 rfl) rfl ?_
      refine kv_idiv C 167 rfl (kdec dk_cX10_one 50 rfl) (by decide) (fun x268 h269e h269l h269u => ?_)
      refine kv_iconst C 168 rfl 1 (kdec dk_cX10_one 51 rfl) rfl ?_
      refine kv_iadd C 169 rfl (kdec dk_cX10_one 52 rfl) (fun x270 q272 h271e h271 h271l h271u => ?_)
      try have h271n : x270.toInt = x268.toInt + (1 : Int32).toInt := by omega
      clear h271 q272
      refine kv_istore_n C 170 rfl 3 [1, 2, 3, 0] [(0, .ref (ρ 61)), (1, .int a1), (2, .int a2), (3, .int x270)] (kdec dk_cX10_one 53 rfl) rfl (by decide) rfl ?_
      refine kv_aload_n C 171 rfl 0 (kdec dk_cX10_one 54 rfl) rfl rfl ?_
      refine kv_iload_n C 172 rfl 3 (kdec dk_cX10_one 55 rfl) rfl rfl ?_
      refine kv_callVv (As := [.int x270]) (rest := []) C 175 rfl 61 (k_x_answers l D τ ρ σ w251 x270 I253 M260) rfl rfl mml_TaleMachineModel_237 mim_yX10_answers mse_yX10_answers mcd_yX10_answers min_yX10_answers hd_yX10_answers rfl rfl rfl (by decide) rfl (Nat.le_of_ble_eq_true rfl) (kdec dk_cX10_one 56 rfl) (fun w273 h274 => ?_)
      obtain ⟨I275, f276, M278⟩ := h274
      have F279 : kF [(61, some 13), (61, some 15), (61, some 19), (61, some 20), (61, some 29), (61, some 31), (61, some 43), (64, none), (66, none), (71, none), (72, none), (73, none), (81, none), (82, none), (83, none)] w w273 := kF_call F259 f276 (by decide)
      have e280 : w273 61 20 = x9 := ((f276 61 20 rfl : w273 61 20 = w251 61 20).trans ((f254 61 20 rfl : w251 61 20 = w 61 20).trans e10))
      have r281 := kMoT_fr M278
      rw [e280] at r281
      refine kv_goto C 325 (kdec dk_cX10_one 57 rfl) (by decide) ?_
      have e282 : w273 61 31 = x1 := ((f276 61 31 rfl : w273 61 31 = w251 61 31).trans ((f254 61 31 rfl : w251 61 31 = w 61 31).trans e2))
      have e283 : w273 61 29 = x4 := ((f276 61 29 rfl : w273 61 29 = w251 61 29).trans ((f254 61 29 rfl : w251 61 29 = w 61 29).trans e5))
      exact kv_vret C hr hlk (kdec dk_cX10_one 141 rfl) ⟨rfl, I275, F279, (by rw [e2, e5, e282, e283]; try omega), M278⟩
    · skip
      refine kv_iconst C 154 rfl 0 (kdec dk_cX10_one 42 rfl) rfl ?_
      refine kv_goto C 169 (kdec dk_cX10_one 43 rfl) (by decide) ?_
      refine kv_istore_n C 170 rfl 3 [1, 2, 3, 0] [(0, .ref (ρ 61)), (1, .int a1), (2, .int a2), (3, .int 0)] (kdec dk_cX10_one 53 rfl) rfl (by decide) rfl ?_
      refine kv_aload_n C 171 rfl 0 (kdec dk_cX10_one 54 rfl) rfl rfl ?_
      refine kv_iload_n C 172 rfl 3 (kdec dk_cX10_one 55 rfl) rfl rfl ?_
      refine kv_callVv (As := [.int 0]) (rest := []) C 175 rfl 61 (k_x_answers l D τ ρ σ w 0 hI hM) rfl rfl mml_TaleMachineModel_237 mim_yX10_answers mse_yX10_answers mcd_yX10_answers min_yX10_answers hd_yX10_answers rfl rfl rfl (by decide) rfl (Nat.le_of_ble_eq_true rfl) (kdec dk_cX10_one 56 rfl) (fun w284 h285 => ?_)
      obtain ⟨I286, f287, M289⟩ := h285
      have F290 : kF [(61, some 13), (61, some 15), (61, some 19), (61, some 20), (61, some 29), (61, some 31), (61, some 43), (64, none), (66, none), (71, none), (72, none), (73, none), (81, none), (82, none), (83, none)] w w284 := kF_call hF0 f287 (by decide)
      have e291 : w284 61 20 = x9 := ((f287 61 20 rfl : w284 61 20 = w 61 20).trans e10)
      have r292 := kMoT_fr M289
      rw [e291] at r292
      refine kv_goto C 325 (kdec dk_cX10_one 57 rfl) (by decide) ?_
      have e293 : w284 61 31 = x1 := ((f287 61 31 rfl : w284 61 31 = w 61 31).trans e2)
      have e294 : w284 61 29 = x4 := ((f287 61 29 rfl : w284 61 29 = w 61 29).trans e5)
      exact kv_vret C hr hlk (kdec dk_cX10_one 141 rfl) ⟨rfl, I286, F290, (by rw [e2, e5, e293, e294]; try omega), M289⟩
  by_cases d295 : a1.toInt = 5
  · skip
    refine kv_tableIn C 5 178 (kdec dk_cX10_one 1 rfl) d295 (by decide) (by decide) rfl (by decide) ?_
    refine kv_aload_n C 179 rfl 0 (kdec dk_cX10_one 58 rfl) rfl rfl ?_
    refine kv_iload_n C 180 rfl 2 (kdec dk_cX10_one 59 rfl) rfl rfl ?_
    refine kv_callVi (As := [.int a2]) (rest := []) C 183 rfl 61 (k_x_getNamed l D τ ρ σ w a2 hI hM) rfl rfl mml_TaleMachineModel_289 mim_yX10_getNamed mse_yX10_getNamed mcd_yX10_getNamed min_yX10_getNamed hd_yX10_getNamed rfl rfl rfl (by decide) rfl (Nat.le_of_ble_eq_true rfl) (kdec dk_cX10_one 60 rfl) (fun x300 w296 h297 => ?_)
    obtain ⟨I298, f299, p301, M302⟩ := h297
    have F303 : kF [(61, some 13), (61, some 15), (61, some 19), (61, some 20), (61, some 29), (61, some 31), (61, some 43), (64, none), (66, none), (71, none), (72, none), (73, none), (81, none), (82, none), (83, none)] w w296 := kF_call hF0 f299 (by decide)
    have e304 : w296 61 20 = x9 := ((f299 61 20 rfl : w296 61 20 = w 61 20).trans e10)
    have r305 := kMoT_fr M302
    rw [e304] at r305
    have g306 := kf_rng x300
    refine kv_iload_n C 184 rfl 1 (kdec dk_cX10_one 61 rfl) rfl rfl ?_
    refine kv_iconst C 185 rfl 5 (kdec dk_cX10_one 62 rfl) rfl ?_
    refine kv_icmp_ne C 188 rfl 192 (kdec dk_cX10_one 63 rfl) (by decide) (fun d307 => ?_) (fun d307 => ?_)
    · skip
      refine kv_iconst C 193 rfl (-1) (kdec dk_cX10_one 66 rfl) rfl ?_
      refine kv_iadd C 194 rfl (kdec dk_cX10_one 67 rfl) (fun x308 q310 h309e h309 h309l h309u => ?_)
      try have h309n : x308.toInt = x300.toInt + ((-1) : Int32).toInt := by omega
      clear h309 q310
      refine kv_istore_n C 195 rfl 3 [1, 2, 3, 0] [(0, .ref (ρ 61)), (1, .int a1), (2, .int a2), (3, .int x308)] (kdec dk_cX10_one 68 rfl) rfl (by decide) rfl ?_
      refine kv_aload_n C 196 rfl 0 (kdec dk_cX10_one 69 rfl) rfl rfl ?_
      refine kv_iload_n C 197 rfl 2 (kdec dk_cX10_one 70 rfl) rfl rfl ?_
      refine kv_iload_n C 198 rfl 3 (kdec dk_cX10_one 71 rfl) rfl rfl ?_
      refine kv_callVv (As := [.int a2, .int x308]) (rest := []) C 201 rfl 61 (k_x_setNamed l D τ ρ σ w296 a2 x308 I298 M302) rfl rfl mml_TaleMachineModel_292 mim_yX10_setNamed mse_yX10_setNamed mcd_yX10_setNamed min_yX10_setNamed hd_yX10_setNamed rfl rfl rfl (by decide) rfl (Nat.le_of_ble_eq_true rfl) (kdec dk_cX10_one 72 rfl) (fun w311 h312 => ?_)
      obtain ⟨I313, f314, M316⟩ := h312
      have F317 : kF [(61, some 13), (61, some 15), (61, some 19), (61, some 20), (61, some 29), (61, some 31), (61, some 43), (64, none), (66, none), (71, none), (72, none), (73, none), (81, none), (82, none), (83, none)] w w311 := kF_call F303 f314 (by decide)
      have e318 : w311 61 20 = x9 := ((f314 61 20 rfl : w311 61 20 = w296 61 20).trans e304)
      have r319 := kMoT_fr M316
      rw [e318] at r319
      refine kv_goto C 325 (kdec dk_cX10_one 73 rfl) (by decide) ?_
      have e320 : w311 61 31 = x1 := ((f314 61 31 rfl : w311 61 31 = w296 61 31).trans ((f299 61 31 rfl : w296 61 31 = w 61 31).trans e2))
      have e321 : w311 61 29 = x4 := ((f314 61 29 rfl : w311 61 29 = w296 61 29).trans ((f299 61 29 rfl : w296 61 29 = w 61 29).trans e5))
      exact kv_vret C hr hlk (kdec dk_cX10_one 141 rfl) ⟨rfl, I313, F317, (by rw [e2, e5, e320, e321]; try omega), M316⟩
    · skip
      refine kv_iconst C 189 rfl 1 (kdec dk_cX10_one 64 rfl) rfl ?_
      refine kv_goto C 193 (kdec dk_cX10_one 65 rfl) (by decide) ?_
      refine kv_iadd C 194 rfl (kdec dk_cX10_one 67 rfl) (fun x322 q324 h323e h323 h323l h323u => ?_)
      try have h323n : x322.toInt = x300.toInt + (1 : Int32).toInt := by omega
      clear h323 q324
      refine kv_istore_n C 195 rfl 3 [1, 2, 3, 0] [(0, .ref (ρ 61)), (1, .int a1), (2, .int a2), (3, .int x322)] (kdec dk_cX10_one 68 rfl) rfl (by decide) rfl ?_
      refine kv_aload_n C 196 rfl 0 (kdec dk_cX10_one 69 rfl) rfl rfl ?_
      refine kv_iload_n C 197 rfl 2 (kdec dk_cX10_one 70 rfl) rfl rfl ?_
      refine kv_iload_n C 198 rfl 3 (kdec dk_cX10_one 71 rfl) rfl rfl ?_
      refine kv_callVv (As := [.int a2, .int x322]) (rest := []) C 201 rfl 61 (k_x_setNamed l D τ ρ σ w296 a2 x322 I298 M302) rfl rfl mml_TaleMachineModel_292 mim_yX10_setNamed mse_yX10_setNamed mcd_yX10_setNamed min_yX10_setNamed hd_yX10_setNamed rfl rfl rfl (by decide) rfl (Nat.le_of_ble_eq_true rfl) (kdec dk_cX10_one 72 rfl) (fun w325 h326 => ?_)
      obtain ⟨I327, f328, M330⟩ := h326
      have F331 : kF [(61, some 13), (61, some 15), (61, some 19), (61, some 20), (61, some 29), (61, some 31), (61, some 43), (64, none), (66, none), (71, none), (72, none), (73, none), (81, none), (82, none), (83, none)] w w325 := kF_call F303 f328 (by decide)
      have e332 : w325 61 20 = x9 := ((f328 61 20 rfl : w325 61 20 = w296 61 20).trans e304)
      have r333 := kMoT_fr M330
      rw [e332] at r333
      refine kv_goto C 325 (kdec dk_cX10_one 73 rfl) (by decide) ?_
      have e334 : w325 61 31 = x1 := ((f328 61 31 rfl : w325 61 31 = w296 61 31).trans ((f299 61 31 rfl : w296 61 31 = w 61 31).trans e2))
      have e335 : w325 61 29 = x4 := ((f328 61 29 rfl : w325 61 29 = w296 61 29).trans ((f299 61 29 rfl : w296 61 29 = w 61 29).trans e5))
      exact kv_vret C hr hlk (kdec dk_cX10_one 141 rfl) ⟨rfl, I327, F331, (by rw [e2, e5, e334, e335]; try omega), M330⟩
  by_cases d336 : a1.toInt = 6
  · skip
    refine kv_tableIn C 6 178 (kdec dk_cX10_one 1 rfl) d336 (by decide) (by decide) rfl (by decide) ?_
    refine kv_aload_n C 179 rfl 0 (kdec dk_cX10_one 58 rfl) rfl rfl ?_
    refine kv_iload_n C 180 rfl 2 (kdec dk_cX10_one 59 rfl) rfl rfl ?_
    refine kv_callVi (As := [.int a2]) (rest := []) C 183 rfl 61 (k_x_getNamed l D τ ρ σ w a2 hI hM) rfl rfl mml_TaleMachineModel_289 mim_yX10_getNamed mse_yX10_getNamed mcd_yX10_getNamed min_yX10_getNamed hd_yX10_getNamed rfl rfl rfl (by decide) rfl (Nat.le_of_ble_eq_true rfl) (kdec dk_cX10_one 60 rfl) (fun x341 w337 h338 => ?_)
    obtain ⟨I339, f340, p342, M343⟩ := h338
    have F344 : kF [(61, some 13), (61, some 15), (61, some 19), (61, some 20), (61, some 29), (61, some 31), (61, some 43), (64, none), (66, none), (71, none), (72, none), (73, none), (81, none), (82, none), (83, none)] w w337 := kF_call hF0 f340 (by decide)
    have e345 : w337 61 20 = x9 := ((f340 61 20 rfl : w337 61 20 = w 61 20).trans e10)
    have r346 := kMoT_fr M343
    rw [e345] at r346
    have g347 := kf_rng x341
    refine kv_iload_n C 184 rfl 1 (kdec dk_cX10_one 61 rfl) rfl rfl ?_
    refine kv_iconst C 185 rfl 5 (kdec dk_cX10_one 62 rfl) rfl ?_
    refine kv_icmp_ne C 188 rfl 192 (kdec dk_cX10_one 63 rfl) (by decide) (fun d348 => ?_) (fun d348 => ?_)
    · skip
      refine kv_iconst C 193 rfl (-1) (kdec dk_cX10_one 66 rfl) rfl ?_
      refine kv_iadd C 194 rfl (kdec dk_cX10_one 67 rfl) (fun x349 q351 h350e h350 h350l h350u => ?_)
      try have h350n : x349.toInt = x341.toInt + ((-1) : Int32).toInt := by omega
      clear h350 q351
      refine kv_istore_n C 195 rfl 3 [1, 2, 3, 0] [(0, .ref (ρ 61)), (1, .int a1), (2, .int a2), (3, .int x349)] (kdec dk_cX10_one 68 rfl) rfl (by decide) rfl ?_
      refine kv_aload_n C 196 rfl 0 (kdec dk_cX10_one 69 rfl) rfl rfl ?_
      refine kv_iload_n C 197 rfl 2 (kdec dk_cX10_one 70 rfl) rfl rfl ?_
      refine kv_iload_n C 198 rfl 3 (kdec dk_cX10_one 71 rfl) rfl rfl ?_
      refine kv_callVv (As := [.int a2, .int x349]) (rest := []) C 201 rfl 61 (k_x_setNamed l D τ ρ σ w337 a2 x349 I339 M343) rfl rfl mml_TaleMachineModel_292 mim_yX10_setNamed mse_yX10_setNamed mcd_yX10_setNamed min_yX10_setNamed hd_yX10_setNamed rfl rfl rfl (by decide) rfl (Nat.le_of_ble_eq_true rfl) (kdec dk_cX10_one 72 rfl) (fun w352 h353 => ?_)
      obtain ⟨I354, f355, M357⟩ := h353
      have F358 : kF [(61, some 13), (61, some 15), (61, some 19), (61, some 20), (61, some 29), (61, some 31), (61, some 43), (64, none), (66, none), (71, none), (72, none), (73, none), (81, none), (82, none), (83, none)] w w352 := kF_call F344 f355 (by decide)
      have e359 : w352 61 20 = x9 := ((f355 61 20 rfl : w352 61 20 = w337 61 20).trans e345)
      have r360 := kMoT_fr M357
      rw [e359] at r360
      refine kv_goto C 325 (kdec dk_cX10_one 73 rfl) (by decide) ?_
      have e361 : w352 61 31 = x1 := ((f355 61 31 rfl : w352 61 31 = w337 61 31).trans ((f340 61 31 rfl : w337 61 31 = w 61 31).trans e2))
      have e362 : w352 61 29 = x4 := ((f355 61 29 rfl : w352 61 29 = w337 61 29).trans ((f340 61 29 rfl : w337 61 29 = w 61 29).trans e5))
      exact kv_vret C hr hlk (kdec dk_cX10_one 141 rfl) ⟨rfl, I354, F358, (by rw [e2, e5, e361, e362]; try omega), M357⟩
    · skip
      refine kv_iconst C 189 rfl 1 (kdec dk_cX10_one 64 rfl) rfl ?_
      refine kv_goto C 193 (kdec dk_cX10_one 65 rfl) (by decide) ?_
      refine kv_iadd C 194 rfl (kdec dk_cX10_one 67 rfl) (fun x363 q365 h364e h364 h364l h364u => ?_)
      try have h364n : x363.toInt = x341.toInt + (1 : Int32).toInt := by omega
      clear h364 q365
      refine kv_istore_n C 195 rfl 3 [1, 2, 3, 0] [(0, .ref (ρ 61)), (1, .int a1), (2, .int a2), (3, .int x363)] (kdec dk_cX10_one 68 rfl) rfl (by decide) rfl ?_
      refine kv_aload_n C 196 rfl 0 (kdec dk_cX10_one 69 rfl) rfl rfl ?_
      refine kv_iload_n C 197 rfl 2 (kdec dk_cX10_one 70 rfl) rfl rfl ?_
      refine kv_iload_n C 198 rfl 3 (kdec dk_cX10_one 71 rfl) rfl rfl ?_
      refine kv_callVv (As := [.int a2, .int x363]) (rest := []) C 201 rfl 61 (k_x_setNamed l D τ ρ σ w337 a2 x363 I339 M343) rfl rfl mml_TaleMachineModel_292 mim_yX10_setNamed mse_yX10_setNamed mcd_yX10_setNamed min_yX10_setNamed hd_yX10_setNamed rfl rfl rfl (by decide) rfl (Nat.le_of_ble_eq_true rfl) (kdec dk_cX10_one 72 rfl) (fun w366 h367 => ?_)
      obtain ⟨I368, f369, M371⟩ := h367
      have F372 : kF [(61, some 13), (61, some 15), (61, some 19), (61, some 20), (61, some 29), (61, some 31), (61, some 43), (64, none), (66, none), (71, none), (72, none), (73, none), (81, none), (82, none), (83, none)] w w366 := kF_call F344 f369 (by decide)
      have e373 : w366 61 20 = x9 := ((f369 61 20 rfl : w366 61 20 = w337 61 20).trans e345)
      have r374 := kMoT_fr M371
      rw [e373] at r374
      refine kv_goto C 325 (kdec dk_cX10_one 73 rfl) (by decide) ?_
      have e375 : w366 61 31 = x1 := ((f369 61 31 rfl : w366 61 31 = w337 61 31).trans ((f340 61 31 rfl : w337 61 31 = w 61 31).trans e2))
      have e376 : w366 61 29 = x4 := ((f369 61 29 rfl : w366 61 29 = w337 61 29).trans ((f340 61 29 rfl : w337 61 29 = w 61 29).trans e5))
      exact kv_vret C hr hlk (kdec dk_cX10_one 141 rfl) ⟨rfl, I368, F372, (by rw [e2, e5, e375, e376]; try omega), M371⟩
  by_cases d377 : a1.toInt = 7
  · skip
    refine kv_tableIn C 7 204 (kdec dk_cX10_one 1 rfl) d377 (by decide) (by decide) rfl (by decide) ?_
    refine kv_aload_n C 205 rfl 0 (kdec dk_cX10_one 74 rfl) rfl rfl ?_
    refine kv_iload_n C 206 rfl 2 (kdec dk_cX10_one 75 rfl) rfl rfl ?_
    refine kv_callVi (As := [.int a2]) (rest := []) C 209 rfl 61 (k_x_tellsText l D τ ρ σ w a2 hI (by rw [e2, e5]; try omega)) rfl rfl mml_TaleMachineModel_314 mim_yX10_tellsText mse_yX10_tellsText mcd_yX10_tellsText min_yX10_tellsText hd_yX10_tellsText rfl rfl rfl (by decide) rfl (Nat.le_of_ble_eq_true rfl) (kdec dk_cX10_one 76 rfl) (fun x382 w378 h379 => ?_)
    obtain ⟨I380, f381, p383, p384⟩ := h379
    have F385 : kF [(61, some 13), (61, some 15), (61, some 19), (61, some 20), (61, some 29), (61, some 31), (61, some 43), (64, none), (66, none), (71, none), (72, none), (73, none), (81, none), (82, none), (83, none)] w w378 := kF_call hF0 f381 (by decide)
    have M386 : kMoT w378 := kMoT_kF f381 hM rfl rfl (fun _ => rfl)
    have g387 := kf_rng x382
    obtain ⟨x388, e389⟩ : ∃ z : Int32, w378 61 31 = z := ⟨_, rfl⟩
    have b390 : (0 : Int) ≤ x388.toInt ∧ x388.toInt ≤ 2147483647 := by rw [← e389]; exact I380 61 31
    obtain ⟨x391, e392⟩ : ∃ z : Int32, w378 61 29 = z := ⟨_, rfl⟩
    have b393 : (0 : Int) ≤ x391.toInt ∧ x391.toInt ≤ 2147483647 := by rw [← e392]; exact I380 61 29
    rw [e2, e5, e389, e392] at p383
    refine kv_istore_n C 210 rfl 3 [1, 2, 3, 0] [(0, .ref (ρ 61)), (1, .int a1), (2, .int a2), (3, .int x382)] (kdec dk_cX10_one 77 rfl) rfl (by decide) rfl ?_
    refine kv_goto C 325 (kdec dk_cX10_one 78 rfl) (by decide) ?_
    exact kv_vret C hr hlk (kdec dk_cX10_one 141 rfl) ⟨rfl, I380, F385, (by rw [e2, e5, e389, e392]; try omega), M386⟩
  by_cases d394 : a1.toInt = 8
  · skip
    refine kv_tableIn C 8 319 (kdec dk_cX10_one 1 rfl) d394 (by decide) (by decide) rfl (by decide) ?_
    refine kv_aload_n C 320 rfl 0 (kdec dk_cX10_one 138 rfl) rfl rfl ?_
    refine kv_bipush C 322 rfl 6 (kdec dk_cX10_one 139 rfl) rfl ?_
    refine kv_callVv (As := [.int 6]) (rest := []) C 325 rfl 61 (k_x_halts l D τ ρ σ w 6 hI (by omega)) rfl rfl mml_TaleMachineModel_160 mim_yX10_halts mse_yX10_halts mcd_yX10_halts min_yX10_halts hd_yX10_halts rfl rfl rfl (by decide) rfl (Nat.le_of_ble_eq_true rfl) (kdec dk_cX10_one 140 rfl) (fun w395 h396 => ?_)
    obtain ⟨I397, f398, p400⟩ := h396
    have F401 : kF [(61, some 13), (61, some 15), (61, some 19), (61, some 20), (61, some 29), (61, some 31), (61, some 43), (64, none), (66, none), (71, none), (72, none), (73, none), (81, none), (82, none), (83, none)] w w395 := kF_call hF0 f398 (by decide)
    have M402 : kMoT w395 := kMoT_kF f398 hM rfl rfl (fun _ => rfl)
    obtain ⟨x403, e404⟩ : ∃ z : Int32, w 61 13 = z := ⟨_, rfl⟩
    have b405 : (0 : Int) ≤ x403.toInt ∧ x403.toInt ≤ 13 := by rw [← e404]; exact hI 61 13
    obtain ⟨x406, e407⟩ : ∃ z : Int32, w395 61 13 = z := ⟨_, rfl⟩
    have b408 : (0 : Int) ≤ x406.toInt ∧ x406.toInt ≤ 13 := by rw [← e407]; exact I397 61 13
    rw [e404, e407] at p400
    have e409 : w395 61 31 = x1 := ((f398 61 31 rfl : w395 61 31 = w 61 31).trans e2)
    have e410 : w395 61 29 = x4 := ((f398 61 29 rfl : w395 61 29 = w 61 29).trans e5)
    exact kv_vret C hr hlk (kdec dk_cX10_one 141 rfl) ⟨rfl, I397, F401, (by rw [e2, e5, e409, e410]; try omega), M402⟩
  by_cases d411 : a1.toInt = 9
  · skip
    refine kv_tableIn C 9 213 (kdec dk_cX10_one 1 rfl) d411 (by decide) (by decide) rfl (by decide) ?_
    refine kv_aload_n C 214 rfl 0 (kdec dk_cX10_one 79 rfl) rfl rfl ?_
    refine kv_iload_n C 215 rfl 2 (kdec dk_cX10_one 80 rfl) rfl rfl ?_
    refine kv_callVv (As := [.int a2]) (rest := []) C 218 rfl 61 (k_x_removes l D τ ρ σ w a2 hI ) rfl rfl mml_TaleMachineModel_219 mim_yX10_removes mse_yX10_removes mcd_yX10_removes min_yX10_removes hd_yX10_removes rfl rfl rfl (by decide) rfl (Nat.le_of_ble_eq_true rfl) (kdec dk_cX10_one 81 rfl) (fun w412 h413 => ?_)
    obtain ⟨I414, f415⟩ := h413
    have F417 : kF [(61, some 13), (61, some 15), (61, some 19), (61, some 20), (61, some 29), (61, some 31), (61, some 43), (64, none), (66, none), (71, none), (72, none), (73, none), (81, none), (82, none), (83, none)] w w412 := kF_call hF0 f415 (by decide)
    have M418 : kMoT w412 := kMoT_kF f415 hM rfl rfl (fun _ => rfl)
    refine kv_goto C 325 (kdec dk_cX10_one 82 rfl) (by decide) ?_
    have e419 : w412 61 31 = x1 := ((f415 61 31 rfl : w412 61 31 = w 61 31).trans e2)
    have e420 : w412 61 29 = x4 := ((f415 61 29 rfl : w412 61 29 = w 61 29).trans e5)
    exact kv_vret C hr hlk (kdec dk_cX10_one 141 rfl) ⟨rfl, I414, F417, (by rw [e2, e5, e419, e420]; try omega), M418⟩
  by_cases d421 : a1.toInt = 10
  · skip
    refine kv_tableIn C 10 221 (kdec dk_cX10_one 1 rfl) d421 (by decide) (by decide) rfl (by decide) ?_
    refine kv_aload_n C 222 rfl 0 (kdec dk_cX10_one 83 rfl) rfl rfl ?_
    refine kv_iload_n C 223 rfl 2 (kdec dk_cX10_one 84 rfl) rfl rfl ?_
    refine kv_callVi (As := [.int a2]) (rest := []) C 226 rfl 61 (k_x_object l D τ ρ σ w a2 hI ) rfl rfl mml_TaleMachineModel_205 mim_yX10_object mse_yX10_object mcd_yX10_object min_yX10_object hd_yX10_object rfl rfl rfl (by decide) rfl (Nat.le_of_ble_eq_true rfl) (kdec dk_cX10_one 85 rfl) (fun x426 w422 h423 => ?_)
    obtain ⟨I424, f425⟩ := h423
    have F427 : kF [(61, some 13), (61, some 15), (61, some 19), (61, some 20), (61, some 29), (61, some 31), (61, some 43), (64, none), (66, none), (71, none), (72, none), (73, none), (81, none), (82, none), (83, none)] w w422 := kF_call hF0 f425 (by decide)
    have M428 : kMoT w422 := kMoT_kF f425 hM rfl rfl (fun _ => rfl)
    have g429 := kf_rng x426
    refine kv_istore_n C 227 rfl 3 [1, 2, 3, 0] [(0, .ref (ρ 61)), (1, .int a1), (2, .int a2), (3, .int x426)] (kdec dk_cX10_one 86 rfl) rfl (by decide) rfl ?_
    refine kv_aload_n C 228 rfl 0 (kdec dk_cX10_one 87 rfl) rfl rfl ?_
    obtain ⟨x430, e431⟩ : ∃ z : Int32, w422 61 13 = z := ⟨_, rfl⟩
    have b432 : (0 : Int) ≤ x430.toInt ∧ x430.toInt ≤ 13 := by rw [← e431]; exact I424 61 13
    refine kv_get C 231 rfl 61 13 rfl rfl inX10 (by decide) mfl_TaleMachineModel_148 rfl rfl (kdec dk_cX10_one 88 rfl) e431 ?_
    refine kv_if_le C 234 rfl 238 (kdec dk_cX10_one 89 rfl) (by decide) (fun d433 => ?_) (fun d433 => ?_)
    · skip
      refine kv_aload_n C 239 rfl 0 (kdec dk_cX10_one 92 rfl) rfl rfl ?_
      refine kv_iload_n C 240 rfl 3 (kdec dk_cX10_one 93 rfl) rfl rfl ?_
      refine kv_bipush C 242 rfl 7 (kdec dk_cX10_one 94 rfl) rfl ?_
      refine kv_iadd C 243 rfl (kdec dk_cX10_one 95 rfl) (fun x434 q436 h435e h435 h435l h435u => ?_)
      try have h435n : x434.toInt = x426.toInt + (7 : Int32).toInt := by omega
      clear h435 q436
      refine kv_callVi (As := [.int x434]) (rest := []) C 246 rfl 61 (k_x_wordAt l D τ ρ σ w422 x434 I424 ) rfl rfl mml_TaleMachineModel_178 mim_yX10_wordAt mse_yX10_wordAt mcd_yX10_wordAt min_yX10_wordAt hd_yX10_wordAt rfl rfl rfl (by decide) rfl (Nat.le_of_ble_eq_true rfl) (kdec dk_cX10_one 96 rfl) (fun x441 w437 h438 => ?_)
      obtain ⟨I439, f440, p442, p443⟩ := h438
      have F444 : kF [(61, some 13), (61, some 15), (61, some 19), (61, some 20), (61, some 29), (61, some 31), (61, some 43), (64, none), (66, none), (71, none), (72, none), (73, none), (81, none), (82, none), (83, none)] w w437 := kF_call F427 f440 (by decide)
      have M445 : kMoT w437 := kMoT_kF f440 M428 rfl rfl (fun _ => rfl)
      have g446 := kf_rng x441
      obtain ⟨x447, e448⟩ : ∃ z : Int32, w437 61 13 = z := ⟨_, rfl⟩
      have b449 : (0 : Int) ≤ x447.toInt ∧ x447.toInt ≤ 13 := by rw [← e448]; exact I439 61 13
      rw [e431, e448] at p443
      refine kv_istore_n C 247 rfl 3 [1, 2, 3, 0] [(0, .ref (ρ 61)), (1, .int a1), (2, .int a2), (3, .int x441)] (kdec dk_cX10_one 97 rfl) rfl (by decide) rfl ?_
      refine kv_aload_n C 248 rfl 0 (kdec dk_cX10_one 98 rfl) rfl rfl ?_
      refine kv_get C 251 rfl 61 13 rfl rfl inX10 (by decide) mfl_TaleMachineModel_148 rfl rfl (kdec dk_cX10_one 99 rfl) e448 ?_
      refine kv_if_ne C 254 rfl 325 (kdec dk_cX10_one 100 rfl) (by decide) (fun d450 => ?_) (fun d450 => ?_)
      · skip
        have e451 : w437 61 31 = x1 := ((f440 61 31 rfl : w437 61 31 = w422 61 31).trans ((f425 61 31 rfl : w422 61 31 = w 61 31).trans e2))
        have e452 : w437 61 29 = x4 := ((f440 61 29 rfl : w437 61 29 = w422 61 29).trans ((f425 61 29 rfl : w422 61 29 = w 61 29).trans e5))
        exact kv_vret C hr hlk (kdec dk_cX10_one 141 rfl) ⟨rfl, I439, F444, (by rw [e2, e5, e451, e452]; try omega), M445⟩
      · skip
        refine kv_aload_n C 255 rfl 0 (kdec dk_cX10_one 101 rfl) rfl rfl ?_
        refine kv_iload_n C 256 rfl 3 (kdec dk_cX10_one 102 rfl) rfl rfl ?_
        refine kv_iconst C 257 rfl 1 (kdec dk_cX10_one 103 rfl) rfl ?_
        refine kv_iadd C 258 rfl (kdec dk_cX10_one 104 rfl) (fun x453 q455 h454e h454 h454l h454u => ?_)
        try have h454n : x453.toInt = x441.toInt + (1 : Int32).toInt := by omega
        clear h454 q455
        have e456 : w437 61 31 = x1 := ((f440 61 31 rfl : w437 61 31 = w422 61 31).trans ((f425 61 31 rfl : w422 61 31 = w 61 31).trans e2))
        have e457 : w437 61 29 = x4 := ((f440 61 29 rfl : w437 61 29 = w422 61 29).trans ((f425 61 29 rfl : w422 61 29 = w 61 29).trans e5))
        refine kv_callVi (As := [.int x453]) (rest := []) C 261 rfl 61 (k_x_tellsText l D τ ρ σ w437 x453 I439 (by rw [e456, e457]; try omega)) rfl rfl mml_TaleMachineModel_314 mim_yX10_tellsText mse_yX10_tellsText mcd_yX10_tellsText min_yX10_tellsText hd_yX10_tellsText rfl rfl rfl (by decide) rfl (Nat.le_of_ble_eq_true rfl) (kdec dk_cX10_one 105 rfl) (fun x462 w458 h459 => ?_)
        obtain ⟨I460, f461, p463, p464⟩ := h459
        have F465 : kF [(61, some 13), (61, some 15), (61, some 19), (61, some 20), (61, some 29), (61, some 31), (61, some 43), (64, none), (66, none), (71, none), (72, none), (73, none), (81, none), (82, none), (83, none)] w w458 := kF_call F444 f461 (by decide)
        have M466 : kMoT w458 := kMoT_kF f461 M445 rfl rfl (fun _ => rfl)
        have g467 := kf_rng x462
        obtain ⟨x468, e469⟩ : ∃ z : Int32, w458 61 31 = z := ⟨_, rfl⟩
        have b470 : (0 : Int) ≤ x468.toInt ∧ x468.toInt ≤ 2147483647 := by rw [← e469]; exact I460 61 31
        obtain ⟨x471, e472⟩ : ∃ z : Int32, w458 61 29 = z := ⟨_, rfl⟩
        have b473 : (0 : Int) ≤ x471.toInt ∧ x471.toInt ≤ 2147483647 := by rw [← e472]; exact I460 61 29
        rw [e456, e457, e469, e472] at p463
        refine kv_istore_n C 262 rfl 3 [1, 2, 3, 0] [(0, .ref (ρ 61)), (1, .int a1), (2, .int a2), (3, .int x462)] (kdec dk_cX10_one 106 rfl) rfl (by decide) rfl ?_
        refine kv_goto C 325 (kdec dk_cX10_one 107 rfl) (by decide) ?_
        exact kv_vret C hr hlk (kdec dk_cX10_one 141 rfl) ⟨rfl, I460, F465, (by rw [e2, e5, e469, e472]; try omega), M466⟩
    · skip
      refine kv_iconst C 235 rfl 0 (kdec dk_cX10_one 90 rfl) rfl ?_
      refine kv_goto C 246 (kdec dk_cX10_one 91 rfl) (by decide) ?_
      refine kv_istore_n C 247 rfl 3 [1, 2, 3, 0] [(0, .ref (ρ 61)), (1, .int a1), (2, .int a2), (3, .int 0)] (kdec dk_cX10_one 97 rfl) rfl (by decide) rfl ?_
      refine kv_aload_n C 248 rfl 0 (kdec dk_cX10_one 98 rfl) rfl rfl ?_
      refine kv_get C 251 rfl 61 13 rfl rfl inX10 (by decide) mfl_TaleMachineModel_148 rfl rfl (kdec dk_cX10_one 99 rfl) e431 ?_
      refine kv_if_ne C 254 rfl 325 (kdec dk_cX10_one 100 rfl) (by decide) (fun d474 => ?_) (fun d474 => ?_)
      · skip
        have e475 : w422 61 31 = x1 := ((f425 61 31 rfl : w422 61 31 = w 61 31).trans e2)
        have e476 : w422 61 29 = x4 := ((f425 61 29 rfl : w422 61 29 = w 61 29).trans e5)
        exact kv_vret C hr hlk (kdec dk_cX10_one 141 rfl) ⟨rfl, I424, F427, (by rw [e2, e5, e475, e476]; try omega), M428⟩
      · skip
        refine kv_aload_n C 255 rfl 0 (kdec dk_cX10_one 101 rfl) rfl rfl ?_
        refine kv_iload_n C 256 rfl 3 (kdec dk_cX10_one 102 rfl) rfl rfl ?_
        refine kv_iconst C 257 rfl 1 (kdec dk_cX10_one 103 rfl) rfl ?_
        refine kv_iadd C 258 rfl (kdec dk_cX10_one 104 rfl) (fun x477 q479 h478e h478 h478l h478u => ?_)
        try have h478n : x477.toInt = (0 : Int32).toInt + (1 : Int32).toInt := by omega
        clear h478 q479
        obtain rfl : x477 = 1 := by rw [h478e]; decide
        have e480 : w422 61 31 = x1 := ((f425 61 31 rfl : w422 61 31 = w 61 31).trans e2)
        have e481 : w422 61 29 = x4 := ((f425 61 29 rfl : w422 61 29 = w 61 29).trans e5)
        refine kv_callVi (As := [.int 1]) (rest := []) C 261 rfl 61 (k_x_tellsText l D τ ρ σ w422 1 I424 (by rw [e480, e481]; try omega)) rfl rfl mml_TaleMachineModel_314 mim_yX10_tellsText mse_yX10_tellsText mcd_yX10_tellsText min_yX10_tellsText hd_yX10_tellsText rfl rfl rfl (by decide) rfl (Nat.le_of_ble_eq_true rfl) (kdec dk_cX10_one 105 rfl) (fun x486 w482 h483 => ?_)
        obtain ⟨I484, f485, p487, p488⟩ := h483
        have F489 : kF [(61, some 13), (61, some 15), (61, some 19), (61, some 20), (61, some 29), (61, some 31), (61, some 43), (64, none), (66, none), (71, none), (72, none), (73, none), (81, none), (82, none), (83, none)] w w482 := kF_call F427 f485 (by decide)
        have M490 : kMoT w482 := kMoT_kF f485 M428 rfl rfl (fun _ => rfl)
        have g491 := kf_rng x486
        obtain ⟨x492, e493⟩ : ∃ z : Int32, w482 61 31 = z := ⟨_, rfl⟩
        have b494 : (0 : Int) ≤ x492.toInt ∧ x492.toInt ≤ 2147483647 := by rw [← e493]; exact I484 61 31
        obtain ⟨x495, e496⟩ : ∃ z : Int32, w482 61 29 = z := ⟨_, rfl⟩
        have b497 : (0 : Int) ≤ x495.toInt ∧ x495.toInt ≤ 2147483647 := by rw [← e496]; exact I484 61 29
        rw [e480, e481, e493, e496] at p487
        refine kv_istore_n C 262 rfl 3 [1, 2, 3, 0] [(0, .ref (ρ 61)), (1, .int a1), (2, .int a2), (3, .int x486)] (kdec dk_cX10_one 106 rfl) rfl (by decide) rfl ?_
        refine kv_goto C 325 (kdec dk_cX10_one 107 rfl) (by decide) ?_
        exact kv_vret C hr hlk (kdec dk_cX10_one 141 rfl) ⟨rfl, I484, F489, (by rw [e2, e5, e493, e496]; try omega), M490⟩
  by_cases d498 : a1.toInt = 11
  · skip
    refine kv_tableIn C 11 265 (kdec dk_cX10_one 1 rfl) d498 (by decide) (by decide) rfl (by decide) ?_
    refine kv_aload_n C 266 rfl 0 (kdec dk_cX10_one 108 rfl) rfl rfl ?_
    refine kv_iload_n C 267 rfl 2 (kdec dk_cX10_one 109 rfl) rfl rfl ?_
    refine kv_callVv (As := [.int a2]) (rest := []) C 270 rfl 61 (k_x_returns l D τ ρ σ w a2 hI hM) rfl rfl mml_TaleMachineModel_197 mim_yX10_returns mse_yX10_returns mcd_yX10_returns min_yX10_returns hd_yX10_returns rfl rfl rfl (by decide) rfl (Nat.le_of_ble_eq_true rfl) (kdec dk_cX10_one 110 rfl) (fun w499 h500 => ?_)
    obtain ⟨I501, f502, M504⟩ := h500
    have F505 : kF [(61, some 13), (61, some 15), (61, some 19), (61, some 20), (61, some 29), (61, some 31), (61, some 43), (64, none), (66, none), (71, none), (72, none), (73, none), (81, none), (82, none), (83, none)] w w499 := kF_call hF0 f502 (by decide)
    obtain ⟨x506, e507⟩ : ∃ z : Int32, w499 61 20 = z := ⟨_, rfl⟩
    have b508 : (0 : Int) ≤ x506.toInt ∧ x506.toInt ≤ 20 := by rw [← e507]; exact I501 61 20
    have r509 := kMoT_fr M504
    rw [e507] at r509
    refine kv_goto C 325 (kdec dk_cX10_one 111 rfl) (by decide) ?_
    have e510 : w499 61 31 = x1 := ((f502 61 31 rfl : w499 61 31 = w 61 31).trans e2)
    have e511 : w499 61 29 = x4 := ((f502 61 29 rfl : w499 61 29 = w 61 29).trans e5)
    exact kv_vret C hr hlk (kdec dk_cX10_one 141 rfl) ⟨rfl, I501, F505, (by rw [e2, e5, e510, e511]; try omega), M504⟩
  by_cases d512 : a1.toInt = 12
  · skip
    refine kv_tableIn C 12 273 (kdec dk_cX10_one 1 rfl) d512 (by decide) (by decide) rfl (by decide) ?_
    refine kv_aload_n C 274 rfl 0 (kdec dk_cX10_one 112 rfl) rfl rfl ?_
    refine kv_iload_n C 275 rfl 2 (kdec dk_cX10_one 113 rfl) rfl rfl ?_
    refine kv_callSi (As := [.int a2]) (rest := [.ref (ρ 61)]) C 278 rfl (k_x_signed l D τ ρ σ w a2 hI ) mml_TaleMachineModel_286 mst_yX10_signed mcd_yX10_signed min_yX10_signed hd_yX10_signed rfl rfl rfl (by decide) rfl (Nat.le_of_ble_eq_true rfl) (kdec dk_cX10_one 114 rfl) (fun x517 w513 h514 => ?_)
    obtain ⟨I515, f516, p518⟩ := h514
    have F519 : kF [(61, some 13), (61, some 15), (61, some 19), (61, some 20), (61, some 29), (61, some 31), (61, some 43), (64, none), (66, none), (71, none), (72, none), (73, none), (81, none), (82, none), (83, none)] w w513 := kF_call hF0 f516 (by decide)
    have M520 : kMoT w513 := kMoT_kF f516 hM rfl rfl (fun _ => rfl)
    have g521 := kf_rng x517
    refine kv_callVv (As := [.int x517]) (rest := []) C 281 rfl 61 (k_x_goes l D τ ρ σ w513 x517 I515 M520) rfl rfl mml_TaleMachineModel_200 mim_yX10_goes mse_yX10_goes mcd_yX10_goes min_yX10_goes hd_yX10_goes rfl rfl rfl (by decide) rfl (Nat.le_of_ble_eq_true rfl) (kdec dk_cX10_one 115 rfl) (fun w522 h523 => ?_)
    obtain ⟨I524, f525, M527⟩ := h523
    have F528 : kF [(61, some 13), (61, some 15), (61, some 19), (61, some 20), (61, some 29), (61, some 31), (61, some 43), (64, none), (66, none), (71, none), (72, none), (73, none), (81, none), (82, none), (83, none)] w w522 := kF_call F519 f525 (by decide)
    obtain ⟨x529, e530⟩ : ∃ z : Int32, w522 61 20 = z := ⟨_, rfl⟩
    have b531 : (0 : Int) ≤ x529.toInt ∧ x529.toInt ≤ 20 := by rw [← e530]; exact I524 61 20
    have r532 := kMoT_fr M527
    rw [e530] at r532
    refine kv_goto C 325 (kdec dk_cX10_one 116 rfl) (by decide) ?_
    have e533 : w522 61 31 = x1 := ((f525 61 31 rfl : w522 61 31 = w513 61 31).trans ((f516 61 31 rfl : w513 61 31 = w 61 31).trans e2))
    have e534 : w522 61 29 = x4 := ((f525 61 29 rfl : w522 61 29 = w513 61 29).trans ((f516 61 29 rfl : w513 61 29 = w 61 29).trans e5))
    exact kv_vret C hr hlk (kdec dk_cX10_one 141 rfl) ⟨rfl, I524, F528, (by rw [e2, e5, e533, e534]; try omega), M527⟩
  by_cases d535 : a1.toInt = 13
  · skip
    refine kv_tableIn C 13 284 (kdec dk_cX10_one 1 rfl) d535 (by decide) (by decide) rfl (by decide) ?_
    refine kv_aload_n C 285 rfl 0 (kdec dk_cX10_one 117 rfl) rfl rfl ?_
    refine kv_iconst C 286 rfl 2 (kdec dk_cX10_one 118 rfl) rfl ?_
    refine kv_iload_n C 287 rfl 2 (kdec dk_cX10_one 119 rfl) rfl rfl ?_
    refine kv_imul C 288 rfl (kdec dk_cX10_one 120 rfl) (fun x536 h537e h537l h537u => ?_)
    obtain ⟨q538, g539⟩ := kf_mul 2 a2
    rw [← h537e, c_2] at g539
    try have h537n : x536.toInt = 2 * a2.toInt := by omega
    clear g539 q538
    refine kv_callVi (As := [.int x536]) (rest := []) C 291 rfl 61 (k_x_tellsText l D τ ρ σ w x536 hI (by rw [e2, e5]; try omega)) rfl rfl mml_TaleMachineModel_314 mim_yX10_tellsText mse_yX10_tellsText mcd_yX10_tellsText min_yX10_tellsText hd_yX10_tellsText rfl rfl rfl (by decide) rfl (Nat.le_of_ble_eq_true rfl) (kdec dk_cX10_one 121 rfl) (fun x544 w540 h541 => ?_)
    obtain ⟨I542, f543, p545, p546⟩ := h541
    have F547 : kF [(61, some 13), (61, some 15), (61, some 19), (61, some 20), (61, some 29), (61, some 31), (61, some 43), (64, none), (66, none), (71, none), (72, none), (73, none), (81, none), (82, none), (83, none)] w w540 := kF_call hF0 f543 (by decide)
    have M548 : kMoT w540 := kMoT_kF f543 hM rfl rfl (fun _ => rfl)
    have g549 := kf_rng x544
    obtain ⟨x550, e551⟩ : ∃ z : Int32, w540 61 31 = z := ⟨_, rfl⟩
    have b552 : (0 : Int) ≤ x550.toInt ∧ x550.toInt ≤ 2147483647 := by rw [← e551]; exact I542 61 31
    obtain ⟨x553, e554⟩ : ∃ z : Int32, w540 61 29 = z := ⟨_, rfl⟩
    have b555 : (0 : Int) ≤ x553.toInt ∧ x553.toInt ≤ 2147483647 := by rw [← e554]; exact I542 61 29
    rw [e2, e5, e551, e554] at p545
    refine kv_istore_n C 292 rfl 3 [1, 2, 3, 0] [(0, .ref (ρ 61)), (1, .int a1), (2, .int a2), (3, .int x544)] (kdec dk_cX10_one 122 rfl) rfl (by decide) rfl ?_
    refine kv_goto C 325 (kdec dk_cX10_one 123 rfl) (by decide) ?_
    exact kv_vret C hr hlk (kdec dk_cX10_one 141 rfl) ⟨rfl, I542, F547, (by rw [e2, e5, e551, e554]; try omega), M548⟩
  by_cases d556 : a1.toInt = 14
  · skip
    refine kv_tableIn C 14 295 (kdec dk_cX10_one 1 rfl) d556 (by decide) (by decide) rfl (by decide) ?_
    refine kv_aload_n C 296 rfl 0 (kdec dk_cX10_one 124 rfl) rfl rfl ?_
    refine kv_iload_n C 297 rfl 2 (kdec dk_cX10_one 125 rfl) rfl rfl ?_
    refine kv_callVi (As := [.int a2]) (rest := []) C 300 rfl 61 (k_x_getNamed l D τ ρ σ w a2 hI hM) rfl rfl mml_TaleMachineModel_289 mim_yX10_getNamed mse_yX10_getNamed mcd_yX10_getNamed min_yX10_getNamed hd_yX10_getNamed rfl rfl rfl (by decide) rfl (Nat.le_of_ble_eq_true rfl) (kdec dk_cX10_one 126 rfl) (fun x561 w557 h558 => ?_)
    obtain ⟨I559, f560, p562, M563⟩ := h558
    have F564 : kF [(61, some 13), (61, some 15), (61, some 19), (61, some 20), (61, some 29), (61, some 31), (61, some 43), (64, none), (66, none), (71, none), (72, none), (73, none), (81, none), (82, none), (83, none)] w w557 := kF_call hF0 f560 (by decide)
    have e565 : w557 61 20 = x9 := ((f560 61 20 rfl : w557 61 20 = w 61 20).trans e10)
    have r566 := kMoT_fr M563
    rw [e565] at r566
    have g567 := kf_rng x561
    refine kv_istore_n C 301 rfl 3 [1, 2, 3, 0] [(0, .ref (ρ 61)), (1, .int a1), (2, .int a2), (3, .int x561)] (kdec dk_cX10_one 127 rfl) rfl (by decide) rfl ?_
    refine kv_aload_n C 302 rfl 0 (kdec dk_cX10_one 128 rfl) rfl rfl ?_
    refine kv_iload_n C 303 rfl 3 (kdec dk_cX10_one 129 rfl) rfl rfl ?_
    refine kv_callVv (As := [.int x561]) (rest := []) C 306 rfl 61 (k_x_answers l D τ ρ σ w557 x561 I559 M563) rfl rfl mml_TaleMachineModel_237 mim_yX10_answers mse_yX10_answers mcd_yX10_answers min_yX10_answers hd_yX10_answers rfl rfl rfl (by decide) rfl (Nat.le_of_ble_eq_true rfl) (kdec dk_cX10_one 130 rfl) (fun w568 h569 => ?_)
    obtain ⟨I570, f571, M573⟩ := h569
    have F574 : kF [(61, some 13), (61, some 15), (61, some 19), (61, some 20), (61, some 29), (61, some 31), (61, some 43), (64, none), (66, none), (71, none), (72, none), (73, none), (81, none), (82, none), (83, none)] w w568 := kF_call F564 f571 (by decide)
    have e575 : w568 61 20 = x9 := ((f571 61 20 rfl : w568 61 20 = w557 61 20).trans e565)
    have r576 := kMoT_fr M573
    rw [e575] at r576
    refine kv_goto C 325 (kdec dk_cX10_one 131 rfl) (by decide) ?_
    have e577 : w568 61 31 = x1 := ((f571 61 31 rfl : w568 61 31 = w557 61 31).trans ((f560 61 31 rfl : w557 61 31 = w 61 31).trans e2))
    have e578 : w568 61 29 = x4 := ((f571 61 29 rfl : w568 61 29 = w557 61 29).trans ((f560 61 29 rfl : w557 61 29 = w 61 29).trans e5))
    exact kv_vret C hr hlk (kdec dk_cX10_one 141 rfl) ⟨rfl, I570, F574, (by rw [e2, e5, e577, e578]; try omega), M573⟩
  by_cases d579 : a1.toInt = 15
  · skip
    refine kv_tableIn C 15 309 (kdec dk_cX10_one 1 rfl) d579 (by decide) (by decide) rfl (by decide) ?_
    refine kv_aload_n C 310 rfl 0 (kdec dk_cX10_one 132 rfl) rfl rfl ?_
    refine kv_iload_n C 311 rfl 2 (kdec dk_cX10_one 133 rfl) rfl rfl ?_
    refine kv_iconst C 312 rfl (-1) (kdec dk_cX10_one 134 rfl) rfl ?_
    refine kv_ixor C 313 rfl (kdec dk_cX10_one 135 rfl) (fun x580 h581e h581l h581u => ?_)
    refine kv_callVv (As := [.int x580]) (rest := []) C 316 rfl 61 (k_x_answers l D τ ρ σ w x580 hI hM) rfl rfl mml_TaleMachineModel_237 mim_yX10_answers mse_yX10_answers mcd_yX10_answers min_yX10_answers hd_yX10_answers rfl rfl rfl (by decide) rfl (Nat.le_of_ble_eq_true rfl) (kdec dk_cX10_one 136 rfl) (fun w582 h583 => ?_)
    obtain ⟨I584, f585, M587⟩ := h583
    have F588 : kF [(61, some 13), (61, some 15), (61, some 19), (61, some 20), (61, some 29), (61, some 31), (61, some 43), (64, none), (66, none), (71, none), (72, none), (73, none), (81, none), (82, none), (83, none)] w w582 := kF_call hF0 f585 (by decide)
    have e589 : w582 61 20 = x9 := ((f585 61 20 rfl : w582 61 20 = w 61 20).trans e10)
    have r590 := kMoT_fr M587
    rw [e589] at r590
    refine kv_goto C 325 (kdec dk_cX10_one 137 rfl) (by decide) ?_
    have e591 : w582 61 31 = x1 := ((f585 61 31 rfl : w582 61 31 = w 61 31).trans e2)
    have e592 : w582 61 29 = x4 := ((f585 61 29 rfl : w582 61 29 = w 61 29).trans e5)
    exact kv_vret C hr hlk (kdec dk_cX10_one 141 rfl) ⟨rfl, I584, F588, (by rw [e2, e5, e591, e592]; try omega), M587⟩
  refine kv_tableOut C 319 (kdec dk_cX10_one 1 rfl) (by omega) (by decide) ?_
  refine kv_aload_n C 320 rfl 0 (kdec dk_cX10_one 138 rfl) rfl rfl ?_
  refine kv_bipush C 322 rfl 6 (kdec dk_cX10_one 139 rfl) rfl ?_
  refine kv_callVv (As := [.int 6]) (rest := []) C 325 rfl 61 (k_x_halts l D τ ρ σ w 6 hI (by omega)) rfl rfl mml_TaleMachineModel_160 mim_yX10_halts mse_yX10_halts mcd_yX10_halts min_yX10_halts hd_yX10_halts rfl rfl rfl (by decide) rfl (Nat.le_of_ble_eq_true rfl) (kdec dk_cX10_one 140 rfl) (fun w593 h594 => ?_)
  obtain ⟨I595, f596, p598⟩ := h594
  have F599 : kF [(61, some 13), (61, some 15), (61, some 19), (61, some 20), (61, some 29), (61, some 31), (61, some 43), (64, none), (66, none), (71, none), (72, none), (73, none), (81, none), (82, none), (83, none)] w w593 := kF_call hF0 f596 (by decide)
  have M600 : kMoT w593 := kMoT_kF f596 hM rfl rfl (fun _ => rfl)
  obtain ⟨x601, e602⟩ : ∃ z : Int32, w 61 13 = z := ⟨_, rfl⟩
  have b603 : (0 : Int) ≤ x601.toInt ∧ x601.toInt ≤ 13 := by rw [← e602]; exact hI 61 13
  obtain ⟨x604, e605⟩ : ∃ z : Int32, w593 61 13 = z := ⟨_, rfl⟩
  have b606 : (0 : Int) ≤ x604.toInt ∧ x604.toInt ≤ 13 := by rw [← e605]; exact I595 61 13
  rw [e602, e605] at p598
  have e607 : w593 61 31 = x1 := ((f596 61 31 rfl : w593 61 31 = w 61 31).trans e2)
  have e608 : w593 61 29 = x4 := ((f596 61 29 rfl : w593 61 29 = w 61 29).trans e5)
  exact kv_vret C hr hlk (kdec dk_cX10_one 141 rfl) ⟨rfl, I595, F599, (by rw [e2, e5, e607, e608]; try omega), M600⟩

set_option maxHeartbeats 4000000 in
set_option maxRecDepth 100000 in
theorem k_x_none (l : Launch) (D : va_G) (τ : Nat → ClassId) (ρ σ : Nat → Nat) (w : kw) (a1 : Int32) (hI : kI false w) (hp0 : (w 61 31).toInt ≤ 2147481000 ∧ (w 61 29).toInt ≤ 2147481000) (hM : kMoT w) :
    kM l D τ ρ σ yX10_none cX10_none 3 none { frames := 7, cells := 0, slots := 0, locals := 252 } [.ref (ρ 61), .int a1] w
      (fun o w' => o = none ∧ kI false w' ∧ kF [(61, some 12), (61, some 13), (61, some 14), (61, some 15), (61, some 19), (61, some 20), (61, some 29), (61, some 31), (61, some 43), (64, none), (66, none), (67, none), (68, none), (69, none), (70, none), (71, none), (72, none), (73, none), (81, none), (82, none), (83, none)] w w' ∧ ((w' 61 31).toInt ≤ (w 61 31).toInt + 501 ∧ (w' 61 29).toInt ≤ (w 61 29).toInt + 501) ∧ kMoT w') := by
  refine kM_of (own := "TaleMachineModel") rfl (by decide) (Nat.le_of_ble_eq_true rfl) ?_
  intro p e s m args below meth c C hr hlk
  have hF0 : kF [(61, some 12), (61, some 13), (61, some 14), (61, some 15), (61, some 19), (61, some 20), (61, some 29), (61, some 31), (61, some 43), (64, none), (66, none), (67, none), (68, none), (69, none), (70, none), (71, none), (72, none), (73, none), (81, none), (82, none), (83, none)] w w := kF.rf
  have c_1 : (1 : Int32).toInt = 1 := by decide
  have c_2 : (2 : Int32).toInt = 2 := by decide
  have c_6 : (6 : Int32).toInt = 6 := by decide
  have c_13 : (13 : Int32).toInt = 13 := by decide
  refine kV.L (L' := [(0, .ref (ρ 61)), (1, .int a1)]) rfl ?_
  obtain ⟨x1, e2⟩ : ∃ z : Int32, w 61 31 = z := ⟨_, rfl⟩
  have b3 : (0 : Int) ≤ x1.toInt ∧ x1.toInt ≤ 2147483647 := by rw [← e2]; exact hI 61 31
  obtain ⟨x4, e5⟩ : ∃ z : Int32, w 61 29 = z := ⟨_, rfl⟩
  have b6 : (0 : Int) ≤ x4.toInt ∧ x4.toInt ≤ 2147483647 := by rw [← e5]; exact hI 61 29
  rw [e2, e5] at hp0
  have g7 := kf_rng a1
  obtain ⟨x8, e9⟩ : ∃ z : Int32, w 61 20 = z := ⟨_, rfl⟩
  have b10 : (0 : Int) ≤ x8.toInt ∧ x8.toInt ≤ 20 := by rw [← e9]; exact hI 61 20
  have r11 := kMoT_fr hM
  rw [e9] at r11
  refine kv_iload_n C 1 rfl 1 (kdec dk_cX10_none 0 rfl) rfl rfl ?_
  by_cases d12 : a1.toInt = 0
  · skip
    refine kv_tableIn C 0 72 (kdec dk_cX10_none 1 rfl) d12 (by decide) (by decide) rfl (by decide) ?_
    refine kv_aload_n C 73 rfl 0 (kdec dk_cX10_none 2 rfl) rfl rfl ?_
    refine kv_iconst C 74 rfl 1 (kdec dk_cX10_none 3 rfl) rfl ?_
    refine kv_iload_n C 75 rfl 1 (kdec dk_cX10_none 4 rfl) rfl rfl ?_
    refine kv_isub C 76 rfl (kdec dk_cX10_none 5 rfl) (fun x13 q15 h14e h14 h14l h14u => ?_)
    try have h14n : x13.toInt = (1 : Int32).toInt - a1.toInt := by omega
    clear h14 q15
    refine kv_callVv (As := [.int x13]) (rest := []) C 79 rfl 61 (k_x_returns l D τ ρ σ w x13 hI hM) rfl rfl mml_TaleMachineModel_197 mim_yX10_returns mse_yX10_returns mcd_yX10_returns min_yX10_returns hd_yX10_returns rfl rfl rfl (by decide) rfl (Nat.le_of_ble_eq_true rfl) (kdec dk_cX10_none 6 rfl) (fun w16 h17 => ?_)
    obtain ⟨I18, f19, M21⟩ := h17
    have F22 : kF [(61, some 12), (61, some 13), (61, some 14), (61, some 15), (61, some 19), (61, some 20), (61, some 29), (61, some 31), (61, some 43), (64, none), (66, none), (67, none), (68, none), (69, none), (70, none), (71, none), (72, none), (73, none), (81, none), (82, none), (83, none)] w w16 := kF_call hF0 f19 (by decide)
    obtain ⟨x23, e24⟩ : ∃ z : Int32, w16 61 20 = z := ⟨_, rfl⟩
    have b25 : (0 : Int) ≤ x23.toInt ∧ x23.toInt ≤ 20 := by rw [← e24]; exact I18 61 20
    have r26 := kMoT_fr M21
    rw [e24] at r26
    refine kv_goto C 200 (kdec dk_cX10_none 7 rfl) (by decide) ?_
    have e27 : w16 61 31 = x1 := ((f19 61 31 rfl : w16 61 31 = w 61 31).trans e2)
    have e28 : w16 61 29 = x4 := ((f19 61 29 rfl : w16 61 29 = w 61 29).trans e5)
    exact kv_vret C hr hlk (kdec dk_cX10_none 65 rfl) ⟨rfl, I18, F22, (by rw [e2, e5, e27, e28]; try omega), M21⟩
  by_cases d29 : a1.toInt = 1
  · skip
    refine kv_tableIn C 1 72 (kdec dk_cX10_none 1 rfl) d29 (by decide) (by decide) rfl (by decide) ?_
    refine kv_aload_n C 73 rfl 0 (kdec dk_cX10_none 2 rfl) rfl rfl ?_
    refine kv_iconst C 74 rfl 1 (kdec dk_cX10_none 3 rfl) rfl ?_
    refine kv_iload_n C 75 rfl 1 (kdec dk_cX10_none 4 rfl) rfl rfl ?_
    refine kv_isub C 76 rfl (kdec dk_cX10_none 5 rfl) (fun x30 q32 h31e h31 h31l h31u => ?_)
    try have h31n : x30.toInt = (1 : Int32).toInt - a1.toInt := by omega
    clear h31 q32
    refine kv_callVv (As := [.int x30]) (rest := []) C 79 rfl 61 (k_x_returns l D τ ρ σ w x30 hI hM) rfl rfl mml_TaleMachineModel_197 mim_yX10_returns mse_yX10_returns mcd_yX10_returns min_yX10_returns hd_yX10_returns rfl rfl rfl (by decide) rfl (Nat.le_of_ble_eq_true rfl) (kdec dk_cX10_none 6 rfl) (fun w33 h34 => ?_)
    obtain ⟨I35, f36, M38⟩ := h34
    have F39 : kF [(61, some 12), (61, some 13), (61, some 14), (61, some 15), (61, some 19), (61, some 20), (61, some 29), (61, some 31), (61, some 43), (64, none), (66, none), (67, none), (68, none), (69, none), (70, none), (71, none), (72, none), (73, none), (81, none), (82, none), (83, none)] w w33 := kF_call hF0 f36 (by decide)
    obtain ⟨x40, e41⟩ : ∃ z : Int32, w33 61 20 = z := ⟨_, rfl⟩
    have b42 : (0 : Int) ≤ x40.toInt ∧ x40.toInt ≤ 20 := by rw [← e41]; exact I35 61 20
    have r43 := kMoT_fr M38
    rw [e41] at r43
    refine kv_goto C 200 (kdec dk_cX10_none 7 rfl) (by decide) ?_
    have e44 : w33 61 31 = x1 := ((f36 61 31 rfl : w33 61 31 = w 61 31).trans e2)
    have e45 : w33 61 29 = x4 := ((f36 61 29 rfl : w33 61 29 = w 61 29).trans e5)
    exact kv_vret C hr hlk (kdec dk_cX10_none 65 rfl) ⟨rfl, I35, F39, (by rw [e2, e5, e44, e45]; try omega), M38⟩
  by_cases d46 : a1.toInt = 2
  · skip
    refine kv_tableIn C 2 82 (kdec dk_cX10_none 1 rfl) d46 (by decide) (by decide) rfl (by decide) ?_
    refine kv_aload_n C 83 rfl 0 (kdec dk_cX10_none 8 rfl) rfl rfl ?_
    refine kv_aload_n C 84 rfl 0 (kdec dk_cX10_none 9 rfl) rfl rfl ?_
    refine kv_aload_n C 85 rfl 0 (kdec dk_cX10_none 10 rfl) rfl rfl ?_
    obtain ⟨x47, e48⟩ : ∃ z : Int32, w 61 15 = z := ⟨_, rfl⟩
    have b49 : (0 : Int) ≤ x47.toInt ∧ x47.toInt ≤ 65535 := by rw [← e48]; exact hI 61 15
    refine kv_get C 88 rfl 61 15 rfl rfl inX10 (by decide) mfl_TaleMachineModel_170 rfl rfl (kdec dk_cX10_none 11 rfl) e48 ?_
    refine kv_callVi (As := [.int x47]) (rest := [.ref (ρ 61)]) C 91 rfl 61 (k_x_tellsText l D τ ρ σ w x47 hI (by rw [e2, e5]; try omega)) rfl rfl mml_TaleMachineModel_314 mim_yX10_tellsText mse_yX10_tellsText mcd_yX10_tellsText min_yX10_tellsText hd_yX10_tellsText rfl rfl rfl (by decide) rfl (Nat.le_of_ble_eq_true rfl) (kdec dk_cX10_none 12 rfl) (fun x54 w50 h51 => ?_)
    obtain ⟨I52, f53, p55, p56⟩ := h51
    have F57 : kF [(61, some 12), (61, some 13), (61, some 14), (61, some 15), (61, some 19), (61, some 20), (61, some 29), (61, some 31), (61, some 43), (64, none), (66, none), (67, none), (68, none), (69, none), (70, none), (71, none), (72, none), (73, none), (81, none), (82, none), (83, none)] w w50 := kF_call hF0 f53 (by decide)
    have M58 : kMoT w50 := kMoT_kF f53 hM rfl rfl (fun _ => rfl)
    have g59 := kf_rng x54
    obtain ⟨x60, e61⟩ : ∃ z : Int32, w50 61 31 = z := ⟨_, rfl⟩
    have b62 : (0 : Int) ≤ x60.toInt ∧ x60.toInt ≤ 2147483647 := by rw [← e61]; exact I52 61 31
    obtain ⟨x63, e64⟩ : ∃ z : Int32, w50 61 29 = z := ⟨_, rfl⟩
    have b65 : (0 : Int) ≤ x63.toInt ∧ x63.toInt ≤ 2147483647 := by rw [← e64]; exact I52 61 29
    rw [e2, e5, e61, e64] at p55
    refine kv_put C 94 rfl 61 15 rfl rfl inX10 (by decide) mfl_TaleMachineModel_170 rfl tyX10 tyX10_ok nmX10 rfl rfl (kdec dk_cX10_none 13 rfl) rfl rfl (fun w66 u67 => ?_)
    have I68 : kI false w66 := kI_put u67 I52 (show (0 : Int) ≤ (x54 : Int32).toInt by omega) (show (x54 : Int32).toInt ≤ 65535 by omega)
    have F69 : kF [(61, some 12), (61, some 13), (61, some 14), (61, some 15), (61, some 19), (61, some 20), (61, some 29), (61, some 31), (61, some 43), (64, none), (66, none), (67, none), (68, none), (69, none), (70, none), (71, none), (72, none), (73, none), (81, none), (82, none), (83, none)] w w66 := kF_put u67 F57 rfl
    have M70 : kMoT w66 := kMoT_put u67 M58 rfl rfl rfl
    refine kv_goto C 200 (kdec dk_cX10_none 14 rfl) (by decide) ?_
    have e71 : w66 61 31 = x60 := ((kup_ne u67 rfl : w66 61 31 = w50 61 31).trans e61)
    have e72 : w66 61 29 = x63 := ((kup_ne u67 rfl : w66 61 29 = w50 61 29).trans e64)
    exact kv_vret C hr hlk (kdec dk_cX10_none 65 rfl) ⟨rfl, I68, F69, (by rw [e2, e5, e71, e72]; try omega), M70⟩
  by_cases d73 : a1.toInt = 3
  · skip
    refine kv_tableIn C 3 97 (kdec dk_cX10_none 1 rfl) d73 (by decide) (by decide) rfl (by decide) ?_
    refine kv_aload_n C 98 rfl 0 (kdec dk_cX10_none 15 rfl) rfl rfl ?_
    refine kv_aload_n C 99 rfl 0 (kdec dk_cX10_none 16 rfl) rfl rfl ?_
    refine kv_aload_n C 100 rfl 0 (kdec dk_cX10_none 17 rfl) rfl rfl ?_
    obtain ⟨x74, e75⟩ : ∃ z : Int32, w 61 15 = z := ⟨_, rfl⟩
    have b76 : (0 : Int) ≤ x74.toInt ∧ x74.toInt ≤ 65535 := by rw [← e75]; exact hI 61 15
    refine kv_get C 103 rfl 61 15 rfl rfl inX10 (by decide) mfl_TaleMachineModel_170 rfl rfl (kdec dk_cX10_none 18 rfl) e75 ?_
    refine kv_callVi (As := [.int x74]) (rest := [.ref (ρ 61)]) C 106 rfl 61 (k_x_tellsText l D τ ρ σ w x74 hI (by rw [e2, e5]; try omega)) rfl rfl mml_TaleMachineModel_314 mim_yX10_tellsText mse_yX10_tellsText mcd_yX10_tellsText min_yX10_tellsText hd_yX10_tellsText rfl rfl rfl (by decide) rfl (Nat.le_of_ble_eq_true rfl) (kdec dk_cX10_none 19 rfl) (fun x81 w77 h78 => ?_)
    obtain ⟨I79, f80, p82, p83⟩ := h78
    have F84 : kF [(61, some 12), (61, some 13), (61, some 14), (61, some 15), (61, some 19), (61, some 20), (61, some 29), (61, some 31), (61, some 43), (64, none), (66, none), (67, none), (68, none), (69, none), (70, none), (71, none), (72, none), (73, none), (81, none), (82, none), (83, none)] w w77 := kF_call hF0 f80 (by decide)
    have M85 : kMoT w77 := kMoT_kF f80 hM rfl rfl (fun _ => rfl)
    have g86 := kf_rng x81
    obtain ⟨x87, e88⟩ : ∃ z : Int32, w77 61 31 = z := ⟨_, rfl⟩
    have b89 : (0 : Int) ≤ x87.toInt ∧ x87.toInt ≤ 2147483647 := by rw [← e88]; exact I79 61 31
    obtain ⟨x90, e91⟩ : ∃ z : Int32, w77 61 29 = z := ⟨_, rfl⟩
    have b92 : (0 : Int) ≤ x90.toInt ∧ x90.toInt ≤ 2147483647 := by rw [← e91]; exact I79 61 29
    rw [e2, e5, e88, e91] at p82
    refine kv_put C 109 rfl 61 15 rfl rfl inX10 (by decide) mfl_TaleMachineModel_170 rfl tyX10 tyX10_ok nmX10 rfl rfl (kdec dk_cX10_none 20 rfl) rfl rfl (fun w93 u94 => ?_)
    have I95 : kI false w93 := kI_put u94 I79 (show (0 : Int) ≤ (x81 : Int32).toInt by omega) (show (x81 : Int32).toInt ≤ 65535 by omega)
    have F96 : kF [(61, some 12), (61, some 13), (61, some 14), (61, some 15), (61, some 19), (61, some 20), (61, some 29), (61, some 31), (61, some 43), (64, none), (66, none), (67, none), (68, none), (69, none), (70, none), (71, none), (72, none), (73, none), (81, none), (82, none), (83, none)] w w93 := kF_put u94 F84 rfl
    have M97 : kMoT w93 := kMoT_put u94 M85 rfl rfl rfl
    refine kv_aload_n C 110 rfl 0 (kdec dk_cX10_none 21 rfl) rfl rfl ?_
    obtain ⟨x98, e99⟩ : ∃ z : Int32, w77 61 13 = z := ⟨_, rfl⟩
    have b100 : (0 : Int) ≤ x98.toInt ∧ x98.toInt ≤ 13 := by rw [← e99]; exact I79 61 13
    have e101 : w93 61 13 = x98 := ((kup_ne u94 rfl : w93 61 13 = w77 61 13).trans e99)
    refine kv_get C 113 rfl 61 13 rfl rfl inX10 (by decide) mfl_TaleMachineModel_148 rfl rfl (kdec dk_cX10_none 22 rfl) e101 ?_
    refine kv_if_ne C 116 rfl 122 (kdec dk_cX10_none 23 rfl) (by decide) (fun d102 => ?_) (fun d102 => ?_)
    · skip
      refine kv_aload_n C 123 rfl 0 (kdec dk_cX10_none 27 rfl) rfl rfl ?_
      refine kv_iconst C 124 rfl 1 (kdec dk_cX10_none 28 rfl) rfl ?_
      refine kv_callVv (As := [.int 1]) (rest := []) C 127 rfl 61 (k_x_returns l D τ ρ σ w93 1 I95 M97) rfl rfl mml_TaleMachineModel_197 mim_yX10_returns mse_yX10_returns mcd_yX10_returns min_yX10_returns hd_yX10_returns rfl rfl rfl (by decide) rfl (Nat.le_of_ble_eq_true rfl) (kdec dk_cX10_none 29 rfl) (fun w103 h104 => ?_)
      obtain ⟨I105, f106, M108⟩ := h104
      have F109 : kF [(61, some 12), (61, some 13), (61, some 14), (61, some 15), (61, some 19), (61, some 20), (61, some 29), (61, some 31), (61, some 43), (64, none), (66, none), (67, none), (68, none), (69, none), (70, none), (71, none), (72, none), (73, none), (81, none), (82, none), (83, none)] w w103 := kF_call F96 f106 (by decide)
      obtain ⟨x110, e111⟩ : ∃ z : Int32, w103 61 20 = z := ⟨_, rfl⟩
      have b112 : (0 : Int) ≤ x110.toInt ∧ x110.toInt ≤ 20 := by rw [← e111]; exact I105 61 20
      have r113 := kMoT_fr M108
      rw [e111] at r113
      refine kv_goto C 200 (kdec dk_cX10_none 30 rfl) (by decide) ?_
      have e114 : w103 61 31 = x87 := ((f106 61 31 rfl : w103 61 31 = w93 61 31).trans ((kup_ne u94 rfl : w93 61 31 = w77 61 31).trans e88))
      have e115 : w103 61 29 = x90 := ((f106 61 29 rfl : w103 61 29 = w93 61 29).trans ((kup_ne u94 rfl : w93 61 29 = w77 61 29).trans e91))
      exact kv_vret C hr hlk (kdec dk_cX10_none 65 rfl) ⟨rfl, I105, F109, (by rw [e2, e5, e114, e115]; try omega), M108⟩
    · skip
      refine kv_aload_n C 117 rfl 0 (kdec dk_cX10_none 24 rfl) rfl rfl ?_
      refine kv_bipush C 119 rfl 13 (kdec dk_cX10_none 25 rfl) rfl ?_
      have e116 : w93 61 31 = x87 := ((kup_ne u94 rfl : w93 61 31 = w77 61 31).trans e88)
      have e117 : w93 61 29 = x90 := ((kup_ne u94 rfl : w93 61 29 = w77 61 29).trans e91)
      refine kv_callVv (As := [.int 13]) (rest := []) C 122 rfl 61 (k_x_tells l D τ ρ σ w93 13 I95 (by rw [e116, e117]; try omega)) rfl rfl mml_TaleMachineModel_253 mim_yX10_tells mse_yX10_tells mcd_yX10_tells min_yX10_tells hd_yX10_tells rfl rfl rfl (by decide) rfl (Nat.le_of_ble_eq_true rfl) (kdec dk_cX10_none 26 rfl) (fun w118 h119 => ?_)
      obtain ⟨I120, f121, p123, p124⟩ := h119
      have F125 : kF [(61, some 12), (61, some 13), (61, some 14), (61, some 15), (61, some 19), (61, some 20), (61, some 29), (61, some 31), (61, some 43), (64, none), (66, none), (67, none), (68, none), (69, none), (70, none), (71, none), (72, none), (73, none), (81, none), (82, none), (83, none)] w w118 := kF_call F96 f121 (by decide)
      have M126 : kMoT w118 := kMoT_kF f121 M97 rfl rfl (fun _ => rfl)
      obtain ⟨x127, e128⟩ : ∃ z : Int32, w118 61 31 = z := ⟨_, rfl⟩
      have b129 : (0 : Int) ≤ x127.toInt ∧ x127.toInt ≤ 2147483647 := by rw [← e128]; exact I120 61 31
      obtain ⟨x130, e131⟩ : ∃ z : Int32, w118 61 29 = z := ⟨_, rfl⟩
      have b132 : (0 : Int) ≤ x130.toInt ∧ x130.toInt ≤ 2147483647 := by rw [← e131]; exact I120 61 29
      rw [e116, e117, e128, e131] at p123
      rw [e116, e117, e128, e131] at p124
      refine kv_aload_n C 123 rfl 0 (kdec dk_cX10_none 27 rfl) rfl rfl ?_
      refine kv_iconst C 124 rfl 1 (kdec dk_cX10_none 28 rfl) rfl ?_
      refine kv_callVv (As := [.int 1]) (rest := []) C 127 rfl 61 (k_x_returns l D τ ρ σ w118 1 I120 M126) rfl rfl mml_TaleMachineModel_197 mim_yX10_returns mse_yX10_returns mcd_yX10_returns min_yX10_returns hd_yX10_returns rfl rfl rfl (by decide) rfl (Nat.le_of_ble_eq_true rfl) (kdec dk_cX10_none 29 rfl) (fun w133 h134 => ?_)
      obtain ⟨I135, f136, M138⟩ := h134
      have F139 : kF [(61, some 12), (61, some 13), (61, some 14), (61, some 15), (61, some 19), (61, some 20), (61, some 29), (61, some 31), (61, some 43), (64, none), (66, none), (67, none), (68, none), (69, none), (70, none), (71, none), (72, none), (73, none), (81, none), (82, none), (83, none)] w w133 := kF_call F125 f136 (by decide)
      obtain ⟨x140, e141⟩ : ∃ z : Int32, w133 61 20 = z := ⟨_, rfl⟩
      have b142 : (0 : Int) ≤ x140.toInt ∧ x140.toInt ≤ 20 := by rw [← e141]; exact I135 61 20
      have r143 := kMoT_fr M138
      rw [e141] at r143
      refine kv_goto C 200 (kdec dk_cX10_none 30 rfl) (by decide) ?_
      have e144 : w133 61 31 = x127 := ((f136 61 31 rfl : w133 61 31 = w118 61 31).trans e128)
      have e145 : w133 61 29 = x130 := ((f136 61 29 rfl : w133 61 29 = w118 61 29).trans e131)
      exact kv_vret C hr hlk (kdec dk_cX10_none 65 rfl) ⟨rfl, I135, F139, (by rw [e2, e5, e144, e145]; try omega), M138⟩
  by_cases d146 : a1.toInt = 4
  · skip
    refine kv_tableIn C 4 130 (kdec dk_cX10_none 1 rfl) d146 (by decide) (by decide) rfl (by decide) ?_
    refine kv_goto C 200 (kdec dk_cX10_none 31 rfl) (by decide) ?_
    exact kv_vret C hr hlk (kdec dk_cX10_none 65 rfl) ⟨rfl, hI, hF0, (by rw [e2, e5]; try omega), hM⟩
  by_cases d147 : a1.toInt = 5
  · skip
    refine kv_tableIn C 5 194 (kdec dk_cX10_none 1 rfl) d147 (by decide) (by decide) rfl (by decide) ?_
    refine kv_aload_n C 195 rfl 0 (kdec dk_cX10_none 62 rfl) rfl rfl ?_
    refine kv_bipush C 197 rfl 6 (kdec dk_cX10_none 63 rfl) rfl ?_
    refine kv_callVv (As := [.int 6]) (rest := []) C 200 rfl 61 (k_x_halts l D τ ρ σ w 6 hI (by omega)) rfl rfl mml_TaleMachineModel_160 mim_yX10_halts mse_yX10_halts mcd_yX10_halts min_yX10_halts hd_yX10_halts rfl rfl rfl (by decide) rfl (Nat.le_of_ble_eq_true rfl) (kdec dk_cX10_none 64 rfl) (fun w148 h149 => ?_)
    obtain ⟨I150, f151, p153⟩ := h149
    have F154 : kF [(61, some 12), (61, some 13), (61, some 14), (61, some 15), (61, some 19), (61, some 20), (61, some 29), (61, some 31), (61, some 43), (64, none), (66, none), (67, none), (68, none), (69, none), (70, none), (71, none), (72, none), (73, none), (81, none), (82, none), (83, none)] w w148 := kF_call hF0 f151 (by decide)
    have M155 : kMoT w148 := kMoT_kF f151 hM rfl rfl (fun _ => rfl)
    obtain ⟨x156, e157⟩ : ∃ z : Int32, w 61 13 = z := ⟨_, rfl⟩
    have b158 : (0 : Int) ≤ x156.toInt ∧ x156.toInt ≤ 13 := by rw [← e157]; exact hI 61 13
    obtain ⟨x159, e160⟩ : ∃ z : Int32, w148 61 13 = z := ⟨_, rfl⟩
    have b161 : (0 : Int) ≤ x159.toInt ∧ x159.toInt ≤ 13 := by rw [← e160]; exact I150 61 13
    rw [e157, e160] at p153
    have e162 : w148 61 31 = x1 := ((f151 61 31 rfl : w148 61 31 = w 61 31).trans e2)
    have e163 : w148 61 29 = x4 := ((f151 61 29 rfl : w148 61 29 = w 61 29).trans e5)
    exact kv_vret C hr hlk (kdec dk_cX10_none 65 rfl) ⟨rfl, I150, F154, (by rw [e2, e5, e162, e163]; try omega), M155⟩
  by_cases d164 : a1.toInt = 6
  · skip
    refine kv_tableIn C 6 194 (kdec dk_cX10_none 1 rfl) d164 (by decide) (by decide) rfl (by decide) ?_
    refine kv_aload_n C 195 rfl 0 (kdec dk_cX10_none 62 rfl) rfl rfl ?_
    refine kv_bipush C 197 rfl 6 (kdec dk_cX10_none 63 rfl) rfl ?_
    refine kv_callVv (As := [.int 6]) (rest := []) C 200 rfl 61 (k_x_halts l D τ ρ σ w 6 hI (by omega)) rfl rfl mml_TaleMachineModel_160 mim_yX10_halts mse_yX10_halts mcd_yX10_halts min_yX10_halts hd_yX10_halts rfl rfl rfl (by decide) rfl (Nat.le_of_ble_eq_true rfl) (kdec dk_cX10_none 64 rfl) (fun w165 h166 => ?_)
    obtain ⟨I167, f168, p170⟩ := h166
    have F171 : kF [(61, some 12), (61, some 13), (61, some 14), (61, some 15), (61, some 19), (61, some 20), (61, some 29), (61, some 31), (61, some 43), (64, none), (66, none), (67, none), (68, none), (69, none), (70, none), (71, none), (72, none), (73, none), (81, none), (82, none), (83, none)] w w165 := kF_call hF0 f168 (by decide)
    have M172 : kMoT w165 := kMoT_kF f168 hM rfl rfl (fun _ => rfl)
    obtain ⟨x173, e174⟩ : ∃ z : Int32, w 61 13 = z := ⟨_, rfl⟩
    have b175 : (0 : Int) ≤ x173.toInt ∧ x173.toInt ≤ 13 := by rw [← e174]; exact hI 61 13
    obtain ⟨x176, e177⟩ : ∃ z : Int32, w165 61 13 = z := ⟨_, rfl⟩
    have b178 : (0 : Int) ≤ x176.toInt ∧ x176.toInt ≤ 13 := by rw [← e177]; exact I167 61 13
    rw [e174, e177] at p170
    have e179 : w165 61 31 = x1 := ((f168 61 31 rfl : w165 61 31 = w 61 31).trans e2)
    have e180 : w165 61 29 = x4 := ((f168 61 29 rfl : w165 61 29 = w 61 29).trans e5)
    exact kv_vret C hr hlk (kdec dk_cX10_none 65 rfl) ⟨rfl, I167, F171, (by rw [e2, e5, e179, e180]; try omega), M172⟩
  by_cases d181 : a1.toInt = 7
  · skip
    refine kv_tableIn C 7 133 (kdec dk_cX10_none 1 rfl) d181 (by decide) (by decide) rfl (by decide) ?_
    refine kv_aload_n C 134 rfl 0 (kdec dk_cX10_none 32 rfl) rfl rfl ?_
    refine kv_callVv (As := []) (rest := []) C 137 rfl 61 (k_x_again l D τ ρ σ w  hI ) rfl rfl mml_TaleMachineModel_145 mim_yX10_again mse_yX10_again mcd_yX10_again min_yX10_again hd_yX10_again rfl rfl rfl (by decide) rfl (Nat.le_of_ble_eq_true rfl) (kdec dk_cX10_none 33 rfl) (fun w182 h183 => ?_)
    obtain ⟨I184, f185, M187⟩ := h183
    have F188 : kF [(61, some 12), (61, some 13), (61, some 14), (61, some 15), (61, some 19), (61, some 20), (61, some 29), (61, some 31), (61, some 43), (64, none), (66, none), (67, none), (68, none), (69, none), (70, none), (71, none), (72, none), (73, none), (81, none), (82, none), (83, none)] w w182 := kF_call hF0 f185 (by decide)
    obtain ⟨x189, e190⟩ : ∃ z : Int32, w182 61 20 = z := ⟨_, rfl⟩
    have b191 : (0 : Int) ≤ x189.toInt ∧ x189.toInt ≤ 20 := by rw [← e190]; exact I184 61 20
    have r192 := kMoT_fr M187
    rw [e190] at r192
    refine kv_aload_n C 138 rfl 0 (kdec dk_cX10_none 34 rfl) rfl rfl ?_
    refine kv_aload_n C 139 rfl 0 (kdec dk_cX10_none 35 rfl) rfl rfl ?_
    obtain ⟨x193, e194⟩ : ∃ z : Int32, w182 61 14 = z := ⟨_, rfl⟩
    have b195 : (0 : Int) ≤ x193.toInt ∧ x193.toInt ≤ 65535 := by rw [← e194]; exact I184 61 14
    refine kv_get C 142 rfl 61 14 rfl rfl inX10 (by decide) mfl_TaleMachineModel_142 rfl rfl (kdec dk_cX10_none 36 rfl) e194 ?_
    refine kv_put C 145 rfl 61 15 rfl rfl inX10 (by decide) mfl_TaleMachineModel_170 rfl tyX10 tyX10_ok nmX10 rfl rfl (kdec dk_cX10_none 37 rfl) rfl rfl (fun w196 u197 => ?_)
    have I198 : kI false w196 := kI_put u197 I184 (show (0 : Int) ≤ (x193 : Int32).toInt by omega) (show (x193 : Int32).toInt ≤ 65535 by omega)
    have F199 : kF [(61, some 12), (61, some 13), (61, some 14), (61, some 15), (61, some 19), (61, some 20), (61, some 29), (61, some 31), (61, some 43), (64, none), (66, none), (67, none), (68, none), (69, none), (70, none), (71, none), (72, none), (73, none), (81, none), (82, none), (83, none)] w w196 := kF_put u197 F188 rfl
    have M200 : kMoT w196 := kMoT_put u197 M187 rfl rfl rfl
    refine kv_goto C 200 (kdec dk_cX10_none 38 rfl) (by decide) ?_
    have e201 : w196 61 31 = x1 := ((kup_ne u197 rfl : w196 61 31 = w182 61 31).trans ((f185 61 31 rfl : w182 61 31 = w 61 31).trans e2))
    have e202 : w196 61 29 = x4 := ((kup_ne u197 rfl : w196 61 29 = w182 61 29).trans ((f185 61 29 rfl : w182 61 29 = w 61 29).trans e5))
    exact kv_vret C hr hlk (kdec dk_cX10_none 65 rfl) ⟨rfl, I198, F199, (by rw [e2, e5, e201, e202]; try omega), M200⟩
  by_cases d203 : a1.toInt = 8
  · skip
    refine kv_tableIn C 8 148 (kdec dk_cX10_none 1 rfl) d203 (by decide) (by decide) rfl (by decide) ?_
    refine kv_aload_n C 149 rfl 0 (kdec dk_cX10_none 39 rfl) rfl rfl ?_
    refine kv_callVi (As := []) (rest := []) C 152 rfl 61 (k_x_pop l D τ ρ σ w  hI hM) rfl rfl mml_TaleMachineModel_174 mim_yX10_pop mse_yX10_pop mcd_yX10_pop min_yX10_pop hd_yX10_pop rfl rfl rfl (by decide) rfl (Nat.le_of_ble_eq_true rfl) (kdec dk_cX10_none 40 rfl) (fun x208 w204 h205 => ?_)
    obtain ⟨I206, f207, p209, M210⟩ := h205
    have F211 : kF [(61, some 12), (61, some 13), (61, some 14), (61, some 15), (61, some 19), (61, some 20), (61, some 29), (61, some 31), (61, some 43), (64, none), (66, none), (67, none), (68, none), (69, none), (70, none), (71, none), (72, none), (73, none), (81, none), (82, none), (83, none)] w w204 := kF_call hF0 f207 (by decide)
    have e212 : w204 61 20 = x8 := ((f207 61 20 rfl : w204 61 20 = w 61 20).trans e9)
    have r213 := kMoT_fr M210
    rw [e212] at r213
    have g214 := kf_rng x208
    refine kv_istore_n C 153 rfl 2 [1, 2, 0] [(0, .ref (ρ 61)), (1, .int a1), (2, .int x208)] (kdec dk_cX10_none 41 rfl) rfl (by decide) rfl ?_
    refine kv_aload_n C 154 rfl 0 (kdec dk_cX10_none 42 rfl) rfl rfl ?_
    refine kv_iload_n C 155 rfl 2 (kdec dk_cX10_none 43 rfl) rfl rfl ?_
    refine kv_callVv (As := [.int x208]) (rest := []) C 158 rfl 61 (k_x_returns l D τ ρ σ w204 x208 I206 M210) rfl rfl mml_TaleMachineModel_197 mim_yX10_returns mse_yX10_returns mcd_yX10_returns min_yX10_returns hd_yX10_returns rfl rfl rfl (by decide) rfl (Nat.le_of_ble_eq_true rfl) (kdec dk_cX10_none 44 rfl) (fun w215 h216 => ?_)
    obtain ⟨I217, f218, M220⟩ := h216
    have F221 : kF [(61, some 12), (61, some 13), (61, some 14), (61, some 15), (61, some 19), (61, some 20), (61, some 29), (61, some 31), (61, some 43), (64, none), (66, none), (67, none), (68, none), (69, none), (70, none), (71, none), (72, none), (73, none), (81, none), (82, none), (83, none)] w w215 := kF_call F211 f218 (by decide)
    obtain ⟨x222, e223⟩ : ∃ z : Int32, w215 61 20 = z := ⟨_, rfl⟩
    have b224 : (0 : Int) ≤ x222.toInt ∧ x222.toInt ≤ 20 := by rw [← e223]; exact I217 61 20
    have r225 := kMoT_fr M220
    rw [e223] at r225
    refine kv_goto C 200 (kdec dk_cX10_none 45 rfl) (by decide) ?_
    have e226 : w215 61 31 = x1 := ((f218 61 31 rfl : w215 61 31 = w204 61 31).trans ((f207 61 31 rfl : w204 61 31 = w 61 31).trans e2))
    have e227 : w215 61 29 = x4 := ((f218 61 29 rfl : w215 61 29 = w204 61 29).trans ((f207 61 29 rfl : w204 61 29 = w 61 29).trans e5))
    exact kv_vret C hr hlk (kdec dk_cX10_none 65 rfl) ⟨rfl, I217, F221, (by rw [e2, e5, e226, e227]; try omega), M220⟩
  by_cases d228 : a1.toInt = 9
  · skip
    refine kv_tableIn C 9 161 (kdec dk_cX10_none 1 rfl) d228 (by decide) (by decide) rfl (by decide) ?_
    refine kv_aload_n C 162 rfl 0 (kdec dk_cX10_none 46 rfl) rfl rfl ?_
    refine kv_callVi (As := []) (rest := []) C 165 rfl 61 (k_x_pop l D τ ρ σ w  hI hM) rfl rfl mml_TaleMachineModel_174 mim_yX10_pop mse_yX10_pop mcd_yX10_pop min_yX10_pop hd_yX10_pop rfl rfl rfl (by decide) rfl (Nat.le_of_ble_eq_true rfl) (kdec dk_cX10_none 47 rfl) (fun x233 w229 h230 => ?_)
    obtain ⟨I231, f232, p234, M235⟩ := h230
    have F236 : kF [(61, some 12), (61, some 13), (61, some 14), (61, some 15), (61, some 19), (61, some 20), (61, some 29), (61, some 31), (61, some 43), (64, none), (66, none), (67, none), (68, none), (69, none), (70, none), (71, none), (72, none), (73, none), (81, none), (82, none), (83, none)] w w229 := kF_call hF0 f232 (by decide)
    have e237 : w229 61 20 = x8 := ((f232 61 20 rfl : w229 61 20 = w 61 20).trans e9)
    have r238 := kMoT_fr M235
    rw [e237] at r238
    have g239 := kf_rng x233
    refine kv_istore_n C 166 rfl 2 [1, 2, 0] [(0, .ref (ρ 61)), (1, .int a1), (2, .int x233)] (kdec dk_cX10_none 48 rfl) rfl (by decide) rfl ?_
    refine kv_goto C 200 (kdec dk_cX10_none 49 rfl) (by decide) ?_
    have e240 : w229 61 31 = x1 := ((f232 61 31 rfl : w229 61 31 = w 61 31).trans e2)
    have e241 : w229 61 29 = x4 := ((f232 61 29 rfl : w229 61 29 = w 61 29).trans e5)
    exact kv_vret C hr hlk (kdec dk_cX10_none 65 rfl) ⟨rfl, I231, F236, (by rw [e2, e5, e240, e241]; try omega), M235⟩
  by_cases d242 : a1.toInt = 10
  · skip
    refine kv_tableIn C 10 169 (kdec dk_cX10_none 1 rfl) d242 (by decide) (by decide) rfl (by decide) ?_
    refine kv_aload_n C 170 rfl 0 (kdec dk_cX10_none 50 rfl) rfl rfl ?_
    refine kv_iconst C 171 rfl 2 (kdec dk_cX10_none 51 rfl) rfl ?_
    refine kv_put C 174 rfl 61 12 rfl rfl inX10 (by decide) mfl_TaleMachineModel_112 rfl tyX10 tyX10_ok nmX10 rfl rfl (kdec dk_cX10_none 52 rfl) rfl rfl (fun w243 u244 => ?_)
    have I245 : kI false w243 := kI_put u244 hI (show (0 : Int) ≤ (2 : Int32).toInt by omega) (show (2 : Int32).toInt ≤ 4 by omega)
    have F246 : kF [(61, some 12), (61, some 13), (61, some 14), (61, some 15), (61, some 19), (61, some 20), (61, some 29), (61, some 31), (61, some 43), (64, none), (66, none), (67, none), (68, none), (69, none), (70, none), (71, none), (72, none), (73, none), (81, none), (82, none), (83, none)] w w243 := kF_put u244 hF0 rfl
    have M247 : kMoT w243 := kMoT_put u244 hM rfl rfl rfl
    refine kv_goto C 200 (kdec dk_cX10_none 53 rfl) (by decide) ?_
    have e248 : w243 61 31 = x1 := ((kup_ne u244 rfl : w243 61 31 = w 61 31).trans e2)
    have e249 : w243 61 29 = x4 := ((kup_ne u244 rfl : w243 61 29 = w 61 29).trans e5)
    exact kv_vret C hr hlk (kdec dk_cX10_none 65 rfl) ⟨rfl, I245, F246, (by rw [e2, e5, e248, e249]; try omega), M247⟩
  by_cases d250 : a1.toInt = 11
  · skip
    refine kv_tableIn C 11 177 (kdec dk_cX10_none 1 rfl) d250 (by decide) (by decide) rfl (by decide) ?_
    refine kv_aload_n C 178 rfl 0 (kdec dk_cX10_none 54 rfl) rfl rfl ?_
    refine kv_bipush C 180 rfl 13 (kdec dk_cX10_none 55 rfl) rfl ?_
    refine kv_callVv (As := [.int 13]) (rest := []) C 183 rfl 61 (k_x_tells l D τ ρ σ w 13 hI (by rw [e2, e5]; try omega)) rfl rfl mml_TaleMachineModel_253 mim_yX10_tells mse_yX10_tells mcd_yX10_tells min_yX10_tells hd_yX10_tells rfl rfl rfl (by decide) rfl (Nat.le_of_ble_eq_true rfl) (kdec dk_cX10_none 56 rfl) (fun w251 h252 => ?_)
    obtain ⟨I253, f254, p256, p257⟩ := h252
    have F258 : kF [(61, some 12), (61, some 13), (61, some 14), (61, some 15), (61, some 19), (61, some 20), (61, some 29), (61, some 31), (61, some 43), (64, none), (66, none), (67, none), (68, none), (69, none), (70, none), (71, none), (72, none), (73, none), (81, none), (82, none), (83, none)] w w251 := kF_call hF0 f254 (by decide)
    have M259 : kMoT w251 := kMoT_kF f254 hM rfl rfl (fun _ => rfl)
    obtain ⟨x260, e261⟩ : ∃ z : Int32, w251 61 31 = z := ⟨_, rfl⟩
    have b262 : (0 : Int) ≤ x260.toInt ∧ x260.toInt ≤ 2147483647 := by rw [← e261]; exact I253 61 31
    obtain ⟨x263, e264⟩ : ∃ z : Int32, w251 61 29 = z := ⟨_, rfl⟩
    have b265 : (0 : Int) ≤ x263.toInt ∧ x263.toInt ≤ 2147483647 := by rw [← e264]; exact I253 61 29
    rw [e2, e5, e261, e264] at p256
    rw [e2, e5, e261, e264] at p257
    refine kv_goto C 200 (kdec dk_cX10_none 57 rfl) (by decide) ?_
    exact kv_vret C hr hlk (kdec dk_cX10_none 65 rfl) ⟨rfl, I253, F258, (by rw [e2, e5, e261, e264]; try omega), M259⟩
  by_cases d266 : a1.toInt = 12
  · skip
    refine kv_tableIn C 12 194 (kdec dk_cX10_none 1 rfl) d266 (by decide) (by decide) rfl (by decide) ?_
    refine kv_aload_n C 195 rfl 0 (kdec dk_cX10_none 62 rfl) rfl rfl ?_
    refine kv_bipush C 197 rfl 6 (kdec dk_cX10_none 63 rfl) rfl ?_
    refine kv_callVv (As := [.int 6]) (rest := []) C 200 rfl 61 (k_x_halts l D τ ρ σ w 6 hI (by omega)) rfl rfl mml_TaleMachineModel_160 mim_yX10_halts mse_yX10_halts mcd_yX10_halts min_yX10_halts hd_yX10_halts rfl rfl rfl (by decide) rfl (Nat.le_of_ble_eq_true rfl) (kdec dk_cX10_none 64 rfl) (fun w267 h268 => ?_)
    obtain ⟨I269, f270, p272⟩ := h268
    have F273 : kF [(61, some 12), (61, some 13), (61, some 14), (61, some 15), (61, some 19), (61, some 20), (61, some 29), (61, some 31), (61, some 43), (64, none), (66, none), (67, none), (68, none), (69, none), (70, none), (71, none), (72, none), (73, none), (81, none), (82, none), (83, none)] w w267 := kF_call hF0 f270 (by decide)
    have M274 : kMoT w267 := kMoT_kF f270 hM rfl rfl (fun _ => rfl)
    obtain ⟨x275, e276⟩ : ∃ z : Int32, w 61 13 = z := ⟨_, rfl⟩
    have b277 : (0 : Int) ≤ x275.toInt ∧ x275.toInt ≤ 13 := by rw [← e276]; exact hI 61 13
    obtain ⟨x278, e279⟩ : ∃ z : Int32, w267 61 13 = z := ⟨_, rfl⟩
    have b280 : (0 : Int) ≤ x278.toInt ∧ x278.toInt ≤ 13 := by rw [← e279]; exact I269 61 13
    rw [e276, e279] at p272
    have e281 : w267 61 31 = x1 := ((f270 61 31 rfl : w267 61 31 = w 61 31).trans e2)
    have e282 : w267 61 29 = x4 := ((f270 61 29 rfl : w267 61 29 = w 61 29).trans e5)
    exact kv_vret C hr hlk (kdec dk_cX10_none 65 rfl) ⟨rfl, I269, F273, (by rw [e2, e5, e281, e282]; try omega), M274⟩
  by_cases d283 : a1.toInt = 13
  · skip
    refine kv_tableIn C 13 186 (kdec dk_cX10_none 1 rfl) d283 (by decide) (by decide) rfl (by decide) ?_
    refine kv_aload_n C 187 rfl 0 (kdec dk_cX10_none 58 rfl) rfl rfl ?_
    refine kv_iconst C 188 rfl 1 (kdec dk_cX10_none 59 rfl) rfl ?_
    refine kv_callVv (As := [.int 1]) (rest := []) C 191 rfl 61 (k_x_branches l D τ ρ σ w 1 hI hM) rfl rfl mml_TaleMachineModel_227 mim_yX10_branches mse_yX10_branches mcd_yX10_branches min_yX10_branches hd_yX10_branches rfl rfl rfl (by decide) rfl (Nat.le_of_ble_eq_true rfl) (kdec dk_cX10_none 60 rfl) (fun w284 h285 => ?_)
    obtain ⟨I286, f287, M289⟩ := h285
    have F290 : kF [(61, some 12), (61, some 13), (61, some 14), (61, some 15), (61, some 19), (61, some 20), (61, some 29), (61, some 31), (61, some 43), (64, none), (66, none), (67, none), (68, none), (69, none), (70, none), (71, none), (72, none), (73, none), (81, none), (82, none), (83, none)] w w284 := kF_call hF0 f287 (by decide)
    obtain ⟨x291, e292⟩ : ∃ z : Int32, w284 61 20 = z := ⟨_, rfl⟩
    have b293 : (0 : Int) ≤ x291.toInt ∧ x291.toInt ≤ 20 := by rw [← e292]; exact I286 61 20
    have r294 := kMoT_fr M289
    rw [e292] at r294
    refine kv_goto C 200 (kdec dk_cX10_none 61 rfl) (by decide) ?_
    have e295 : w284 61 31 = x1 := ((f287 61 31 rfl : w284 61 31 = w 61 31).trans e2)
    have e296 : w284 61 29 = x4 := ((f287 61 29 rfl : w284 61 29 = w 61 29).trans e5)
    exact kv_vret C hr hlk (kdec dk_cX10_none 65 rfl) ⟨rfl, I286, F290, (by rw [e2, e5, e295, e296]; try omega), M289⟩
  refine kv_tableOut C 194 (kdec dk_cX10_none 1 rfl) (by omega) (by decide) ?_
  refine kv_aload_n C 195 rfl 0 (kdec dk_cX10_none 62 rfl) rfl rfl ?_
  refine kv_bipush C 197 rfl 6 (kdec dk_cX10_none 63 rfl) rfl ?_
  refine kv_callVv (As := [.int 6]) (rest := []) C 200 rfl 61 (k_x_halts l D τ ρ σ w 6 hI (by omega)) rfl rfl mml_TaleMachineModel_160 mim_yX10_halts mse_yX10_halts mcd_yX10_halts min_yX10_halts hd_yX10_halts rfl rfl rfl (by decide) rfl (Nat.le_of_ble_eq_true rfl) (kdec dk_cX10_none 64 rfl) (fun w297 h298 => ?_)
  obtain ⟨I299, f300, p302⟩ := h298
  have F303 : kF [(61, some 12), (61, some 13), (61, some 14), (61, some 15), (61, some 19), (61, some 20), (61, some 29), (61, some 31), (61, some 43), (64, none), (66, none), (67, none), (68, none), (69, none), (70, none), (71, none), (72, none), (73, none), (81, none), (82, none), (83, none)] w w297 := kF_call hF0 f300 (by decide)
  have M304 : kMoT w297 := kMoT_kF f300 hM rfl rfl (fun _ => rfl)
  obtain ⟨x305, e306⟩ : ∃ z : Int32, w 61 13 = z := ⟨_, rfl⟩
  have b307 : (0 : Int) ≤ x305.toInt ∧ x305.toInt ≤ 13 := by rw [← e306]; exact hI 61 13
  obtain ⟨x308, e309⟩ : ∃ z : Int32, w297 61 13 = z := ⟨_, rfl⟩
  have b310 : (0 : Int) ≤ x308.toInt ∧ x308.toInt ≤ 13 := by rw [← e309]; exact I299 61 13
  rw [e306, e309] at p302
  have e311 : w297 61 31 = x1 := ((f300 61 31 rfl : w297 61 31 = w 61 31).trans e2)
  have e312 : w297 61 29 = x4 := ((f300 61 29 rfl : w297 61 29 = w 61 29).trans e5)
  exact kv_vret C hr hlk (kdec dk_cX10_none 65 rfl) ⟨rfl, I299, F303, (by rw [e2, e5, e311, e312]; try omega), M304⟩

set_option maxHeartbeats 4000000 in
set_option maxRecDepth 100000 in
theorem k_x_var (l : Launch) (D : va_G) (τ : Nat → ClassId) (ρ σ : Nat → Nat) (w : kw) (a1 : Int32) (hI : kI false w) (hp0 : (w 61 31).toInt ≤ 2147481000 ∧ (w 61 29).toInt ≤ 2147481000) (hM : kMoT w) :
    kM l D τ ρ σ yX10_var cX10_var 4 none { frames := 6, cells := 0, slots := 0, locals := 216 } [.ref (ρ 61), .int a1] w
      (fun o w' => o = none ∧ kI false w' ∧ kF [(61, some 12), (61, some 13), (61, some 15), (61, some 17), (61, some 19), (61, some 20), (61, some 26), (61, some 27), (61, some 29), (61, some 31), (64, none), (66, none), (67, none), (68, none), (69, none), (70, none), (71, none), (72, none), (73, none)] w w' ∧ ((w' 61 31).toInt ≤ (w 61 31).toInt + 501 ∧ (w' 61 29).toInt ≤ (w 61 29).toInt + 501) ∧ kMoT w') := by
  refine kM_of (own := "TaleMachineModel") rfl (by decide) (Nat.le_of_ble_eq_true rfl) ?_
  intro p e s m args below meth c C hr hlk
  have hF0 : kF [(61, some 12), (61, some 13), (61, some 15), (61, some 17), (61, some 19), (61, some 20), (61, some 26), (61, some 27), (61, some 29), (61, some 31), (64, none), (66, none), (67, none), (68, none), (69, none), (70, none), (71, none), (72, none), (73, none)] w w := kF.rf
  have c_0 : (0 : Int32).toInt = 0 := by decide
  have c_1 : (1 : Int32).toInt = 1 := by decide
  have c_2 : (2 : Int32).toInt = 2 := by decide
  have c_3 : (3 : Int32).toInt = 3 := by decide
  have c_4 : (4 : Int32).toInt = 4 := by decide
  have c_6 : (6 : Int32).toInt = 6 := by decide
  have c_9 : (9 : Int32).toInt = 9 := by decide
  refine kV.L (L' := [(0, .ref (ρ 61)), (1, .int a1)]) rfl ?_
  obtain ⟨x1, e2⟩ : ∃ z : Int32, w 61 31 = z := ⟨_, rfl⟩
  have b3 : (0 : Int) ≤ x1.toInt ∧ x1.toInt ≤ 2147483647 := by rw [← e2]; exact hI 61 31
  obtain ⟨x4, e5⟩ : ∃ z : Int32, w 61 29 = z := ⟨_, rfl⟩
  have b6 : (0 : Int) ≤ x4.toInt ∧ x4.toInt ≤ 2147483647 := by rw [← e5]; exact hI 61 29
  rw [e2, e5] at hp0
  have g7 := kf_rng a1
  obtain ⟨x8, e9⟩ : ∃ z : Int32, w 61 20 = z := ⟨_, rfl⟩
  have b10 : (0 : Int) ≤ x8.toInt ∧ x8.toInt ≤ 20 := by rw [← e9]; exact hI 61 20
  have r11 := kMoT_fr hM
  rw [e9] at r11
  have cut36 : ∀ (w_36 : kw) (l1_36 s0_36 : Int32), kI false w_36 → kF [(61, some 12), (61, some 13), (61, some 15), (61, some 17), (61, some 19), (61, some 20), (61, some 26), (61, some 27), (61, some 29), (61, some 31), (64, none), (66, none), (67, none), (68, none), (69, none), (70, none), (71, none), (72, none), (73, none)] w w_36 → ((w_36 61 31).toInt ≤ (w 61 31).toInt + 0 ∧ (w_36 61 29).toInt ≤ (w 61 29).toInt + 0) → kMoT w_36 → kV p l e { frames := 6, cells := 0, slots := 0, locals := 216 } s m args below meth c (kQ below args s D τ ρ (fun o w' => o = none ∧ kI false w' ∧ kF [(61, some 12), (61, some 13), (61, some 15), (61, some 17), (61, some 19), (61, some 20), (61, some 26), (61, some 27), (61, some 29), (61, some 31), (64, none), (66, none), (67, none), (68, none), (69, none), (70, none), (71, none), (72, none), (73, none)] w w' ∧ ((w' 61 31).toInt ≤ (w 61 31).toInt + 501 ∧ (w' 61 29).toInt ≤ (w 61 29).toInt + 501) ∧ kMoT w')) 4 D τ ρ 36 [(0, .ref (ρ 61)), (1, .int l1_36)] [.int s0_36, .ref (ρ 61)] w_36 := by
    intro w_36 l1_36 s0_36 I_36 F_36 k36_0 M_36
    have gl1_36 := kf_rng l1_36
    have gs0_36 := kf_rng s0_36
    obtain ⟨x12, e13⟩ : ∃ z : Int32, w_36 61 20 = z := ⟨_, rfl⟩
    have b14 : (0 : Int) ≤ x12.toInt ∧ x12.toInt ≤ 20 := by rw [← e13]; exact I_36 61 20
    have r15 := kMoT_fr M_36
    rw [e13] at r15
    obtain ⟨x16, e17⟩ : ∃ z : Int32, w_36 61 31 = z := ⟨_, rfl⟩
    have b18 : (0 : Int) ≤ x16.toInt ∧ x16.toInt ≤ 2147483647 := by rw [← e17]; exact I_36 61 31
    obtain ⟨x19, e20⟩ : ∃ z : Int32, w_36 61 29 = z := ⟨_, rfl⟩
    have b21 : (0 : Int) ≤ x19.toInt ∧ x19.toInt ≤ 2147483647 := by rw [← e20]; exact I_36 61 29
    rw [e2, e5, e17, e20] at k36_0
    refine kv_callVi (As := [.int s0_36]) (rest := []) C 39 rfl 61 (k_x_has l D τ ρ σ w_36 s0_36 I_36 ) rfl rfl mml_TaleMachineModel_280 mim_yX10_has mse_yX10_has mcd_yX10_has min_yX10_has hd_yX10_has rfl rfl rfl (by decide) rfl (Nat.le_of_ble_eq_true rfl) (kdec dk_cX10_var 20 rfl) (fun x26 w22 h23 => ?_)
    obtain ⟨I24, f25, p27, p28, p29⟩ := h23
    have F30 : kF [(61, some 12), (61, some 13), (61, some 15), (61, some 17), (61, some 19), (61, some 20), (61, some 26), (61, some 27), (61, some 29), (61, some 31), (64, none), (66, none), (67, none), (68, none), (69, none), (70, none), (71, none), (72, none), (73, none)] w w22 := kF_call F_36 f25 (by decide)
    have M31 : kMoT w22 := kMoT_kF f25 M_36 rfl rfl (fun _ => rfl)
    have g32 := kf_rng x26
    obtain ⟨x33, e34⟩ : ∃ z : Int32, w22 61 13 = z := ⟨_, rfl⟩
    have b35 : (0 : Int) ≤ x33.toInt ∧ x33.toInt ≤ 13 := by rw [← e34]; exact I24 61 13
    rw [e34] at p27
    obtain ⟨x36, e37⟩ : ∃ z : Int32, w_36 61 13 = z := ⟨_, rfl⟩
    have b38 : (0 : Int) ≤ x36.toInt ∧ x36.toInt ≤ 13 := by rw [← e37]; exact I_36 61 13
    rw [e37, e34] at p28
    refine kv_if_ne C 42 rfl 43 (kdec dk_cX10_var 21 rfl) (by decide) (fun d39 => ?_) (fun d39 => ?_)
    · skip
      refine kv_aload_n C 44 rfl 0 (kdec dk_cX10_var 23 rfl) rfl rfl ?_
      refine kv_getr C 47 rfl 61 44 rfl rfl inX10 (by decide) mfl_TaleMachineModel_77 rfl rfl (kdec dk_cX10_var 24 rfl) ?_
      refine kv_iconst C 48 rfl 0 (kdec dk_cX10_var 25 rfl) rfl ?_
      obtain ⟨x40, e41⟩ : ∃ z : Int32, w 84 0 = z := ⟨_, rfl⟩
      have b42 : (0 : Int) ≤ x40.toInt ∧ x40.toInt ≤ 65535 := by rw [← e41]; exact hI 84 0
      have e43 : w22 84 0 = x40 := ((f25 84 0 rfl : w22 84 0 = w_36 84 0).trans ((F_36 84 0 rfl : w_36 84 0 = w 84 0).trans e41))
      refine kv_iald C 49 rfl 84 rfl (by omega) (by omega) (show w22 84 (0 : Int32).toNatClampNeg = x40 from e43) (kdec dk_cX10_var 26 rfl) ?_
      refine kv_istore_n C 50 rfl 2 [1, 2, 0] [(0, .ref (ρ 61)), (1, .int l1_36), (2, .int x40)] (kdec dk_cX10_var 27 rfl) rfl (by decide) rfl ?_
      refine kv_iload_n C 51 rfl 1 (kdec dk_cX10_var 28 rfl) rfl rfl ?_
      by_cases d44 : l1_36.toInt = 0
      · skip
        refine kv_tableIn C 0 100 (kdec dk_cX10_var 29 rfl) d44 (by decide) (by decide) rfl (by decide) ?_
        refine kv_aload_n C 101 rfl 0 (kdec dk_cX10_var 30 rfl) rfl rfl ?_
        refine kv_iload_n C 102 rfl 2 (kdec dk_cX10_var 31 rfl) rfl rfl ?_
        refine kv_callVv (As := [.int x40]) (rest := []) C 105 rfl 61 (k_x_calls l D τ ρ σ w22 x40 I24 M31) rfl rfl mml_TaleMachineModel_317 mim_yX10_calls mse_yX10_calls mcd_yX10_calls min_yX10_calls hd_yX10_calls rfl rfl rfl (by decide) rfl (Nat.le_of_ble_eq_true rfl) (kdec dk_cX10_var 32 rfl) (fun w45 h46 => ?_)
        obtain ⟨I47, f48, M50⟩ := h46
        have F51 : kF [(61, some 12), (61, some 13), (61, some 15), (61, some 17), (61, some 19), (61, some 20), (61, some 26), (61, some 27), (61, some 29), (61, some 31), (64, none), (66, none), (67, none), (68, none), (69, none), (70, none), (71, none), (72, none), (73, none)] w w45 := kF_call F30 f48 (by decide)
        obtain ⟨x52, e53⟩ : ∃ z : Int32, w45 61 20 = z := ⟨_, rfl⟩
        have b54 : (0 : Int) ≤ x52.toInt ∧ x52.toInt ≤ 20 := by rw [← e53]; exact I47 61 20
        have r55 := kMoT_fr M50
        rw [e53] at r55
        refine kv_goto C 247 (kdec dk_cX10_var 33 rfl) (by decide) ?_
        have e56 : w45 61 31 = x16 := ((f48 61 31 rfl : w45 61 31 = w22 61 31).trans ((f25 61 31 rfl : w22 61 31 = w_36 61 31).trans e17))
        have e57 : w45 61 29 = x19 := ((f48 61 29 rfl : w45 61 29 = w22 61 29).trans ((f25 61 29 rfl : w22 61 29 = w_36 61 29).trans e20))
        exact kv_vret C hr hlk (kdec dk_cX10_var 113 rfl) ⟨rfl, I47, F51, (by rw [e2, e5, e56, e57]; try omega), M50⟩
      by_cases d58 : l1_36.toInt = 1
      · skip
        refine kv_tableIn C 1 108 (kdec dk_cX10_var 29 rfl) d58 (by decide) (by decide) rfl (by decide) ?_
        refine kv_aload_n C 109 rfl 0 (kdec dk_cX10_var 34 rfl) rfl rfl ?_
        refine kv_iload_n C 110 rfl 2 (kdec dk_cX10_var 35 rfl) rfl rfl ?_
        refine kv_iconst C 111 rfl 2 (kdec dk_cX10_var 36 rfl) rfl ?_
        refine kv_aload_n C 112 rfl 0 (kdec dk_cX10_var 37 rfl) rfl rfl ?_
        refine kv_getr C 115 rfl 61 44 rfl rfl inX10 (by decide) mfl_TaleMachineModel_77 rfl rfl (kdec dk_cX10_var 38 rfl) ?_
        refine kv_iconst C 116 rfl 1 (kdec dk_cX10_var 39 rfl) rfl ?_
        obtain ⟨x59, e60⟩ : ∃ z : Int32, w 84 1 = z := ⟨_, rfl⟩
        have b61 : (0 : Int) ≤ x59.toInt ∧ x59.toInt ≤ 65535 := by rw [← e60]; exact hI 84 1
        have e62 : w22 84 1 = x59 := ((f25 84 1 rfl : w22 84 1 = w_36 84 1).trans ((F_36 84 1 rfl : w_36 84 1 = w 84 1).trans e60))
        refine kv_iald C 117 rfl 84 rfl (by omega) (by omega) (show w22 84 (1 : Int32).toNatClampNeg = x59 from e62) (kdec dk_cX10_var 40 rfl) ?_
        refine kv_imul C 118 rfl (kdec dk_cX10_var 41 rfl) (fun x63 h64e h64l h64u => ?_)
        obtain ⟨q65, g66⟩ := kf_mul 2 x59
        rw [← h64e, c_2] at g66
        try have h64n : x63.toInt = 2 * x59.toInt := by omega
        clear g66 q65
        refine kv_iadd C 119 rfl (kdec dk_cX10_var 42 rfl) (fun x67 q69 h68e h68 h68l h68u => ?_)
        try have h68n : x67.toInt = x40.toInt + x63.toInt := by omega
        clear h68 q69
        refine kv_aload_n C 120 rfl 0 (kdec dk_cX10_var 43 rfl) rfl rfl ?_
        refine kv_getr C 123 rfl 61 44 rfl rfl inX10 (by decide) mfl_TaleMachineModel_77 rfl rfl (kdec dk_cX10_var 44 rfl) ?_
        refine kv_iconst C 124 rfl 2 (kdec dk_cX10_var 45 rfl) rfl ?_
        obtain ⟨x70, e71⟩ : ∃ z : Int32, w 84 2 = z := ⟨_, rfl⟩
        have b72 : (0 : Int) ≤ x70.toInt ∧ x70.toInt ≤ 65535 := by rw [← e71]; exact hI 84 2
        have e73 : w22 84 2 = x70 := ((f25 84 2 rfl : w22 84 2 = w_36 84 2).trans ((F_36 84 2 rfl : w_36 84 2 = w 84 2).trans e71))
        refine kv_iald C 125 rfl 84 rfl (by omega) (by omega) (show w22 84 (2 : Int32).toNatClampNeg = x70 from e73) (kdec dk_cX10_var 46 rfl) ?_
        refine kv_callVv (As := [.int x67, .int x70]) (rest := []) C 128 rfl 61 (k_x_putWord l D τ ρ σ w22 x67 x70 I24 ) rfl rfl mml_TaleMachineModel_184 mim_yX10_putWord mse_yX10_putWord mcd_yX10_putWord min_yX10_putWord hd_yX10_putWord rfl rfl rfl (by decide) rfl (Nat.le_of_ble_eq_true rfl) (kdec dk_cX10_var 47 rfl) (fun w74 h75 => ?_)
        obtain ⟨I76, f77, p79⟩ := h75
        have F80 : kF [(61, some 12), (61, some 13), (61, some 15), (61, some 17), (61, some 19), (61, some 20), (61, some 26), (61, some 27), (61, some 29), (61, some 31), (64, none), (66, none), (67, none), (68, none), (69, none), (70, none), (71, none), (72, none), (73, none)] w w74 := kF_call F30 f77 (by decide)
        have M81 : kMoT w74 := kMoT_kF f77 M31 rfl rfl (fun _ => rfl)
        obtain ⟨x82, e83⟩ : ∃ z : Int32, w74 61 13 = z := ⟨_, rfl⟩
        have b84 : (0 : Int) ≤ x82.toInt ∧ x82.toInt ≤ 13 := by rw [← e83]; exact I76 61 13
        rw [e34, e83] at p79
        refine kv_goto C 247 (kdec dk_cX10_var 48 rfl) (by decide) ?_
        have e85 : w74 61 31 = x16 := ((f77 61 31 rfl : w74 61 31 = w22 61 31).trans ((f25 61 31 rfl : w22 61 31 = w_36 61 31).trans e17))
        have e86 : w74 61 29 = x19 := ((f77 61 29 rfl : w74 61 29 = w22 61 29).trans ((f25 61 29 rfl : w22 61 29 = w_36 61 29).trans e20))
        exact kv_vret C hr hlk (kdec dk_cX10_var 113 rfl) ⟨rfl, I76, F80, (by rw [e2, e5, e85, e86]; try omega), M81⟩
      by_cases d87 : l1_36.toInt = 2
      · skip
        refine kv_tableIn C 2 131 (kdec dk_cX10_var 29 rfl) d87 (by decide) (by decide) rfl (by decide) ?_
        refine kv_aload_n C 132 rfl 0 (kdec dk_cX10_var 49 rfl) rfl rfl ?_
        refine kv_iload_n C 133 rfl 2 (kdec dk_cX10_var 50 rfl) rfl rfl ?_
        refine kv_aload_n C 134 rfl 0 (kdec dk_cX10_var 51 rfl) rfl rfl ?_
        refine kv_getr C 137 rfl 61 44 rfl rfl inX10 (by decide) mfl_TaleMachineModel_77 rfl rfl (kdec dk_cX10_var 52 rfl) ?_
        refine kv_iconst C 138 rfl 1 (kdec dk_cX10_var 53 rfl) rfl ?_
        obtain ⟨x88, e89⟩ : ∃ z : Int32, w 84 1 = z := ⟨_, rfl⟩
        have b90 : (0 : Int) ≤ x88.toInt ∧ x88.toInt ≤ 65535 := by rw [← e89]; exact hI 84 1
        have e91 : w22 84 1 = x88 := ((f25 84 1 rfl : w22 84 1 = w_36 84 1).trans ((F_36 84 1 rfl : w_36 84 1 = w 84 1).trans e89))
        refine kv_iald C 139 rfl 84 rfl (by omega) (by omega) (show w22 84 (1 : Int32).toNatClampNeg = x88 from e91) (kdec dk_cX10_var 54 rfl) ?_
        refine kv_iadd C 140 rfl (kdec dk_cX10_var 55 rfl) (fun x92 q94 h93e h93 h93l h93u => ?_)
        try have h93n : x92.toInt = x40.toInt + x88.toInt := by omega
        clear h93 q94
        refine kv_aload_n C 141 rfl 0 (kdec dk_cX10_var 56 rfl) rfl rfl ?_
        refine kv_getr C 144 rfl 61 44 rfl rfl inX10 (by decide) mfl_TaleMachineModel_77 rfl rfl (kdec dk_cX10_var 57 rfl) ?_
        refine kv_iconst C 145 rfl 2 (kdec dk_cX10_var 58 rfl) rfl ?_
        obtain ⟨x95, e96⟩ : ∃ z : Int32, w 84 2 = z := ⟨_, rfl⟩
        have b97 : (0 : Int) ≤ x95.toInt ∧ x95.toInt ≤ 65535 := by rw [← e96]; exact hI 84 2
        have e98 : w22 84 2 = x95 := ((f25 84 2 rfl : w22 84 2 = w_36 84 2).trans ((F_36 84 2 rfl : w_36 84 2 = w 84 2).trans e96))
        refine kv_iald C 146 rfl 84 rfl (by omega) (by omega) (show w22 84 (2 : Int32).toNatClampNeg = x95 from e98) (kdec dk_cX10_var 59 rfl) ?_
        refine kv_callVv (As := [.int x92, .int x95]) (rest := []) C 149 rfl 61 (k_x_putByte l D τ ρ σ w22 x92 x95 I24 ) rfl rfl mml_TaleMachineModel_208 mim_yX10_putByte mse_yX10_putByte mcd_yX10_putByte min_yX10_putByte hd_yX10_putByte rfl rfl rfl (by decide) rfl (Nat.le_of_ble_eq_true rfl) (kdec dk_cX10_var 60 rfl) (fun w99 h100 => ?_)
        obtain ⟨I101, f102, p104⟩ := h100
        have F105 : kF [(61, some 12), (61, some 13), (61, some 15), (61, some 17), (61, some 19), (61, some 20), (61, some 26), (61, some 27), (61, some 29), (61, some 31), (64, none), (66, none), (67, none), (68, none), (69, none), (70, none), (71, none), (72, none), (73, none)] w w99 := kF_call F30 f102 (by decide)
        have M106 : kMoT w99 := kMoT_kF f102 M31 rfl rfl (fun _ => rfl)
        obtain ⟨x107, e108⟩ : ∃ z : Int32, w99 61 13 = z := ⟨_, rfl⟩
        have b109 : (0 : Int) ≤ x107.toInt ∧ x107.toInt ≤ 13 := by rw [← e108]; exact I101 61 13
        rw [e34, e108] at p104
        refine kv_goto C 247 (kdec dk_cX10_var 61 rfl) (by decide) ?_
        have e110 : w99 61 31 = x16 := ((f102 61 31 rfl : w99 61 31 = w22 61 31).trans ((f25 61 31 rfl : w22 61 31 = w_36 61 31).trans e17))
        have e111 : w99 61 29 = x19 := ((f102 61 29 rfl : w99 61 29 = w22 61 29).trans ((f25 61 29 rfl : w22 61 29 = w_36 61 29).trans e20))
        exact kv_vret C hr hlk (kdec dk_cX10_var 113 rfl) ⟨rfl, I101, F105, (by rw [e2, e5, e110, e111]; try omega), M106⟩
      by_cases d112 : l1_36.toInt = 3
      · skip
        refine kv_tableIn C 3 152 (kdec dk_cX10_var 29 rfl) d112 (by decide) (by decide) rfl (by decide) ?_
        refine kv_aload_n C 153 rfl 0 (kdec dk_cX10_var 62 rfl) rfl rfl ?_
        refine kv_iload_n C 154 rfl 2 (kdec dk_cX10_var 63 rfl) rfl rfl ?_
        refine kv_aload_n C 155 rfl 0 (kdec dk_cX10_var 64 rfl) rfl rfl ?_
        refine kv_getr C 158 rfl 61 44 rfl rfl inX10 (by decide) mfl_TaleMachineModel_77 rfl rfl (kdec dk_cX10_var 65 rfl) ?_
        refine kv_iconst C 159 rfl 1 (kdec dk_cX10_var 66 rfl) rfl ?_
        obtain ⟨x113, e114⟩ : ∃ z : Int32, w 84 1 = z := ⟨_, rfl⟩
        have b115 : (0 : Int) ≤ x113.toInt ∧ x113.toInt ≤ 65535 := by rw [← e114]; exact hI 84 1
        have e116 : w22 84 1 = x113 := ((f25 84 1 rfl : w22 84 1 = w_36 84 1).trans ((F_36 84 1 rfl : w_36 84 1 = w 84 1).trans e114))
        refine kv_iald C 160 rfl 84 rfl (by omega) (by omega) (show w22 84 (1 : Int32).toNatClampNeg = x113 from e116) (kdec dk_cX10_var 67 rfl) ?_
        refine kv_aload_n C 161 rfl 0 (kdec dk_cX10_var 68 rfl) rfl rfl ?_
        refine kv_getr C 164 rfl 61 44 rfl rfl inX10 (by decide) mfl_TaleMachineModel_77 rfl rfl (kdec dk_cX10_var 69 rfl) ?_
        refine kv_iconst C 165 rfl 2 (kdec dk_cX10_var 70 rfl) rfl ?_
        obtain ⟨x117, e118⟩ : ∃ z : Int32, w 84 2 = z := ⟨_, rfl⟩
        have b119 : (0 : Int) ≤ x117.toInt ∧ x117.toInt ≤ 65535 := by rw [← e118]; exact hI 84 2
        have e120 : w22 84 2 = x117 := ((f25 84 2 rfl : w22 84 2 = w_36 84 2).trans ((F_36 84 2 rfl : w_36 84 2 = w 84 2).trans e118))
        refine kv_iald C 166 rfl 84 rfl (by omega) (by omega) (show w22 84 (2 : Int32).toNatClampNeg = x117 from e120) (kdec dk_cX10_var 71 rfl) ?_
        refine kv_callVv (As := [.int x40, .int x113, .int x117]) (rest := []) C 169 rfl 61 (k_x_putProperty l D τ ρ σ w22 x40 x113 x117 I24 ) rfl rfl mml_TaleMachineModel_320 mim_yX10_putProperty mse_yX10_putProperty mcd_yX10_putProperty min_yX10_putProperty hd_yX10_putProperty rfl rfl rfl (by decide) rfl (Nat.le_of_ble_eq_true rfl) (kdec dk_cX10_var 72 rfl) (fun w121 h122 => ?_)
        obtain ⟨I123, f124⟩ := h122
        have F126 : kF [(61, some 12), (61, some 13), (61, some 15), (61, some 17), (61, some 19), (61, some 20), (61, some 26), (61, some 27), (61, some 29), (61, some 31), (64, none), (66, none), (67, none), (68, none), (69, none), (70, none), (71, none), (72, none), (73, none)] w w121 := kF_call F30 f124 (by decide)
        have M127 : kMoT w121 := kMoT_kF f124 M31 rfl rfl (fun _ => rfl)
        refine kv_goto C 247 (kdec dk_cX10_var 73 rfl) (by decide) ?_
        have e128 : w121 61 31 = x16 := ((f124 61 31 rfl : w121 61 31 = w22 61 31).trans ((f25 61 31 rfl : w22 61 31 = w_36 61 31).trans e17))
        have e129 : w121 61 29 = x19 := ((f124 61 29 rfl : w121 61 29 = w22 61 29).trans ((f25 61 29 rfl : w22 61 29 = w_36 61 29).trans e20))
        exact kv_vret C hr hlk (kdec dk_cX10_var 113 rfl) ⟨rfl, I123, F126, (by rw [e2, e5, e128, e129]; try omega), M127⟩
      by_cases d130 : l1_36.toInt = 4
      · skip
        refine kv_tableIn C 4 172 (kdec dk_cX10_var 29 rfl) d130 (by decide) (by decide) rfl (by decide) ?_
        refine kv_aload_n C 173 rfl 0 (kdec dk_cX10_var 74 rfl) rfl rfl ?_
        refine kv_iload_n C 174 rfl 2 (kdec dk_cX10_var 75 rfl) rfl rfl ?_
        refine kv_put C 177 rfl 61 26 rfl rfl inX10 (by decide) mfl_TaleMachineModel_323 rfl tyX10 tyX10_ok nmX10 rfl rfl (kdec dk_cX10_var 76 rfl) rfl rfl (fun w131 u132 => ?_)
        have I133 : kI false w131 := kI_put u132 I24 (show (0 : Int) ≤ (x40 : Int32).toInt by omega) (show (x40 : Int32).toInt ≤ 65535 by omega)
        have F134 : kF [(61, some 12), (61, some 13), (61, some 15), (61, some 17), (61, some 19), (61, some 20), (61, some 26), (61, some 27), (61, some 29), (61, some 31), (64, none), (66, none), (67, none), (68, none), (69, none), (70, none), (71, none), (72, none), (73, none)] w w131 := kF_put u132 F30 rfl
        have M135 : kMoT w131 := kMoT_put u132 M31 rfl rfl rfl
        refine kv_aload_n C 178 rfl 0 (kdec dk_cX10_var 77 rfl) rfl rfl ?_
        refine kv_aload_n C 179 rfl 0 (kdec dk_cX10_var 78 rfl) rfl rfl ?_
        refine kv_getr C 182 rfl 61 44 rfl rfl inX10 (by decide) mfl_TaleMachineModel_77 rfl rfl (kdec dk_cX10_var 79 rfl) ?_
        refine kv_iconst C 183 rfl 1 (kdec dk_cX10_var 80 rfl) rfl ?_
        obtain ⟨x136, e137⟩ : ∃ z : Int32, w 84 1 = z := ⟨_, rfl⟩
        have b138 : (0 : Int) ≤ x136.toInt ∧ x136.toInt ≤ 65535 := by rw [← e137]; exact hI 84 1
        have e139 : w131 84 1 = x136 := ((kup_ne u132 rfl : w131 84 1 = w22 84 1).trans ((f25 84 1 rfl : w22 84 1 = w_36 84 1).trans ((F_36 84 1 rfl : w_36 84 1 = w 84 1).trans e137)))
        refine kv_iald C 184 rfl 84 rfl (by omega) (by omega) (show w131 84 (1 : Int32).toNatClampNeg = x136 from e139) (kdec dk_cX10_var 81 rfl) ?_
        refine kv_put C 187 rfl 61 27 rfl rfl inX10 (by decide) mfl_TaleMachineModel_326 rfl tyX10 tyX10_ok nmX10 rfl rfl (kdec dk_cX10_var 82 rfl) rfl rfl (fun w140 u141 => ?_)
        have I142 : kI false w140 := kI_put u141 I133 (show (0 : Int) ≤ (x136 : Int32).toInt by omega) (show (x136 : Int32).toInt ≤ 65535 by omega)
        have F143 : kF [(61, some 12), (61, some 13), (61, some 15), (61, some 17), (61, some 19), (61, some 20), (61, some 26), (61, some 27), (61, some 29), (61, some 31), (64, none), (66, none), (67, none), (68, none), (69, none), (70, none), (71, none), (72, none), (73, none)] w w140 := kF_put u141 F134 rfl
        have M144 : kMoT w140 := kMoT_put u141 M135 rfl rfl rfl
        refine kv_aload_n C 188 rfl 0 (kdec dk_cX10_var 83 rfl) rfl rfl ?_
        refine kv_iconst C 189 rfl 3 (kdec dk_cX10_var 84 rfl) rfl ?_
        refine kv_put C 192 rfl 61 12 rfl rfl inX10 (by decide) mfl_TaleMachineModel_112 rfl tyX10 tyX10_ok nmX10 rfl rfl (kdec dk_cX10_var 85 rfl) rfl rfl (fun w145 u146 => ?_)
        have I147 : kI false w145 := kI_put u146 I142 (show (0 : Int) ≤ (3 : Int32).toInt by omega) (show (3 : Int32).toInt ≤ 4 by omega)
        have F148 : kF [(61, some 12), (61, some 13), (61, some 15), (61, some 17), (61, some 19), (61, some 20), (61, some 26), (61, some 27), (61, some 29), (61, some 31), (64, none), (66, none), (67, none), (68, none), (69, none), (70, none), (71, none), (72, none), (73, none)] w w145 := kF_put u146 F143 rfl
        have M149 : kMoT w145 := kMoT_put u146 M144 rfl rfl rfl
        refine kv_goto C 247 (kdec dk_cX10_var 86 rfl) (by decide) ?_
        have e150 : w145 61 31 = x16 := ((kup_ne u146 rfl : w145 61 31 = w140 61 31).trans ((kup_ne u141 rfl : w140 61 31 = w131 61 31).trans ((kup_ne u132 rfl : w131 61 31 = w22 61 31).trans ((f25 61 31 rfl : w22 61 31 = w_36 61 31).trans e17))))
        have e151 : w145 61 29 = x19 := ((kup_ne u146 rfl : w145 61 29 = w140 61 29).trans ((kup_ne u141 rfl : w140 61 29 = w131 61 29).trans ((kup_ne u132 rfl : w131 61 29 = w22 61 29).trans ((f25 61 29 rfl : w22 61 29 = w_36 61 29).trans e20))))
        exact kv_vret C hr hlk (kdec dk_cX10_var 113 rfl) ⟨rfl, I147, F148, (by rw [e2, e5, e150, e151]; try omega), M149⟩
      by_cases d152 : l1_36.toInt = 5
      · skip
        refine kv_tableIn C 5 195 (kdec dk_cX10_var 29 rfl) d152 (by decide) (by decide) rfl (by decide) ?_
        refine kv_aload_n C 196 rfl 0 (kdec dk_cX10_var 87 rfl) rfl rfl ?_
        refine kv_iload_n C 197 rfl 2 (kdec dk_cX10_var 88 rfl) rfl rfl ?_
        have e153 : w22 61 31 = x16 := ((f25 61 31 rfl : w22 61 31 = w_36 61 31).trans e17)
        have e154 : w22 61 29 = x19 := ((f25 61 29 rfl : w22 61 29 = w_36 61 29).trans e20)
        refine kv_callVv (As := [.int x40]) (rest := []) C 200 rfl 61 (k_x_tells l D τ ρ σ w22 x40 I24 (by rw [e153, e154]; try omega)) rfl rfl mml_TaleMachineModel_253 mim_yX10_tells mse_yX10_tells mcd_yX10_tells min_yX10_tells hd_yX10_tells rfl rfl rfl (by decide) rfl (Nat.le_of_ble_eq_true rfl) (kdec dk_cX10_var 89 rfl) (fun w155 h156 => ?_)
        obtain ⟨I157, f158, p160, p161⟩ := h156
        have F162 : kF [(61, some 12), (61, some 13), (61, some 15), (61, some 17), (61, some 19), (61, some 20), (61, some 26), (61, some 27), (61, some 29), (61, some 31), (64, none), (66, none), (67, none), (68, none), (69, none), (70, none), (71, none), (72, none), (73, none)] w w155 := kF_call F30 f158 (by decide)
        have M163 : kMoT w155 := kMoT_kF f158 M31 rfl rfl (fun _ => rfl)
        obtain ⟨x164, e165⟩ : ∃ z : Int32, w155 61 31 = z := ⟨_, rfl⟩
        have b166 : (0 : Int) ≤ x164.toInt ∧ x164.toInt ≤ 2147483647 := by rw [← e165]; exact I157 61 31
        obtain ⟨x167, e168⟩ : ∃ z : Int32, w155 61 29 = z := ⟨_, rfl⟩
        have b169 : (0 : Int) ≤ x167.toInt ∧ x167.toInt ≤ 2147483647 := by rw [← e168]; exact I157 61 29
        rw [e153, e154, e165, e168] at p160
        rw [e153, e154, e165, e168] at p161
        refine kv_goto C 247 (kdec dk_cX10_var 90 rfl) (by decide) ?_
        exact kv_vret C hr hlk (kdec dk_cX10_var 113 rfl) ⟨rfl, I157, F162, (by rw [e2, e5, e165, e168]; try omega), M163⟩
      by_cases d170 : l1_36.toInt = 6
      · skip
        refine kv_tableIn C 6 203 (kdec dk_cX10_var 29 rfl) d170 (by decide) (by decide) rfl (by decide) ?_
        refine kv_aload_n C 204 rfl 0 (kdec dk_cX10_var 91 rfl) rfl rfl ?_
        refine kv_iload_n C 205 rfl 2 (kdec dk_cX10_var 92 rfl) rfl rfl ?_
        refine kv_callSi (As := [.int x40]) (rest := [.ref (ρ 61)]) C 208 rfl (k_x_signed l D τ ρ σ w22 x40 I24 ) mml_TaleMachineModel_286 mst_yX10_signed mcd_yX10_signed min_yX10_signed hd_yX10_signed rfl rfl rfl (by decide) rfl (Nat.le_of_ble_eq_true rfl) (kdec dk_cX10_var 93 rfl) (fun x175 w171 h172 => ?_)
        obtain ⟨I173, f174, p176⟩ := h172
        have F177 : kF [(61, some 12), (61, some 13), (61, some 15), (61, some 17), (61, some 19), (61, some 20), (61, some 26), (61, some 27), (61, some 29), (61, some 31), (64, none), (66, none), (67, none), (68, none), (69, none), (70, none), (71, none), (72, none), (73, none)] w w171 := kF_call F30 f174 (by decide)
        have M178 : kMoT w171 := kMoT_kF f174 M31 rfl rfl (fun _ => rfl)
        have g179 := kf_rng x175
        have e180 : w171 61 31 = x16 := ((f174 61 31 rfl : w171 61 31 = w22 61 31).trans ((f25 61 31 rfl : w22 61 31 = w_36 61 31).trans e17))
        have e181 : w171 61 29 = x19 := ((f174 61 29 rfl : w171 61 29 = w22 61 29).trans ((f25 61 29 rfl : w22 61 29 = w_36 61 29).trans e20))
        refine kv_callVv (As := [.int x175]) (rest := []) C 211 rfl 61 (k_x_tellsNumber l D τ ρ σ w171 x175 I173 (by rw [e180, e181]; try omega)) rfl rfl mml_TaleMachineModel_329 mim_yX10_tellsNumber mse_yX10_tellsNumber mcd_yX10_tellsNumber min_yX10_tellsNumber hd_yX10_tellsNumber rfl rfl rfl (by decide) rfl (Nat.le_of_ble_eq_true rfl) (kdec dk_cX10_var 94 rfl) (fun w182 h183 => ?_)
        obtain ⟨I184, f185, p187⟩ := h183
        have F188 : kF [(61, some 12), (61, some 13), (61, some 15), (61, some 17), (61, some 19), (61, some 20), (61, some 26), (61, some 27), (61, some 29), (61, some 31), (64, none), (66, none), (67, none), (68, none), (69, none), (70, none), (71, none), (72, none), (73, none)] w w182 := kF_call F177 f185 (by decide)
        have M189 : kMoT w182 := kMoT_kF f185 M178 rfl rfl (fun _ => rfl)
        obtain ⟨x190, e191⟩ : ∃ z : Int32, w182 61 31 = z := ⟨_, rfl⟩
        have b192 : (0 : Int) ≤ x190.toInt ∧ x190.toInt ≤ 2147483647 := by rw [← e191]; exact I184 61 31
        obtain ⟨x193, e194⟩ : ∃ z : Int32, w182 61 29 = z := ⟨_, rfl⟩
        have b195 : (0 : Int) ≤ x193.toInt ∧ x193.toInt ≤ 2147483647 := by rw [← e194]; exact I184 61 29
        rw [e180, e181, e191, e194] at p187
        refine kv_goto C 247 (kdec dk_cX10_var 95 rfl) (by decide) ?_
        exact kv_vret C hr hlk (kdec dk_cX10_var 113 rfl) ⟨rfl, I184, F188, (by rw [e2, e5, e191, e194]; try omega), M189⟩
      by_cases d196 : l1_36.toInt = 7
      · skip
        refine kv_tableIn C 7 214 (kdec dk_cX10_var 29 rfl) d196 (by decide) (by decide) rfl (by decide) ?_
        refine kv_aload_n C 215 rfl 0 (kdec dk_cX10_var 96 rfl) rfl rfl ?_
        refine kv_iload_n C 216 rfl 2 (kdec dk_cX10_var 97 rfl) rfl rfl ?_
        refine kv_callSi (As := [.int x40]) (rest := [.ref (ρ 61)]) C 219 rfl (k_x_signed l D τ ρ σ w22 x40 I24 ) mml_TaleMachineModel_286 mst_yX10_signed mcd_yX10_signed min_yX10_signed hd_yX10_signed rfl rfl rfl (by decide) rfl (Nat.le_of_ble_eq_true rfl) (kdec dk_cX10_var 98 rfl) (fun x201 w197 h198 => ?_)
        obtain ⟨I199, f200, p202⟩ := h198
        have F203 : kF [(61, some 12), (61, some 13), (61, some 15), (61, some 17), (61, some 19), (61, some 20), (61, some 26), (61, some 27), (61, some 29), (61, some 31), (64, none), (66, none), (67, none), (68, none), (69, none), (70, none), (71, none), (72, none), (73, none)] w w197 := kF_call F30 f200 (by decide)
        have M204 : kMoT w197 := kMoT_kF f200 M31 rfl rfl (fun _ => rfl)
        have g205 := kf_rng x201
        refine kv_callVv (As := [.int x201]) (rest := []) C 222 rfl 61 (k_x_draws l D τ ρ σ w197 x201 I199 M204) rfl rfl mml_TaleMachineModel_332 mim_yX10_draws mse_yX10_draws mcd_yX10_draws min_yX10_draws hd_yX10_draws rfl rfl rfl (by decide) rfl (Nat.le_of_ble_eq_true rfl) (kdec dk_cX10_var 99 rfl) (fun w206 h207 => ?_)
        obtain ⟨I208, f209, M211⟩ := h207
        have F212 : kF [(61, some 12), (61, some 13), (61, some 15), (61, some 17), (61, some 19), (61, some 20), (61, some 26), (61, some 27), (61, some 29), (61, some 31), (64, none), (66, none), (67, none), (68, none), (69, none), (70, none), (71, none), (72, none), (73, none)] w w206 := kF_call F203 f209 (by decide)
        have e213 : w206 61 20 = x12 := ((f209 61 20 rfl : w206 61 20 = w197 61 20).trans ((f200 61 20 rfl : w197 61 20 = w22 61 20).trans ((f25 61 20 rfl : w22 61 20 = w_36 61 20).trans e13)))
        have r214 := kMoT_fr M211
        rw [e213] at r214
        refine kv_goto C 247 (kdec dk_cX10_var 100 rfl) (by decide) ?_
        have e215 : w206 61 31 = x16 := ((f209 61 31 rfl : w206 61 31 = w197 61 31).trans ((f200 61 31 rfl : w197 61 31 = w22 61 31).trans ((f25 61 31 rfl : w22 61 31 = w_36 61 31).trans e17)))
        have e216 : w206 61 29 = x19 := ((f209 61 29 rfl : w206 61 29 = w197 61 29).trans ((f200 61 29 rfl : w197 61 29 = w22 61 29).trans ((f25 61 29 rfl : w22 61 29 = w_36 61 29).trans e20)))
        exact kv_vret C hr hlk (kdec dk_cX10_var 113 rfl) ⟨rfl, I208, F212, (by rw [e2, e5, e215, e216]; try omega), M211⟩
      by_cases d217 : l1_36.toInt = 8
      · skip
        refine kv_tableIn C 8 225 (kdec dk_cX10_var 29 rfl) d217 (by decide) (by decide) rfl (by decide) ?_
        refine kv_aload_n C 226 rfl 0 (kdec dk_cX10_var 101 rfl) rfl rfl ?_
        refine kv_iload_n C 227 rfl 2 (kdec dk_cX10_var 102 rfl) rfl rfl ?_
        refine kv_callVv (As := [.int x40]) (rest := []) C 230 rfl 61 (k_x_push l D τ ρ σ w22 x40 I24 (by omega) M31) rfl rfl mml_TaleMachineModel_181 mim_yX10_push mse_yX10_push mcd_yX10_push min_yX10_push hd_yX10_push rfl rfl rfl (by decide) rfl (Nat.le_of_ble_eq_true rfl) (kdec dk_cX10_var 103 rfl) (fun w218 h219 => ?_)
        obtain ⟨I220, f221, M223⟩ := h219
        have F224 : kF [(61, some 12), (61, some 13), (61, some 15), (61, some 17), (61, some 19), (61, some 20), (61, some 26), (61, some 27), (61, some 29), (61, some 31), (64, none), (66, none), (67, none), (68, none), (69, none), (70, none), (71, none), (72, none), (73, none)] w w218 := kF_call F30 f221 (by decide)
        have e225 : w218 61 20 = x12 := ((f221 61 20 rfl : w218 61 20 = w22 61 20).trans ((f25 61 20 rfl : w22 61 20 = w_36 61 20).trans e13))
        have r226 := kMoT_fr M223
        rw [e225] at r226
        refine kv_goto C 247 (kdec dk_cX10_var 104 rfl) (by decide) ?_
        have e227 : w218 61 31 = x16 := ((f221 61 31 rfl : w218 61 31 = w22 61 31).trans ((f25 61 31 rfl : w22 61 31 = w_36 61 31).trans e17))
        have e228 : w218 61 29 = x19 := ((f221 61 29 rfl : w218 61 29 = w22 61 29).trans ((f25 61 29 rfl : w22 61 29 = w_36 61 29).trans e20))
        exact kv_vret C hr hlk (kdec dk_cX10_var 113 rfl) ⟨rfl, I220, F224, (by rw [e2, e5, e227, e228]; try omega), M223⟩
      refine kv_tableOut C 233 (kdec dk_cX10_var 29 rfl) (by omega) (by decide) ?_
      refine kv_aload_n C 234 rfl 0 (kdec dk_cX10_var 105 rfl) rfl rfl ?_
      refine kv_callVi (As := []) (rest := []) C 237 rfl 61 (k_x_pop l D τ ρ σ w22  I24 M31) rfl rfl mml_TaleMachineModel_174 mim_yX10_pop mse_yX10_pop mcd_yX10_pop min_yX10_pop hd_yX10_pop rfl rfl rfl (by decide) rfl (Nat.le_of_ble_eq_true rfl) (kdec dk_cX10_var 106 rfl) (fun x233 w229 h230 => ?_)
      obtain ⟨I231, f232, p234, M235⟩ := h230
      have F236 : kF [(61, some 12), (61, some 13), (61, some 15), (61, some 17), (61, some 19), (61, some 20), (61, some 26), (61, some 27), (61, some 29), (61, some 31), (64, none), (66, none), (67, none), (68, none), (69, none), (70, none), (71, none), (72, none), (73, none)] w w229 := kF_call F30 f232 (by decide)
      have e237 : w229 61 20 = x12 := ((f232 61 20 rfl : w229 61 20 = w22 61 20).trans ((f25 61 20 rfl : w22 61 20 = w_36 61 20).trans e13))
      have r238 := kMoT_fr M235
      rw [e237] at r238
      have g239 := kf_rng x233
      refine kv_istore_n C 238 rfl 3 [1, 2, 3, 0] [(0, .ref (ρ 61)), (1, .int l1_36), (2, .int x40), (3, .int x233)] (kdec dk_cX10_var 107 rfl) rfl (by decide) rfl ?_
      refine kv_aload_n C 239 rfl 0 (kdec dk_cX10_var 108 rfl) rfl rfl ?_
      refine kv_iload_n C 240 rfl 2 (kdec dk_cX10_var 109 rfl) rfl rfl ?_
      refine kv_iload_n C 241 rfl 3 (kdec dk_cX10_var 110 rfl) rfl rfl ?_
      refine kv_callVv (As := [.int x40, .int x233]) (rest := []) C 244 rfl 61 (k_x_setNamed l D τ ρ σ w229 x40 x233 I231 M235) rfl rfl mml_TaleMachineModel_292 mim_yX10_setNamed mse_yX10_setNamed mcd_yX10_setNamed min_yX10_setNamed hd_yX10_setNamed rfl rfl rfl (by decide) rfl (Nat.le_of_ble_eq_true rfl) (kdec dk_cX10_var 111 rfl) (fun w240 h241 => ?_)
      obtain ⟨I242, f243, M245⟩ := h241
      have F246 : kF [(61, some 12), (61, some 13), (61, some 15), (61, some 17), (61, some 19), (61, some 20), (61, some 26), (61, some 27), (61, some 29), (61, some 31), (64, none), (66, none), (67, none), (68, none), (69, none), (70, none), (71, none), (72, none), (73, none)] w w240 := kF_call F236 f243 (by decide)
      have e247 : w240 61 20 = x12 := ((f243 61 20 rfl : w240 61 20 = w229 61 20).trans e237)
      have r248 := kMoT_fr M245
      rw [e247] at r248
      refine kv_goto C 247 (kdec dk_cX10_var 112 rfl) (by decide) ?_
      have e249 : w240 61 31 = x16 := ((f243 61 31 rfl : w240 61 31 = w229 61 31).trans ((f232 61 31 rfl : w229 61 31 = w22 61 31).trans ((f25 61 31 rfl : w22 61 31 = w_36 61 31).trans e17)))
      have e250 : w240 61 29 = x19 := ((f243 61 29 rfl : w240 61 29 = w229 61 29).trans ((f232 61 29 rfl : w229 61 29 = w22 61 29).trans ((f25 61 29 rfl : w22 61 29 = w_36 61 29).trans e20)))
      exact kv_vret C hr hlk (kdec dk_cX10_var 113 rfl) ⟨rfl, I242, F246, (by rw [e2, e5, e249, e250]; try omega), M245⟩
    · skip
      have e251 : w22 61 31 = x16 := ((f25 61 31 rfl : w22 61 31 = w_36 61 31).trans e17)
      have e252 : w22 61 29 = x19 := ((f25 61 29 rfl : w22 61 29 = w_36 61 29).trans e20)
      exact kv_vret C hr hlk (kdec dk_cX10_var 22 rfl) ⟨rfl, I24, F30, (by rw [e2, e5, e251, e252]; try omega), M31⟩
  have cut12 : ∀ (w_12 : kw) (l1_12 : Int32), kI false w_12 → kF [(61, some 12), (61, some 13), (61, some 15), (61, some 17), (61, some 19), (61, some 20), (61, some 26), (61, some 27), (61, some 29), (61, some 31), (64, none), (66, none), (67, none), (68, none), (69, none), (70, none), (71, none), (72, none), (73, none)] w w_12 → ((w_12 61 31).toInt ≤ (w 61 31).toInt + 0 ∧ (w_12 61 29).toInt ≤ (w 61 29).toInt + 0) → kMoT w_12 → kV p l e { frames := 6, cells := 0, slots := 0, locals := 216 } s m args below meth c (kQ below args s D τ ρ (fun o w' => o = none ∧ kI false w' ∧ kF [(61, some 12), (61, some 13), (61, some 15), (61, some 17), (61, some 19), (61, some 20), (61, some 26), (61, some 27), (61, some 29), (61, some 31), (64, none), (66, none), (67, none), (68, none), (69, none), (70, none), (71, none), (72, none), (73, none)] w w' ∧ ((w' 61 31).toInt ≤ (w 61 31).toInt + 501 ∧ (w' 61 29).toInt ≤ (w 61 29).toInt + 501) ∧ kMoT w')) 4 D τ ρ 12 [(0, .ref (ρ 61)), (1, .int l1_12)] [] w_12 := by
    intro w_12 l1_12 I_12 F_12 k12_0 M_12
    have gl1_12 := kf_rng l1_12
    obtain ⟨x253, e254⟩ : ∃ z : Int32, w_12 61 20 = z := ⟨_, rfl⟩
    have b255 : (0 : Int) ≤ x253.toInt ∧ x253.toInt ≤ 20 := by rw [← e254]; exact I_12 61 20
    have r256 := kMoT_fr M_12
    rw [e254] at r256
    obtain ⟨x257, e258⟩ : ∃ z : Int32, w_12 61 31 = z := ⟨_, rfl⟩
    have b259 : (0 : Int) ≤ x257.toInt ∧ x257.toInt ≤ 2147483647 := by rw [← e258]; exact I_12 61 31
    obtain ⟨x260, e261⟩ : ∃ z : Int32, w_12 61 29 = z := ⟨_, rfl⟩
    have b262 : (0 : Int) ≤ x260.toInt ∧ x260.toInt ≤ 2147483647 := by rw [← e261]; exact I_12 61 29
    rw [e2, e5, e258, e261] at k12_0
    refine kv_aload_n C 13 rfl 0 (kdec dk_cX10_var 6 rfl) rfl rfl ?_
    refine kv_iload_n C 14 rfl 1 (kdec dk_cX10_var 7 rfl) rfl rfl ?_
    refine kv_if_eq C 17 rfl 22 (kdec dk_cX10_var 8 rfl) (by decide) (fun d263 => ?_) (fun d263 => ?_)
    · skip
      refine kv_iconst C 23 rfl 1 (kdec dk_cX10_var 12 rfl) rfl ?_
      refine kv_goto C 36 (kdec dk_cX10_var 13 rfl) (by decide) ?_
      exact cut36 w_12 l1_12 1 I_12 F_12 (by rw [e2, e5, e258, e261]; try omega) M_12
    · skip
      refine kv_iload_n C 18 rfl 1 (kdec dk_cX10_var 9 rfl) rfl rfl ?_
      refine kv_iconst C 19 rfl 4 (kdec dk_cX10_var 10 rfl) rfl ?_
      refine kv_icmp_le C 22 rfl 26 (kdec dk_cX10_var 11 rfl) (by decide) (fun d264 => ?_) (fun d264 => ?_)
      · skip
        refine kv_iload_n C 27 rfl 1 (kdec dk_cX10_var 14 rfl) rfl rfl ?_
        refine kv_iconst C 28 rfl 4 (kdec dk_cX10_var 15 rfl) rfl ?_
        refine kv_icmp_ne C 31 rfl 35 (kdec dk_cX10_var 16 rfl) (by decide) (fun d265 => ?_) (fun d265 => ?_)
        · skip
          refine kv_iconst C 36 rfl 3 (kdec dk_cX10_var 19 rfl) rfl ?_
          exact cut36 w_12 l1_12 3 I_12 F_12 (by rw [e2, e5, e258, e261]; try omega) M_12
        · skip
          refine kv_iconst C 32 rfl 2 (kdec dk_cX10_var 17 rfl) rfl ?_
          refine kv_goto C 36 (kdec dk_cX10_var 18 rfl) (by decide) ?_
          exact cut36 w_12 l1_12 2 I_12 F_12 (by rw [e2, e5, e258, e261]; try omega) M_12
      · skip
        refine kv_iconst C 23 rfl 1 (kdec dk_cX10_var 12 rfl) rfl ?_
        refine kv_goto C 36 (kdec dk_cX10_var 13 rfl) (by decide) ?_
        exact cut36 w_12 l1_12 1 I_12 F_12 (by rw [e2, e5, e258, e261]; try omega) M_12
  refine kv_iload_n C 1 rfl 1 (kdec dk_cX10_var 0 rfl) rfl rfl ?_
  refine kv_bipush C 3 rfl 9 (kdec dk_cX10_var 1 rfl) rfl ?_
  refine kv_icmp_le C 6 rfl 12 (kdec dk_cX10_var 2 rfl) (by decide) (fun d266 => ?_) (fun d266 => ?_)
  · skip
    exact cut12 w a1 hI hF0 (by rw [e2, e5]; try omega) hM
  · skip
    refine kv_aload_n C 7 rfl 0 (kdec dk_cX10_var 3 rfl) rfl rfl ?_
    refine kv_bipush C 9 rfl 6 (kdec dk_cX10_var 4 rfl) rfl ?_
    refine kv_callVv (As := [.int 6]) (rest := []) C 12 rfl 61 (k_x_halts l D τ ρ σ w 6 hI (by omega)) rfl rfl mml_TaleMachineModel_160 mim_yX10_halts mse_yX10_halts mcd_yX10_halts min_yX10_halts hd_yX10_halts rfl rfl rfl (by decide) rfl (Nat.le_of_ble_eq_true rfl) (kdec dk_cX10_var 5 rfl) (fun w267 h268 => ?_)
    obtain ⟨I269, f270, p272⟩ := h268
    have F273 : kF [(61, some 12), (61, some 13), (61, some 15), (61, some 17), (61, some 19), (61, some 20), (61, some 26), (61, some 27), (61, some 29), (61, some 31), (64, none), (66, none), (67, none), (68, none), (69, none), (70, none), (71, none), (72, none), (73, none)] w w267 := kF_call hF0 f270 (by decide)
    have M274 : kMoT w267 := kMoT_kF f270 hM rfl rfl (fun _ => rfl)
    obtain ⟨x275, e276⟩ : ∃ z : Int32, w 61 13 = z := ⟨_, rfl⟩
    have b277 : (0 : Int) ≤ x275.toInt ∧ x275.toInt ≤ 13 := by rw [← e276]; exact hI 61 13
    obtain ⟨x278, e279⟩ : ∃ z : Int32, w267 61 13 = z := ⟨_, rfl⟩
    have b280 : (0 : Int) ≤ x278.toInt ∧ x278.toInt ≤ 13 := by rw [← e279]; exact I269 61 13
    rw [e276, e279] at p272
    have e281 : w267 61 31 = x1 := ((f270 61 31 rfl : w267 61 31 = w 61 31).trans e2)
    have e282 : w267 61 29 = x4 := ((f270 61 29 rfl : w267 61 29 = w 61 29).trans e5)
    exact cut12 w267 a1 I269 F273 (by rw [e2, e5, e281, e282]; try omega) M274

set_option maxHeartbeats 4000000 in
set_option maxRecDepth 100000 in
theorem k_x_order (l : Launch) (D : va_G) (τ : Nat → ClassId) (ρ σ : Nat → Nat) (w : kw)  (hI : kI false w) (hp0 : (w 61 31).toInt ≤ 2147481000 ∧ (w 61 29).toInt ≤ 2147481000) (hM : kMoT w) :
    kM l D τ ρ σ yX10_order cX10_order 4 none { frames := 9, cells := 0, slots := 0, locals := 324 } [.ref (ρ 61)] w
      (fun o w' => o = none ∧ kI false w' ∧ kF [(61, some 12), (61, some 13), (61, some 14), (61, some 15), (61, some 16), (61, some 17), (61, some 19), (61, some 20), (61, some 26), (61, some 27), (61, some 29), (61, some 31), (61, some 43), (61, some 45), (64, none), (66, none), (67, none), (68, none), (69, none), (70, none), (71, none), (72, none), (73, none), (81, none), (82, none), (83, none), (84, none)] w w' ∧ ((w' 61 31).toInt ≤ (w 61 31).toInt + 501 ∧ (w' 61 29).toInt ≤ (w 61 29).toInt + 501) ∧ kMoT w') := by
  refine kM_of (own := "TaleMachineModel") rfl (by decide) (Nat.le_of_ble_eq_true rfl) ?_
  intro p e s m args below meth c C hr hlk
  have hF0 : kF [(61, some 12), (61, some 13), (61, some 14), (61, some 15), (61, some 16), (61, some 17), (61, some 19), (61, some 20), (61, some 26), (61, some 27), (61, some 29), (61, some 31), (61, some 43), (61, some 45), (64, none), (66, none), (67, none), (68, none), (69, none), (70, none), (71, none), (72, none), (73, none), (81, none), (82, none), (83, none), (84, none)] w w := kF.rf
  have c_0 : (0 : Int32).toInt = 0 := by decide
  have c_1 : (1 : Int32).toInt = 1 := by decide
  have c_2 : (2 : Int32).toInt = 2 := by decide
  have c_3 : (3 : Int32).toInt = 3 := by decide
  have c_4 : (4 : Int32).toInt = 4 := by decide
  have c_5 : (5 : Int32).toInt = 5 := by decide
  have c_6 : (6 : Int32).toInt = 6 := by decide
  have c_16 : (16 : Int32).toInt = 16 := by decide
  have c_32 : (32 : Int32).toInt = 32 := by decide
  have c_128 : (128 : Int32).toInt = 128 := by decide
  have c_192 : (192 : Int32).toInt = 192 := by decide
  have c_224 : (224 : Int32).toInt = 224 := by decide
  refine kV.L (L' := [(0, .ref (ρ 61))]) rfl ?_
  obtain ⟨x1, e2⟩ : ∃ z : Int32, w 61 31 = z := ⟨_, rfl⟩
  have b3 : (0 : Int) ≤ x1.toInt ∧ x1.toInt ≤ 2147483647 := by rw [← e2]; exact hI 61 31
  obtain ⟨x4, e5⟩ : ∃ z : Int32, w 61 29 = z := ⟨_, rfl⟩
  have b6 : (0 : Int) ≤ x4.toInt ∧ x4.toInt ≤ 2147483647 := by rw [← e5]; exact hI 61 29
  rw [e2, e5] at hp0
  obtain ⟨x7, e8⟩ : ∃ z : Int32, w 61 20 = z := ⟨_, rfl⟩
  have b9 : (0 : Int) ≤ x7.toInt ∧ x7.toInt ≤ 20 := by rw [← e8]; exact hI 61 20
  have r10 := kMoT_fr hM
  rw [e8] at r10
  have cut236 : ∀ (w_236 : kw), kI false w_236 → kF [(61, some 12), (61, some 13), (61, some 14), (61, some 15), (61, some 16), (61, some 17), (61, some 19), (61, some 20), (61, some 26), (61, some 27), (61, some 29), (61, some 31), (61, some 43), (61, some 45), (64, none), (66, none), (67, none), (68, none), (69, none), (70, none), (71, none), (72, none), (73, none), (81, none), (82, none), (83, none), (84, none)] w w_236 → ((w_236 61 31).toInt ≤ (w 61 31).toInt + 501 ∧ (w_236 61 29).toInt ≤ (w 61 29).toInt + 501) → kMoT w_236 → kV p l e { frames := 9, cells := 0, slots := 0, locals := 324 } s m args below meth c (kQ below args s D τ ρ (fun o w' => o = none ∧ kI false w' ∧ kF [(61, some 12), (61, some 13), (61, some 14), (61, some 15), (61, some 16), (61, some 17), (61, some 19), (61, some 20), (61, some 26), (61, some 27), (61, some 29), (61, some 31), (61, some 43), (61, some 45), (64, none), (66, none), (67, none), (68, none), (69, none), (70, none), (71, none), (72, none), (73, none), (81, none), (82, none), (83, none), (84, none)] w w' ∧ ((w' 61 31).toInt ≤ (w 61 31).toInt + 501 ∧ (w' 61 29).toInt ≤ (w 61 29).toInt + 501) ∧ kMoT w')) 4 D τ ρ 236 [(0, .ref (ρ 61))] [] w_236 := by
    intro w_236  I_236 F_236 k236_0 M_236
    obtain ⟨x11, e12⟩ : ∃ z : Int32, w_236 61 20 = z := ⟨_, rfl⟩
    have b13 : (0 : Int) ≤ x11.toInt ∧ x11.toInt ≤ 20 := by rw [← e12]; exact I_236 61 20
    have r14 := kMoT_fr M_236
    rw [e12] at r14
    obtain ⟨x15, e16⟩ : ∃ z : Int32, w_236 61 31 = z := ⟨_, rfl⟩
    have b17 : (0 : Int) ≤ x15.toInt ∧ x15.toInt ≤ 2147483647 := by rw [← e16]; exact I_236 61 31
    obtain ⟨x18, e19⟩ : ∃ z : Int32, w_236 61 29 = z := ⟨_, rfl⟩
    have b20 : (0 : Int) ≤ x18.toInt ∧ x18.toInt ≤ 2147483647 := by rw [← e19]; exact I_236 61 29
    rw [e2, e5, e16, e19] at k236_0
    refine kv_aload_n C 237 rfl 0 (kdec dk_cX10_order 133 rfl) rfl rfl ?_
    obtain ⟨x21, e22⟩ : ∃ z : Int32, w_236 61 13 = z := ⟨_, rfl⟩
    have b23 : (0 : Int) ≤ x21.toInt ∧ x21.toInt ≤ 13 := by rw [← e22]; exact I_236 61 13
    refine kv_get C 240 rfl 61 13 rfl rfl inX10 (by decide) mfl_TaleMachineModel_148 rfl rfl (kdec dk_cX10_order 134 rfl) e22 ?_
    refine kv_if_le C 243 rfl 251 (kdec dk_cX10_order 135 rfl) (by decide) (fun d24 => ?_) (fun d24 => ?_)
    · skip
      refine kv_aload_n C 252 rfl 0 (kdec dk_cX10_order 140 rfl) rfl rfl ?_
      refine kv_aload_n C 253 rfl 0 (kdec dk_cX10_order 141 rfl) rfl rfl ?_
      obtain ⟨x25, e26⟩ : ∃ z : Int32, w_236 61 15 = z := ⟨_, rfl⟩
      have b27 : (0 : Int) ≤ x25.toInt ∧ x25.toInt ≤ 65535 := by rw [← e26]; exact I_236 61 15
      refine kv_get C 256 rfl 61 15 rfl rfl inX10 (by decide) mfl_TaleMachineModel_170 rfl rfl (kdec dk_cX10_order 142 rfl) e26 ?_
      refine kv_put C 259 rfl 61 14 rfl rfl inX10 (by decide) mfl_TaleMachineModel_142 rfl tyX10 tyX10_ok nmX10 rfl rfl (kdec dk_cX10_order 143 rfl) rfl rfl (fun w28 u29 => ?_)
      have I30 : kI false w28 := kI_put u29 I_236 (show (0 : Int) ≤ (x25 : Int32).toInt by omega) (show (x25 : Int32).toInt ≤ 65535 by omega)
      have F31 : kF [(61, some 12), (61, some 13), (61, some 14), (61, some 15), (61, some 16), (61, some 17), (61, some 19), (61, some 20), (61, some 26), (61, some 27), (61, some 29), (61, some 31), (61, some 43), (61, some 45), (64, none), (66, none), (67, none), (68, none), (69, none), (70, none), (71, none), (72, none), (73, none), (81, none), (82, none), (83, none), (84, none)] w w28 := kF_put u29 F_236 rfl
      have M32 : kMoT w28 := kMoT_put u29 M_236 rfl rfl rfl
      have e33 : w28 61 31 = x15 := ((kup_ne u29 rfl : w28 61 31 = w_236 61 31).trans e16)
      have e34 : w28 61 29 = x18 := ((kup_ne u29 rfl : w28 61 29 = w_236 61 29).trans e19)
      exact kv_vret C hr hlk (kdec dk_cX10_order 144 rfl) ⟨rfl, I30, F31, (by rw [e2, e5, e33, e34]; try omega), M32⟩
    · skip
      refine kv_aload_n C 244 rfl 0 (kdec dk_cX10_order 136 rfl) rfl rfl ?_
      refine kv_iconst C 245 rfl 4 (kdec dk_cX10_order 137 rfl) rfl ?_
      refine kv_put C 248 rfl 61 12 rfl rfl inX10 (by decide) mfl_TaleMachineModel_112 rfl tyX10 tyX10_ok nmX10 rfl rfl (kdec dk_cX10_order 138 rfl) rfl rfl (fun w35 u36 => ?_)
      have I37 : kI false w35 := kI_put u36 I_236 (show (0 : Int) ≤ (4 : Int32).toInt by omega) (show (4 : Int32).toInt ≤ 4 by omega)
      have F38 : kF [(61, some 12), (61, some 13), (61, some 14), (61, some 15), (61, some 16), (61, some 17), (61, some 19), (61, some 20), (61, some 26), (61, some 27), (61, some 29), (61, some 31), (61, some 43), (61, some 45), (64, none), (66, none), (67, none), (68, none), (69, none), (70, none), (71, none), (72, none), (73, none), (81, none), (82, none), (83, none), (84, none)] w w35 := kF_put u36 F_236 rfl
      have M39 : kMoT w35 := kMoT_put u36 M_236 rfl rfl rfl
      refine kv_goto C 259 (kdec dk_cX10_order 139 rfl) (by decide) ?_
      have e40 : w35 61 31 = x15 := ((kup_ne u36 rfl : w35 61 31 = w_236 61 31).trans e16)
      have e41 : w35 61 29 = x18 := ((kup_ne u36 rfl : w35 61 29 = w_236 61 29).trans e19)
      exact kv_vret C hr hlk (kdec dk_cX10_order 144 rfl) ⟨rfl, I37, F38, (by rw [e2, e5, e40, e41]; try omega), M39⟩
  have cut110 : ∀ (w_110 : kw) (l1_110 : Int32), kI false w_110 → kF [(61, some 12), (61, some 13), (61, some 14), (61, some 15), (61, some 16), (61, some 17), (61, some 19), (61, some 20), (61, some 26), (61, some 27), (61, some 29), (61, some 31), (61, some 43), (61, some 45), (64, none), (66, none), (67, none), (68, none), (69, none), (70, none), (71, none), (72, none), (73, none), (81, none), (82, none), (83, none), (84, none)] w w_110 → ((w_110 61 31).toInt ≤ (w 61 31).toInt + 0 ∧ (w_110 61 29).toInt ≤ (w 61 29).toInt + 0) → kMoT w_110 → kV p l e { frames := 9, cells := 0, slots := 0, locals := 324 } s m args below meth c (kQ below args s D τ ρ (fun o w' => o = none ∧ kI false w' ∧ kF [(61, some 12), (61, some 13), (61, some 14), (61, some 15), (61, some 16), (61, some 17), (61, some 19), (61, some 20), (61, some 26), (61, some 27), (61, some 29), (61, some 31), (61, some 43), (61, some 45), (64, none), (66, none), (67, none), (68, none), (69, none), (70, none), (71, none), (72, none), (73, none), (81, none), (82, none), (83, none), (84, none)] w w' ∧ ((w' 61 31).toInt ≤ (w 61 31).toInt + 501 ∧ (w' 61 29).toInt ≤ (w 61 29).toInt + 501) ∧ kMoT w')) 4 D τ ρ 110 [(0, .ref (ρ 61)), (1, .int l1_110)] [] w_110 := by
    intro w_110 l1_110 I_110 F_110 k110_0 M_110
    have gl1_110 := kf_rng l1_110
    obtain ⟨x42, e43⟩ : ∃ z : Int32, w_110 61 20 = z := ⟨_, rfl⟩
    have b44 : (0 : Int) ≤ x42.toInt ∧ x42.toInt ≤ 20 := by rw [← e43]; exact I_110 61 20
    have r45 := kMoT_fr M_110
    rw [e43] at r45
    obtain ⟨x46, e47⟩ : ∃ z : Int32, w_110 61 31 = z := ⟨_, rfl⟩
    have b48 : (0 : Int) ≤ x46.toInt ∧ x46.toInt ≤ 2147483647 := by rw [← e47]; exact I_110 61 31
    obtain ⟨x49, e50⟩ : ∃ z : Int32, w_110 61 29 = z := ⟨_, rfl⟩
    have b51 : (0 : Int) ≤ x49.toInt ∧ x49.toInt ≤ 2147483647 := by rw [← e50]; exact I_110 61 29
    rw [e2, e5, e47, e50] at k110_0
    refine kv_aload_n C 111 rfl 0 (kdec dk_cX10_order 60 rfl) rfl rfl ?_
    obtain ⟨x52, e53⟩ : ∃ z : Int32, w_110 61 13 = z := ⟨_, rfl⟩
    have b54 : (0 : Int) ≤ x52.toInt ∧ x52.toInt ≤ 13 := by rw [← e53]; exact I_110 61 13
    refine kv_get C 114 rfl 61 13 rfl rfl inX10 (by decide) mfl_TaleMachineModel_148 rfl rfl (kdec dk_cX10_order 61 rfl) e53 ?_
    refine kv_if_ne C 117 rfl 125 (kdec dk_cX10_order 62 rfl) (by decide) (fun d55 => ?_) (fun d55 => ?_)
    · skip
      refine kv_goto C 236 (kdec dk_cX10_order 68 rfl) (by decide) ?_
      refine kV.sub [0] (L' := [(0, .ref (ρ 61))]) rfl ?_
      exact cut236 w_110  I_110 F_110 (by rw [e2, e5, e47, e50]; try omega) M_110
    · skip
      refine kv_aload_n C 118 rfl 0 (kdec dk_cX10_order 63 rfl) rfl rfl ?_
      refine kv_iload_n C 119 rfl 1 (kdec dk_cX10_order 64 rfl) rfl rfl ?_
      refine kv_bipush C 121 rfl 32 (kdec dk_cX10_order 65 rfl) rfl ?_
      refine kv_irem C 122 rfl (kdec dk_cX10_order 66 rfl) (by decide) (fun x56 h57e h57l h57u => ?_)
      refine kv_callVv (As := [.int x56]) (rest := []) C 125 rfl 61 (k_x_var l D τ ρ σ w_110 x56 I_110 (by rw [e47, e50]; try omega) M_110) rfl rfl mml_TaleMachineModel_269 mim_yX10_var mse_yX10_var mcd_yX10_var min_yX10_var hd_yX10_var rfl rfl rfl (by decide) rfl (Nat.le_of_ble_eq_true rfl) (kdec dk_cX10_order 67 rfl) (fun w58 h59 => ?_)
      obtain ⟨I60, f61, p63, M64⟩ := h59
      have F65 : kF [(61, some 12), (61, some 13), (61, some 14), (61, some 15), (61, some 16), (61, some 17), (61, some 19), (61, some 20), (61, some 26), (61, some 27), (61, some 29), (61, some 31), (61, some 43), (61, some 45), (64, none), (66, none), (67, none), (68, none), (69, none), (70, none), (71, none), (72, none), (73, none), (81, none), (82, none), (83, none), (84, none)] w w58 := kF_call F_110 f61 (by decide)
      obtain ⟨x66, e67⟩ : ∃ z : Int32, w58 61 20 = z := ⟨_, rfl⟩
      have b68 : (0 : Int) ≤ x66.toInt ∧ x66.toInt ≤ 20 := by rw [← e67]; exact I60 61 20
      have r69 := kMoT_fr M64
      rw [e67] at r69
      obtain ⟨x70, e71⟩ : ∃ z : Int32, w58 61 31 = z := ⟨_, rfl⟩
      have b72 : (0 : Int) ≤ x70.toInt ∧ x70.toInt ≤ 2147483647 := by rw [← e71]; exact I60 61 31
      obtain ⟨x73, e74⟩ : ∃ z : Int32, w58 61 29 = z := ⟨_, rfl⟩
      have b75 : (0 : Int) ≤ x73.toInt ∧ x73.toInt ≤ 2147483647 := by rw [← e74]; exact I60 61 29
      rw [e47, e50, e71, e74] at p63
      refine kv_goto C 236 (kdec dk_cX10_order 68 rfl) (by decide) ?_
      refine kV.sub [0] (L' := [(0, .ref (ρ 61))]) rfl ?_
      exact cut236 w58  I60 F65 (by rw [e2, e5, e71, e74]; try omega) M64
  have cut218 : ∀ (w_218 : kw) (l1_218 s0_218 : Int32), kI false w_218 → kF [(61, some 12), (61, some 13), (61, some 14), (61, some 15), (61, some 16), (61, some 17), (61, some 19), (61, some 20), (61, some 26), (61, some 27), (61, some 29), (61, some 31), (61, some 43), (61, some 45), (64, none), (66, none), (67, none), (68, none), (69, none), (70, none), (71, none), (72, none), (73, none), (81, none), (82, none), (83, none), (84, none)] w w_218 → ((w_218 61 31).toInt ≤ (w 61 31).toInt + 0 ∧ (w_218 61 29).toInt ≤ (w 61 29).toInt + 0) → ((w_218 61 45).toInt ≤ 1) → kMoT w_218 → kV p l e { frames := 9, cells := 0, slots := 0, locals := 324 } s m args below meth c (kQ below args s D τ ρ (fun o w' => o = none ∧ kI false w' ∧ kF [(61, some 12), (61, some 13), (61, some 14), (61, some 15), (61, some 16), (61, some 17), (61, some 19), (61, some 20), (61, some 26), (61, some 27), (61, some 29), (61, some 31), (61, some 43), (61, some 45), (64, none), (66, none), (67, none), (68, none), (69, none), (70, none), (71, none), (72, none), (73, none), (81, none), (82, none), (83, none), (84, none)] w w' ∧ ((w' 61 31).toInt ≤ (w 61 31).toInt + 501 ∧ (w' 61 29).toInt ≤ (w 61 29).toInt + 501) ∧ kMoT w')) 4 D τ ρ 218 [(0, .ref (ρ 61)), (1, .int l1_218)] [.int s0_218, .ref (ρ 61)] w_218 := by
    intro w_218 l1_218 s0_218 I_218 F_218 k218_0 k218_1 M_218
    have gl1_218 := kf_rng l1_218
    have gs0_218 := kf_rng s0_218
    obtain ⟨x76, e77⟩ : ∃ z : Int32, w_218 61 20 = z := ⟨_, rfl⟩
    have b78 : (0 : Int) ≤ x76.toInt ∧ x76.toInt ≤ 20 := by rw [← e77]; exact I_218 61 20
    have r79 := kMoT_fr M_218
    rw [e77] at r79
    obtain ⟨x80, e81⟩ : ∃ z : Int32, w_218 61 31 = z := ⟨_, rfl⟩
    have b82 : (0 : Int) ≤ x80.toInt ∧ x80.toInt ≤ 2147483647 := by rw [← e81]; exact I_218 61 31
    obtain ⟨x83, e84⟩ : ∃ z : Int32, w_218 61 29 = z := ⟨_, rfl⟩
    have b85 : (0 : Int) ≤ x83.toInt ∧ x83.toInt ≤ 2147483647 := by rw [← e84]; exact I_218 61 29
    rw [e2, e5, e81, e84] at k218_0
    obtain ⟨x86, e87⟩ : ∃ z : Int32, w_218 61 45 = z := ⟨_, rfl⟩
    have b88 : (0 : Int) ≤ x86.toInt ∧ x86.toInt ≤ 4 := by rw [← e87]; exact I_218 61 45
    rw [e87] at k218_1
    refine kv_callVv (As := [.int s0_218]) (rest := []) C 221 rfl 61 (k_x_operand l D τ ρ σ w_218 s0_218 I_218 (by rw [e87]; try omega) M_218) rfl rfl mml_TaleMachineModel_264 mim_yX10_operand mse_yX10_operand mcd_yX10_operand min_yX10_operand hd_yX10_operand rfl rfl rfl (by decide) rfl (Nat.le_of_ble_eq_true rfl) (kdec dk_cX10_order 124 rfl) (fun w89 h90 => ?_)
    obtain ⟨I91, f92, p94, M95⟩ := h90
    have F96 : kF [(61, some 12), (61, some 13), (61, some 14), (61, some 15), (61, some 16), (61, some 17), (61, some 19), (61, some 20), (61, some 26), (61, some 27), (61, some 29), (61, some 31), (61, some 43), (61, some 45), (64, none), (66, none), (67, none), (68, none), (69, none), (70, none), (71, none), (72, none), (73, none), (81, none), (82, none), (83, none), (84, none)] w w89 := kF_call F_218 f92 (by decide)
    have e97 : w89 61 20 = x76 := ((f92 61 20 rfl : w89 61 20 = w_218 61 20).trans e77)
    have r98 := kMoT_fr M95
    rw [e97] at r98
    obtain ⟨x99, e100⟩ : ∃ z : Int32, w89 61 45 = z := ⟨_, rfl⟩
    have b101 : (0 : Int) ≤ x99.toInt ∧ x99.toInt ≤ 4 := by rw [← e100]; exact I91 61 45
    rw [e87, e100] at p94
    refine kv_aload_n C 222 rfl 0 (kdec dk_cX10_order 125 rfl) rfl rfl ?_
    obtain ⟨x102, e103⟩ : ∃ z : Int32, w89 61 13 = z := ⟨_, rfl⟩
    have b104 : (0 : Int) ≤ x102.toInt ∧ x102.toInt ≤ 13 := by rw [← e103]; exact I91 61 13
    refine kv_get C 225 rfl 61 13 rfl rfl inX10 (by decide) mfl_TaleMachineModel_148 rfl rfl (kdec dk_cX10_order 126 rfl) e103 ?_
    refine kv_if_ne C 228 rfl 236 (kdec dk_cX10_order 127 rfl) (by decide) (fun d105 => ?_) (fun d105 => ?_)
    · skip
      have e106 : w89 61 31 = x80 := ((f92 61 31 rfl : w89 61 31 = w_218 61 31).trans e81)
      have e107 : w89 61 29 = x83 := ((f92 61 29 rfl : w89 61 29 = w_218 61 29).trans e84)
      refine kV.sub [0] (L' := [(0, .ref (ρ 61))]) rfl ?_
      exact cut236 w89  I91 F96 (by rw [e2, e5, e106, e107]; try omega) M95
    · skip
      refine kv_aload_n C 229 rfl 0 (kdec dk_cX10_order 128 rfl) rfl rfl ?_
      refine kv_iload_n C 230 rfl 1 (kdec dk_cX10_order 129 rfl) rfl rfl ?_
      refine kv_bipush C 232 rfl 32 (kdec dk_cX10_order 130 rfl) rfl ?_
      refine kv_irem C 233 rfl (kdec dk_cX10_order 131 rfl) (by decide) (fun x108 h109e h109l h109u => ?_)
      refine kv_callVv (As := [.int x108]) (rest := []) C 236 rfl 61 (k_x_two l D τ ρ σ w89 x108 I91 M95) rfl rfl mml_TaleMachineModel_266 mim_yX10_two mse_yX10_two mcd_yX10_two min_yX10_two hd_yX10_two rfl rfl rfl (by decide) rfl (Nat.le_of_ble_eq_true rfl) (kdec dk_cX10_order 132 rfl) (fun w110 h111 => ?_)
      obtain ⟨I112, f113, M115⟩ := h111
      have F116 : kF [(61, some 12), (61, some 13), (61, some 14), (61, some 15), (61, some 16), (61, some 17), (61, some 19), (61, some 20), (61, some 26), (61, some 27), (61, some 29), (61, some 31), (61, some 43), (61, some 45), (64, none), (66, none), (67, none), (68, none), (69, none), (70, none), (71, none), (72, none), (73, none), (81, none), (82, none), (83, none), (84, none)] w w110 := kF_call F96 f113 (by decide)
      obtain ⟨x117, e118⟩ : ∃ z : Int32, w110 61 20 = z := ⟨_, rfl⟩
      have b119 : (0 : Int) ≤ x117.toInt ∧ x117.toInt ≤ 20 := by rw [← e118]; exact I112 61 20
      have r120 := kMoT_fr M115
      rw [e118] at r120
      have e121 : w110 61 31 = x80 := ((f113 61 31 rfl : w110 61 31 = w89 61 31).trans ((f92 61 31 rfl : w89 61 31 = w_218 61 31).trans e81))
      have e122 : w110 61 29 = x83 := ((f113 61 29 rfl : w110 61 29 = w89 61 29).trans ((f92 61 29 rfl : w89 61 29 = w_218 61 29).trans e84))
      refine kV.sub [0] (L' := [(0, .ref (ρ 61))]) rfl ?_
      exact cut236 w110  I112 F116 (by rw [e2, e5, e121, e122]; try omega) M115
  have cut85 : ∀ (w_85 : kw) (l1_85 : Int32), kI false w_85 → kF [(61, some 12), (61, some 13), (61, some 14), (61, some 15), (61, some 16), (61, some 17), (61, some 19), (61, some 20), (61, some 26), (61, some 27), (61, some 29), (61, some 31), (61, some 43), (61, some 45), (64, none), (66, none), (67, none), (68, none), (69, none), (70, none), (71, none), (72, none), (73, none), (81, none), (82, none), (83, none), (84, none)] w w_85 → ((w_85 61 31).toInt ≤ (w 61 31).toInt + 0 ∧ (w_85 61 29).toInt ≤ (w 61 29).toInt + 0) → kMoT w_85 → kV p l e { frames := 9, cells := 0, slots := 0, locals := 324 } s m args below meth c (kQ below args s D τ ρ (fun o w' => o = none ∧ kI false w' ∧ kF [(61, some 12), (61, some 13), (61, some 14), (61, some 15), (61, some 16), (61, some 17), (61, some 19), (61, some 20), (61, some 26), (61, some 27), (61, some 29), (61, some 31), (61, some 43), (61, some 45), (64, none), (66, none), (67, none), (68, none), (69, none), (70, none), (71, none), (72, none), (73, none), (81, none), (82, none), (83, none), (84, none)] w w' ∧ ((w' 61 31).toInt ≤ (w 61 31).toInt + 501 ∧ (w' 61 29).toInt ≤ (w 61 29).toInt + 501) ∧ kMoT w')) 4 D τ ρ 85 [(0, .ref (ρ 61)), (1, .int l1_85)] [] w_85 := by
    intro w_85 l1_85 I_85 F_85 k85_0 M_85
    have gl1_85 := kf_rng l1_85
    obtain ⟨x123, e124⟩ : ∃ z : Int32, w_85 61 20 = z := ⟨_, rfl⟩
    have b125 : (0 : Int) ≤ x123.toInt ∧ x123.toInt ≤ 20 := by rw [← e124]; exact I_85 61 20
    have r126 := kMoT_fr M_85
    rw [e124] at r126
    obtain ⟨x127, e128⟩ : ∃ z : Int32, w_85 61 31 = z := ⟨_, rfl⟩
    have b129 : (0 : Int) ≤ x127.toInt ∧ x127.toInt ≤ 2147483647 := by rw [← e128]; exact I_85 61 31
    obtain ⟨x130, e131⟩ : ∃ z : Int32, w_85 61 29 = z := ⟨_, rfl⟩
    have b132 : (0 : Int) ≤ x130.toInt ∧ x130.toInt ≤ 2147483647 := by rw [← e131]; exact I_85 61 29
    rw [e2, e5, e128, e131] at k85_0
    refine kv_aload_n C 86 rfl 0 (kdec dk_cX10_order 48 rfl) rfl rfl ?_
    obtain ⟨x133, e134⟩ : ∃ z : Int32, w_85 61 13 = z := ⟨_, rfl⟩
    have b135 : (0 : Int) ≤ x133.toInt ∧ x133.toInt ≤ 13 := by rw [← e134]; exact I_85 61 13
    refine kv_get C 89 rfl 61 13 rfl rfl inX10 (by decide) mfl_TaleMachineModel_148 rfl rfl (kdec dk_cX10_order 49 rfl) e134 ?_
    refine kv_if_ne C 92 rfl 110 (kdec dk_cX10_order 50 rfl) (by decide) (fun d136 => ?_) (fun d136 => ?_)
    · skip
      exact cut110 w_85 l1_85 I_85 F_85 (by rw [e2, e5, e128, e131]; try omega) M_85
    · skip
      refine kv_iload_n C 93 rfl 1 (kdec dk_cX10_order 51 rfl) rfl rfl ?_
      refine kv_sipush C 96 rfl 224 (kdec dk_cX10_order 52 rfl) rfl ?_
      refine kv_icmp_ge C 99 rfl 110 (kdec dk_cX10_order 53 rfl) (by decide) (fun d137 => ?_) (fun d137 => ?_)
      · skip
        exact cut110 w_85 l1_85 I_85 F_85 (by rw [e2, e5, e128, e131]; try omega) M_85
      · skip
        refine kv_aload_n C 100 rfl 0 (kdec dk_cX10_order 54 rfl) rfl rfl ?_
        refine kv_iload_n C 101 rfl 1 (kdec dk_cX10_order 55 rfl) rfl rfl ?_
        refine kv_bipush C 103 rfl 32 (kdec dk_cX10_order 56 rfl) rfl ?_
        refine kv_irem C 104 rfl (kdec dk_cX10_order 57 rfl) (by decide) (fun x138 h139e h139l h139u => ?_)
        refine kv_callVv (As := [.int x138]) (rest := []) C 107 rfl 61 (k_x_two l D τ ρ σ w_85 x138 I_85 M_85) rfl rfl mml_TaleMachineModel_266 mim_yX10_two mse_yX10_two mcd_yX10_two min_yX10_two hd_yX10_two rfl rfl rfl (by decide) rfl (Nat.le_of_ble_eq_true rfl) (kdec dk_cX10_order 58 rfl) (fun w140 h141 => ?_)
        obtain ⟨I142, f143, M145⟩ := h141
        have F146 : kF [(61, some 12), (61, some 13), (61, some 14), (61, some 15), (61, some 16), (61, some 17), (61, some 19), (61, some 20), (61, some 26), (61, some 27), (61, some 29), (61, some 31), (61, some 43), (61, some 45), (64, none), (66, none), (67, none), (68, none), (69, none), (70, none), (71, none), (72, none), (73, none), (81, none), (82, none), (83, none), (84, none)] w w140 := kF_call F_85 f143 (by decide)
        obtain ⟨x147, e148⟩ : ∃ z : Int32, w140 61 20 = z := ⟨_, rfl⟩
        have b149 : (0 : Int) ≤ x147.toInt ∧ x147.toInt ≤ 20 := by rw [← e148]; exact I142 61 20
        have r150 := kMoT_fr M145
        rw [e148] at r150
        refine kv_goto C 125 (kdec dk_cX10_order 59 rfl) (by decide) ?_
        refine kv_goto C 236 (kdec dk_cX10_order 68 rfl) (by decide) ?_
        have e151 : w140 61 31 = x127 := ((f143 61 31 rfl : w140 61 31 = w_85 61 31).trans e128)
        have e152 : w140 61 29 = x130 := ((f143 61 29 rfl : w140 61 29 = w_85 61 29).trans e131)
        refine kV.sub [0] (L' := [(0, .ref (ρ 61))]) rfl ?_
        exact cut236 w140  I142 F146 (by rw [e2, e5, e151, e152]; try omega) M145
  have cut200 : ∀ (w_200 : kw) (l1_200 s0_200 : Int32), kI false w_200 → kF [(61, some 12), (61, some 13), (61, some 14), (61, some 15), (61, some 16), (61, some 17), (61, some 19), (61, some 20), (61, some 26), (61, some 27), (61, some 29), (61, some 31), (61, some 43), (61, some 45), (64, none), (66, none), (67, none), (68, none), (69, none), (70, none), (71, none), (72, none), (73, none), (81, none), (82, none), (83, none), (84, none)] w w_200 → ((w_200 61 31).toInt ≤ (w 61 31).toInt + 0 ∧ (w_200 61 29).toInt ≤ (w 61 29).toInt + 0) → ((w_200 61 45).toInt = 0) → kMoT w_200 → kV p l e { frames := 9, cells := 0, slots := 0, locals := 324 } s m args below meth c (kQ below args s D τ ρ (fun o w' => o = none ∧ kI false w' ∧ kF [(61, some 12), (61, some 13), (61, some 14), (61, some 15), (61, some 16), (61, some 17), (61, some 19), (61, some 20), (61, some 26), (61, some 27), (61, some 29), (61, some 31), (61, some 43), (61, some 45), (64, none), (66, none), (67, none), (68, none), (69, none), (70, none), (71, none), (72, none), (73, none), (81, none), (82, none), (83, none), (84, none)] w w' ∧ ((w' 61 31).toInt ≤ (w 61 31).toInt + 501 ∧ (w' 61 29).toInt ≤ (w 61 29).toInt + 501) ∧ kMoT w')) 4 D τ ρ 200 [(0, .ref (ρ 61)), (1, .int l1_200)] [.int s0_200, .ref (ρ 61)] w_200 := by
    intro w_200 l1_200 s0_200 I_200 F_200 k200_0 k200_1 M_200
    have gl1_200 := kf_rng l1_200
    have gs0_200 := kf_rng s0_200
    obtain ⟨x153, e154⟩ : ∃ z : Int32, w_200 61 20 = z := ⟨_, rfl⟩
    have b155 : (0 : Int) ≤ x153.toInt ∧ x153.toInt ≤ 20 := by rw [← e154]; exact I_200 61 20
    have r156 := kMoT_fr M_200
    rw [e154] at r156
    obtain ⟨x157, e158⟩ : ∃ z : Int32, w_200 61 31 = z := ⟨_, rfl⟩
    have b159 : (0 : Int) ≤ x157.toInt ∧ x157.toInt ≤ 2147483647 := by rw [← e158]; exact I_200 61 31
    obtain ⟨x160, e161⟩ : ∃ z : Int32, w_200 61 29 = z := ⟨_, rfl⟩
    have b162 : (0 : Int) ≤ x160.toInt ∧ x160.toInt ≤ 2147483647 := by rw [← e161]; exact I_200 61 29
    rw [e2, e5, e158, e161] at k200_0
    obtain ⟨x163, e164⟩ : ∃ z : Int32, w_200 61 45 = z := ⟨_, rfl⟩
    have b165 : (0 : Int) ≤ x163.toInt ∧ x163.toInt ≤ 4 := by rw [← e164]; exact I_200 61 45
    rw [e164] at k200_1
    refine kv_callVv (As := [.int s0_200]) (rest := []) C 203 rfl 61 (k_x_operand l D τ ρ σ w_200 s0_200 I_200 (by rw [e164]; try omega) M_200) rfl rfl mml_TaleMachineModel_264 mim_yX10_operand mse_yX10_operand mcd_yX10_operand min_yX10_operand hd_yX10_operand rfl rfl rfl (by decide) rfl (Nat.le_of_ble_eq_true rfl) (kdec dk_cX10_order 112 rfl) (fun w166 h167 => ?_)
    obtain ⟨I168, f169, p171, M172⟩ := h167
    have F173 : kF [(61, some 12), (61, some 13), (61, some 14), (61, some 15), (61, some 16), (61, some 17), (61, some 19), (61, some 20), (61, some 26), (61, some 27), (61, some 29), (61, some 31), (61, some 43), (61, some 45), (64, none), (66, none), (67, none), (68, none), (69, none), (70, none), (71, none), (72, none), (73, none), (81, none), (82, none), (83, none), (84, none)] w w166 := kF_call F_200 f169 (by decide)
    have e174 : w166 61 20 = x153 := ((f169 61 20 rfl : w166 61 20 = w_200 61 20).trans e154)
    have r175 := kMoT_fr M172
    rw [e174] at r175
    obtain ⟨x176, e177⟩ : ∃ z : Int32, w166 61 45 = z := ⟨_, rfl⟩
    have b178 : (0 : Int) ≤ x176.toInt ∧ x176.toInt ≤ 4 := by rw [← e177]; exact I168 61 45
    rw [e164, e177] at p171
    refine kv_aload_n C 204 rfl 0 (kdec dk_cX10_order 113 rfl) rfl rfl ?_
    refine kv_iload_n C 205 rfl 1 (kdec dk_cX10_order 114 rfl) rfl rfl ?_
    refine kv_iconst C 206 rfl 5 (kdec dk_cX10_order 115 rfl) rfl ?_
    refine kv_ishr C 207 rfl (kdec dk_cX10_order 116 rfl) (fun x179 h180e h180l h180u => ?_)
    refine kv_iconst C 208 rfl 1 (kdec dk_cX10_order 117 rfl) rfl ?_
    refine kv_iand C 209 rfl (kdec dk_cX10_order 118 rfl) (fun x181 h182e h182l h182u => ?_)
    have g183 := kf_and1 h182e
    refine kv_iconst C 210 rfl 1 (kdec dk_cX10_order 119 rfl) rfl ?_
    refine kv_icmp_ne C 213 rfl 217 (kdec dk_cX10_order 120 rfl) (by decide) (fun d184 => ?_) (fun d184 => ?_)
    · skip
      refine kv_iconst C 218 rfl 1 (kdec dk_cX10_order 123 rfl) rfl ?_
      have e185 : w166 61 31 = x157 := ((f169 61 31 rfl : w166 61 31 = w_200 61 31).trans e158)
      have e186 : w166 61 29 = x160 := ((f169 61 29 rfl : w166 61 29 = w_200 61 29).trans e161)
      exact cut218 w166 l1_200 1 I168 F173 (by rw [e2, e5, e185, e186]; try omega) (by rw [e177]; try omega) M172
    · skip
      refine kv_iconst C 214 rfl 2 (kdec dk_cX10_order 121 rfl) rfl ?_
      refine kv_goto C 218 (kdec dk_cX10_order 122 rfl) (by decide) ?_
      have e187 : w166 61 31 = x157 := ((f169 61 31 rfl : w166 61 31 = w_200 61 31).trans e158)
      have e188 : w166 61 29 = x160 := ((f169 61 29 rfl : w166 61 29 = w_200 61 29).trans e161)
      exact cut218 w166 l1_200 2 I168 F173 (by rw [e2, e5, e187, e188]; try omega) (by rw [e177]; try omega) M172
  have cut50 : ∀ (n_50 : Nat) (w_50 : kw) (l1_50 l2_50 l3_50 : Int32), kI false w_50 → kF [(61, some 12), (61, some 13), (61, some 14), (61, some 15), (61, some 16), (61, some 17), (61, some 19), (61, some 20), (61, some 26), (61, some 27), (61, some 29), (61, some 31), (61, some 43), (61, some 45), (64, none), (66, none), (67, none), (68, none), (69, none), (70, none), (71, none), (72, none), (73, none), (81, none), (82, none), (83, none), (84, none)] w w_50 → (-2 ≤ l3_50.toInt ∧ l3_50.toInt ≤ 6) → (2 * (w_50 61 45).toInt ≤ 6 - l3_50.toInt) → ((w_50 61 31).toInt ≤ (w 61 31).toInt + 0 ∧ (w_50 61 29).toInt ≤ (w 61 29).toInt + 0) → kMoT w_50 → ((l3_50.toInt + 2) : Int) < (n_50 : Int) → kV p l e { frames := 9, cells := 0, slots := 0, locals := 324 } s m args below meth c (kQ below args s D τ ρ (fun o w' => o = none ∧ kI false w' ∧ kF [(61, some 12), (61, some 13), (61, some 14), (61, some 15), (61, some 16), (61, some 17), (61, some 19), (61, some 20), (61, some 26), (61, some 27), (61, some 29), (61, some 31), (61, some 43), (61, some 45), (64, none), (66, none), (67, none), (68, none), (69, none), (70, none), (71, none), (72, none), (73, none), (81, none), (82, none), (83, none), (84, none)] w w' ∧ ((w' 61 31).toInt ≤ (w 61 31).toInt + 501 ∧ (w' 61 29).toInt ≤ (w 61 29).toInt + 501) ∧ kMoT w')) 4 D τ ρ 50 [(0, .ref (ρ 61)), (1, .int l1_50), (2, .int l2_50), (3, .int l3_50)] [] w_50 := by
    intro n_50
    induction n_50 with
    | zero => intro w_50 l1_50 l2_50 l3_50 I_50 F_50 k50_0 k50_1 k50_2 M_50 hmz; exfalso; omega
    | succ n_50 ih50 =>
      intro w_50 l1_50 l2_50 l3_50 I_50 F_50 k50_0 k50_1 k50_2 M_50 hm50
      have gl1_50 := kf_rng l1_50
      have gl2_50 := kf_rng l2_50
      have gl3_50 := kf_rng l3_50
      obtain ⟨x189, e190⟩ : ∃ z : Int32, w_50 61 20 = z := ⟨_, rfl⟩
      have b191 : (0 : Int) ≤ x189.toInt ∧ x189.toInt ≤ 20 := by rw [← e190]; exact I_50 61 20
      have r192 := kMoT_fr M_50
      rw [e190] at r192
      obtain ⟨x193, e194⟩ : ∃ z : Int32, w_50 61 45 = z := ⟨_, rfl⟩
      have b195 : (0 : Int) ≤ x193.toInt ∧ x193.toInt ≤ 4 := by rw [← e194]; exact I_50 61 45
      rw [e194] at k50_1
      obtain ⟨x196, e197⟩ : ∃ z : Int32, w_50 61 31 = z := ⟨_, rfl⟩
      have b198 : (0 : Int) ≤ x196.toInt ∧ x196.toInt ≤ 2147483647 := by rw [← e197]; exact I_50 61 31
      obtain ⟨x199, e200⟩ : ∃ z : Int32, w_50 61 29 = z := ⟨_, rfl⟩
      have b201 : (0 : Int) ≤ x199.toInt ∧ x199.toInt ≤ 2147483647 := by rw [← e200]; exact I_50 61 29
      rw [e2, e5, e197, e200] at k50_2
      refine kv_iload_n C 51 rfl 3 (kdec dk_cX10_order 27 rfl) rfl rfl ?_
      refine kv_if_lt C 54 rfl 85 (kdec dk_cX10_order 28 rfl) (by decide) (fun d202 => ?_) (fun d202 => ?_)
      · skip
        refine kV.sub [0, 1] (L' := [(0, .ref (ρ 61)), (1, .int l1_50)]) rfl ?_
        exact cut85 w_50 l1_50 I_50 F_50 (by rw [e2, e5, e197, e200]; try omega) M_50
      · skip
        refine kv_aload_n C 55 rfl 0 (kdec dk_cX10_order 29 rfl) rfl rfl ?_
        obtain ⟨x203, e204⟩ : ∃ z : Int32, w_50 61 13 = z := ⟨_, rfl⟩
        have b205 : (0 : Int) ≤ x203.toInt ∧ x203.toInt ≤ 13 := by rw [← e204]; exact I_50 61 13
        refine kv_get C 58 rfl 61 13 rfl rfl inX10 (by decide) mfl_TaleMachineModel_148 rfl rfl (kdec dk_cX10_order 30 rfl) e204 ?_
        refine kv_if_ne C 61 rfl 85 (kdec dk_cX10_order 31 rfl) (by decide) (fun d206 => ?_) (fun d206 => ?_)
        · skip
          refine kV.sub [0, 1] (L' := [(0, .ref (ρ 61)), (1, .int l1_50)]) rfl ?_
          exact cut85 w_50 l1_50 I_50 F_50 (by rw [e2, e5, e197, e200]; try omega) M_50
        · skip
          refine kv_iload_n C 62 rfl 2 (kdec dk_cX10_order 32 rfl) rfl rfl ?_
          refine kv_iload_n C 63 rfl 3 (kdec dk_cX10_order 33 rfl) rfl rfl ?_
          refine kv_ishr C 64 rfl (kdec dk_cX10_order 34 rfl) (fun x207 h208e h208l h208u => ?_)
          refine kv_iconst C 65 rfl 3 (kdec dk_cX10_order 35 rfl) rfl ?_
          refine kv_iand C 66 rfl (kdec dk_cX10_order 36 rfl) (fun x209 h210e h210l h210u => ?_)
          have g211 := kf_and3 h210e
          refine kv_iconst C 67 rfl 3 (kdec dk_cX10_order 37 rfl) rfl ?_
          refine kv_icmp_eq C 70 rfl 85 (kdec dk_cX10_order 38 rfl) (by decide) (fun d212 => ?_) (fun d212 => ?_)
          · skip
            refine kV.sub [0, 1] (L' := [(0, .ref (ρ 61)), (1, .int l1_50)]) rfl ?_
            exact cut85 w_50 l1_50 I_50 F_50 (by rw [e2, e5, e197, e200]; try omega) M_50
          · skip
            refine kv_aload_n C 71 rfl 0 (kdec dk_cX10_order 39 rfl) rfl rfl ?_
            refine kv_iload_n C 72 rfl 2 (kdec dk_cX10_order 40 rfl) rfl rfl ?_
            refine kv_iload_n C 73 rfl 3 (kdec dk_cX10_order 41 rfl) rfl rfl ?_
            refine kv_ishr C 74 rfl (kdec dk_cX10_order 42 rfl) (fun x213 h214e h214l h214u => ?_)
            have h214q : x207 = x213 := h208e.trans h214e.symm
            subst h214q
            refine kv_iconst C 75 rfl 3 (kdec dk_cX10_order 43 rfl) rfl ?_
            refine kv_iand C 76 rfl (kdec dk_cX10_order 44 rfl) (fun x215 h216e h216l h216u => ?_)
            have h216q : x209 = x215 := h210e.trans h216e.symm
            subst h216q
            have g217 := kf_and3 h216e
            refine kv_callVv (As := [.int x209]) (rest := []) C 79 rfl 61 (k_x_operand l D τ ρ σ w_50 x209 I_50 (by rw [e194]; try omega) M_50) rfl rfl mml_TaleMachineModel_264 mim_yX10_operand mse_yX10_operand mcd_yX10_operand min_yX10_operand hd_yX10_operand rfl rfl rfl (by decide) rfl (Nat.le_of_ble_eq_true rfl) (kdec dk_cX10_order 45 rfl) (fun w218 h219 => ?_)
            obtain ⟨I220, f221, p223, M224⟩ := h219
            have F225 : kF [(61, some 12), (61, some 13), (61, some 14), (61, some 15), (61, some 16), (61, some 17), (61, some 19), (61, some 20), (61, some 26), (61, some 27), (61, some 29), (61, some 31), (61, some 43), (61, some 45), (64, none), (66, none), (67, none), (68, none), (69, none), (70, none), (71, none), (72, none), (73, none), (81, none), (82, none), (83, none), (84, none)] w w218 := kF_call F_50 f221 (by decide)
            have e226 : w218 61 20 = x189 := ((f221 61 20 rfl : w218 61 20 = w_50 61 20).trans e190)
            have r227 := kMoT_fr M224
            rw [e226] at r227
            obtain ⟨x228, e229⟩ : ∃ z : Int32, w218 61 45 = z := ⟨_, rfl⟩
            have b230 : (0 : Int) ≤ x228.toInt ∧ x228.toInt ≤ 4 := by rw [← e229]; exact I220 61 45
            rw [e194, e229] at p223
            refine kv_iinc C 82 rfl 3 3 [1, 2, 3, 0] (fun v9 => [(0, .ref (ρ 61)), (1, .int l1_50), (2, .int l2_50), (3, .int v9)]) (kdec dk_cX10_order 46 rfl) rfl (by decide) (fun _ => rfl) (-2) rfl (fun x231 q232 h233e h233 h233l h233u => ?_)
            try have h233n : x231.toInt = l3_50.toInt + (-2) := by omega
            clear h233 q232
            refine kv_goto C 50 (kdec dk_cX10_order 47 rfl) (by decide) ?_
            have e234 : w218 61 31 = x196 := ((f221 61 31 rfl : w218 61 31 = w_50 61 31).trans e197)
            have e235 : w218 61 29 = x199 := ((f221 61 29 rfl : w218 61 29 = w_50 61 29).trans e200)
            exact ih50 w218 l1_50 l2_50 x231 I220 F225 (by omega) (by rw [e229]; try omega) (by rw [e2, e5, e234, e235]; try omega) M224 (by omega)
  refine kv_aload_n C 1 rfl 0 (kdec dk_cX10_order 0 rfl) rfl rfl ?_
  refine kv_aload_n C 2 rfl 0 (kdec dk_cX10_order 1 rfl) rfl rfl ?_
  obtain ⟨x236, e237⟩ : ∃ z : Int32, w 61 14 = z := ⟨_, rfl⟩
  have b238 : (0 : Int) ≤ x236.toInt ∧ x236.toInt ≤ 65535 := by rw [← e237]; exact hI 61 14
  refine kv_get C 5 rfl 61 14 rfl rfl inX10 (by decide) mfl_TaleMachineModel_142 rfl rfl (kdec dk_cX10_order 2 rfl) e237 ?_
  refine kv_put C 8 rfl 61 15 rfl rfl inX10 (by decide) mfl_TaleMachineModel_170 rfl tyX10 tyX10_ok nmX10 rfl rfl (kdec dk_cX10_order 3 rfl) rfl rfl (fun w239 u240 => ?_)
  have I241 : kI false w239 := kI_put u240 hI (show (0 : Int) ≤ (x236 : Int32).toInt by omega) (show (x236 : Int32).toInt ≤ 65535 by omega)
  have F242 : kF [(61, some 12), (61, some 13), (61, some 14), (61, some 15), (61, some 16), (61, some 17), (61, some 19), (61, some 20), (61, some 26), (61, some 27), (61, some 29), (61, some 31), (61, some 43), (61, some 45), (64, none), (66, none), (67, none), (68, none), (69, none), (70, none), (71, none), (72, none), (73, none), (81, none), (82, none), (83, none), (84, none)] w w239 := kF_put u240 hF0 rfl
  have M243 : kMoT w239 := kMoT_put u240 hM rfl rfl rfl
  refine kv_aload_n C 9 rfl 0 (kdec dk_cX10_order 4 rfl) rfl rfl ?_
  refine kv_dup C 10 rfl (kdec dk_cX10_order 5 rfl) rfl ?_
  obtain ⟨x244, e245⟩ : ∃ z : Int32, w 61 16 = z := ⟨_, rfl⟩
  have b246 : (-2147483648 : Int) ≤ x244.toInt ∧ x244.toInt ≤ 2147483647 := by rw [← e245]; exact hI 61 16
  have e247 : w239 61 16 = x244 := ((kup_ne u240 rfl : w239 61 16 = w 61 16).trans e245)
  refine kv_get C 13 rfl 61 16 rfl rfl inX10 (by decide) mfl_TaleMachineModel_151 rfl rfl (kdec dk_cX10_order 6 rfl) e247 ?_
  refine kv_iconst C 14 rfl 1 (kdec dk_cX10_order 7 rfl) rfl ?_
  refine kv_iadd C 15 rfl (kdec dk_cX10_order 8 rfl) (fun x248 q250 h249e h249 h249l h249u => ?_)
  try have h249n : x248.toInt = x244.toInt + (1 : Int32).toInt := by omega
  clear h249 q250
  refine kv_put C 18 rfl 61 16 rfl rfl inX10 (by decide) mfl_TaleMachineModel_151 rfl tyX10 tyX10_ok nmX10 rfl rfl (kdec dk_cX10_order 9 rfl) rfl rfl (fun w251 u252 => ?_)
  have I253 : kI false w251 := kI_put u252 I241 (kf_rng _).1 (kf_rng _).2
  have F254 : kF [(61, some 12), (61, some 13), (61, some 14), (61, some 15), (61, some 16), (61, some 17), (61, some 19), (61, some 20), (61, some 26), (61, some 27), (61, some 29), (61, some 31), (61, some 43), (61, some 45), (64, none), (66, none), (67, none), (68, none), (69, none), (70, none), (71, none), (72, none), (73, none), (81, none), (82, none), (83, none), (84, none)] w w251 := kF_put u252 F242 rfl
  have M255 : kMoT w251 := kMoT_put u252 M243 rfl rfl rfl
  refine kv_aload_n C 19 rfl 0 (kdec dk_cX10_order 10 rfl) rfl rfl ?_
  refine kv_iconst C 20 rfl 0 (kdec dk_cX10_order 11 rfl) rfl ?_
  refine kv_put C 23 rfl 61 45 rfl rfl inX10 (by decide) mfl_TaleMachineModel_261 rfl tyX10 tyX10_ok nmX10 rfl rfl (kdec dk_cX10_order 12 rfl) rfl rfl (fun w256 u257 => ?_)
  have I258 : kI false w256 := kI_put u257 I253 (show (0 : Int) ≤ (0 : Int32).toInt by omega) (show (0 : Int32).toInt ≤ 4 by omega)
  have F259 : kF [(61, some 12), (61, some 13), (61, some 14), (61, some 15), (61, some 16), (61, some 17), (61, some 19), (61, some 20), (61, some 26), (61, some 27), (61, some 29), (61, some 31), (61, some 43), (61, some 45), (64, none), (66, none), (67, none), (68, none), (69, none), (70, none), (71, none), (72, none), (73, none), (81, none), (82, none), (83, none), (84, none)] w w256 := kF_put u257 F254 rfl
  have M260 : kMoT w256 := kMoT_put u257 M255 rfl rfl rfl
  refine kv_aload_n C 24 rfl 0 (kdec dk_cX10_order 13 rfl) rfl rfl ?_
  refine kv_callVi (As := []) (rest := []) C 27 rfl 61 (k_x_next l D τ ρ σ w256  I258 ) rfl rfl mml_TaleMachineModel_194 mim_yX10_next mse_yX10_next mcd_yX10_next min_yX10_next hd_yX10_next rfl rfl rfl (by decide) rfl (Nat.le_of_ble_eq_true rfl) (kdec dk_cX10_order 14 rfl) (fun x265 w261 h262 => ?_)
  obtain ⟨I263, f264, p266, p267⟩ := h262
  have F268 : kF [(61, some 12), (61, some 13), (61, some 14), (61, some 15), (61, some 16), (61, some 17), (61, some 19), (61, some 20), (61, some 26), (61, some 27), (61, some 29), (61, some 31), (61, some 43), (61, some 45), (64, none), (66, none), (67, none), (68, none), (69, none), (70, none), (71, none), (72, none), (73, none), (81, none), (82, none), (83, none), (84, none)] w w261 := kF_call F259 f264 (by decide)
  have M269 : kMoT w261 := kMoT_kF f264 M260 rfl rfl (fun _ => rfl)
  have g270 := kf_rng x265
  obtain ⟨x271, e272⟩ : ∃ z : Int32, w 61 13 = z := ⟨_, rfl⟩
  have b273 : (0 : Int) ≤ x271.toInt ∧ x271.toInt ≤ 13 := by rw [← e272]; exact hI 61 13
  have e274 : w256 61 13 = x271 := ((kup_ne u257 rfl : w256 61 13 = w251 61 13).trans ((kup_ne u252 rfl : w251 61 13 = w239 61 13).trans ((kup_ne u240 rfl : w239 61 13 = w 61 13).trans e272)))
  obtain ⟨x275, e276⟩ : ∃ z : Int32, w261 61 13 = z := ⟨_, rfl⟩
  have b277 : (0 : Int) ≤ x275.toInt ∧ x275.toInt ≤ 13 := by rw [← e276]; exact I263 61 13
  rw [e274, e276] at p267
  refine kv_istore_n C 28 rfl 1 [1, 0] [(0, .ref (ρ 61)), (1, .int x265)] (kdec dk_cX10_order 15 rfl) rfl (by decide) rfl ?_
  refine kv_aload_n C 29 rfl 0 (kdec dk_cX10_order 16 rfl) rfl rfl ?_
  refine kv_get C 32 rfl 61 13 rfl rfl inX10 (by decide) mfl_TaleMachineModel_148 rfl rfl (kdec dk_cX10_order 17 rfl) e276 ?_
  refine kv_if_ne C 35 rfl 236 (kdec dk_cX10_order 18 rfl) (by decide) (fun d278 => ?_) (fun d278 => ?_)
  · skip
    have e279 : w261 61 31 = x1 := ((f264 61 31 rfl : w261 61 31 = w256 61 31).trans ((kup_ne u257 rfl : w256 61 31 = w251 61 31).trans ((kup_ne u252 rfl : w251 61 31 = w239 61 31).trans ((kup_ne u240 rfl : w239 61 31 = w 61 31).trans e2))))
    have e280 : w261 61 29 = x4 := ((f264 61 29 rfl : w261 61 29 = w256 61 29).trans ((kup_ne u257 rfl : w256 61 29 = w251 61 29).trans ((kup_ne u252 rfl : w251 61 29 = w239 61 29).trans ((kup_ne u240 rfl : w239 61 29 = w 61 29).trans e5))))
    refine kV.sub [0] (L' := [(0, .ref (ρ 61))]) rfl ?_
    exact cut236 w261  I263 F268 (by rw [e2, e5, e279, e280]; try omega) M269
  · skip
    refine kv_iload_n C 36 rfl 1 (kdec dk_cX10_order 19 rfl) rfl rfl ?_
    refine kv_sipush C 39 rfl 192 (kdec dk_cX10_order 20 rfl) rfl ?_
    refine kv_icmp_lt C 42 rfl 128 (kdec dk_cX10_order 21 rfl) (by decide) (fun d281 => ?_) (fun d281 => ?_)
    · skip
      refine kv_iload_n C 129 rfl 1 (kdec dk_cX10_order 69 rfl) rfl rfl ?_
      refine kv_sipush C 132 rfl 128 (kdec dk_cX10_order 70 rfl) rfl ?_
      refine kv_icmp_lt C 135 rfl 186 (kdec dk_cX10_order 71 rfl) (by decide) (fun d282 => ?_) (fun d282 => ?_)
      · skip
        refine kv_aload_n C 187 rfl 0 (kdec dk_cX10_order 103 rfl) rfl rfl ?_
        refine kv_iload_n C 188 rfl 1 (kdec dk_cX10_order 104 rfl) rfl rfl ?_
        refine kv_bipush C 190 rfl 6 (kdec dk_cX10_order 105 rfl) rfl ?_
        refine kv_ishr C 191 rfl (kdec dk_cX10_order 106 rfl) (fun x283 h284e h284l h284u => ?_)
        refine kv_iconst C 192 rfl 1 (kdec dk_cX10_order 107 rfl) rfl ?_
        refine kv_icmp_ne C 195 rfl 199 (kdec dk_cX10_order 108 rfl) (by decide) (fun d285 => ?_) (fun d285 => ?_)
        · skip
          refine kv_iconst C 200 rfl 1 (kdec dk_cX10_order 111 rfl) rfl ?_
          have e286 : w261 61 31 = x1 := ((f264 61 31 rfl : w261 61 31 = w256 61 31).trans ((kup_ne u257 rfl : w256 61 31 = w251 61 31).trans ((kup_ne u252 rfl : w251 61 31 = w239 61 31).trans ((kup_ne u240 rfl : w239 61 31 = w 61 31).trans e2))))
          have e287 : w261 61 29 = x4 := ((f264 61 29 rfl : w261 61 29 = w256 61 29).trans ((kup_ne u257 rfl : w256 61 29 = w251 61 29).trans ((kup_ne u252 rfl : w251 61 29 = w239 61 29).trans ((kup_ne u240 rfl : w239 61 29 = w 61 29).trans e5))))
          have e288 : w261 61 45 = 0 := ((f264 61 45 rfl : w261 61 45 = w256 61 45).trans (kup_eq u257))
          exact cut200 w261 x265 1 I263 F268 (by rw [e2, e5, e286, e287]; try omega) (by rw [e288]; try omega) M269
        · skip
          refine kv_iconst C 196 rfl 2 (kdec dk_cX10_order 109 rfl) rfl ?_
          refine kv_goto C 200 (kdec dk_cX10_order 110 rfl) (by decide) ?_
          have e289 : w261 61 31 = x1 := ((f264 61 31 rfl : w261 61 31 = w256 61 31).trans ((kup_ne u257 rfl : w256 61 31 = w251 61 31).trans ((kup_ne u252 rfl : w251 61 31 = w239 61 31).trans ((kup_ne u240 rfl : w239 61 31 = w 61 31).trans e2))))
          have e290 : w261 61 29 = x4 := ((f264 61 29 rfl : w261 61 29 = w256 61 29).trans ((kup_ne u257 rfl : w256 61 29 = w251 61 29).trans ((kup_ne u252 rfl : w251 61 29 = w239 61 29).trans ((kup_ne u240 rfl : w239 61 29 = w 61 29).trans e5))))
          have e291 : w261 61 45 = 0 := ((f264 61 45 rfl : w261 61 45 = w256 61 45).trans (kup_eq u257))
          exact cut200 w261 x265 2 I263 F268 (by rw [e2, e5, e289, e290]; try omega) (by rw [e291]; try omega) M269
      · skip
        refine kv_iload_n C 136 rfl 1 (kdec dk_cX10_order 72 rfl) rfl rfl ?_
        refine kv_iconst C 137 rfl 4 (kdec dk_cX10_order 73 rfl) rfl ?_
        refine kv_ishr C 138 rfl (kdec dk_cX10_order 74 rfl) (fun x292 h293e h293l h293u => ?_)
        refine kv_iconst C 139 rfl 3 (kdec dk_cX10_order 75 rfl) rfl ?_
        refine kv_iand C 140 rfl (kdec dk_cX10_order 76 rfl) (fun x294 h295e h295l h295u => ?_)
        have g296 := kf_and3 h295e
        refine kv_istore_n C 141 rfl 2 [1, 2, 0] [(0, .ref (ρ 61)), (1, .int x265), (2, .int x294)] (kdec dk_cX10_order 77 rfl) rfl (by decide) rfl ?_
        refine kv_iload_n C 142 rfl 2 (kdec dk_cX10_order 78 rfl) rfl rfl ?_
        refine kv_iconst C 143 rfl 3 (kdec dk_cX10_order 79 rfl) rfl ?_
        refine kv_icmp_ne C 146 rfl 157 (kdec dk_cX10_order 80 rfl) (by decide) (fun d297 => ?_) (fun d297 => ?_)
        · skip
          refine kv_aload_n C 158 rfl 0 (kdec dk_cX10_order 87 rfl) rfl rfl ?_
          refine kv_iload_n C 159 rfl 2 (kdec dk_cX10_order 88 rfl) rfl rfl ?_
          have e298 : w261 61 45 = 0 := ((f264 61 45 rfl : w261 61 45 = w256 61 45).trans (kup_eq u257))
          refine kv_callVv (As := [.int x294]) (rest := []) C 162 rfl 61 (k_x_operand l D τ ρ σ w261 x294 I263 (by rw [e298]; try omega) M269) rfl rfl mml_TaleMachineModel_264 mim_yX10_operand mse_yX10_operand mcd_yX10_operand min_yX10_operand hd_yX10_operand rfl rfl rfl (by decide) rfl (Nat.le_of_ble_eq_true rfl) (kdec dk_cX10_order 89 rfl) (fun w299 h300 => ?_)
          obtain ⟨I301, f302, p304, M305⟩ := h300
          have F306 : kF [(61, some 12), (61, some 13), (61, some 14), (61, some 15), (61, some 16), (61, some 17), (61, some 19), (61, some 20), (61, some 26), (61, some 27), (61, some 29), (61, some 31), (61, some 43), (61, some 45), (64, none), (66, none), (67, none), (68, none), (69, none), (70, none), (71, none), (72, none), (73, none), (81, none), (82, none), (83, none), (84, none)] w w299 := kF_call F268 f302 (by decide)
          have e307 : w299 61 20 = x7 := ((f302 61 20 rfl : w299 61 20 = w261 61 20).trans ((f264 61 20 rfl : w261 61 20 = w256 61 20).trans ((kup_ne u257 rfl : w256 61 20 = w251 61 20).trans ((kup_ne u252 rfl : w251 61 20 = w239 61 20).trans ((kup_ne u240 rfl : w239 61 20 = w 61 20).trans e8)))))
          have r308 := kMoT_fr M305
          rw [e307] at r308
          obtain ⟨x309, e310⟩ : ∃ z : Int32, w299 61 45 = z := ⟨_, rfl⟩
          have b311 : (0 : Int) ≤ x309.toInt ∧ x309.toInt ≤ 4 := by rw [← e310]; exact I301 61 45
          rw [e298, e310] at p304
          refine kv_aload_n C 163 rfl 0 (kdec dk_cX10_order 90 rfl) rfl rfl ?_
          obtain ⟨x312, e313⟩ : ∃ z : Int32, w299 61 13 = z := ⟨_, rfl⟩
          have b314 : (0 : Int) ≤ x312.toInt ∧ x312.toInt ≤ 13 := by rw [← e313]; exact I301 61 13
          refine kv_get C 166 rfl 61 13 rfl rfl inX10 (by decide) mfl_TaleMachineModel_148 rfl rfl (kdec dk_cX10_order 91 rfl) e313 ?_
          refine kv_if_ne C 169 rfl 183 (kdec dk_cX10_order 92 rfl) (by decide) (fun d315 => ?_) (fun d315 => ?_)
          · skip
            refine kv_goto C 236 (kdec dk_cX10_order 102 rfl) (by decide) ?_
            have e316 : w299 61 31 = x1 := ((f302 61 31 rfl : w299 61 31 = w261 61 31).trans ((f264 61 31 rfl : w261 61 31 = w256 61 31).trans ((kup_ne u257 rfl : w256 61 31 = w251 61 31).trans ((kup_ne u252 rfl : w251 61 31 = w239 61 31).trans ((kup_ne u240 rfl : w239 61 31 = w 61 31).trans e2)))))
            have e317 : w299 61 29 = x4 := ((f302 61 29 rfl : w299 61 29 = w261 61 29).trans ((f264 61 29 rfl : w261 61 29 = w256 61 29).trans ((kup_ne u257 rfl : w256 61 29 = w251 61 29).trans ((kup_ne u252 rfl : w251 61 29 = w239 61 29).trans ((kup_ne u240 rfl : w239 61 29 = w 61 29).trans e5)))))
            refine kV.sub [0] (L' := [(0, .ref (ρ 61))]) rfl ?_
            exact cut236 w299  I301 F306 (by rw [e2, e5, e316, e317]; try omega) M305
          · skip
            refine kv_aload_n C 170 rfl 0 (kdec dk_cX10_order 93 rfl) rfl rfl ?_
            refine kv_iload_n C 171 rfl 1 (kdec dk_cX10_order 94 rfl) rfl rfl ?_
            refine kv_bipush C 173 rfl 16 (kdec dk_cX10_order 95 rfl) rfl ?_
            refine kv_irem C 174 rfl (kdec dk_cX10_order 96 rfl) (by decide) (fun x318 h319e h319l h319u => ?_)
            refine kv_aload_n C 175 rfl 0 (kdec dk_cX10_order 97 rfl) rfl rfl ?_
            refine kv_getr C 178 rfl 61 44 rfl rfl inX10 (by decide) mfl_TaleMachineModel_77 rfl rfl (kdec dk_cX10_order 98 rfl) ?_
            refine kv_iconst C 179 rfl 0 (kdec dk_cX10_order 99 rfl) rfl ?_
            obtain ⟨x320, e321⟩ : ∃ z : Int32, w299 84 0 = z := ⟨_, rfl⟩
            have b322 : (0 : Int) ≤ x320.toInt ∧ x320.toInt ≤ 65535 := by rw [← e321]; exact I301 84 0
            refine kv_iald C 180 rfl 84 rfl (by omega) (by omega) (show w299 84 (0 : Int32).toNatClampNeg = x320 from e321) (kdec dk_cX10_order 100 rfl) ?_
            have e323 : w299 61 31 = x1 := ((f302 61 31 rfl : w299 61 31 = w261 61 31).trans ((f264 61 31 rfl : w261 61 31 = w256 61 31).trans ((kup_ne u257 rfl : w256 61 31 = w251 61 31).trans ((kup_ne u252 rfl : w251 61 31 = w239 61 31).trans ((kup_ne u240 rfl : w239 61 31 = w 61 31).trans e2)))))
            have e324 : w299 61 29 = x4 := ((f302 61 29 rfl : w299 61 29 = w261 61 29).trans ((f264 61 29 rfl : w261 61 29 = w256 61 29).trans ((kup_ne u257 rfl : w256 61 29 = w251 61 29).trans ((kup_ne u252 rfl : w251 61 29 = w239 61 29).trans ((kup_ne u240 rfl : w239 61 29 = w 61 29).trans e5)))))
            refine kv_callVv (As := [.int x318, .int x320]) (rest := []) C 183 rfl 61 (k_x_one l D τ ρ σ w299 x318 x320 I301 (by rw [e323, e324]; try omega) M305) rfl rfl mml_TaleMachineModel_275 mim_yX10_one mse_yX10_one mcd_yX10_one min_yX10_one hd_yX10_one rfl rfl rfl (by decide) rfl (Nat.le_of_ble_eq_true rfl) (kdec dk_cX10_order 101 rfl) (fun w325 h326 => ?_)
            obtain ⟨I327, f328, p330, M331⟩ := h326
            have F332 : kF [(61, some 12), (61, some 13), (61, some 14), (61, some 15), (61, some 16), (61, some 17), (61, some 19), (61, some 20), (61, some 26), (61, some 27), (61, some 29), (61, some 31), (61, some 43), (61, some 45), (64, none), (66, none), (67, none), (68, none), (69, none), (70, none), (71, none), (72, none), (73, none), (81, none), (82, none), (83, none), (84, none)] w w325 := kF_call F306 f328 (by decide)
            obtain ⟨x333, e334⟩ : ∃ z : Int32, w325 61 20 = z := ⟨_, rfl⟩
            have b335 : (0 : Int) ≤ x333.toInt ∧ x333.toInt ≤ 20 := by rw [← e334]; exact I327 61 20
            have r336 := kMoT_fr M331
            rw [e334] at r336
            obtain ⟨x337, e338⟩ : ∃ z : Int32, w325 61 31 = z := ⟨_, rfl⟩
            have b339 : (0 : Int) ≤ x337.toInt ∧ x337.toInt ≤ 2147483647 := by rw [← e338]; exact I327 61 31
            obtain ⟨x340, e341⟩ : ∃ z : Int32, w325 61 29 = z := ⟨_, rfl⟩
            have b342 : (0 : Int) ≤ x340.toInt ∧ x340.toInt ≤ 2147483647 := by rw [← e341]; exact I327 61 29
            rw [e323, e324, e338, e341] at p330
            refine kv_goto C 236 (kdec dk_cX10_order 102 rfl) (by decide) ?_
            refine kV.sub [0] (L' := [(0, .ref (ρ 61))]) rfl ?_
            exact cut236 w325  I327 F332 (by rw [e2, e5, e338, e341]; try omega) M331
        · skip
          refine kv_aload_n C 147 rfl 0 (kdec dk_cX10_order 81 rfl) rfl rfl ?_
          refine kv_iload_n C 148 rfl 1 (kdec dk_cX10_order 82 rfl) rfl rfl ?_
          refine kv_bipush C 150 rfl 16 (kdec dk_cX10_order 83 rfl) rfl ?_
          refine kv_irem C 151 rfl (kdec dk_cX10_order 84 rfl) (by decide) (fun x343 h344e h344l h344u => ?_)
          have e345 : w261 61 31 = x1 := ((f264 61 31 rfl : w261 61 31 = w256 61 31).trans ((kup_ne u257 rfl : w256 61 31 = w251 61 31).trans ((kup_ne u252 rfl : w251 61 31 = w239 61 31).trans ((kup_ne u240 rfl : w239 61 31 = w 61 31).trans e2))))
          have e346 : w261 61 29 = x4 := ((f264 61 29 rfl : w261 61 29 = w256 61 29).trans ((kup_ne u257 rfl : w256 61 29 = w251 61 29).trans ((kup_ne u252 rfl : w251 61 29 = w239 61 29).trans ((kup_ne u240 rfl : w239 61 29 = w 61 29).trans e5))))
          refine kv_callVv (As := [.int x343]) (rest := []) C 154 rfl 61 (k_x_none l D τ ρ σ w261 x343 I263 (by rw [e345, e346]; try omega) M269) rfl rfl mml_TaleMachineModel_272 mim_yX10_none mse_yX10_none mcd_yX10_none min_yX10_none hd_yX10_none rfl rfl rfl (by decide) rfl (Nat.le_of_ble_eq_true rfl) (kdec dk_cX10_order 85 rfl) (fun w347 h348 => ?_)
          obtain ⟨I349, f350, p352, M353⟩ := h348
          have F354 : kF [(61, some 12), (61, some 13), (61, some 14), (61, some 15), (61, some 16), (61, some 17), (61, some 19), (61, some 20), (61, some 26), (61, some 27), (61, some 29), (61, some 31), (61, some 43), (61, some 45), (64, none), (66, none), (67, none), (68, none), (69, none), (70, none), (71, none), (72, none), (73, none), (81, none), (82, none), (83, none), (84, none)] w w347 := kF_call F268 f350 (by decide)
          obtain ⟨x355, e356⟩ : ∃ z : Int32, w347 61 20 = z := ⟨_, rfl⟩
          have b357 : (0 : Int) ≤ x355.toInt ∧ x355.toInt ≤ 20 := by rw [← e356]; exact I349 61 20
          have r358 := kMoT_fr M353
          rw [e356] at r358
          obtain ⟨x359, e360⟩ : ∃ z : Int32, w347 61 31 = z := ⟨_, rfl⟩
          have b361 : (0 : Int) ≤ x359.toInt ∧ x359.toInt ≤ 2147483647 := by rw [← e360]; exact I349 61 31
          obtain ⟨x362, e363⟩ : ∃ z : Int32, w347 61 29 = z := ⟨_, rfl⟩
          have b364 : (0 : Int) ≤ x362.toInt ∧ x362.toInt ≤ 2147483647 := by rw [← e363]; exact I349 61 29
          rw [e345, e346, e360, e363] at p352
          refine kv_goto C 183 (kdec dk_cX10_order 86 rfl) (by decide) ?_
          refine kv_goto C 236 (kdec dk_cX10_order 102 rfl) (by decide) ?_
          refine kV.sub [0] (L' := [(0, .ref (ρ 61))]) rfl ?_
          exact cut236 w347  I349 F354 (by rw [e2, e5, e360, e363]; try omega) M353
    · skip
      refine kv_aload_n C 43 rfl 0 (kdec dk_cX10_order 22 rfl) rfl rfl ?_
      refine kv_callVi (As := []) (rest := []) C 46 rfl 61 (k_x_next l D τ ρ σ w261  I263 ) rfl rfl mml_TaleMachineModel_194 mim_yX10_next mse_yX10_next mcd_yX10_next min_yX10_next hd_yX10_next rfl rfl rfl (by decide) rfl (Nat.le_of_ble_eq_true rfl) (kdec dk_cX10_order 23 rfl) (fun x369 w365 h366 => ?_)
      obtain ⟨I367, f368, p370, p371⟩ := h366
      have F372 : kF [(61, some 12), (61, some 13), (61, some 14), (61, some 15), (61, some 16), (61, some 17), (61, some 19), (61, some 20), (61, some 26), (61, some 27), (61, some 29), (61, some 31), (61, some 43), (61, some 45), (64, none), (66, none), (67, none), (68, none), (69, none), (70, none), (71, none), (72, none), (73, none), (81, none), (82, none), (83, none), (84, none)] w w365 := kF_call F268 f368 (by decide)
      have M373 : kMoT w365 := kMoT_kF f368 M269 rfl rfl (fun _ => rfl)
      have g374 := kf_rng x369
      obtain ⟨x375, e376⟩ : ∃ z : Int32, w365 61 13 = z := ⟨_, rfl⟩
      have b377 : (0 : Int) ≤ x375.toInt ∧ x375.toInt ≤ 13 := by rw [← e376]; exact I367 61 13
      rw [e276, e376] at p371
      refine kv_istore_n C 47 rfl 2 [1, 2, 0] [(0, .ref (ρ 61)), (1, .int x265), (2, .int x369)] (kdec dk_cX10_order 24 rfl) rfl (by decide) rfl ?_
      refine kv_bipush C 49 rfl 6 (kdec dk_cX10_order 25 rfl) rfl ?_
      refine kv_istore_n C 50 rfl 3 [1, 2, 3, 0] [(0, .ref (ρ 61)), (1, .int x265), (2, .int x369), (3, .int 6)] (kdec dk_cX10_order 26 rfl) rfl (by decide) rfl ?_
      have e378 : w365 61 45 = 0 := ((f368 61 45 rfl : w365 61 45 = w261 61 45).trans ((f264 61 45 rfl : w261 61 45 = w256 61 45).trans (kup_eq u257)))
      have e379 : w365 61 31 = x1 := ((f368 61 31 rfl : w365 61 31 = w261 61 31).trans ((f264 61 31 rfl : w261 61 31 = w256 61 31).trans ((kup_ne u257 rfl : w256 61 31 = w251 61 31).trans ((kup_ne u252 rfl : w251 61 31 = w239 61 31).trans ((kup_ne u240 rfl : w239 61 31 = w 61 31).trans e2)))))
      have e380 : w365 61 29 = x4 := ((f368 61 29 rfl : w365 61 29 = w261 61 29).trans ((f264 61 29 rfl : w261 61 29 = w256 61 29).trans ((kup_ne u257 rfl : w256 61 29 = w251 61 29).trans ((kup_ne u252 rfl : w251 61 29 = w239 61 29).trans ((kup_ne u240 rfl : w239 61 29 = w 61 29).trans e5)))))
      exact cut50 (((((6 : Int32).toInt + 2)) : Int).toNat + 1) w365 x265 x369 6 I367 F372 (by omega) (by rw [e378]; try omega) (by rw [e2, e5, e379, e380]; try omega) M373 (by omega)
