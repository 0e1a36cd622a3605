set_option maxHeartbeats 4000000 in
set_option maxRecDepth 100000 in
theorem k_x_load (l : Launch) (D : va_G) (τ : Nat → ClassId) (ρ σ : Nat → Nat) (w : kw)  (hI : kI false w) (hMp : ((w 61 3).toInt = 0 ∧ (w 61 12).toInt = 0 ∨ kMoT w)) :
    kM l D τ ρ σ yX10_load cX10_load 4 (some .int) { frames := 2, cells := 0, slots := 0, locals := 72 } [.ref (ρ 61)] w
      (fun o w' => ∃ r : Int32, o = some (.int r) ∧ kI false w' ∧ kF [(61, some 2), (61, some 3), (61, some 6), (61, some 7), (61, some 8), (61, some 9), (61, some 10), (61, some 11), (61, some 12), (61, some 13), (61, some 14), (61, some 16), (61, some 17), (61, some 19), (61, some 20), (61, some 31), (64, none), (65, none), (67, none), (68, none), (69, none), (70, none), (74, none)] w w' ∧ ((w' 61 2).toInt = 0) ∧ (64 ≤ (w 61 2).toInt ∨ r.toInt = -11) ∧ ((w' 74 0).toInt = 0 ∧ (w' 74 1).toInt = 0 ∧ (w' 74 2).toInt = 0 ∧ (w' 74 3).toInt = 0) ∧ ((w' 61 31).toInt ≤ (w 61 31).toInt) ∧ ((w' 61 3).toInt = 0 ∧ (w' 61 12).toInt = 0 ∨ kMoT w') ∧ (kFn (w 63) (w 61 2).toInt = 0 ∧ r.toInt = 0 ∧ (w' 61 3).toInt = 1 ∨ ¬ kFn (w 63) (w 61 2).toInt = 0 ∧ r.toInt = -10 - kFn (w 63) (w 61 2).toInt ∧ (w' 61 3).toInt = 0)) := by
  refine kM_of (own := "TaleMachineModel") rfl (by decide) (Nat.le_of_ble_eq_true rfl) ?_
  intro p e s m args below meth c C hr hlk
  have hF0 : kF [(61, some 2), (61, some 3), (61, some 6), (61, some 7), (61, some 8), (61, some 9), (61, some 10), (61, some 11), (61, some 12), (61, some 13), (61, some 14), (61, some 16), (61, some 17), (61, some 19), (61, some 20), (61, some 31), (64, none), (65, none), (67, none), (68, none), (69, none), (70, none), (74, none)] w w := kF.rf
  have c_m10 : (-10 : Int32).toInt = -10 := by decide
  have c_0 : (0 : Int32).toInt = 0 := by decide
  have c_1 : (1 : Int32).toInt = 1 := by decide
  have c_2 : (2 : Int32).toInt = 2 := by decide
  have c_3 : (3 : Int32).toInt = 3 := by decide
  have c_4 : (4 : Int32).toInt = 4 := by decide
  have c_8 : (8 : Int32).toInt = 8 := by decide
  have c_10 : (10 : Int32).toInt = 10 := by decide
  have c_12 : (12 : Int32).toInt = 12 := by decide
  have c_14 : (14 : Int32).toInt = 14 := by decide
  have c_24 : (24 : Int32).toInt = 24 := by decide
  refine kV.L (L' := [(0, .ref (ρ 61))]) rfl ?_
  have cut70 : ∀ (n_70 : Nat) (w_70 : kw) (l1_70 l3_70 : Int32), kI false w_70 → kF [(61, some 2), (61, some 3), (61, some 6), (61, some 7), (61, some 8), (61, some 9), (61, some 10), (61, some 11), (61, some 12), (61, some 13), (61, some 14), (61, some 16), (61, some 17), (61, some 19), (61, some 20), (61, some 31), (64, none), (65, none), (67, none), (68, none), (69, none), (70, none), (74, none)] w w_70 → (0 ≤ l3_70.toInt ∧ l3_70.toInt ≤ l1_70.toInt ∧ l1_70.toInt ≤ 1024 ∧ 64 ≤ l1_70.toInt ∧ l1_70.toInt = (w 61 2).toInt) → (256 * (w 63 14).toInt + (w 63 15).toInt ≤ l1_70.toInt) → ((w_70 61 2).toInt = 0 ∧ (w_70 61 3).toInt = 1 ∧ (w_70 61 31).toInt = (w 61 31).toInt) → ((w_70 74 0).toInt = 0 ∧ (w_70 74 1).toInt = 0 ∧ (w_70 74 2).toInt = 0 ∧ (w_70 74 3).toInt = 0) → (kFn (w 63) (w 61 2).toInt = 0) → ((1025 - l3_70.toInt) : Int) < (n_70 : Int) → kV p l e { frames := 2, cells := 0, slots := 0, locals := 72 } s m args below meth c (kQ below args s D τ ρ (fun o w' => ∃ r : Int32, o = some (.int r) ∧ kI false w' ∧ kF [(61, some 2), (61, some 3), (61, some 6), (61, some 7), (61, some 8), (61, some 9), (61, some 10), (61, some 11), (61, some 12), (61, some 13), (61, some 14), (61, some 16), (61, some 17), (61, some 19), (61, some 20), (61, some 31), (64, none), (65, none), (67, none), (68, none), (69, none), (70, none), (74, none)] w w' ∧ ((w' 61 2).toInt = 0) ∧ (64 ≤ (w 61 2).toInt ∨ r.toInt = -11) ∧ ((w' 74 0).toInt = 0 ∧ (w' 74 1).toInt = 0 ∧ (w' 74 2).toInt = 0 ∧ (w' 74 3).toInt = 0) ∧ ((w' 61 31).toInt ≤ (w 61 31).toInt) ∧ ((w' 61 3).toInt = 0 ∧ (w' 61 12).toInt = 0 ∨ kMoT w') ∧ (kFn (w 63) (w 61 2).toInt = 0 ∧ r.toInt = 0 ∧ (w' 61 3).toInt = 1 ∨ ¬ kFn (w 63) (w 61 2).toInt = 0 ∧ r.toInt = -10 - kFn (w 63) (w 61 2).toInt ∧ (w' 61 3).toInt = 0))) 4 D τ ρ 70 [(0, .ref (ρ 61)), (1, .int l1_70), (3, .int l3_70)] [] w_70 := by
    intro n_70
    induction n_70 with
    | zero => intro w_70 l1_70 l3_70 I_70 F_70 k70_0 k70_1 k70_2 k70_3 R70_Ft hmz; exfalso; omega
    | succ n_70 ih70 =>
      intro w_70 l1_70 l3_70 I_70 F_70 k70_0 k70_1 k70_2 k70_3 R70_Ft hm70
      have gl1_70 := kf_rng l1_70
      have gl3_70 := kf_rng l3_70
      obtain ⟨x1, e2⟩ : ∃ z : Int32, w 61 2 = z := ⟨_, rfl⟩
      have b3 : (0 : Int) ≤ x1.toInt ∧ x1.toInt ≤ 1024 := by rw [← e2]; exact hI 61 2
      rw [e2] at k70_0
      obtain ⟨x4, e5⟩ : ∃ z : Int32, w 63 14 = z := ⟨_, rfl⟩
      have b6 : (0 : Int) ≤ x4.toInt ∧ x4.toInt ≤ 255 := by rw [← e5]; exact hI 63 14
      obtain ⟨x7, e8⟩ : ∃ z : Int32, w 63 15 = z := ⟨_, rfl⟩
      have b9 : (0 : Int) ≤ x7.toInt ∧ x7.toInt ≤ 255 := by rw [← e8]; exact hI 63 15
      rw [e5, e8] at k70_1
      obtain ⟨x10, e11⟩ : ∃ z : Int32, w 61 31 = z := ⟨_, rfl⟩
      have b12 : (0 : Int) ≤ x10.toInt ∧ x10.toInt ≤ 2147483647 := by rw [← e11]; exact hI 61 31
      obtain ⟨x13, e14⟩ : ∃ z : Int32, w_70 61 2 = z := ⟨_, rfl⟩
      have b15 : (0 : Int) ≤ x13.toInt ∧ x13.toInt ≤ 1024 := by rw [← e14]; exact I_70 61 2
      obtain ⟨x16, e17⟩ : ∃ z : Int32, w_70 61 3 = z := ⟨_, rfl⟩
      have b18 : (0 : Int) ≤ x16.toInt ∧ x16.toInt ≤ 1 := by rw [← e17]; exact I_70 61 3
      obtain ⟨x19, e20⟩ : ∃ z : Int32, w_70 61 31 = z := ⟨_, rfl⟩
      have b21 : (0 : Int) ≤ x19.toInt ∧ x19.toInt ≤ 2147483647 := by rw [← e20]; exact I_70 61 31
      rw [e11, e14, e17, e20] at k70_2
      obtain ⟨x22, e23⟩ : ∃ z : Int32, w_70 74 0 = z := ⟨_, rfl⟩
      have b24 : (0 : Int) ≤ x22.toInt ∧ x22.toInt ≤ 1 := by rw [← e23]; exact I_70 74 0
      obtain ⟨x25, e26⟩ : ∃ z : Int32, w_70 74 1 = z := ⟨_, rfl⟩
      have b27 : (0 : Int) ≤ x25.toInt ∧ x25.toInt ≤ 1 := by rw [← e26]; exact I_70 74 1
      obtain ⟨x28, e29⟩ : ∃ z : Int32, w_70 74 2 = z := ⟨_, rfl⟩
      have b30 : (0 : Int) ≤ x28.toInt ∧ x28.toInt ≤ 1 := by rw [← e29]; exact I_70 74 2
      obtain ⟨x31, e32⟩ : ∃ z : Int32, w_70 74 3 = z := ⟨_, rfl⟩
      have b33 : (0 : Int) ≤ x31.toInt ∧ x31.toInt ≤ 1 := by rw [← e32]; exact I_70 74 3
      rw [e23, e26, e29, e32] at k70_3
      refine kv_iload_n C 71 rfl 2 (kdec dk_cX10_load 43 rfl) rfl rfl ?_
      refine kv_iload_n C 72 rfl 1 (kdec dk_cX10_load 44 rfl) rfl rfl ?_
      refine kv_icmp_ge C 75 rfl 93 (kdec dk_cX10_load 45 rfl) (by decide) (fun d34 => ?_) (fun d34 => ?_)
      · skip
        refine kv_aload_n C 94 rfl 0 (kdec dk_cX10_load 56 rfl) rfl rfl ?_
        refine kv_aload_n C 95 rfl 0 (kdec dk_cX10_load 57 rfl) rfl rfl ?_
        refine kv_bipush C 97 rfl 14 (kdec dk_cX10_load 58 rfl) rfl ?_
        refine kv_callVi (As := [.int 14]) (rest := [.ref (ρ 61)]) C 100 rfl 61 (k_x_tapeWord14 l D τ ρ σ w_70  I_70 ) rfl rfl mml_TaleMachineModel_98 mim_yX10_tapeWord mse_yX10_tapeWord mcd_yX10_tapeWord min_yX10_tapeWord hd_yX10_tapeWord rfl rfl rfl (by decide) rfl (Nat.le_of_ble_eq_true rfl) (kdec dk_cX10_load 59 rfl) (fun x39 w35 h36 => ?_)
        obtain ⟨I37, f38, p40⟩ := h36
        have F41 : kF [(61, some 2), (61, some 3), (61, some 6), (61, some 7), (61, some 8), (61, some 9), (61, some 10), (61, some 11), (61, some 12), (61, some 13), (61, some 14), (61, some 16), (61, some 17), (61, some 19), (61, some 20), (61, some 31), (64, none), (65, none), (67, none), (68, none), (69, none), (70, none), (74, none)] w w35 := kF_call F_70 f38 (by decide)
        have g42 := kf_rng x39
        have e43 : w_70 63 14 = x4 := ((F_70 63 14 rfl : w_70 63 14 = w 63 14).trans e5)
        have e44 : w_70 63 15 = x7 := ((F_70 63 15 rfl : w_70 63 15 = w 63 15).trans e8)
        rw [e43, e44] at p40
        refine kv_put C 103 rfl 61 7 rfl rfl inX10 (by decide) mfl_TaleMachineModel_118 rfl tyX10 tyX10_ok nmX10 rfl rfl (kdec dk_cX10_load 60 rfl) rfl rfl (fun w45 u46 => ?_)
        have I47 : kI false w45 := kI_put u46 I37 (show (0 : Int) ≤ (x39 : Int32).toInt by omega) (show (x39 : Int32).toInt ≤ 1024 by omega)
        have F48 : kF [(61, some 2), (61, some 3), (61, some 6), (61, some 7), (61, some 8), (61, some 9), (61, some 10), (61, some 11), (61, some 12), (61, some 13), (61, some 14), (61, some 16), (61, some 17), (61, some 19), (61, some 20), (61, some 31), (64, none), (65, none), (67, none), (68, none), (69, none), (70, none), (74, none)] w w45 := kF_put u46 F41 rfl
        refine kv_aload_n C 104 rfl 0 (kdec dk_cX10_load 61 rfl) rfl rfl ?_
        refine kv_aload_n C 105 rfl 0 (kdec dk_cX10_load 62 rfl) rfl rfl ?_
        refine kv_bipush C 107 rfl 8 (kdec dk_cX10_load 63 rfl) rfl ?_
        refine kv_callVi (As := [.int 8]) (rest := [.ref (ρ 61)]) C 110 rfl 61 (k_x_tapeWord8 l D τ ρ σ w45  I47 ) rfl rfl mml_TaleMachineModel_98 mim_yX10_tapeWord mse_yX10_tapeWord mcd_yX10_tapeWord min_yX10_tapeWord hd_yX10_tapeWord rfl rfl rfl (by decide) rfl (Nat.le_of_ble_eq_true rfl) (kdec dk_cX10_load 64 rfl) (fun x53 w49 h50 => ?_)
        obtain ⟨I51, f52, p54⟩ := h50
        have F55 : kF [(61, some 2), (61, some 3), (61, some 6), (61, some 7), (61, some 8), (61, some 9), (61, some 10), (61, some 11), (61, some 12), (61, some 13), (61, some 14), (61, some 16), (61, some 17), (61, some 19), (61, some 20), (61, some 31), (64, none), (65, none), (67, none), (68, none), (69, none), (70, none), (74, none)] w w49 := kF_call F48 f52 (by decide)
        have g56 := kf_rng x53
        obtain ⟨x57, e58⟩ : ∃ z : Int32, w 63 8 = z := ⟨_, rfl⟩
        have b59 : (0 : Int) ≤ x57.toInt ∧ x57.toInt ≤ 255 := by rw [← e58]; exact hI 63 8
        have e60 : w45 63 8 = x57 := ((kup_ne u46 rfl : w45 63 8 = w35 63 8).trans ((f38 63 8 rfl : w35 63 8 = w_70 63 8).trans ((F_70 63 8 rfl : w_70 63 8 = w 63 8).trans e58)))
        obtain ⟨x61, e62⟩ : ∃ z : Int32, w 63 9 = z := ⟨_, rfl⟩
        have b63 : (0 : Int) ≤ x61.toInt ∧ x61.toInt ≤ 255 := by rw [← e62]; exact hI 63 9
        have e64 : w45 63 9 = x61 := ((kup_ne u46 rfl : w45 63 9 = w35 63 9).trans ((f38 63 9 rfl : w35 63 9 = w_70 63 9).trans ((F_70 63 9 rfl : w_70 63 9 = w 63 9).trans e62)))
        rw [e60, e64] at p54
        refine kv_put C 113 rfl 61 8 rfl rfl inX10 (by decide) mfl_TaleMachineModel_121 rfl tyX10 tyX10_ok nmX10 rfl rfl (kdec dk_cX10_load 65 rfl) rfl rfl (fun w65 u66 => ?_)
        have I67 : kI false w65 := kI_put u66 I51 (show (0 : Int) ≤ (x53 : Int32).toInt by omega) (show (x53 : Int32).toInt ≤ 65535 by omega)
        have F68 : kF [(61, some 2), (61, some 3), (61, some 6), (61, some 7), (61, some 8), (61, some 9), (61, some 10), (61, some 11), (61, some 12), (61, some 13), (61, some 14), (61, some 16), (61, some 17), (61, some 19), (61, some 20), (61, some 31), (64, none), (65, none), (67, none), (68, none), (69, none), (70, none), (74, none)] w w65 := kF_put u66 F55 rfl
        refine kv_aload_n C 114 rfl 0 (kdec dk_cX10_load 66 rfl) rfl rfl ?_
        refine kv_aload_n C 115 rfl 0 (kdec dk_cX10_load 67 rfl) rfl rfl ?_
        refine kv_bipush C 117 rfl 10 (kdec dk_cX10_load 68 rfl) rfl ?_
        refine kv_callVi (As := [.int 10]) (rest := [.ref (ρ 61)]) C 120 rfl 61 (k_x_tapeWord10 l D τ ρ σ w65  I67 ) rfl rfl mml_TaleMachineModel_98 mim_yX10_tapeWord mse_yX10_tapeWord mcd_yX10_tapeWord min_yX10_tapeWord hd_yX10_tapeWord rfl rfl rfl (by decide) rfl (Nat.le_of_ble_eq_true rfl) (kdec dk_cX10_load 69 rfl) (fun x73 w69 h70 => ?_)
        obtain ⟨I71, f72, p74⟩ := h70
        have F75 : kF [(61, some 2), (61, some 3), (61, some 6), (61, some 7), (61, some 8), (61, some 9), (61, some 10), (61, some 11), (61, some 12), (61, some 13), (61, some 14), (61, some 16), (61, some 17), (61, some 19), (61, some 20), (61, some 31), (64, none), (65, none), (67, none), (68, none), (69, none), (70, none), (74, none)] w w69 := kF_call F68 f72 (by decide)
        have g76 := kf_rng x73
        obtain ⟨x77, e78⟩ : ∃ z : Int32, w 63 10 = z := ⟨_, rfl⟩
        have b79 : (0 : Int) ≤ x77.toInt ∧ x77.toInt ≤ 255 := by rw [← e78]; exact hI 63 10
        have e80 : w65 63 10 = x77 := ((kup_ne u66 rfl : w65 63 10 = w49 63 10).trans ((f52 63 10 rfl : w49 63 10 = w45 63 10).trans ((kup_ne u46 rfl : w45 63 10 = w35 63 10).trans ((f38 63 10 rfl : w35 63 10 = w_70 63 10).trans ((F_70 63 10 rfl : w_70 63 10 = w 63 10).trans e78)))))
        obtain ⟨x81, e82⟩ : ∃ z : Int32, w 63 11 = z := ⟨_, rfl⟩
        have b83 : (0 : Int) ≤ x81.toInt ∧ x81.toInt ≤ 255 := by rw [← e82]; exact hI 63 11
        have e84 : w65 63 11 = x81 := ((kup_ne u66 rfl : w65 63 11 = w49 63 11).trans ((f52 63 11 rfl : w49 63 11 = w45 63 11).trans ((kup_ne u46 rfl : w45 63 11 = w35 63 11).trans ((f38 63 11 rfl : w35 63 11 = w_70 63 11).trans ((F_70 63 11 rfl : w_70 63 11 = w 63 11).trans e82)))))
        rw [e80, e84] at p74
        refine kv_put C 123 rfl 61 9 rfl rfl inX10 (by decide) mfl_TaleMachineModel_124 rfl tyX10 tyX10_ok nmX10 rfl rfl (kdec dk_cX10_load 70 rfl) rfl rfl (fun w85 u86 => ?_)
        have I87 : kI false w85 := kI_put u86 I71 (show (0 : Int) ≤ (x73 : Int32).toInt by omega) (show (x73 : Int32).toInt ≤ 65535 by omega)
        have F88 : kF [(61, some 2), (61, some 3), (61, some 6), (61, some 7), (61, some 8), (61, some 9), (61, some 10), (61, some 11), (61, some 12), (61, some 13), (61, some 14), (61, some 16), (61, some 17), (61, some 19), (61, some 20), (61, some 31), (64, none), (65, none), (67, none), (68, none), (69, none), (70, none), (74, none)] w w85 := kF_put u86 F75 rfl
        refine kv_aload_n C 124 rfl 0 (kdec dk_cX10_load 71 rfl) rfl rfl ?_
        refine kv_aload_n C 125 rfl 0 (kdec dk_cX10_load 72 rfl) rfl rfl ?_
        refine kv_bipush C 127 rfl 12 (kdec dk_cX10_load 73 rfl) rfl ?_
        refine kv_callVi (As := [.int 12]) (rest := [.ref (ρ 61)]) C 130 rfl 61 (k_x_tapeWord12 l D τ ρ σ w85  I87 ) rfl rfl mml_TaleMachineModel_98 mim_yX10_tapeWord mse_yX10_tapeWord mcd_yX10_tapeWord min_yX10_tapeWord hd_yX10_tapeWord rfl rfl rfl (by decide) rfl (Nat.le_of_ble_eq_true rfl) (kdec dk_cX10_load 74 rfl) (fun x93 w89 h90 => ?_)
        obtain ⟨I91, f92, p94⟩ := h90
        have F95 : kF [(61, some 2), (61, some 3), (61, some 6), (61, some 7), (61, some 8), (61, some 9), (61, some 10), (61, some 11), (61, some 12), (61, some 13), (61, some 14), (61, some 16), (61, some 17), (61, some 19), (61, some 20), (61, some 31), (64, none), (65, none), (67, none), (68, none), (69, none), (70, none), (74, none)] w w89 := kF_call F88 f92 (by decide)
        have g96 := kf_rng x93
        obtain ⟨x97, e98⟩ : ∃ z : Int32, w 63 12 = z := ⟨_, rfl⟩
        have b99 : (0 : Int) ≤ x97.toInt ∧ x97.toInt ≤ 255 := by rw [← e98]; exact hI 63 12
        have e100 : w85 63 12 = x97 := ((kup_ne u86 rfl : w85 63 12 = w69 63 12).trans ((f72 63 12 rfl : w69 63 12 = w65 63 12).trans ((kup_ne u66 rfl : w65 63 12 = w49 63 12).trans ((f52 63 12 rfl : w49 63 12 = w45 63 12).trans ((kup_ne u46 rfl : w45 63 12 = w35 63 12).trans ((f38 63 12 rfl : w35 63 12 = w_70 63 12).trans ((F_70 63 12 rfl : w_70 63 12 = w 63 12).trans e98)))))))
        obtain ⟨x101, e102⟩ : ∃ z : Int32, w 63 13 = z := ⟨_, rfl⟩
        have b103 : (0 : Int) ≤ x101.toInt ∧ x101.toInt ≤ 255 := by rw [← e102]; exact hI 63 13
        have e104 : w85 63 13 = x101 := ((kup_ne u86 rfl : w85 63 13 = w69 63 13).trans ((f72 63 13 rfl : w69 63 13 = w65 63 13).trans ((kup_ne u66 rfl : w65 63 13 = w49 63 13).trans ((f52 63 13 rfl : w49 63 13 = w45 63 13).trans ((kup_ne u46 rfl : w45 63 13 = w35 63 13).trans ((f38 63 13 rfl : w35 63 13 = w_70 63 13).trans ((F_70 63 13 rfl : w_70 63 13 = w 63 13).trans e102)))))))
        rw [e100, e104] at p94
        refine kv_put C 133 rfl 61 10 rfl rfl inX10 (by decide) mfl_TaleMachineModel_127 rfl tyX10 tyX10_ok nmX10 rfl rfl (kdec dk_cX10_load 75 rfl) rfl rfl (fun w105 u106 => ?_)
        have I107 : kI false w105 := kI_put u106 I91 (show (0 : Int) ≤ (x93 : Int32).toInt by omega) (show (x93 : Int32).toInt ≤ 65535 by omega)
        have F108 : kF [(61, some 2), (61, some 3), (61, some 6), (61, some 7), (61, some 8), (61, some 9), (61, some 10), (61, some 11), (61, some 12), (61, some 13), (61, some 14), (61, some 16), (61, some 17), (61, some 19), (61, some 20), (61, some 31), (64, none), (65, none), (67, none), (68, none), (69, none), (70, none), (74, none)] w w105 := kF_put u106 F95 rfl
        refine kv_aload_n C 134 rfl 0 (kdec dk_cX10_load 76 rfl) rfl rfl ?_
        refine kv_aload_n C 135 rfl 0 (kdec dk_cX10_load 77 rfl) rfl rfl ?_
        refine kv_bipush C 137 rfl 24 (kdec dk_cX10_load 78 rfl) rfl ?_
        refine kv_callVi (As := [.int 24]) (rest := [.ref (ρ 61)]) C 140 rfl 61 (k_x_tapeWord24 l D τ ρ σ w105  I107 ) rfl rfl mml_TaleMachineModel_98 mim_yX10_tapeWord mse_yX10_tapeWord mcd_yX10_tapeWord min_yX10_tapeWord hd_yX10_tapeWord rfl rfl rfl (by decide) rfl (Nat.le_of_ble_eq_true rfl) (kdec dk_cX10_load 79 rfl) (fun x113 w109 h110 => ?_)
        obtain ⟨I111, f112, p114⟩ := h110
        have F115 : kF [(61, some 2), (61, some 3), (61, some 6), (61, some 7), (61, some 8), (61, some 9), (61, some 10), (61, some 11), (61, some 12), (61, some 13), (61, some 14), (61, some 16), (61, some 17), (61, some 19), (61, some 20), (61, some 31), (64, none), (65, none), (67, none), (68, none), (69, none), (70, none), (74, none)] w w109 := kF_call F108 f112 (by decide)
        have g116 := kf_rng x113
        obtain ⟨x117, e118⟩ : ∃ z : Int32, w 63 24 = z := ⟨_, rfl⟩
        have b119 : (0 : Int) ≤ x117.toInt ∧ x117.toInt ≤ 255 := by rw [← e118]; exact hI 63 24
        have e120 : w105 63 24 = x117 := ((kup_ne u106 rfl : w105 63 24 = w89 63 24).trans ((f92 63 24 rfl : w89 63 24 = w85 63 24).trans ((kup_ne u86 rfl : w85 63 24 = w69 63 24).trans ((f72 63 24 rfl : w69 63 24 = w65 63 24).trans ((kup_ne u66 rfl : w65 63 24 = w49 63 24).trans ((f52 63 24 rfl : w49 63 24 = w45 63 24).trans ((kup_ne u46 rfl : w45 63 24 = w35 63 24).trans ((f38 63 24 rfl : w35 63 24 = w_70 63 24).trans ((F_70 63 24 rfl : w_70 63 24 = w 63 24).trans e118)))))))))
        obtain ⟨x121, e122⟩ : ∃ z : Int32, w 63 25 = z := ⟨_, rfl⟩
        have b123 : (0 : Int) ≤ x121.toInt ∧ x121.toInt ≤ 255 := by rw [← e122]; exact hI 63 25
        have e124 : w105 63 25 = x121 := ((kup_ne u106 rfl : w105 63 25 = w89 63 25).trans ((f92 63 25 rfl : w89 63 25 = w85 63 25).trans ((kup_ne u86 rfl : w85 63 25 = w69 63 25).trans ((f72 63 25 rfl : w69 63 25 = w65 63 25).trans ((kup_ne u66 rfl : w65 63 25 = w49 63 25).trans ((f52 63 25 rfl : w49 63 25 = w45 63 25).trans ((kup_ne u46 rfl : w45 63 25 = w35 63 25).trans ((f38 63 25 rfl : w35 63 25 = w_70 63 25).trans ((F_70 63 25 rfl : w_70 63 25 = w 63 25).trans e122)))))))))
        rw [e120, e124] at p114
        refine kv_put C 143 rfl 61 11 rfl rfl inX10 (by decide) mfl_TaleMachineModel_130 rfl tyX10 tyX10_ok nmX10 rfl rfl (kdec dk_cX10_load 80 rfl) rfl rfl (fun w125 u126 => ?_)
        have I127 : kI false w125 := kI_put u126 I111 (show (0 : Int) ≤ (x113 : Int32).toInt by omega) (show (x113 : Int32).toInt ≤ 65535 by omega)
        have F128 : kF [(61, some 2), (61, some 3), (61, some 6), (61, some 7), (61, some 8), (61, some 9), (61, some 10), (61, some 11), (61, some 12), (61, some 13), (61, some 14), (61, some 16), (61, some 17), (61, some 19), (61, some 20), (61, some 31), (64, none), (65, none), (67, none), (68, none), (69, none), (70, none), (74, none)] w w125 := kF_put u126 F115 rfl
        refine kv_aload_n C 144 rfl 0 (kdec dk_cX10_load 81 rfl) rfl rfl ?_
        refine kv_callVv (As := []) (rest := []) C 147 rfl 61 (k_x_begins l D τ ρ σ w125  I127 ) rfl rfl mml_TaleMachineModel_133 mim_yX10_begins mse_yX10_begins mcd_yX10_begins min_yX10_begins hd_yX10_begins rfl rfl rfl (by decide) rfl (Nat.le_of_ble_eq_true rfl) (kdec dk_cX10_load 82 rfl) (fun w129 h130 => ?_)
        obtain ⟨I131, f132, p134, p135, p136, M137⟩ := h130
        have F138 : kF [(61, some 2), (61, some 3), (61, some 6), (61, some 7), (61, some 8), (61, some 9), (61, some 10), (61, some 11), (61, some 12), (61, some 13), (61, some 14), (61, some 16), (61, some 17), (61, some 19), (61, some 20), (61, some 31), (64, none), (65, none), (67, none), (68, none), (69, none), (70, none), (74, none)] w w129 := kF_call F128 f132 (by decide)
        obtain ⟨x139, e140⟩ : ∃ z : Int32, w129 61 20 = z := ⟨_, rfl⟩
        have b141 : (0 : Int) ≤ x139.toInt ∧ x139.toInt ≤ 20 := by rw [← e140]; exact I131 61 20
        have r142 := kMoT_fr M137
        rw [e140] at r142
        obtain ⟨x143, e144⟩ : ∃ z : Int32, w129 61 12 = z := ⟨_, rfl⟩
        have b145 : (0 : Int) ≤ x143.toInt ∧ x143.toInt ≤ 4 := by rw [← e144]; exact I131 61 12
        rw [e144] at p134
        obtain ⟨x146, e147⟩ : ∃ z : Int32, w129 61 31 = z := ⟨_, rfl⟩
        have b148 : (0 : Int) ≤ x146.toInt ∧ x146.toInt ≤ 2147483647 := by rw [← e147]; exact I131 61 31
        rw [e147] at p135
        obtain ⟨x149, e150⟩ : ∃ z : Int32, w129 61 13 = z := ⟨_, rfl⟩
        have b151 : (0 : Int) ≤ x149.toInt ∧ x149.toInt ≤ 13 := by rw [← e150]; exact I131 61 13
        rw [e150] at p136
        refine kv_iconst C 148 rfl 0 (kdec dk_cX10_load 83 rfl) rfl ?_
        have e152 : w129 61 2 = x13 := ((f132 61 2 rfl : w129 61 2 = w125 61 2).trans ((kup_ne u126 rfl : w125 61 2 = w109 61 2).trans ((f112 61 2 rfl : w109 61 2 = w105 61 2).trans ((kup_ne u106 rfl : w105 61 2 = w89 61 2).trans ((f92 61 2 rfl : w89 61 2 = w85 61 2).trans ((kup_ne u86 rfl : w85 61 2 = w69 61 2).trans ((f72 61 2 rfl : w69 61 2 = w65 61 2).trans ((kup_ne u66 rfl : w65 61 2 = w49 61 2).trans ((f52 61 2 rfl : w49 61 2 = w45 61 2).trans ((kup_ne u46 rfl : w45 61 2 = w35 61 2).trans ((f38 61 2 rfl : w35 61 2 = w_70 61 2).trans e14)))))))))))
        have e153 : w129 74 0 = x22 := ((f132 74 0 rfl : w129 74 0 = w125 74 0).trans ((kup_ne u126 rfl : w125 74 0 = w109 74 0).trans ((f112 74 0 rfl : w109 74 0 = w105 74 0).trans ((kup_ne u106 rfl : w105 74 0 = w89 74 0).trans ((f92 74 0 rfl : w89 74 0 = w85 74 0).trans ((kup_ne u86 rfl : w85 74 0 = w69 74 0).trans ((f72 74 0 rfl : w69 74 0 = w65 74 0).trans ((kup_ne u66 rfl : w65 74 0 = w49 74 0).trans ((f52 74 0 rfl : w49 74 0 = w45 74 0).trans ((kup_ne u46 rfl : w45 74 0 = w35 74 0).trans ((f38 74 0 rfl : w35 74 0 = w_70 74 0).trans e23)))))))))))
        have e154 : w129 74 1 = x25 := ((f132 74 1 rfl : w129 74 1 = w125 74 1).trans ((kup_ne u126 rfl : w125 74 1 = w109 74 1).trans ((f112 74 1 rfl : w109 74 1 = w105 74 1).trans ((kup_ne u106 rfl : w105 74 1 = w89 74 1).trans ((f92 74 1 rfl : w89 74 1 = w85 74 1).trans ((kup_ne u86 rfl : w85 74 1 = w69 74 1).trans ((f72 74 1 rfl : w69 74 1 = w65 74 1).trans ((kup_ne u66 rfl : w65 74 1 = w49 74 1).trans ((f52 74 1 rfl : w49 74 1 = w45 74 1).trans ((kup_ne u46 rfl : w45 74 1 = w35 74 1).trans ((f38 74 1 rfl : w35 74 1 = w_70 74 1).trans e26)))))))))))
        have e155 : w129 74 2 = x28 := ((f132 74 2 rfl : w129 74 2 = w125 74 2).trans ((kup_ne u126 rfl : w125 74 2 = w109 74 2).trans ((f112 74 2 rfl : w109 74 2 = w105 74 2).trans ((kup_ne u106 rfl : w105 74 2 = w89 74 2).trans ((f92 74 2 rfl : w89 74 2 = w85 74 2).trans ((kup_ne u86 rfl : w85 74 2 = w69 74 2).trans ((f72 74 2 rfl : w69 74 2 = w65 74 2).trans ((kup_ne u66 rfl : w65 74 2 = w49 74 2).trans ((f52 74 2 rfl : w49 74 2 = w45 74 2).trans ((kup_ne u46 rfl : w45 74 2 = w35 74 2).trans ((f38 74 2 rfl : w35 74 2 = w_70 74 2).trans e29)))))))))))
        have e156 : w129 74 3 = x31 := ((f132 74 3 rfl : w129 74 3 = w125 74 3).trans ((kup_ne u126 rfl : w125 74 3 = w109 74 3).trans ((f112 74 3 rfl : w109 74 3 = w105 74 3).trans ((kup_ne u106 rfl : w105 74 3 = w89 74 3).trans ((f92 74 3 rfl : w89 74 3 = w85 74 3).trans ((kup_ne u86 rfl : w85 74 3 = w69 74 3).trans ((f72 74 3 rfl : w69 74 3 = w65 74 3).trans ((kup_ne u66 rfl : w65 74 3 = w49 74 3).trans ((f52 74 3 rfl : w49 74 3 = w45 74 3).trans ((kup_ne u46 rfl : w45 74 3 = w35 74 3).trans ((f38 74 3 rfl : w35 74 3 = w_70 74 3).trans e32)))))))))))
        have e157 : w129 61 3 = x16 := ((f132 61 3 rfl : w129 61 3 = w125 61 3).trans ((kup_ne u126 rfl : w125 61 3 = w109 61 3).trans ((f112 61 3 rfl : w109 61 3 = w105 61 3).trans ((kup_ne u106 rfl : w105 61 3 = w89 61 3).trans ((f92 61 3 rfl : w89 61 3 = w85 61 3).trans ((kup_ne u86 rfl : w85 61 3 = w69 61 3).trans ((f72 61 3 rfl : w69 61 3 = w65 61 3).trans ((kup_ne u66 rfl : w65 61 3 = w49 61 3).trans ((f52 61 3 rfl : w49 61 3 = w45 61 3).trans ((kup_ne u46 rfl : w45 61 3 = w35 61 3).trans ((f38 61 3 rfl : w35 61 3 = w_70 61 3).trans e17)))))))))))
        exact kv_iret C hr hlk (kdec dk_cX10_load 84 rfl) ⟨_, rfl, I131, F138, (by rw [e152]; try omega), (by rw [e2]; try omega), (by rw [e153, e154, e155, e156]; try omega), (by rw [e11, e147]; try omega), (Or.inr M137), (by rw [R70_Ft, e157]; omega)⟩
      · skip
        refine kv_aload_n C 76 rfl 0 (kdec dk_cX10_load 46 rfl) rfl rfl ?_
        refine kv_getr C 79 rfl 61 5 rfl rfl inX10 (by decide) mfl_TaleMachineModel_19 rfl rfl (kdec dk_cX10_load 47 rfl) ?_
        refine kv_iload_n C 80 rfl 2 (kdec dk_cX10_load 48 rfl) rfl rfl ?_
        refine kv_aload_n C 81 rfl 0 (kdec dk_cX10_load 49 rfl) rfl rfl ?_
        refine kv_getr C 84 rfl 61 1 rfl rfl inX10 (by decide) mfl_TaleMachineModel_13 rfl rfl (kdec dk_cX10_load 50 rfl) ?_
        refine kv_iload_n C 85 rfl 2 (kdec dk_cX10_load 51 rfl) rfl rfl ?_
        obtain ⟨x158, e159⟩ : ∃ z : Int32, w_70 63 (l3_70 : Int32).toNatClampNeg = z := ⟨_, rfl⟩
        have b160 : (0 : Int) ≤ x158.toInt ∧ x158.toInt ≤ 255 := by rw [← e159]; exact I_70 63 _
        refine kv_iald C 86 rfl 63 rfl (by omega) (by omega) e159 (kdec dk_cX10_load 52 rfl) ?_
        refine kv_iast C 87 rfl 65 rfl (by omega) (by omega) (kdec dk_cX10_load 53 rfl) (fun w161 u162 => ?_)
        have I163 : kI false w161 := kI_put u162 I_70 (show (0 : Int) ≤ (x158 : Int32).toInt by omega) (show (x158 : Int32).toInt ≤ 255 by omega)
        have F164 : kF [(61, some 2), (61, some 3), (61, some 6), (61, some 7), (61, some 8), (61, some 9), (61, some 10), (61, some 11), (61, some 12), (61, some 13), (61, some 14), (61, some 16), (61, some 17), (61, some 19), (61, some 20), (61, some 31), (64, none), (65, none), (67, none), (68, none), (69, none), (70, none), (74, none)] w w161 := kF_put u162 F_70 rfl
        refine kv_iinc C 90 rfl 3 2 [1, 2, 0] (fun v9 => [(0, .ref (ρ 61)), (1, .int l1_70), (3, .int v9)]) (kdec dk_cX10_load 54 rfl) rfl (by decide) (fun _ => rfl) 1 rfl (fun x165 q166 h167e h167 h167l h167u => ?_)
        try have h167n : x165.toInt = l3_70.toInt + 1 := by omega
        clear h167 q166
        refine kv_goto C 70 (kdec dk_cX10_load 55 rfl) (by decide) ?_
        have e168 : w161 61 2 = x13 := ((kup_ne u162 rfl : w161 61 2 = w_70 61 2).trans e14)
        have e169 : w161 61 3 = x16 := ((kup_ne u162 rfl : w161 61 3 = w_70 61 3).trans e17)
        have e170 : w161 61 31 = x19 := ((kup_ne u162 rfl : w161 61 31 = w_70 61 31).trans e20)
        have e171 : w161 74 0 = x22 := ((kup_ne u162 rfl : w161 74 0 = w_70 74 0).trans e23)
        have e172 : w161 74 1 = x25 := ((kup_ne u162 rfl : w161 74 1 = w_70 74 1).trans e26)
        have e173 : w161 74 2 = x28 := ((kup_ne u162 rfl : w161 74 2 = w_70 74 2).trans e29)
        have e174 : w161 74 3 = x31 := ((kup_ne u162 rfl : w161 74 3 = w_70 74 3).trans e32)
        exact ih70 w161 l1_70 x165 I163 F164 (by rw [e2]; try omega) (by rw [e5, e8]; try omega) (by rw [e11, e168, e169, e170]; try omega) (by rw [e171, e172, e173, e174]; try omega) R70_Ft (by omega)
  refine kv_aload_n C 1 rfl 0 (kdec dk_cX10_load 0 rfl) rfl rfl ?_
  obtain ⟨x175, e176⟩ : ∃ z : Int32, w 61 2 = z := ⟨_, rfl⟩
  have b177 : (0 : Int) ≤ x175.toInt ∧ x175.toInt ≤ 1024 := by rw [← e176]; exact hI 61 2
  refine kv_get C 4 rfl 61 2 rfl rfl inX10 (by decide) mfl_TaleMachineModel_86 rfl rfl (kdec dk_cX10_load 1 rfl) e176 ?_
  refine kv_istore_n C 5 rfl 1 [1, 0] [(0, .ref (ρ 61)), (1, .int x175)] (kdec dk_cX10_load 2 rfl) rfl (by decide) rfl ?_
  refine kv_aload_n C 6 rfl 0 (kdec dk_cX10_load 3 rfl) rfl rfl ?_
  refine kv_iload_n C 7 rfl 1 (kdec dk_cX10_load 4 rfl) rfl rfl ?_
  refine kv_callVi (As := [.int x175]) (rest := []) C 10 rfl 61 (k_x_faultOf l D τ ρ σ w x175 hI (by omega)) rfl rfl mml_TaleMachineModel_105 mim_yX10_faultOf mse_yX10_faultOf mcd_yX10_faultOf min_yX10_faultOf hd_yX10_faultOf rfl rfl rfl (by decide) rfl (Nat.le_of_ble_eq_true rfl) (kdec dk_cX10_load 5 rfl) (fun x182 w178 h179 => ?_)
  obtain ⟨I180, f181, p183, p184, p185, R186⟩ := h179
  have F187 : kF [(61, some 2), (61, some 3), (61, some 6), (61, some 7), (61, some 8), (61, some 9), (61, some 10), (61, some 11), (61, some 12), (61, some 13), (61, some 14), (61, some 16), (61, some 17), (61, some 19), (61, some 20), (61, some 31), (64, none), (65, none), (67, none), (68, none), (69, none), (70, none), (74, none)] w w178 := kF_call hF0 f181 (by decide)
  have M188 : ((w178 61 3).toInt = 0 ∧ (w178 61 12).toInt = 0 ∨ kMoT w178) := kMoP_kF f181 hMp rfl rfl rfl rfl (fun _ => rfl)
  have g189 := kf_rng x182
  obtain ⟨x190, e191⟩ : ∃ z : Int32, w 63 14 = z := ⟨_, rfl⟩
  have b192 : (0 : Int) ≤ x190.toInt ∧ x190.toInt ≤ 255 := by rw [← e191]; exact hI 63 14
  obtain ⟨x193, e194⟩ : ∃ z : Int32, w 63 15 = z := ⟨_, rfl⟩
  have b195 : (0 : Int) ≤ x193.toInt ∧ x193.toInt ≤ 255 := by rw [← e194]; exact hI 63 15
  rw [e191, e194] at p185
  refine kv_istore_n C 11 rfl 2 [1, 2, 0] [(0, .ref (ρ 61)), (1, .int x175), (2, .int x182)] (kdec dk_cX10_load 6 rfl) rfl (by decide) rfl ?_
  refine kv_aload_n C 12 rfl 0 (kdec dk_cX10_load 7 rfl) rfl rfl ?_
  refine kv_iconst C 13 rfl 0 (kdec dk_cX10_load 8 rfl) rfl ?_
  refine kv_put C 16 rfl 61 2 rfl rfl inX10 (by decide) mfl_TaleMachineModel_86 rfl tyX10 tyX10_ok nmX10 rfl rfl (kdec dk_cX10_load 9 rfl) rfl rfl (fun w196 u197 => ?_)
  have I198 : kI false w196 := kI_put u197 I180 (show (0 : Int) ≤ (0 : Int32).toInt by omega) (show (0 : Int32).toInt ≤ 1024 by omega)
  have F199 : kF [(61, some 2), (61, some 3), (61, some 6), (61, some 7), (61, some 8), (61, some 9), (61, some 10), (61, some 11), (61, some 12), (61, some 13), (61, some 14), (61, some 16), (61, some 17), (61, some 19), (61, some 20), (61, some 31), (64, none), (65, none), (67, none), (68, none), (69, none), (70, none), (74, none)] w w196 := kF_put u197 F187 rfl
  refine kv_aload_n C 17 rfl 0 (kdec dk_cX10_load 10 rfl) rfl rfl ?_
  refine kv_iload_n C 18 rfl 2 (kdec dk_cX10_load 11 rfl) rfl rfl ?_
  refine kv_if_ne C 21 rfl 25 (kdec dk_cX10_load 12 rfl) (by decide) (fun d200 => ?_) (fun d200 => ?_)
  · skip
    refine kv_iconst C 26 rfl 0 (kdec dk_cX10_load 15 rfl) rfl ?_
    refine kv_put C 29 rfl 61 3 rfl rfl inX10 (by decide) mfl_TaleMachineModel_108 rfl tyX10 tyX10_ok nmX10 rfl rfl (kdec dk_cX10_load 16 rfl) (kf_bool (by decide)) rfl (fun w201 u202 => ?_)
    have I203 : kI false w201 := kI_put u202 I198 (show (0 : Int) ≤ (0 : Int32).toInt by omega) (show (0 : Int32).toInt ≤ 1 by omega)
    have F204 : kF [(61, some 2), (61, some 3), (61, some 6), (61, some 7), (61, some 8), (61, some 9), (61, some 10), (61, some 11), (61, some 12), (61, some 13), (61, some 14), (61, some 16), (61, some 17), (61, some 19), (61, some 20), (61, some 31), (64, none), (65, none), (67, none), (68, none), (69, none), (70, none), (74, none)] w w201 := kF_put u202 F199 rfl
    refine kv_aload_n C 30 rfl 0 (kdec dk_cX10_load 17 rfl) rfl rfl ?_
    refine kv_iconst C 31 rfl 0 (kdec dk_cX10_load 18 rfl) rfl ?_
    refine kv_put C 34 rfl 61 12 rfl rfl inX10 (by decide) mfl_TaleMachineModel_112 rfl tyX10 tyX10_ok nmX10 rfl rfl (kdec dk_cX10_load 19 rfl) rfl rfl (fun w205 u206 => ?_)
    have I207 : kI false w205 := kI_put u206 I203 (show (0 : Int) ≤ (0 : Int32).toInt by omega) (show (0 : Int32).toInt ≤ 4 by omega)
    have F208 : kF [(61, some 2), (61, some 3), (61, some 6), (61, some 7), (61, some 8), (61, some 9), (61, some 10), (61, some 11), (61, some 12), (61, some 13), (61, some 14), (61, some 16), (61, some 17), (61, some 19), (61, some 20), (61, some 31), (64, none), (65, none), (67, none), (68, none), (69, none), (70, none), (74, none)] w w205 := kF_put u206 F204 rfl
    refine kv_iconst C 35 rfl 0 (kdec dk_cX10_load 20 rfl) rfl ?_
    refine kv_istore_n C 36 rfl 3 [1, 2, 3, 0] [(0, .ref (ρ 61)), (1, .int x175), (2, .int x182), (3, .int 0)] (kdec dk_cX10_load 21 rfl) rfl (by decide) rfl ?_
    refine kv_iload_n C 37 rfl 3 (kdec dk_cX10_load 22 rfl) rfl rfl ?_
    refine kv_iconst C 38 rfl 4 (kdec dk_cX10_load 23 rfl) rfl ?_
    refine kv_icmp_ge C 41 rfl 54 (kdec dk_cX10_load 24 rfl) (by decide) (fun d209 => ?_) (fun d209 => ?_)
    · exfalso; omega
    · skip
      refine kv_aload_n C 42 rfl 0 (kdec dk_cX10_load 25 rfl) rfl rfl ?_
      refine kv_getr C 45 rfl 61 33 rfl rfl inX10 (by decide) mfl_TaleMachineModel_46 rfl rfl (kdec dk_cX10_load 26 rfl) ?_
      refine kv_iload_n C 46 rfl 3 (kdec dk_cX10_load 27 rfl) rfl rfl ?_
      refine kv_iconst C 47 rfl 0 (kdec dk_cX10_load 28 rfl) rfl ?_
      refine kv_zast C 48 rfl 74 rfl (by omega) (by omega) (kdec dk_cX10_load 29 rfl) (fun w210 u211 => ?_)
      have u211 : w210 = kup w205 74 0 (vp_nar .boolean 0) := u211
      rw [kf_nar (by decide)] at u211
      have I212 : kI false w210 := kI_put u211 I207 (show (0 : Int) ≤ (0 : Int32).toInt by omega) (show (0 : Int32).toInt ≤ 1 by omega)
      have F213 : kF [(61, some 2), (61, some 3), (61, some 6), (61, some 7), (61, some 8), (61, some 9), (61, some 10), (61, some 11), (61, some 12), (61, some 13), (61, some 14), (61, some 16), (61, some 17), (61, some 19), (61, some 20), (61, some 31), (64, none), (65, none), (67, none), (68, none), (69, none), (70, none), (74, none)] w w210 := kF_put u211 F208 rfl
      refine kv_iinc C 51 rfl 3 3 [1, 2, 3, 0] (fun v9 => [(0, .ref (ρ 61)), (1, .int x175), (2, .int x182), (3, .int v9)]) (kdec dk_cX10_load 30 rfl) rfl (by decide) (fun _ => rfl) 1 rfl (fun x214 q215 h216e h216 h216l h216u => ?_)
      try have h216n : x214.toInt = (0 : Int32).toInt + 1 := by omega
      clear h216 q215
      obtain rfl : x214 = 1 := by rw [h216e]; decide
      refine kv_goto C 36 (kdec dk_cX10_load 31 rfl) (by decide) ?_
      refine kv_iload_n C 37 rfl 3 (kdec dk_cX10_load 22 rfl) rfl rfl ?_
      refine kv_iconst C 38 rfl 4 (kdec dk_cX10_load 23 rfl) rfl ?_
      refine kv_icmp_ge C 41 rfl 54 (kdec dk_cX10_load 24 rfl) (by decide) (fun d217 => ?_) (fun d217 => ?_)
      · exfalso; omega
      · skip
        refine kv_aload_n C 42 rfl 0 (kdec dk_cX10_load 25 rfl) rfl rfl ?_
        refine kv_getr C 45 rfl 61 33 rfl rfl inX10 (by decide) mfl_TaleMachineModel_46 rfl rfl (kdec dk_cX10_load 26 rfl) ?_
        refine kv_iload_n C 46 rfl 3 (kdec dk_cX10_load 27 rfl) rfl rfl ?_
        refine kv_iconst C 47 rfl 0 (kdec dk_cX10_load 28 rfl) rfl ?_
        refine kv_zast C 48 rfl 74 rfl (by omega) (by omega) (kdec dk_cX10_load 29 rfl) (fun w218 u219 => ?_)
        have u219 : w218 = kup w210 74 1 (vp_nar .boolean 0) := u219
        rw [kf_nar (by decide)] at u219
        have I220 : kI false w218 := kI_put u219 I212 (show (0 : Int) ≤ (0 : Int32).toInt by omega) (show (0 : Int32).toInt ≤ 1 by omega)
        have F221 : kF [(61, some 2), (61, some 3), (61, some 6), (61, some 7), (61, some 8), (61, some 9), (61, some 10), (61, some 11), (61, some 12), (61, some 13), (61, some 14), (61, some 16), (61, some 17), (61, some 19), (61, some 20), (61, some 31), (64, none), (65, none), (67, none), (68, none), (69, none), (70, none), (74, none)] w w218 := kF_put u219 F213 rfl
        refine kv_iinc C 51 rfl 3 3 [1, 2, 3, 0] (fun v9 => [(0, .ref (ρ 61)), (1, .int x175), (2, .int x182), (3, .int v9)]) (kdec dk_cX10_load 30 rfl) rfl (by decide) (fun _ => rfl) 1 rfl (fun x222 q223 h224e h224 h224l h224u => ?_)
        try have h224n : x222.toInt = (1 : Int32).toInt + 1 := by omega
        clear h224 q223
        obtain rfl : x222 = 2 := by rw [h224e]; decide
        refine kv_goto C 36 (kdec dk_cX10_load 31 rfl) (by decide) ?_
        refine kv_iload_n C 37 rfl 3 (kdec dk_cX10_load 22 rfl) rfl rfl ?_
        refine kv_iconst C 38 rfl 4 (kdec dk_cX10_load 23 rfl) rfl ?_
        refine kv_icmp_ge C 41 rfl 54 (kdec dk_cX10_load 24 rfl) (by decide) (fun d225 => ?_) (fun d225 => ?_)
        · exfalso; omega
        · skip
          refine kv_aload_n C 42 rfl 0 (kdec dk_cX10_load 25 rfl) rfl rfl ?_
          refine kv_getr C 45 rfl 61 33 rfl rfl inX10 (by decide) mfl_TaleMachineModel_46 rfl rfl (kdec dk_cX10_load 26 rfl) ?_
          refine kv_iload_n C 46 rfl 3 (kdec dk_cX10_load 27 rfl) rfl rfl ?_
          refine kv_iconst C 47 rfl 0 (kdec dk_cX10_load 28 rfl) rfl ?_
          refine kv_zast C 48 rfl 74 rfl (by omega) (by omega) (kdec dk_cX10_load 29 rfl) (fun w226 u227 => ?_)
          have u227 : w226 = kup w218 74 2 (vp_nar .boolean 0) := u227
          rw [kf_nar (by decide)] at u227
          have I228 : kI false w226 := kI_put u227 I220 (show (0 : Int) ≤ (0 : Int32).toInt by omega) (show (0 : Int32).toInt ≤ 1 by omega)
          have F229 : kF [(61, some 2), (61, some 3), (61, some 6), (61, some 7), (61, some 8), (61, some 9), (61, some 10), (61, some 11), (61, some 12), (61, some 13), (61, some 14), (61, some 16), (61, some 17), (61, some 19), (61, some 20), (61, some 31), (64, none), (65, none), (67, none), (68, none), (69, none), (70, none), (74, none)] w w226 := kF_put u227 F221 rfl
          refine kv_iinc C 51 rfl 3 3 [1, 2, 3, 0] (fun v9 => [(0, .ref (ρ 61)), (1, .int x175), (2, .int x182), (3, .int v9)]) (kdec dk_cX10_load 30 rfl) rfl (by decide) (fun _ => rfl) 1 rfl (fun x230 q231 h232e h232 h232l h232u => ?_)
          try have h232n : x230.toInt = (2 : Int32).toInt + 1 := by omega
          clear h232 q231
          obtain rfl : x230 = 3 := by rw [h232e]; decide
          refine kv_goto C 36 (kdec dk_cX10_load 31 rfl) (by decide) ?_
          refine kv_iload_n C 37 rfl 3 (kdec dk_cX10_load 22 rfl) rfl rfl ?_
          refine kv_iconst C 38 rfl 4 (kdec dk_cX10_load 23 rfl) rfl ?_
          refine kv_icmp_ge C 41 rfl 54 (kdec dk_cX10_load 24 rfl) (by decide) (fun d233 => ?_) (fun d233 => ?_)
          · exfalso; omega
          · skip
            refine kv_aload_n C 42 rfl 0 (kdec dk_cX10_load 25 rfl) rfl rfl ?_
            refine kv_getr C 45 rfl 61 33 rfl rfl inX10 (by decide) mfl_TaleMachineModel_46 rfl rfl (kdec dk_cX10_load 26 rfl) ?_
            refine kv_iload_n C 46 rfl 3 (kdec dk_cX10_load 27 rfl) rfl rfl ?_
            refine kv_iconst C 47 rfl 0 (kdec dk_cX10_load 28 rfl) rfl ?_
            refine kv_zast C 48 rfl 74 rfl (by omega) (by omega) (kdec dk_cX10_load 29 rfl) (fun w234 u235 => ?_)
            have u235 : w234 = kup w226 74 3 (vp_nar .boolean 0) := u235
            rw [kf_nar (by decide)] at u235
            have I236 : kI false w234 := kI_put u235 I228 (show (0 : Int) ≤ (0 : Int32).toInt by omega) (show (0 : Int32).toInt ≤ 1 by omega)
            have F237 : kF [(61, some 2), (61, some 3), (61, some 6), (61, some 7), (61, some 8), (61, some 9), (61, some 10), (61, some 11), (61, some 12), (61, some 13), (61, some 14), (61, some 16), (61, some 17), (61, some 19), (61, some 20), (61, some 31), (64, none), (65, none), (67, none), (68, none), (69, none), (70, none), (74, none)] w w234 := kF_put u235 F229 rfl
            refine kv_iinc C 51 rfl 3 3 [1, 2, 3, 0] (fun v9 => [(0, .ref (ρ 61)), (1, .int x175), (2, .int x182), (3, .int v9)]) (kdec dk_cX10_load 30 rfl) rfl (by decide) (fun _ => rfl) 1 rfl (fun x238 q239 h240e h240 h240l h240u => ?_)
            try have h240n : x238.toInt = (3 : Int32).toInt + 1 := by omega
            clear h240 q239
            obtain rfl : x238 = 4 := by rw [h240e]; decide
            refine kv_goto C 36 (kdec dk_cX10_load 31 rfl) (by decide) ?_
            refine kv_iload_n C 37 rfl 3 (kdec dk_cX10_load 22 rfl) rfl rfl ?_
            refine kv_iconst C 38 rfl 4 (kdec dk_cX10_load 23 rfl) rfl ?_
            refine kv_icmp_ge C 41 rfl 54 (kdec dk_cX10_load 24 rfl) (by decide) (fun d241 => ?_) (fun d241 => ?_)
            · skip
              refine kv_iload_n C 55 rfl 2 (kdec dk_cX10_load 32 rfl) rfl rfl ?_
              refine kv_if_le C 58 rfl 63 (kdec dk_cX10_load 33 rfl) (by decide) (fun d242 => ?_) (fun d242 => ?_)
              · skip
                refine kv_aload_n C 64 rfl 0 (kdec dk_cX10_load 38 rfl) rfl rfl ?_
                refine kv_iload_n C 65 rfl 1 (kdec dk_cX10_load 39 rfl) rfl rfl ?_
                refine kv_put C 68 rfl 61 6 rfl rfl inX10 (by decide) mfl_TaleMachineModel_115 rfl tyX10 tyX10_ok nmX10 rfl rfl (kdec dk_cX10_load 40 rfl) rfl rfl (fun w243 u244 => ?_)
                have I245 : kI false w243 := kI_put u244 I236 (show (0 : Int) ≤ (x175 : Int32).toInt by omega) (show (x175 : Int32).toInt ≤ 1024 by omega)
                have F246 : kF [(61, some 2), (61, some 3), (61, some 6), (61, some 7), (61, some 8), (61, some 9), (61, some 10), (61, some 11), (61, some 12), (61, some 13), (61, some 14), (61, some 16), (61, some 17), (61, some 19), (61, some 20), (61, some 31), (64, none), (65, none), (67, none), (68, none), (69, none), (70, none), (74, none)] w w243 := kF_put u244 F237 rfl
                refine kv_iconst C 69 rfl 0 (kdec dk_cX10_load 41 rfl) rfl ?_
                refine kv_istore_n C 70 rfl 3 [1, 2, 3, 0] [(0, .ref (ρ 61)), (1, .int x175), (2, .int x182), (3, .int 0)] (kdec dk_cX10_load 42 rfl) rfl (by decide) rfl ?_
                obtain ⟨x247, e248⟩ : ∃ z : Int32, w 61 31 = z := ⟨_, rfl⟩
                have b249 : (0 : Int) ≤ x247.toInt ∧ x247.toInt ≤ 2147483647 := by rw [← e248]; exact hI 61 31
                have e250 : w243 61 2 = 0 := ((kup_ne u244 rfl : w243 61 2 = w234 61 2).trans ((kup_ne u235 rfl : w234 61 2 = w226 61 2).trans ((kup_ne u227 rfl : w226 61 2 = w218 61 2).trans ((kup_ne u219 rfl : w218 61 2 = w210 61 2).trans ((kup_ne u211 rfl : w210 61 2 = w205 61 2).trans ((kup_ne u206 rfl : w205 61 2 = w201 61 2).trans ((kup_ne u202 rfl : w201 61 2 = w196 61 2).trans (kup_eq u197))))))))
                have e251 : w243 61 3 = 0 := ((kup_ne u244 rfl : w243 61 3 = w234 61 3).trans ((kup_ne u235 rfl : w234 61 3 = w226 61 3).trans ((kup_ne u227 rfl : w226 61 3 = w218 61 3).trans ((kup_ne u219 rfl : w218 61 3 = w210 61 3).trans ((kup_ne u211 rfl : w210 61 3 = w205 61 3).trans ((kup_ne u206 rfl : w205 61 3 = w201 61 3).trans (kup_eq u202)))))))
                have e252 : w243 61 31 = x247 := ((kup_ne u244 rfl : w243 61 31 = w234 61 31).trans ((kup_ne u235 rfl : w234 61 31 = w226 61 31).trans ((kup_ne u227 rfl : w226 61 31 = w218 61 31).trans ((kup_ne u219 rfl : w218 61 31 = w210 61 31).trans ((kup_ne u211 rfl : w210 61 31 = w205 61 31).trans ((kup_ne u206 rfl : w205 61 31 = w201 61 31).trans ((kup_ne u202 rfl : w201 61 31 = w196 61 31).trans ((kup_ne u197 rfl : w196 61 31 = w178 61 31).trans ((f181 61 31 rfl : w178 61 31 = w 61 31).trans e248)))))))))
                have e253 : w243 74 0 = 0 := ((kup_ne u244 rfl : w243 74 0 = w234 74 0).trans ((kup_ne u235 rfl : w234 74 0 = w226 74 0).trans ((kup_ne u227 rfl : w226 74 0 = w218 74 0).trans ((kup_ne u219 rfl : w218 74 0 = w210 74 0).trans (kup_eq u211)))))
                have e254 : w243 74 1 = 0 := ((kup_ne u244 rfl : w243 74 1 = w234 74 1).trans ((kup_ne u235 rfl : w234 74 1 = w226 74 1).trans ((kup_ne u227 rfl : w226 74 1 = w218 74 1).trans (kup_eq u219))))
                have e255 : w243 74 2 = 0 := ((kup_ne u244 rfl : w243 74 2 = w234 74 2).trans ((kup_ne u235 rfl : w234 74 2 = w226 74 2).trans (kup_eq u227)))
                have e256 : w243 74 3 = 0 := ((kup_ne u244 rfl : w243 74 3 = w234 74 3).trans (kup_eq u235))
                refine kV.sub [0, 1, 3] (L' := [(0, .ref (ρ 61)), (1, .int x175), (3, .int 0)]) rfl ?_
                exact cut70 ((((1025 - (0 : Int32).toInt)) : Int).toNat + 1) w243 x175 0 I245 F246 (by rw [e176]; try omega) (by rw [e191, e194]; try omega) (by rw [e248, e250, e251, e252]; try omega) (by rw [e253, e254, e255, e256]; try omega) (by rw [e176, ← R186]; omega) (by omega)
              · skip
                refine kv_bipush C 60 rfl (-10) (kdec dk_cX10_load 34 rfl) rfl ?_
                refine kv_iload_n C 61 rfl 2 (kdec dk_cX10_load 35 rfl) rfl rfl ?_
                refine kv_isub C 62 rfl (kdec dk_cX10_load 36 rfl) (fun x257 q259 h258e h258 h258l h258u => ?_)
                try have h258n : x257.toInt = ((-10) : Int32).toInt - x182.toInt := by omega
                clear h258 q259
                have e260 : w234 61 2 = 0 := ((kup_ne u235 rfl : w234 61 2 = w226 61 2).trans ((kup_ne u227 rfl : w226 61 2 = w218 61 2).trans ((kup_ne u219 rfl : w218 61 2 = w210 61 2).trans ((kup_ne u211 rfl : w210 61 2 = w205 61 2).trans ((kup_ne u206 rfl : w205 61 2 = w201 61 2).trans ((kup_ne u202 rfl : w201 61 2 = w196 61 2).trans (kup_eq u197)))))))
                have e261 : w234 74 0 = 0 := ((kup_ne u235 rfl : w234 74 0 = w226 74 0).trans ((kup_ne u227 rfl : w226 74 0 = w218 74 0).trans ((kup_ne u219 rfl : w218 74 0 = w210 74 0).trans (kup_eq u211))))
                have e262 : w234 74 1 = 0 := ((kup_ne u235 rfl : w234 74 1 = w226 74 1).trans ((kup_ne u227 rfl : w226 74 1 = w218 74 1).trans (kup_eq u219)))
                have e263 : w234 74 2 = 0 := ((kup_ne u235 rfl : w234 74 2 = w226 74 2).trans (kup_eq u227))
                obtain ⟨x264, e265⟩ : ∃ z : Int32, w 61 31 = z := ⟨_, rfl⟩
                have b266 : (0 : Int) ≤ x264.toInt ∧ x264.toInt ≤ 2147483647 := by rw [← e265]; exact hI 61 31
                have e267 : w234 61 31 = x264 := ((kup_ne u235 rfl : w234 61 31 = w226 61 31).trans ((kup_ne u227 rfl : w226 61 31 = w218 61 31).trans ((kup_ne u219 rfl : w218 61 31 = w210 61 31).trans ((kup_ne u211 rfl : w210 61 31 = w205 61 31).trans ((kup_ne u206 rfl : w205 61 31 = w201 61 31).trans ((kup_ne u202 rfl : w201 61 31 = w196 61 31).trans ((kup_ne u197 rfl : w196 61 31 = w178 61 31).trans ((f181 61 31 rfl : w178 61 31 = w 61 31).trans e265))))))))
                have e268 : w234 61 3 = 0 := ((kup_ne u235 rfl : w234 61 3 = w226 61 3).trans ((kup_ne u227 rfl : w226 61 3 = w218 61 3).trans ((kup_ne u219 rfl : w218 61 3 = w210 61 3).trans ((kup_ne u211 rfl : w210 61 3 = w205 61 3).trans ((kup_ne u206 rfl : w205 61 3 = w201 61 3).trans (kup_eq u202))))))
                have e269 : w234 61 12 = 0 := ((kup_ne u235 rfl : w234 61 12 = w226 61 12).trans ((kup_ne u227 rfl : w226 61 12 = w218 61 12).trans ((kup_ne u219 rfl : w218 61 12 = w210 61 12).trans ((kup_ne u211 rfl : w210 61 12 = w205 61 12).trans (kup_eq u206)))))
                exact kv_iret C hr hlk (kdec dk_cX10_load 37 rfl) ⟨_, rfl, I236, F237, (by rw [e260]; try omega), (by rw [e176]; try omega), (by rw [e261, e262, e263, (kup_eq u235)]; try omega), (by rw [e265, e267]; try omega), (Or.inl (by rw [e268, e269]; omega)), (by rw [e176, ← R186, e268]; omega)⟩
            · exfalso; omega
  · skip
    refine kv_iconst C 22 rfl 1 (kdec dk_cX10_load 13 rfl) rfl ?_
    refine kv_goto C 26 (kdec dk_cX10_load 14 rfl) (by decide) ?_
    refine kv_put C 29 rfl 61 3 rfl rfl inX10 (by decide) mfl_TaleMachineModel_108 rfl tyX10 tyX10_ok nmX10 rfl rfl (kdec dk_cX10_load 16 rfl) (kf_bool (by decide)) rfl (fun w270 u271 => ?_)
    have I272 : kI false w270 := kI_put u271 I198 (show (0 : Int) ≤ (1 : Int32).toInt by omega) (show (1 : Int32).toInt ≤ 1 by omega)
    have F273 : kF [(61, some 2), (61, some 3), (61, some 6), (61, some 7), (61, some 8), (61, some 9), (61, some 10), (61, some 11), (61, some 12), (61, some 13), (61, some 14), (61, some 16), (61, some 17), (61, some 19), (61, some 20), (61, some 31), (64, none), (65, none), (67, none), (68, none), (69, none), (70, none), (74, none)] w w270 := kF_put u271 F199 rfl
    refine kv_aload_n C 30 rfl 0 (kdec dk_cX10_load 17 rfl) rfl rfl ?_
    refine kv_iconst C 31 rfl 0 (kdec dk_cX10_load 18 rfl) rfl ?_
    refine kv_put C 34 rfl 61 12 rfl rfl inX10 (by decide) mfl_TaleMachineModel_112 rfl tyX10 tyX10_ok nmX10 rfl rfl (kdec dk_cX10_load 19 rfl) rfl rfl (fun w274 u275 => ?_)
    have I276 : kI false w274 := kI_put u275 I272 (show (0 : Int) ≤ (0 : Int32).toInt by omega) (show (0 : Int32).toInt ≤ 4 by omega)
    have F277 : kF [(61, some 2), (61, some 3), (61, some 6), (61, some 7), (61, some 8), (61, some 9), (61, some 10), (61, some 11), (61, some 12), (61, some 13), (61, some 14), (61, some 16), (61, some 17), (61, some 19), (61, some 20), (61, some 31), (64, none), (65, none), (67, none), (68, none), (69, none), (70, none), (74, none)] w w274 := kF_put u275 F273 rfl
    refine kv_iconst C 35 rfl 0 (kdec dk_cX10_load 20 rfl) rfl ?_
    refine kv_istore_n C 36 rfl 3 [1, 2, 3, 0] [(0, .ref (ρ 61)), (1, .int x175), (2, .int x182), (3, .int 0)] (kdec dk_cX10_load 21 rfl) rfl (by decide) rfl ?_
    refine kv_iload_n C 37 rfl 3 (kdec dk_cX10_load 22 rfl) rfl rfl ?_
    refine kv_iconst C 38 rfl 4 (kdec dk_cX10_load 23 rfl) rfl ?_
    refine kv_icmp_ge C 41 rfl 54 (kdec dk_cX10_load 24 rfl) (by decide) (fun d278 => ?_) (fun d278 => ?_)
    · exfalso; omega
    · skip
      refine kv_aload_n C 42 rfl 0 (kdec dk_cX10_load 25 rfl) rfl rfl ?_
      refine kv_getr C 45 rfl 61 33 rfl rfl inX10 (by decide) mfl_TaleMachineModel_46 rfl rfl (kdec dk_cX10_load 26 rfl) ?_
      refine kv_iload_n C 46 rfl 3 (kdec dk_cX10_load 27 rfl) rfl rfl ?_
      refine kv_iconst C 47 rfl 0 (kdec dk_cX10_load 28 rfl) rfl ?_
      refine kv_zast C 48 rfl 74 rfl (by omega) (by omega) (kdec dk_cX10_load 29 rfl) (fun w279 u280 => ?_)
      have u280 : w279 = kup w274 74 0 (vp_nar .boolean 0) := u280
      rw [kf_nar (by decide)] at u280
      have I281 : kI false w279 := kI_put u280 I276 (show (0 : Int) ≤ (0 : Int32).toInt by omega) (show (0 : Int32).toInt ≤ 1 by omega)
      have F282 : kF [(61, some 2), (61, some 3), (61, some 6), (61, some 7), (61, some 8), (61, some 9), (61, some 10), (61, some 11), (61, some 12), (61, some 13), (61, some 14), (61, some 16), (61, some 17), (61, some 19), (61, some 20), (61, some 31), (64, none), (65, none), (67, none), (68, none), (69, none), (70, none), (74, none)] w w279 := kF_put u280 F277 rfl
      refine kv_iinc C 51 rfl 3 3 [1, 2, 3, 0] (fun v9 => [(0, .ref (ρ 61)), (1, .int x175), (2, .int x182), (3, .int v9)]) (kdec dk_cX10_load 30 rfl) rfl (by decide) (fun _ => rfl) 1 rfl (fun x283 q284 h285e h285 h285l h285u => ?_)
      try have h285n : x283.toInt = (0 : Int32).toInt + 1 := by omega
      clear h285 q284
      obtain rfl : x283 = 1 := by rw [h285e]; decide
      refine kv_goto C 36 (kdec dk_cX10_load 31 rfl) (by decide) ?_
      refine kv_iload_n C 37 rfl 3 (kdec dk_cX10_load 22 rfl) rfl rfl ?_
      refine kv_iconst C 38 rfl 4 (kdec dk_cX10_load 23 rfl) rfl ?_
      refine kv_icmp_ge C 41 rfl 54 (kdec dk_cX10_load 24 rfl) (by decide) (fun d286 => ?_) (fun d286 => ?_)
      · exfalso; omega
      · skip
        refine kv_aload_n C 42 rfl 0 (kdec dk_cX10_load 25 rfl) rfl rfl ?_
        refine kv_getr C 45 rfl 61 33 rfl rfl inX10 (by decide) mfl_TaleMachineModel_46 rfl rfl (kdec dk_cX10_load 26 rfl) ?_
        refine kv_iload_n C 46 rfl 3 (kdec dk_cX10_load 27 rfl) rfl rfl ?_
        refine kv_iconst C 47 rfl 0 (kdec dk_cX10_load 28 rfl) rfl ?_
        refine kv_zast C 48 rfl 74 rfl (by omega) (by omega) (kdec dk_cX10_load 29 rfl) (fun w287 u288 => ?_)
        have u288 : w287 = kup w279 74 1 (vp_nar .boolean 0) := u288
        rw [kf_nar (by decide)] at u288
        have I289 : kI false w287 := kI_put u288 I281 (show (0 : Int) ≤ (0 : Int32).toInt by omega) (show (0 : Int32).toInt ≤ 1 by omega)
        have F290 : kF [(61, some 2), (61, some 3), (61, some 6), (61, some 7), (61, some 8), (61, some 9), (61, some 10), (61, some 11), (61, some 12), (61, some 13), (61, some 14), (61, some 16), (61, some 17), (61, some 19), (61, some 20), (61, some 31), (64, none), (65, none), (67, none), (68, none), (69, none), (70, none), (74, none)] w w287 := kF_put u288 F282 rfl
        refine kv_iinc C 51 rfl 3 3 [1, 2, 3, 0] (fun v9 => [(0, .ref (ρ 61)), (1, .int x175), (2, .int x182), (3, .int v9)]) (kdec dk_cX10_load 30 rfl) rfl (by decide) (fun _ => rfl) 1 rfl (fun x291 q292 h293e h293 h293l h293u => ?_)
        try have h293n : x291.toInt = (1 : Int32).toInt + 1 := by omega
        clear h293 q292
        obtain rfl : x291 = 2 := by rw [h293e]; decide
        refine kv_goto C 36 (kdec dk_cX10_load 31 rfl) (by decide) ?_
        refine kv_iload_n C 37 rfl 3 (kdec dk_cX10_load 22 rfl) rfl rfl ?_
        refine kv_iconst C 38 rfl 4 (kdec dk_cX10_load 23 rfl) rfl ?_
        refine kv_icmp_ge C 41 rfl 54 (kdec dk_cX10_load 24 rfl) (by decide) (fun d294 => ?_) (fun d294 => ?_)
        · exfalso; omega
        · skip
          refine kv_aload_n C 42 rfl 0 (kdec dk_cX10_load 25 rfl) rfl rfl ?_
          refine kv_getr C 45 rfl 61 33 rfl rfl inX10 (by decide) mfl_TaleMachineModel_46 rfl rfl (kdec dk_cX10_load 26 rfl) ?_
          refine kv_iload_n C 46 rfl 3 (kdec dk_cX10_load 27 rfl) rfl rfl ?_
          refine kv_iconst C 47 rfl 0 (kdec dk_cX10_load 28 rfl) rfl ?_
          refine kv_zast C 48 rfl 74 rfl (by omega) (by omega) (kdec dk_cX10_load 29 rfl) (fun w295 u296 => ?_)
          have u296 : w295 = kup w287 74 2 (vp_nar .boolean 0) := u296
          rw [kf_nar (by decide)] at u296
          have I297 : kI false w295 := kI_put u296 I289 (show (0 : Int) ≤ (0 : Int32).toInt by omega) (show (0 : Int32).toInt ≤ 1 by omega)
          have F298 : kF [(61, some 2), (61, some 3), (61, some 6), (61, some 7), (61, some 8), (61, some 9), (61, some 10), (61, some 11), (61, some 12), (61, some 13), (61, some 14), (61, some 16), (61, some 17), (61, some 19), (61, some 20), (61, some 31), (64, none), (65, none), (67, none), (68, none), (69, none), (70, none), (74, none)] w w295 := kF_put u296 F290 rfl
          refine kv_iinc C 51 rfl 3 3 [1, 2, 3, 0] (fun v9 => [(0, .ref (ρ 61)), (1, .int x175), (2, .int x182), (3, .int v9)]) (kdec dk_cX10_load 30 rfl) rfl (by decide) (fun _ => rfl) 1 rfl (fun x299 q300 h301e h301 h301l h301u => ?_)
          try have h301n : x299.toInt = (2 : Int32).toInt + 1 := by omega
          clear h301 q300
          obtain rfl : x299 = 3 := by rw [h301e]; decide
          refine kv_goto C 36 (kdec dk_cX10_load 31 rfl) (by decide) ?_
          refine kv_iload_n C 37 rfl 3 (kdec dk_cX10_load 22 rfl) rfl rfl ?_
          refine kv_iconst C 38 rfl 4 (kdec dk_cX10_load 23 rfl) rfl ?_
          refine kv_icmp_ge C 41 rfl 54 (kdec dk_cX10_load 24 rfl) (by decide) (fun d302 => ?_) (fun d302 => ?_)
          · exfalso; omega
          · skip
            refine kv_aload_n C 42 rfl 0 (kdec dk_cX10_load 25 rfl) rfl rfl ?_
            refine kv_getr C 45 rfl 61 33 rfl rfl inX10 (by decide) mfl_TaleMachineModel_46 rfl rfl (kdec dk_cX10_load 26 rfl) ?_
            refine kv_iload_n C 46 rfl 3 (kdec dk_cX10_load 27 rfl) rfl rfl ?_
            refine kv_iconst C 47 rfl 0 (kdec dk_cX10_load 28 rfl) rfl ?_
            refine kv_zast C 48 rfl 74 rfl (by omega) (by omega) (kdec dk_cX10_load 29 rfl) (fun w303 u304 => ?_)
            have u304 : w303 = kup w295 74 3 (vp_nar .boolean 0) := u304
            rw [kf_nar (by decide)] at u304
            have I305 : kI false w303 := kI_put u304 I297 (show (0 : Int) ≤ (0 : Int32).toInt by omega) (show (0 : Int32).toInt ≤ 1 by omega)
            have F306 : kF [(61, some 2), (61, some 3), (61, some 6), (61, some 7), (61, some 8), (61, some 9), (61, some 10), (61, some 11), (61, some 12), (61, some 13), (61, some 14), (61, some 16), (61, some 17), (61, some 19), (61, some 20), (61, some 31), (64, none), (65, none), (67, none), (68, none), (69, none), (70, none), (74, none)] w w303 := kF_put u304 F298 rfl
            refine kv_iinc C 51 rfl 3 3 [1, 2, 3, 0] (fun v9 => [(0, .ref (ρ 61)), (1, .int x175), (2, .int x182), (3, .int v9)]) (kdec dk_cX10_load 30 rfl) rfl (by decide) (fun _ => rfl) 1 rfl (fun x307 q308 h309e h309 h309l h309u => ?_)
            try have h309n : x307.toInt = (3 : Int32).toInt + 1 := by omega
            clear h309 q308
            obtain rfl : x307 = 4 := by rw [h309e]; decide
            refine kv_goto C 36 (kdec dk_cX10_load 31 rfl) (by decide) ?_
            refine kv_iload_n C 37 rfl 3 (kdec dk_cX10_load 22 rfl) rfl rfl ?_
            refine kv_iconst C 38 rfl 4 (kdec dk_cX10_load 23 rfl) rfl ?_
            refine kv_icmp_ge C 41 rfl 54 (kdec dk_cX10_load 24 rfl) (by decide) (fun d310 => ?_) (fun d310 => ?_)
            · skip
              refine kv_iload_n C 55 rfl 2 (kdec dk_cX10_load 32 rfl) rfl rfl ?_
              refine kv_if_le C 58 rfl 63 (kdec dk_cX10_load 33 rfl) (by decide) (fun d311 => ?_) (fun d311 => ?_)
              · skip
                refine kv_aload_n C 64 rfl 0 (kdec dk_cX10_load 38 rfl) rfl rfl ?_
                refine kv_iload_n C 65 rfl 1 (kdec dk_cX10_load 39 rfl) rfl rfl ?_
                refine kv_put C 68 rfl 61 6 rfl rfl inX10 (by decide) mfl_TaleMachineModel_115 rfl tyX10 tyX10_ok nmX10 rfl rfl (kdec dk_cX10_load 40 rfl) rfl rfl (fun w312 u313 => ?_)
                have I314 : kI false w312 := kI_put u313 I305 (show (0 : Int) ≤ (x175 : Int32).toInt by omega) (show (x175 : Int32).toInt ≤ 1024 by omega)
                have F315 : kF [(61, some 2), (61, some 3), (61, some 6), (61, some 7), (61, some 8), (61, some 9), (61, some 10), (61, some 11), (61, some 12), (61, some 13), (61, some 14), (61, some 16), (61, some 17), (61, some 19), (61, some 20), (61, some 31), (64, none), (65, none), (67, none), (68, none), (69, none), (70, none), (74, none)] w w312 := kF_put u313 F306 rfl
                refine kv_iconst C 69 rfl 0 (kdec dk_cX10_load 41 rfl) rfl ?_
                refine kv_istore_n C 70 rfl 3 [1, 2, 3, 0] [(0, .ref (ρ 61)), (1, .int x175), (2, .int x182), (3, .int 0)] (kdec dk_cX10_load 42 rfl) rfl (by decide) rfl ?_
                obtain ⟨x316, e317⟩ : ∃ z : Int32, w 61 31 = z := ⟨_, rfl⟩
                have b318 : (0 : Int) ≤ x316.toInt ∧ x316.toInt ≤ 2147483647 := by rw [← e317]; exact hI 61 31
                have e319 : w312 61 2 = 0 := ((kup_ne u313 rfl : w312 61 2 = w303 61 2).trans ((kup_ne u304 rfl : w303 61 2 = w295 61 2).trans ((kup_ne u296 rfl : w295 61 2 = w287 61 2).trans ((kup_ne u288 rfl : w287 61 2 = w279 61 2).trans ((kup_ne u280 rfl : w279 61 2 = w274 61 2).trans ((kup_ne u275 rfl : w274 61 2 = w270 61 2).trans ((kup_ne u271 rfl : w270 61 2 = w196 61 2).trans (kup_eq u197))))))))
                have e320 : w312 61 3 = 1 := ((kup_ne u313 rfl : w312 61 3 = w303 61 3).trans ((kup_ne u304 rfl : w303 61 3 = w295 61 3).trans ((kup_ne u296 rfl : w295 61 3 = w287 61 3).trans ((kup_ne u288 rfl : w287 61 3 = w279 61 3).trans ((kup_ne u280 rfl : w279 61 3 = w274 61 3).trans ((kup_ne u275 rfl : w274 61 3 = w270 61 3).trans (kup_eq u271)))))))
                have e321 : w312 61 31 = x316 := ((kup_ne u313 rfl : w312 61 31 = w303 61 31).trans ((kup_ne u304 rfl : w303 61 31 = w295 61 31).trans ((kup_ne u296 rfl : w295 61 31 = w287 61 31).trans ((kup_ne u288 rfl : w287 61 31 = w279 61 31).trans ((kup_ne u280 rfl : w279 61 31 = w274 61 31).trans ((kup_ne u275 rfl : w274 61 31 = w270 61 31).trans ((kup_ne u271 rfl : w270 61 31 = w196 61 31).trans ((kup_ne u197 rfl : w196 61 31 = w178 61 31).trans ((f181 61 31 rfl : w178 61 31 = w 61 31).trans e317)))))))))
                have e322 : w312 74 0 = 0 := ((kup_ne u313 rfl : w312 74 0 = w303 74 0).trans ((kup_ne u304 rfl : w303 74 0 = w295 74 0).trans ((kup_ne u296 rfl : w295 74 0 = w287 74 0).trans ((kup_ne u288 rfl : w287 74 0 = w279 74 0).trans (kup_eq u280)))))
                have e323 : w312 74 1 = 0 := ((kup_ne u313 rfl : w312 74 1 = w303 74 1).trans ((kup_ne u304 rfl : w303 74 1 = w295 74 1).trans ((kup_ne u296 rfl : w295 74 1 = w287 74 1).trans (kup_eq u288))))
                have e324 : w312 74 2 = 0 := ((kup_ne u313 rfl : w312 74 2 = w303 74 2).trans ((kup_ne u304 rfl : w303 74 2 = w295 74 2).trans (kup_eq u296)))
                have e325 : w312 74 3 = 0 := ((kup_ne u313 rfl : w312 74 3 = w303 74 3).trans (kup_eq u304))
                refine kV.sub [0, 1, 3] (L' := [(0, .ref (ρ 61)), (1, .int x175), (3, .int 0)]) rfl ?_
                exact cut70 ((((1025 - (0 : Int32).toInt)) : Int).toNat + 1) w312 x175 0 I314 F315 (by rw [e176]; try omega) (by rw [e191, e194]; try omega) (by rw [e317, e319, e320, e321]; try omega) (by rw [e322, e323, e324, e325]; try omega) (by rw [e176, ← R186]; omega) (by omega)
              · skip
                refine kv_bipush C 60 rfl (-10) (kdec dk_cX10_load 34 rfl) rfl ?_
                refine kv_iload_n C 61 rfl 2 (kdec dk_cX10_load 35 rfl) rfl rfl ?_
                refine kv_isub C 62 rfl (kdec dk_cX10_load 36 rfl) (fun x326 q328 h327e h327 h327l h327u => ?_)
                try have h327n : x326.toInt = ((-10) : Int32).toInt - x182.toInt := by omega
                clear h327 q328
                have e329 : w303 61 2 = 0 := ((kup_ne u304 rfl : w303 61 2 = w295 61 2).trans ((kup_ne u296 rfl : w295 61 2 = w287 61 2).trans ((kup_ne u288 rfl : w287 61 2 = w279 61 2).trans ((kup_ne u280 rfl : w279 61 2 = w274 61 2).trans ((kup_ne u275 rfl : w274 61 2 = w270 61 2).trans ((kup_ne u271 rfl : w270 61 2 = w196 61 2).trans (kup_eq u197)))))))
                have e330 : w303 74 0 = 0 := ((kup_ne u304 rfl : w303 74 0 = w295 74 0).trans ((kup_ne u296 rfl : w295 74 0 = w287 74 0).trans ((kup_ne u288 rfl : w287 74 0 = w279 74 0).trans (kup_eq u280))))
                have e331 : w303 74 1 = 0 := ((kup_ne u304 rfl : w303 74 1 = w295 74 1).trans ((kup_ne u296 rfl : w295 74 1 = w287 74 1).trans (kup_eq u288)))
                have e332 : w303 74 2 = 0 := ((kup_ne u304 rfl : w303 74 2 = w295 74 2).trans (kup_eq u296))
                obtain ⟨x333, e334⟩ : ∃ z : Int32, w 61 31 = z := ⟨_, rfl⟩
                have b335 : (0 : Int) ≤ x333.toInt ∧ x333.toInt ≤ 2147483647 := by rw [← e334]; exact hI 61 31
                have e336 : w303 61 31 = x333 := ((kup_ne u304 rfl : w303 61 31 = w295 61 31).trans ((kup_ne u296 rfl : w295 61 31 = w287 61 31).trans ((kup_ne u288 rfl : w287 61 31 = w279 61 31).trans ((kup_ne u280 rfl : w279 61 31 = w274 61 31).trans ((kup_ne u275 rfl : w274 61 31 = w270 61 31).trans ((kup_ne u271 rfl : w270 61 31 = w196 61 31).trans ((kup_ne u197 rfl : w196 61 31 = w178 61 31).trans ((f181 61 31 rfl : w178 61 31 = w 61 31).trans e334))))))))
                have e337 : w303 61 3 = 1 := ((kup_ne u304 rfl : w303 61 3 = w295 61 3).trans ((kup_ne u296 rfl : w295 61 3 = w287 61 3).trans ((kup_ne u288 rfl : w287 61 3 = w279 61 3).trans ((kup_ne u280 rfl : w279 61 3 = w274 61 3).trans ((kup_ne u275 rfl : w274 61 3 = w270 61 3).trans (kup_eq u271))))))
                have e338 : w303 61 12 = 0 := ((kup_ne u304 rfl : w303 61 12 = w295 61 12).trans ((kup_ne u296 rfl : w295 61 12 = w287 61 12).trans ((kup_ne u288 rfl : w287 61 12 = w279 61 12).trans ((kup_ne u280 rfl : w279 61 12 = w274 61 12).trans (kup_eq u275)))))
                exact kv_iret C hr hlk (kdec dk_cX10_load 37 rfl) ⟨_, rfl, I305, F306, (by rw [e329]; try omega), (by rw [e176]; try omega), (by rw [e330, e331, e332, (kup_eq u304)]; try omega), (by rw [e334, e336]; try omega), (Or.inl (by rw [e337, e338]; omega)), (by rw [e176, ← R186, e337]; omega)⟩
            · exfalso; omega

set_option maxHeartbeats 4000000 in
set_option maxRecDepth 100000 in
theorem k_x_squeeze (l : Launch) (D : va_G) (τ : Nat → ClassId) (ρ σ : Nat → Nat) (w : kw) (a1 : Int32) (hI : kI false w) (hp0 : 0 ≤ a1.toInt ∧ a1.toInt ≤ 3) :
    kM l D τ ρ σ yX10_squeeze cX10_squeeze 7 none { frames := 0, cells := 0, slots := 0, locals := 0 } [.ref (ρ 61), .int a1] w
      (fun o w' => o = none ∧ kI false w' ∧ kF [(79, none), (80, none)] w w') := by
  refine kM_of (own := "TaleMachineModel") rfl (by decide) (Nat.le_of_ble_eq_true rfl) ?_
  intro p e s m args below meth c C hr hlk
  have hF0 : kF [(79, none), (80, none)] w w := kF.rf
  have c_0 : (0 : Int32).toInt = 0 := by decide
  have c_1 : (1 : Int32).toInt = 1 := by decide
  have c_255 : (255 : Int32).toInt = 255 := by decide
  have c_2050 : (2050 : Int32).toInt = 2050 := by decide
  refine kV.L (L' := [(0, .ref (ρ 61)), (1, .int a1)]) rfl ?_
  have g1 := kf_rng a1
  have cut39 : ∀ (n_39 : Nat) (w_39 : kw) (l1_39 l2_39 l3_39 l4_39 : Int32), kI false w_39 → kF [(79, none), (80, none)] w w_39 → (0 ≤ l1_39.toInt ∧ l1_39.toInt ≤ 3) → (0 ≤ l4_39.toInt ∧ l4_39.toInt ≤ l2_39.toInt ∧ l2_39.toInt ≤ 1024) → (0 ≤ l3_39.toInt ∧ l3_39.toInt ≤ 2 * l4_39.toInt) → (l2_39.toInt ≤ 0 ∨ ¬ w 64 (l2_39.toInt - 1).toNat = w 65 (l2_39.toInt - 1).toNat) → ((1025 - l4_39.toInt) : Int) < (n_39 : Int) → kV p l e { frames := 0, cells := 0, slots := 0, locals := 0 } s m args below meth c (kQ below args s D τ ρ (fun o w' => o = none ∧ kI false w' ∧ kF [(79, none), (80, none)] w w')) 7 D τ ρ 39 [(0, .ref (ρ 61)), (1, .int l1_39), (2, .int l2_39), (3, .int l3_39), (4, .int l4_39)] [] w_39 := by
    intro n_39
    induction n_39 with
    | zero => intro w_39 l1_39 l2_39 l3_39 l4_39 I_39 F_39 k39_0 k39_1 k39_2 R39_R hmz; exfalso; omega
    | succ n_39 ih39 =>
      intro w_39 l1_39 l2_39 l3_39 l4_39 I_39 F_39 k39_0 k39_1 k39_2 R39_R hm39
      have gl1_39 := kf_rng l1_39
      have gl2_39 := kf_rng l2_39
      have gl3_39 := kf_rng l3_39
      have gl4_39 := kf_rng l4_39
      have cut90 : ∀ (n_90 : Nat) (w_90 : kw) (l1_90 l2_90 l3_90 l4_90 l6_90 : Int32), kI false w_90 → kF [(79, none), (80, none)] w w_90 → (0 ≤ l1_90.toInt ∧ l1_90.toInt ≤ 3) → (0 ≤ l6_90.toInt ∧ l6_90.toInt ≤ 255) → (l4_39.toInt < l4_90.toInt ∧ 0 ≤ l4_90.toInt ∧ l4_90.toInt ≤ l2_90.toInt - 1 ∧ l2_90.toInt ≤ 1024) → (0 ≤ l3_90.toInt ∧ l3_90.toInt + 1 ≤ 2 * l4_90.toInt) → (l2_90.toInt ≤ 0 ∨ ¬ w 64 (l2_90.toInt - 1).toNat = w 65 (l2_90.toInt - 1).toNat) → ((256 - l6_90.toInt) : Int) < (n_90 : Int) → kV p l e { frames := 0, cells := 0, slots := 0, locals := 0 } s m args below meth c (kQ below args s D τ ρ (fun o w' => o = none ∧ kI false w' ∧ kF [(79, none), (80, none)] w w')) 7 D τ ρ 90 [(0, .ref (ρ 61)), (1, .int l1_90), (2, .int l2_90), (3, .int l3_90), (4, .int l4_90), (6, .int l6_90)] [] w_90 := by
        intro n_90
        induction n_90 with
        | zero => intro w_90 l1_90 l2_90 l3_90 l4_90 l6_90 I_90 F_90 k90_0 k90_1 k90_2 k90_3 R90_R hmz; exfalso; omega
        | succ n_90 ih90 =>
          intro w_90 l1_90 l2_90 l3_90 l4_90 l6_90 I_90 F_90 k90_0 k90_1 k90_2 k90_3 R90_R hm90
          have gl1_90 := kf_rng l1_90
          have gl2_90 := kf_rng l2_90
          have gl3_90 := kf_rng l3_90
          have gl4_90 := kf_rng l4_90
          have gl6_90 := kf_rng l6_90
          refine kv_iload C 92 rfl 5 (kdec dk_cX10_squeeze 52 rfl) rfl ?_
          refine kv_sipush C 95 rfl 255 (kdec dk_cX10_squeeze 53 rfl) rfl ?_
          refine kv_icmp_ge C 98 rfl 124 (kdec dk_cX10_squeeze 54 rfl) (by decide) (fun d2 => ?_) (fun d2 => ?_)
          · skip
            refine kv_aload_n C 125 rfl 0 (kdec dk_cX10_squeeze 67 rfl) rfl rfl ?_
            refine kv_getr C 128 rfl 61 38 rfl rfl inX10 (by decide) mfl_TaleMachineModel_62 rfl rfl (kdec dk_cX10_squeeze 68 rfl) ?_
            refine kv_sipush C 131 rfl 2050 (kdec dk_cX10_squeeze 69 rfl) rfl ?_
            refine kv_iload_n C 132 rfl 1 (kdec dk_cX10_squeeze 70 rfl) rfl rfl ?_
            refine kv_imul C 133 rfl (kdec dk_cX10_squeeze 71 rfl) (fun x3 h4e h4l h4u => ?_)
            obtain ⟨q5, g6⟩ := kf_mul 2050 l1_90
            rw [← h4e, c_2050] at g6
            try have h4n : x3.toInt = 2050 * l1_90.toInt := by omega
            clear g6 q5
            refine kv_iload_n C 134 rfl 3 (kdec dk_cX10_squeeze 72 rfl) rfl rfl ?_
            refine kv_iadd C 135 rfl (kdec dk_cX10_squeeze 73 rfl) (fun x7 q9 h8e h8 h8l h8u => ?_)
            try have h8n : x7.toInt = x3.toInt + l3_90.toInt := by omega
            clear h8 q9
            refine kv_iload C 137 rfl 5 (kdec dk_cX10_squeeze 74 rfl) rfl ?_
            refine kv_iast C 138 rfl 79 rfl (by omega) (by omega) (kdec dk_cX10_squeeze 75 rfl) (fun w10 u11 => ?_)
            have I12 : kI false w10 := kI_put u11 I_90 (kf_rng _).1 (kf_rng _).2
            have F13 : kF [(79, none), (80, none)] w w10 := kF_put u11 F_90 rfl
            refine kv_iinc C 141 rfl 3 3 [1, 2, 3, 0, 4, 5] (fun v9 => [(0, .ref (ρ 61)), (1, .int l1_90), (2, .int l2_90), (3, .int v9), (4, .int l4_90), (6, .int l6_90)]) (kdec dk_cX10_squeeze 76 rfl) rfl (by decide) (fun _ => rfl) 1 rfl (fun x14 q15 h16e h16 h16l h16u => ?_)
            try have h16n : x14.toInt = l3_90.toInt + 1 := by omega
            clear h16 q15
            refine kv_goto C 39 (kdec dk_cX10_squeeze 77 rfl) (by decide) ?_
            refine kV.sub [0, 1, 2, 3, 4] (L' := [(0, .ref (ρ 61)), (1, .int l1_90), (2, .int l2_90), (3, .int x14), (4, .int l4_90)]) rfl ?_
            exact ih39 w10 l1_90 l2_90 x14 l4_90 I12 F13 (by omega) (by omega) (by omega) R90_R (by omega)
          · skip
            refine kv_aload_n C 99 rfl 0 (kdec dk_cX10_squeeze 55 rfl) rfl rfl ?_
            refine kv_getr C 102 rfl 61 4 rfl rfl inX10 (by decide) mfl_TaleMachineModel_16 rfl rfl (kdec dk_cX10_squeeze 56 rfl) ?_
            refine kv_iload C 104 rfl 4 (kdec dk_cX10_squeeze 57 rfl) rfl ?_
            obtain ⟨x17, e18⟩ : ∃ z : Int32, w_90 64 (l4_90 : Int32).toNatClampNeg = z := ⟨_, rfl⟩
            have b19 : (0 : Int) ≤ x17.toInt ∧ x17.toInt ≤ 255 := by rw [← e18]; exact I_90 64 _
            refine kv_iald C 105 rfl 64 rfl (by omega) (by omega) e18 (kdec dk_cX10_squeeze 58 rfl) ?_
            refine kv_aload_n C 106 rfl 0 (kdec dk_cX10_squeeze 59 rfl) rfl rfl ?_
            refine kv_getr C 109 rfl 61 5 rfl rfl inX10 (by decide) mfl_TaleMachineModel_19 rfl rfl (kdec dk_cX10_squeeze 60 rfl) ?_
            refine kv_iload C 111 rfl 4 (kdec dk_cX10_squeeze 61 rfl) rfl ?_
            obtain ⟨x20, e21⟩ : ∃ z : Int32, w_90 65 (l4_90 : Int32).toNatClampNeg = z := ⟨_, rfl⟩
            have b22 : (0 : Int) ≤ x20.toInt ∧ x20.toInt ≤ 255 := by rw [← e21]; exact I_90 65 _
            refine kv_iald C 112 rfl 65 rfl (by omega) (by omega) e21 (kdec dk_cX10_squeeze 62 rfl) ?_
            refine kv_icmp_ne C 115 rfl 124 (kdec dk_cX10_squeeze 63 rfl) (by decide) (fun d23 => ?_) (fun d23 => ?_)
            · skip
              refine kv_aload_n C 125 rfl 0 (kdec dk_cX10_squeeze 67 rfl) rfl rfl ?_
              refine kv_getr C 128 rfl 61 38 rfl rfl inX10 (by decide) mfl_TaleMachineModel_62 rfl rfl (kdec dk_cX10_squeeze 68 rfl) ?_
              refine kv_sipush C 131 rfl 2050 (kdec dk_cX10_squeeze 69 rfl) rfl ?_
              refine kv_iload_n C 132 rfl 1 (kdec dk_cX10_squeeze 70 rfl) rfl rfl ?_
              refine kv_imul C 133 rfl (kdec dk_cX10_squeeze 71 rfl) (fun x24 h25e h25l h25u => ?_)
              obtain ⟨q26, g27⟩ := kf_mul 2050 l1_90
              rw [← h25e, c_2050] at g27
              try have h25n : x24.toInt = 2050 * l1_90.toInt := by omega
              clear g27 q26
              refine kv_iload_n C 134 rfl 3 (kdec dk_cX10_squeeze 72 rfl) rfl rfl ?_
              refine kv_iadd C 135 rfl (kdec dk_cX10_squeeze 73 rfl) (fun x28 q30 h29e h29 h29l h29u => ?_)
              try have h29n : x28.toInt = x24.toInt + l3_90.toInt := by omega
              clear h29 q30
              refine kv_iload C 137 rfl 5 (kdec dk_cX10_squeeze 74 rfl) rfl ?_
              refine kv_iast C 138 rfl 79 rfl (by omega) (by omega) (kdec dk_cX10_squeeze 75 rfl) (fun w31 u32 => ?_)
              have I33 : kI false w31 := kI_put u32 I_90 (kf_rng _).1 (kf_rng _).2
              have F34 : kF [(79, none), (80, none)] w w31 := kF_put u32 F_90 rfl
              refine kv_iinc C 141 rfl 3 3 [1, 2, 3, 0, 4, 5] (fun v9 => [(0, .ref (ρ 61)), (1, .int l1_90), (2, .int l2_90), (3, .int v9), (4, .int l4_90), (6, .int l6_90)]) (kdec dk_cX10_squeeze 76 rfl) rfl (by decide) (fun _ => rfl) 1 rfl (fun x35 q36 h37e h37 h37l h37u => ?_)
              try have h37n : x35.toInt = l3_90.toInt + 1 := by omega
              clear h37 q36
              refine kv_goto C 39 (kdec dk_cX10_squeeze 77 rfl) (by decide) ?_
              refine kV.sub [0, 1, 2, 3, 4] (L' := [(0, .ref (ρ 61)), (1, .int l1_90), (2, .int l2_90), (3, .int x35), (4, .int l4_90)]) rfl ?_
              exact ih39 w31 l1_90 l2_90 x35 l4_90 I33 F34 (by omega) (by omega) (by omega) R90_R (by omega)
            · skip
              have t38 := kSq_use R90_R ((F_90 64 _ rfl).symm.trans e18) ((F_90 65 _ rfl).symm.trans e21) (by omega)
              refine kv_iinc C 118 rfl 6 5 [1, 2, 3, 4, 5, 0] (fun v9 => [(0, .ref (ρ 61)), (1, .int l1_90), (2, .int l2_90), (3, .int l3_90), (4, .int l4_90), (6, .int v9)]) (kdec dk_cX10_squeeze 64 rfl) rfl (by decide) (fun _ => rfl) 1 rfl (fun x39 q40 h41e h41 h41l h41u => ?_)
              try have h41n : x39.toInt = l6_90.toInt + 1 := by omega
              clear h41 q40
              refine kv_iinc C 121 rfl 4 4 [1, 2, 3, 4, 0, 5] (fun v9 => [(0, .ref (ρ 61)), (1, .int l1_90), (2, .int l2_90), (3, .int l3_90), (4, .int v9), (6, .int x39)]) (kdec dk_cX10_squeeze 65 rfl) rfl (by decide) (fun _ => rfl) 1 rfl (fun x42 q43 h44e h44 h44l h44u => ?_)
              try have h44n : x42.toInt = l4_90.toInt + 1 := by omega
              clear h44 q43
              refine kv_goto C 90 (kdec dk_cX10_squeeze 66 rfl) (by decide) ?_
              exact ih90 w_90 l1_90 l2_90 l3_90 x42 x39 I_90 F_90 (by omega) (by omega) (by omega) (by omega) R90_R (by omega)
      refine kv_iload C 41 rfl 4 (kdec dk_cX10_squeeze 24 rfl) rfl ?_
      refine kv_iload_n C 42 rfl 2 (kdec dk_cX10_squeeze 25 rfl) rfl rfl ?_
      refine kv_icmp_ge C 45 rfl 144 (kdec dk_cX10_squeeze 26 rfl) (by decide) (fun d45 => ?_) (fun d45 => ?_)
      · skip
        refine kv_aload_n C 145 rfl 0 (kdec dk_cX10_squeeze 78 rfl) rfl rfl ?_
        refine kv_getr C 148 rfl 61 39 rfl rfl inX10 (by decide) mfl_TaleMachineModel_65 rfl rfl (kdec dk_cX10_squeeze 79 rfl) ?_
        refine kv_iload_n C 149 rfl 1 (kdec dk_cX10_squeeze 80 rfl) rfl rfl ?_
        refine kv_iload_n C 150 rfl 3 (kdec dk_cX10_squeeze 81 rfl) rfl rfl ?_
        refine kv_iast C 151 rfl 80 rfl (by omega) (by omega) (kdec dk_cX10_squeeze 82 rfl) (fun w46 u47 => ?_)
        have I48 : kI false w46 := kI_put u47 I_39 (show (0 : Int) ≤ (l3_39 : Int32).toInt by omega) (show (l3_39 : Int32).toInt ≤ 2050 by omega)
        have F49 : kF [(79, none), (80, none)] w w46 := kF_put u47 F_39 rfl
        exact kv_vret C hr hlk (kdec dk_cX10_squeeze 83 rfl) ⟨rfl, I48, F49⟩
      · skip
        refine kv_aload_n C 46 rfl 0 (kdec dk_cX10_squeeze 27 rfl) rfl rfl ?_
        refine kv_getr C 49 rfl 61 4 rfl rfl inX10 (by decide) mfl_TaleMachineModel_16 rfl rfl (kdec dk_cX10_squeeze 28 rfl) ?_
        refine kv_iload C 51 rfl 4 (kdec dk_cX10_squeeze 29 rfl) rfl ?_
        obtain ⟨x50, e51⟩ : ∃ z : Int32, w_39 64 (l4_39 : Int32).toNatClampNeg = z := ⟨_, rfl⟩
        have b52 : (0 : Int) ≤ x50.toInt ∧ x50.toInt ≤ 255 := by rw [← e51]; exact I_39 64 _
        refine kv_iald C 52 rfl 64 rfl (by omega) (by omega) e51 (kdec dk_cX10_squeeze 30 rfl) ?_
        refine kv_aload_n C 53 rfl 0 (kdec dk_cX10_squeeze 31 rfl) rfl rfl ?_
        refine kv_getr C 56 rfl 61 5 rfl rfl inX10 (by decide) mfl_TaleMachineModel_19 rfl rfl (kdec dk_cX10_squeeze 32 rfl) ?_
        refine kv_iload C 58 rfl 4 (kdec dk_cX10_squeeze 33 rfl) rfl ?_
        obtain ⟨x53, e54⟩ : ∃ z : Int32, w_39 65 (l4_39 : Int32).toNatClampNeg = z := ⟨_, rfl⟩
        have b55 : (0 : Int) ≤ x53.toInt ∧ x53.toInt ≤ 255 := by rw [← e54]; exact I_39 65 _
        refine kv_iald C 59 rfl 65 rfl (by omega) (by omega) e54 (kdec dk_cX10_squeeze 34 rfl) ?_
        refine kv_ixor C 60 rfl (kdec dk_cX10_squeeze 35 rfl) (fun x56 h57e h57l h57u => ?_)
        have g58 := kf_xor255 h57e (by omega) (by omega) (by omega) (by omega)
        refine kv_istore C 62 rfl 5 [1, 2, 3, 4, 5, 0] [(0, .ref (ρ 61)), (1, .int l1_39), (2, .int l2_39), (3, .int l3_39), (4, .int l4_39), (5, .int x56)] (kdec dk_cX10_squeeze 36 rfl) (by decide) rfl ?_
        refine kv_aload_n C 63 rfl 0 (kdec dk_cX10_squeeze 37 rfl) rfl rfl ?_
        refine kv_getr C 66 rfl 61 38 rfl rfl inX10 (by decide) mfl_TaleMachineModel_62 rfl rfl (kdec dk_cX10_squeeze 38 rfl) ?_
        refine kv_sipush C 69 rfl 2050 (kdec dk_cX10_squeeze 39 rfl) rfl ?_
        refine kv_iload_n C 70 rfl 1 (kdec dk_cX10_squeeze 40 rfl) rfl rfl ?_
        refine kv_imul C 71 rfl (kdec dk_cX10_squeeze 41 rfl) (fun x59 h60e h60l h60u => ?_)
        obtain ⟨q61, g62⟩ := kf_mul 2050 l1_39
        rw [← h60e, c_2050] at g62
        try have h60n : x59.toInt = 2050 * l1_39.toInt := by omega
        clear g62 q61
        refine kv_iload_n C 72 rfl 3 (kdec dk_cX10_squeeze 42 rfl) rfl rfl ?_
        refine kv_iadd C 73 rfl (kdec dk_cX10_squeeze 43 rfl) (fun x63 q65 h64e h64 h64l h64u => ?_)
        try have h64n : x63.toInt = x59.toInt + l3_39.toInt := by omega
        clear h64 q65
        refine kv_iload C 75 rfl 5 (kdec dk_cX10_squeeze 44 rfl) rfl ?_
        refine kv_iast C 76 rfl 79 rfl (by omega) (by omega) (kdec dk_cX10_squeeze 45 rfl) (fun w66 u67 => ?_)
        have I68 : kI false w66 := kI_put u67 I_39 (kf_rng _).1 (kf_rng _).2
        have F69 : kF [(79, none), (80, none)] w w66 := kF_put u67 F_39 rfl
        refine kv_iinc C 79 rfl 3 3 [1, 2, 3, 0, 4, 5] (fun v9 => [(0, .ref (ρ 61)), (1, .int l1_39), (2, .int l2_39), (3, .int v9), (4, .int l4_39), (5, .int x56)]) (kdec dk_cX10_squeeze 46 rfl) rfl (by decide) (fun _ => rfl) 1 rfl (fun x70 q71 h72e h72 h72l h72u => ?_)
        try have h72n : x70.toInt = l3_39.toInt + 1 := by omega
        clear h72 q71
        refine kv_iinc C 82 rfl 4 4 [1, 2, 3, 4, 0, 5] (fun v9 => [(0, .ref (ρ 61)), (1, .int l1_39), (2, .int l2_39), (3, .int x70), (4, .int v9), (5, .int x56)]) (kdec dk_cX10_squeeze 47 rfl) rfl (by decide) (fun _ => rfl) 1 rfl (fun x73 q74 h75e h75 h75l h75u => ?_)
        try have h75n : x73.toInt = l4_39.toInt + 1 := by omega
        clear h75 q74
        refine kv_iload C 84 rfl 5 (kdec dk_cX10_squeeze 48 rfl) rfl ?_
        refine kv_if_ne C 87 rfl 141 (kdec dk_cX10_squeeze 49 rfl) (by decide) (fun d76 => ?_) (fun d76 => ?_)
        · skip
          refine kv_goto C 39 (kdec dk_cX10_squeeze 77 rfl) (by decide) ?_
          refine kV.sub [0, 1, 2, 3, 4] (L' := [(0, .ref (ρ 61)), (1, .int l1_39), (2, .int l2_39), (3, .int x70), (4, .int x73)]) rfl ?_
          exact ih39 w66 l1_39 l2_39 x70 x73 I68 F69 (by omega) (by omega) (by omega) R39_R (by omega)
        · skip
          have t77 := kSq_use R39_R ((F_39 64 _ rfl).symm.trans e51) ((F_39 65 _ rfl).symm.trans e54) (kf_xor0 h57e (by omega))
          refine kv_iconst C 88 rfl 0 (kdec dk_cX10_squeeze 50 rfl) rfl ?_
          refine kv_istore C 90 rfl 6 [1, 2, 3, 4, 5, 6, 0] [(0, .ref (ρ 61)), (1, .int l1_39), (2, .int l2_39), (3, .int x70), (4, .int x73), (5, .int x56), (6, .int 0)] (kdec dk_cX10_squeeze 51 rfl) (by decide) rfl ?_
          refine kV.sub [0, 1, 2, 3, 4, 6] (L' := [(0, .ref (ρ 61)), (1, .int l1_39), (2, .int l2_39), (3, .int x70), (4, .int x73), (6, .int 0)]) rfl ?_
          exact cut90 ((((256 - (0 : Int32).toInt)) : Int).toNat + 1) w66 l1_39 l2_39 x70 x73 0 I68 F69 (by omega) (by omega) (by omega) (by omega) R39_R (by omega)
  have cut34 : ∀ (w_34 : kw) (l1_34 l2_34 : Int32), kI false w_34 → kF [(79, none), (80, none)] w w_34 → (0 ≤ l1_34.toInt ∧ l1_34.toInt ≤ 3) → (0 ≤ l2_34.toInt ∧ l2_34.toInt ≤ 1024) → (l2_34.toInt ≤ 0 ∨ ¬ w 64 (l2_34.toInt - 1).toNat = w 65 (l2_34.toInt - 1).toNat) → kV p l e { frames := 0, cells := 0, slots := 0, locals := 0 } s m args below meth c (kQ below args s D τ ρ (fun o w' => o = none ∧ kI false w' ∧ kF [(79, none), (80, none)] w w')) 7 D τ ρ 34 [(0, .ref (ρ 61)), (1, .int l1_34), (2, .int l2_34)] [] w_34 := by
    intro w_34 l1_34 l2_34 I_34 F_34 k34_0 k34_1 R34_R
    have gl1_34 := kf_rng l1_34
    have gl2_34 := kf_rng l2_34
    refine kv_iconst C 35 rfl 0 (kdec dk_cX10_squeeze 20 rfl) rfl ?_
    refine kv_istore_n C 36 rfl 3 [1, 2, 3, 0] [(0, .ref (ρ 61)), (1, .int l1_34), (2, .int l2_34), (3, .int 0)] (kdec dk_cX10_squeeze 21 rfl) rfl (by decide) rfl ?_
    refine kv_iconst C 37 rfl 0 (kdec dk_cX10_squeeze 22 rfl) rfl ?_
    refine kv_istore C 39 rfl 4 [1, 2, 3, 4, 0] [(0, .ref (ρ 61)), (1, .int l1_34), (2, .int l2_34), (3, .int 0), (4, .int 0)] (kdec dk_cX10_squeeze 23 rfl) (by decide) rfl ?_
    exact cut39 ((((1025 - (0 : Int32).toInt)) : Int).toNat + 1) w_34 l1_34 l2_34 0 0 I_34 F_34 (by omega) (by omega) (by omega) R34_R (by omega)
  have cut5 : ∀ (n_5 : Nat) (w_5 : kw) (l1_5 l2_5 : Int32), kI false w_5 → kF [(79, none), (80, none)] w w_5 → (0 ≤ l1_5.toInt ∧ l1_5.toInt ≤ 3) → (0 ≤ l2_5.toInt ∧ l2_5.toInt ≤ 1024) → (l2_5.toInt : Int) < (n_5 : Int) → kV p l e { frames := 0, cells := 0, slots := 0, locals := 0 } s m args below meth c (kQ below args s D τ ρ (fun o w' => o = none ∧ kI false w' ∧ kF [(79, none), (80, none)] w w')) 7 D τ ρ 5 [(0, .ref (ρ 61)), (1, .int l1_5), (2, .int l2_5)] [] w_5 := by
    intro n_5
    induction n_5 with
    | zero => intro w_5 l1_5 l2_5 I_5 F_5 k5_0 k5_1 hmz; exfalso; omega
    | succ n_5 ih5 =>
      intro w_5 l1_5 l2_5 I_5 F_5 k5_0 k5_1 hm5
      have gl1_5 := kf_rng l1_5
      have gl2_5 := kf_rng l2_5
      refine kv_iload_n C 6 rfl 2 (kdec dk_cX10_squeeze 3 rfl) rfl rfl ?_
      refine kv_if_le C 9 rfl 34 (kdec dk_cX10_squeeze 4 rfl) (by decide) (fun d78 => ?_) (fun d78 => ?_)
      · skip
        exact cut34 w_5 l1_5 l2_5 I_5 F_5 (by omega) (by omega) (Or.inl (by omega))
      · skip
        refine kv_aload_n C 10 rfl 0 (kdec dk_cX10_squeeze 5 rfl) rfl rfl ?_
        refine kv_getr C 13 rfl 61 4 rfl rfl inX10 (by decide) mfl_TaleMachineModel_16 rfl rfl (kdec dk_cX10_squeeze 6 rfl) ?_
        refine kv_iload_n C 14 rfl 2 (kdec dk_cX10_squeeze 7 rfl) rfl rfl ?_
        refine kv_iconst C 15 rfl 1 (kdec dk_cX10_squeeze 8 rfl) rfl ?_
        refine kv_isub C 16 rfl (kdec dk_cX10_squeeze 9 rfl) (fun x79 q81 h80e h80 h80l h80u => ?_)
        try have h80n : x79.toInt = l2_5.toInt - (1 : Int32).toInt := by omega
        clear h80 q81
        obtain ⟨x82, e83⟩ : ∃ z : Int32, w_5 64 (x79 : Int32).toNatClampNeg = z := ⟨_, rfl⟩
        have b84 : (0 : Int) ≤ x82.toInt ∧ x82.toInt ≤ 255 := by rw [← e83]; exact I_5 64 _
        refine kv_iald C 17 rfl 64 rfl (by omega) (by omega) e83 (kdec dk_cX10_squeeze 10 rfl) ?_
        refine kv_aload_n C 18 rfl 0 (kdec dk_cX10_squeeze 11 rfl) rfl rfl ?_
        refine kv_getr C 21 rfl 61 5 rfl rfl inX10 (by decide) mfl_TaleMachineModel_19 rfl rfl (kdec dk_cX10_squeeze 12 rfl) ?_
        refine kv_iload_n C 22 rfl 2 (kdec dk_cX10_squeeze 13 rfl) rfl rfl ?_
        refine kv_iconst C 23 rfl 1 (kdec dk_cX10_squeeze 14 rfl) rfl ?_
        refine kv_isub C 24 rfl (kdec dk_cX10_squeeze 15 rfl) (fun x85 q87 h86e h86 h86l h86u => ?_)
        try have h86n : x85.toInt = l2_5.toInt - (1 : Int32).toInt := by omega
        clear h86 q87
        have h86q : x79 = x85 := h80e.trans h86e.symm
        subst h86q
        obtain ⟨x88, e89⟩ : ∃ z : Int32, w_5 65 (x79 : Int32).toNatClampNeg = z := ⟨_, rfl⟩
        have b90 : (0 : Int) ≤ x88.toInt ∧ x88.toInt ≤ 255 := by rw [← e89]; exact I_5 65 _
        refine kv_iald C 25 rfl 65 rfl (by omega) (by omega) e89 (kdec dk_cX10_squeeze 16 rfl) ?_
        refine kv_icmp_ne C 28 rfl 34 (kdec dk_cX10_squeeze 17 rfl) (by decide) (fun d91 => ?_) (fun d91 => ?_)
        · skip
          exact cut34 w_5 l1_5 l2_5 I_5 F_5 (by omega) (by omega) (kSq_R (w := w) (z := x79) (by omega) ((F_5 64 _ rfl).symm.trans e83) ((F_5 65 _ rfl).symm.trans e89) (by omega))
        · skip
          refine kv_iinc C 31 rfl 2 2 [1, 2, 0] (fun v9 => [(0, .ref (ρ 61)), (1, .int l1_5), (2, .int v9)]) (kdec dk_cX10_squeeze 18 rfl) rfl (by decide) (fun _ => rfl) (-1) rfl (fun x92 q93 h94e h94 h94l h94u => ?_)
          try have h94n : x92.toInt = l2_5.toInt + (-1) := by omega
          clear h94 q93
          refine kv_goto C 5 (kdec dk_cX10_squeeze 19 rfl) (by decide) ?_
          exact ih5 w_5 l1_5 x92 I_5 F_5 (by omega) (by omega) (by omega)
  refine kv_aload_n C 1 rfl 0 (kdec dk_cX10_squeeze 0 rfl) rfl rfl ?_
  obtain ⟨x95, e96⟩ : ∃ z : Int32, w 61 7 = z := ⟨_, rfl⟩
  have b97 : (0 : Int) ≤ x95.toInt ∧ x95.toInt ≤ 1024 := by rw [← e96]; exact hI 61 7
  refine kv_get C 4 rfl 61 7 rfl rfl inX10 (by decide) mfl_TaleMachineModel_118 rfl rfl (kdec dk_cX10_squeeze 1 rfl) e96 ?_
  refine kv_istore_n C 5 rfl 2 [1, 2, 0] [(0, .ref (ρ 61)), (1, .int a1), (2, .int x95)] (kdec dk_cX10_squeeze 2 rfl) rfl (by decide) rfl ?_
  exact cut5 ((((x95 : Int32).toInt) : Int).toNat + 1) w a1 x95 hI hF0 (by omega) (by omega) (by omega)

set_option maxHeartbeats 4000000 in
set_option maxRecDepth 100000 in
theorem k_x_save0 (l : Launch) (D : va_G) (τ : Nat → ClassId) (ρ σ : Nat → Nat) (w : kw)  (hI : kI false w) (hMp : ((w 61 3).toInt = 0 ∧ (w 61 12).toInt = 0 ∨ kMoT w)) (hS : kSl w) :
    kM l D τ ρ σ yX10_save cX10_save 5 (some .int) { frames := 1, cells := 0, slots := 0, locals := 36 } [.ref (ρ 61), .int 0] w
      (fun o w' => ∃ r : Int32, o = some (.int r) ∧ kI false w' ∧ kF [(74, none), (75, none), (76, none), (77, none), (78, none), (79, none), (80, none)] w w' ∧ ((w 61 12).toInt = 1 ∨ (w 61 12).toInt = 3 ∨ ((0 : Int32).toInt < 0 ∨ 3 < (0 : Int32).toInt) ∧ r.toInt = -1 ∨ 0 ≤ (0 : Int32).toInt ∧ (0 : Int32).toInt ≤ 3 ∧ r.toInt = -2) ∧ ((w' 61 3).toInt = 0 ∧ (w' 61 12).toInt = 0 ∨ kMoT w') ∧ (kSl w')) := by
  refine kM_of (own := "TaleMachineModel") rfl (by decide) (Nat.le_of_ble_eq_true rfl) ?_
  intro p e s m args below meth c C hr hlk
  have hF0 : kF [(74, none), (75, none), (76, none), (77, none), (78, none), (79, none), (80, none)] w w := kF.rf
  have c_m2 : (-2 : Int32).toInt = -2 := by decide
  have c_m1 : (-1 : Int32).toInt = -1 := by decide
  have c_0 : (0 : Int32).toInt = 0 := by decide
  have c_1 : (1 : Int32).toInt = 1 := by decide
  have c_2 : (2 : Int32).toInt = 2 := by decide
  have c_3 : (3 : Int32).toInt = 3 := by decide
  have c_4 : (4 : Int32).toInt = 4 := by decide
  have c_5 : (5 : Int32).toInt = 5 := by decide
  have c_7 : (7 : Int32).toInt = 7 := by decide
  have c_16 : (16 : Int32).toInt = 16 := by decide
  have c_24 : (24 : Int32).toInt = 24 := by decide
  have c_120 : (120 : Int32).toInt = 120 := by decide
  have c_1024 : (1024 : Int32).toInt = 1024 := by decide
  have c_1920 : (1920 : Int32).toInt = 1920 := by decide
  refine kV.L (L' := [(0, .ref (ρ 61)), (1, .int 0)]) rfl ?_
  have cut109 : ∀ (n_109 : Nat) (w_109 : kw) (l2_109 : Int32), kI false w_109 → kF [(74, none), (75, none), (76, none), (77, none), (78, none), (79, none), (80, none)] w w_109 → (0 ≤ l2_109.toInt ∧ l2_109.toInt ≤ 20) → ((w 61 12).toInt = 1 ∨ (w 61 12).toInt = 3) → kMoT w_109 → (∀ j9 : Nat, w_109 78 j9 = w 78 j9) → (∀ j9 : Nat, j9 ≠ 0 → w_109 74 j9 = w 74 j9) → (∀ j9 : Nat, (j9 < 0 ∨ 0 + 1920 ≤ j9) → w_109 77 j9 = w 77 j9) → (∀ f9 : Nat, (f9 : Int) < l2_109.toInt → kAc 0 w w_109 f9) → ((21 - l2_109.toInt) : Int) < (n_109 : Int) → kV p l e { frames := 1, cells := 0, slots := 0, locals := 36 } s m args below meth c (kQ below args s D τ ρ (fun o w' => ∃ r : Int32, o = some (.int r) ∧ kI false w' ∧ kF [(74, none), (75, none), (76, none), (77, none), (78, none), (79, none), (80, none)] w w' ∧ ((w 61 12).toInt = 1 ∨ (w 61 12).toInt = 3 ∨ ((0 : Int32).toInt < 0 ∨ 3 < (0 : Int32).toInt) ∧ r.toInt = -1 ∨ 0 ≤ (0 : Int32).toInt ∧ (0 : Int32).toInt ≤ 3 ∧ r.toInt = -2) ∧ ((w' 61 3).toInt = 0 ∧ (w' 61 12).toInt = 0 ∨ kMoT w') ∧ (kSl w'))) 5 D τ ρ 109 [(0, .ref (ρ 61)), (1, .int 0), (2, .int l2_109)] [] w_109 := by
    intro n_109
    induction n_109 with
    | zero => intro w_109 l2_109 I_109 F_109 k109_0 k109_1 M_109 R109_E R109_I R109_B R109_A hmz; exfalso; omega
    | succ n_109 ih109 =>
      intro w_109 l2_109 I_109 F_109 k109_0 k109_1 M_109 R109_E R109_I R109_B R109_A hm109
      have gl2_109 := kf_rng l2_109
      obtain ⟨x1, e2⟩ : ∃ z : Int32, w 61 20 = z := ⟨_, rfl⟩
      have b3 : (0 : Int) ≤ x1.toInt ∧ x1.toInt ≤ 20 := by rw [← e2]; exact hI 61 20
      have e4 : w_109 61 20 = x1 := ((F_109 61 20 rfl : w_109 61 20 = w 61 20).trans e2)
      have r5 := kMoT_fr M_109
      rw [e4] at r5
      obtain ⟨x6, e7⟩ : ∃ z : Int32, w 61 12 = z := ⟨_, rfl⟩
      have b8 : (0 : Int) ≤ x6.toInt ∧ x6.toInt ≤ 4 := by rw [← e7]; exact hI 61 12
      rw [e7] at k109_1
      have cut185 : ∀ (n_185 : Nat) (w_185 : kw) (l2_185 l3_185 l4_185 : Int32), kI false w_185 → kF [(74, none), (75, none), (76, none), (77, none), (78, none), (79, none), (80, none)] w w_185 → (0 ≤ l2_185.toInt ∧ l2_185.toInt < 20 ∧ l2_185.toInt = l2_109.toInt ∧ l3_185.toInt = 0 + 24 * l2_185.toInt) → (1 ≤ l4_185.toInt ∧ l4_185.toInt ≤ 16) → ((w 61 12).toInt = 1 ∨ (w 61 12).toInt = 3) → kMoT w_185 → (∀ j9 : Nat, w_185 78 j9 = w 78 j9) → (∀ j9 : Nat, j9 ≠ 0 → w_185 74 j9 = w 74 j9) → (∀ j9 : Nat, (j9 < 0 ∨ 0 + 1920 ≤ j9) → w_185 77 j9 = w 77 j9) → (∀ f9 : Nat, (f9 : Int) ≤ l2_185.toInt → kAc 0 w w_185 f9) → ((17 - l4_185.toInt) : Int) < (n_185 : Int) → kV p l e { frames := 1, cells := 0, slots := 0, locals := 36 } s m args below meth c (kQ below args s D τ ρ (fun o w' => ∃ r : Int32, o = some (.int r) ∧ kI false w' ∧ kF [(74, none), (75, none), (76, none), (77, none), (78, none), (79, none), (80, none)] w w' ∧ ((w 61 12).toInt = 1 ∨ (w 61 12).toInt = 3 ∨ ((0 : Int32).toInt < 0 ∨ 3 < (0 : Int32).toInt) ∧ r.toInt = -1 ∨ 0 ≤ (0 : Int32).toInt ∧ (0 : Int32).toInt ≤ 3 ∧ r.toInt = -2) ∧ ((w' 61 3).toInt = 0 ∧ (w' 61 12).toInt = 0 ∨ kMoT w') ∧ (kSl w'))) 5 D τ ρ 185 [(0, .ref (ρ 61)), (1, .int 0), (2, .int l2_185), (3, .int l3_185), (4, .int l4_185)] [] w_185 := by
        intro n_185
        induction n_185 with
        | zero => intro w_185 l2_185 l3_185 l4_185 I_185 F_185 k185_0 k185_1 k185_2 M_185 R185_E R185_I R185_B R185_A hmz; exfalso; omega
        | succ n_185 ih185 =>
          intro w_185 l2_185 l3_185 l4_185 I_185 F_185 k185_0 k185_1 k185_2 M_185 R185_E R185_I R185_B R185_A hm185
          have gl2_185 := kf_rng l2_185
          have gl3_185 := kf_rng l3_185
          have gl4_185 := kf_rng l4_185
          have e9 : w_185 61 20 = x1 := ((F_185 61 20 rfl : w_185 61 20 = w 61 20).trans e2)
          have r10 := kMoT_fr M_185
          rw [e9] at r10
          rw [e7] at k185_2
          refine kv_iload C 187 rfl 4 (kdec dk_cX10_save 117 rfl) rfl ?_
          refine kv_aload_n C 188 rfl 0 (kdec dk_cX10_save 118 rfl) rfl rfl ?_
          refine kv_getr C 191 rfl 61 24 rfl rfl inX10 (by decide) mfl_TaleMachineModel_34 rfl rfl (kdec dk_cX10_save 119 rfl) ?_
          refine kv_iload_n C 192 rfl 2 (kdec dk_cX10_save 120 rfl) rfl rfl ?_
          obtain ⟨x11, e12⟩ : ∃ z : Int32, w_185 70 (l2_185 : Int32).toNatClampNeg = z := ⟨_, rfl⟩
          have b13 : (0 : Int) ≤ x11.toInt ∧ x11.toInt ≤ 15 := by rw [← e12]; exact I_185 70 _
          refine kv_iald C 193 rfl 70 rfl (by omega) (by omega) e12 (kdec dk_cX10_save 121 rfl) ?_
          refine kv_icmp_gt C 196 rfl 225 (kdec dk_cX10_save 122 rfl) (by decide) (fun d14 => ?_) (fun d14 => ?_)
          · skip
            refine kv_iinc C 228 rfl 2 2 [1, 2, 0, 3, 4] (fun v9 => [(0, .ref (ρ 61)), (1, .int 0), (2, .int v9), (3, .int l3_185), (4, .int l4_185)]) (kdec dk_cX10_save 141 rfl) rfl (by decide) (fun _ => rfl) 1 rfl (fun x15 q16 h17e h17 h17l h17u => ?_)
            try have h17n : x15.toInt = l2_185.toInt + 1 := by omega
            clear h17 q16
            refine kv_goto C 109 (kdec dk_cX10_save 142 rfl) (by decide) ?_
            refine kV.sub [0, 1, 2] (L' := [(0, .ref (ρ 61)), (1, .int 0), (2, .int x15)]) rfl ?_
            exact ih109 w_185 x15 I_185 F_185 (by omega) (by rw [e7]; try omega) M_185 (fun j9 => (rfl).trans (R185_E j9)) (fun j9 hj9 => (rfl).trans (R185_I j9 hj9)) R185_B (fun f9 hf9 => R185_A f9 (by omega)) (by omega)
          · skip
            refine kv_aload_n C 197 rfl 0 (kdec dk_cX10_save 123 rfl) rfl rfl ?_
            refine kv_getr C 200 rfl 61 36 rfl rfl inX10 (by decide) mfl_TaleMachineModel_56 rfl rfl (kdec dk_cX10_save 124 rfl) ?_
            refine kv_iload_n C 201 rfl 3 (kdec dk_cX10_save 125 rfl) rfl rfl ?_
            refine kv_iconst C 202 rfl 4 (kdec dk_cX10_save 126 rfl) rfl ?_
            refine kv_iadd C 203 rfl (kdec dk_cX10_save 127 rfl) (fun x18 q20 h19e h19 h19l h19u => ?_)
            try have h19n : x18.toInt = l3_185.toInt + (4 : Int32).toInt := by omega
            clear h19 q20
            refine kv_iload C 205 rfl 4 (kdec dk_cX10_save 128 rfl) rfl ?_
            refine kv_iadd C 206 rfl (kdec dk_cX10_save 129 rfl) (fun x21 q23 h22e h22 h22l h22u => ?_)
            try have h22n : x21.toInt = x18.toInt + l4_185.toInt := by omega
            clear h22 q23
            refine kv_aload_n C 207 rfl 0 (kdec dk_cX10_save 130 rfl) rfl rfl ?_
            refine kv_getr C 210 rfl 61 25 rfl rfl inX10 (by decide) mfl_TaleMachineModel_37 rfl rfl (kdec dk_cX10_save 131 rfl) ?_
            refine kv_bipush C 212 rfl 16 (kdec dk_cX10_save 132 rfl) rfl ?_
            refine kv_iload_n C 213 rfl 2 (kdec dk_cX10_save 133 rfl) rfl rfl ?_
            refine kv_imul C 214 rfl (kdec dk_cX10_save 134 rfl) (fun x24 h25e h25l h25u => ?_)
            obtain ⟨q26, g27⟩ := kf_mul 16 l2_185
            rw [← h25e, c_16] at g27
            try have h25n : x24.toInt = 16 * l2_185.toInt := by omega
            clear g27 q26
            refine kv_iload C 216 rfl 4 (kdec dk_cX10_save 135 rfl) rfl ?_
            refine kv_iadd C 217 rfl (kdec dk_cX10_save 136 rfl) (fun x28 q30 h29e h29 h29l h29u => ?_)
            try have h29n : x28.toInt = x24.toInt + l4_185.toInt := by omega
            clear h29 q30
            obtain ⟨x31, e32⟩ : ∃ z : Int32, w_185 71 (x28 : Int32).toNatClampNeg = z := ⟨_, rfl⟩
            have b33 : (0 : Int) ≤ x31.toInt ∧ x31.toInt ≤ 65535 := by rw [← e32]; exact I_185 71 _
            refine kv_iald C 218 rfl 71 rfl (by omega) (by omega) e32 (kdec dk_cX10_save 137 rfl) ?_
            refine kv_iast C 219 rfl 77 rfl (by omega) (by omega) (kdec dk_cX10_save 138 rfl) (fun w34 u35 => ?_)
            have I36 : kI false w34 := kI_put u35 I_185 (show (0 : Int) ≤ (x31 : Int32).toInt by omega) (show (x31 : Int32).toInt ≤ 65535 by omega)
            have F37 : kF [(74, none), (75, none), (76, none), (77, none), (78, none), (79, none), (80, none)] w w34 := kF_put u35 F_185 rfl
            have M38 : kMoT w34 := kMoT_put u35 M_185 rfl rfl rfl
            refine kv_iinc C 222 rfl 4 4 [1, 2, 3, 4, 0] (fun v9 => [(0, .ref (ρ 61)), (1, .int 0), (2, .int l2_185), (3, .int l3_185), (4, .int v9)]) (kdec dk_cX10_save 139 rfl) rfl (by decide) (fun _ => rfl) 1 rfl (fun x39 q40 h41e h41 h41l h41u => ?_)
            try have h41n : x39.toInt = l4_185.toInt + 1 := by omega
            clear h41 q40
            refine kv_goto C 185 (kdec dk_cX10_save 140 rfl) (by decide) ?_
            exact ih185 w34 l2_185 l3_185 x39 I36 F37 (by omega) (by omega) (by rw [e7]; try omega) M38 (fun j9 => ((kup_ne u35 rfl : w34 78 j9 = w_185 78 j9)).trans (R185_E j9)) (fun j9 hj9 => ((kup_ne u35 rfl : w34 74 j9 = w_185 74 j9)).trans (R185_I j9 hj9)) (kB_put R185_B u35 (by omega) (by omega)) (kA_keep R185_A u35 (by omega) (i := l4_185) (by omega) (by omega) (by omega)) (by omega)
      refine kv_iload_n C 110 rfl 2 (kdec dk_cX10_save 65 rfl) rfl rfl ?_
      refine kv_aload_n C 111 rfl 0 (kdec dk_cX10_save 66 rfl) rfl rfl ?_
      refine kv_get C 114 rfl 61 20 rfl rfl inX10 (by decide) mfl_TaleMachineModel_139 rfl rfl (kdec dk_cX10_save 67 rfl) e4 ?_
      refine kv_icmp_ge C 117 rfl 231 (kdec dk_cX10_save 68 rfl) (by decide) (fun d42 => ?_) (fun d42 => ?_)
      · skip
        refine kv_aload_n C 232 rfl 0 (kdec dk_cX10_save 143 rfl) rfl rfl ?_
        refine kv_getr C 235 rfl 61 37 rfl rfl inX10 (by decide) mfl_TaleMachineModel_59 rfl rfl (kdec dk_cX10_save 144 rfl) ?_
        refine kv_bipush C 237 rfl 7 (kdec dk_cX10_save 145 rfl) rfl ?_
        refine kv_iload_n C 238 rfl 1 (kdec dk_cX10_save 146 rfl) rfl rfl ?_
        refine kv_imul C 239 rfl (kdec dk_cX10_save 147 rfl) (fun x43 h44e h44l h44u => ?_)
        obtain rfl : x43 = 0 := by rw [h44e]; decide
        refine kv_aload_n C 240 rfl 0 (kdec dk_cX10_save 148 rfl) rfl rfl ?_
        obtain ⟨x45, e46⟩ : ∃ z : Int32, w 61 19 = z := ⟨_, rfl⟩
        have b47 : (0 : Int) ≤ x45.toInt ∧ x45.toInt ≤ 120 := by rw [← e46]; exact hI 61 19
        have e48 : w_109 61 19 = x45 := ((F_109 61 19 rfl : w_109 61 19 = w 61 19).trans e46)
        refine kv_get C 243 rfl 61 19 rfl rfl inX10 (by decide) mfl_TaleMachineModel_136 rfl rfl (kdec dk_cX10_save 149 rfl) e48 ?_
        refine kv_iast C 244 rfl 78 rfl (by omega) (by omega) (kdec dk_cX10_save 150 rfl) (fun w49 u50 => ?_)
        have u50 : w49 = kup w_109 78 0 x45 := u50
        have I51 : kI false w49 := kI_put u50 I_109 (show (0 : Int) ≤ (x45 : Int32).toInt by omega) (show (x45 : Int32).toInt ≤ 65535 by omega)
        have F52 : kF [(74, none), (75, none), (76, none), (77, none), (78, none), (79, none), (80, none)] w w49 := kF_put u50 F_109 rfl
        have M53 : kMoT w49 := kMoT_put u50 M_109 rfl rfl rfl
        refine kv_aload_n C 245 rfl 0 (kdec dk_cX10_save 151 rfl) rfl rfl ?_
        refine kv_getr C 248 rfl 61 37 rfl rfl inX10 (by decide) mfl_TaleMachineModel_59 rfl rfl (kdec dk_cX10_save 152 rfl) ?_
        refine kv_bipush C 250 rfl 7 (kdec dk_cX10_save 153 rfl) rfl ?_
        refine kv_iload_n C 251 rfl 1 (kdec dk_cX10_save 154 rfl) rfl rfl ?_
        refine kv_imul C 252 rfl (kdec dk_cX10_save 155 rfl) (fun x54 h55e h55l h55u => ?_)
        obtain rfl : x54 = 0 := by rw [h55e]; decide
        refine kv_iconst C 253 rfl 1 (kdec dk_cX10_save 156 rfl) rfl ?_
        refine kv_iadd C 254 rfl (kdec dk_cX10_save 157 rfl) (fun x56 q58 h57e h57 h57l h57u => ?_)
        try have h57n : x56.toInt = (0 : Int32).toInt + (1 : Int32).toInt := by omega
        clear h57 q58
        obtain rfl : x56 = 1 := by rw [h57e]; decide
        refine kv_aload_n C 255 rfl 0 (kdec dk_cX10_save 158 rfl) rfl rfl ?_
        have e59 : w49 61 20 = x1 := ((kup_ne u50 rfl : w49 61 20 = w_109 61 20).trans e4)
        refine kv_get C 258 rfl 61 20 rfl rfl inX10 (by decide) mfl_TaleMachineModel_139 rfl rfl (kdec dk_cX10_save 159 rfl) e59 ?_
        refine kv_iast C 259 rfl 78 rfl (by omega) (by omega) (kdec dk_cX10_save 160 rfl) (fun w60 u61 => ?_)
        have u61 : w60 = kup w49 78 1 x1 := u61
        have I62 : kI false w60 := kI_put u61 I51 (show (0 : Int) ≤ (x1 : Int32).toInt by omega) (show (x1 : Int32).toInt ≤ 65535 by omega)
        have F63 : kF [(74, none), (75, none), (76, none), (77, none), (78, none), (79, none), (80, none)] w w60 := kF_put u61 F52 rfl
        have M64 : kMoT w60 := kMoT_put u61 M53 rfl rfl rfl
        refine kv_aload_n C 260 rfl 0 (kdec dk_cX10_save 161 rfl) rfl rfl ?_
        refine kv_getr C 263 rfl 61 37 rfl rfl inX10 (by decide) mfl_TaleMachineModel_59 rfl rfl (kdec dk_cX10_save 162 rfl) ?_
        refine kv_bipush C 265 rfl 7 (kdec dk_cX10_save 163 rfl) rfl ?_
        refine kv_iload_n C 266 rfl 1 (kdec dk_cX10_save 164 rfl) rfl rfl ?_
        refine kv_imul C 267 rfl (kdec dk_cX10_save 165 rfl) (fun x65 h66e h66l h66u => ?_)
        obtain rfl : x65 = 0 := by rw [h66e]; decide
        refine kv_iconst C 268 rfl 2 (kdec dk_cX10_save 166 rfl) rfl ?_
        refine kv_iadd C 269 rfl (kdec dk_cX10_save 167 rfl) (fun x67 q69 h68e h68 h68l h68u => ?_)
        try have h68n : x67.toInt = (0 : Int32).toInt + (2 : Int32).toInt := by omega
        clear h68 q69
        obtain rfl : x67 = 2 := by rw [h68e]; decide
        refine kv_aload_n C 270 rfl 0 (kdec dk_cX10_save 168 rfl) rfl rfl ?_
        obtain ⟨x70, e71⟩ : ∃ z : Int32, w 61 14 = z := ⟨_, rfl⟩
        have b72 : (0 : Int) ≤ x70.toInt ∧ x70.toInt ≤ 65535 := by rw [← e71]; exact hI 61 14
        have e73 : w60 61 14 = x70 := ((kup_ne u61 rfl : w60 61 14 = w49 61 14).trans ((kup_ne u50 rfl : w49 61 14 = w_109 61 14).trans ((F_109 61 14 rfl : w_109 61 14 = w 61 14).trans e71)))
        refine kv_get C 273 rfl 61 14 rfl rfl inX10 (by decide) mfl_TaleMachineModel_142 rfl rfl (kdec dk_cX10_save 169 rfl) e73 ?_
        refine kv_iast C 274 rfl 78 rfl (by omega) (by omega) (kdec dk_cX10_save 170 rfl) (fun w74 u75 => ?_)
        have u75 : w74 = kup w60 78 2 x70 := u75
        have I76 : kI false w74 := kI_put u75 I62 (show (0 : Int) ≤ (x70 : Int32).toInt by omega) (show (x70 : Int32).toInt ≤ 65535 by omega)
        have F77 : kF [(74, none), (75, none), (76, none), (77, none), (78, none), (79, none), (80, none)] w w74 := kF_put u75 F63 rfl
        have M78 : kMoT w74 := kMoT_put u75 M64 rfl rfl rfl
        refine kv_aload_n C 275 rfl 0 (kdec dk_cX10_save 171 rfl) rfl rfl ?_
        refine kv_getr C 278 rfl 61 37 rfl rfl inX10 (by decide) mfl_TaleMachineModel_59 rfl rfl (kdec dk_cX10_save 172 rfl) ?_
        refine kv_bipush C 280 rfl 7 (kdec dk_cX10_save 173 rfl) rfl ?_
        refine kv_iload_n C 281 rfl 1 (kdec dk_cX10_save 174 rfl) rfl rfl ?_
        refine kv_imul C 282 rfl (kdec dk_cX10_save 175 rfl) (fun x79 h80e h80l h80u => ?_)
        obtain rfl : x79 = 0 := by rw [h80e]; decide
        refine kv_iconst C 283 rfl 3 (kdec dk_cX10_save 176 rfl) rfl ?_
        refine kv_iadd C 284 rfl (kdec dk_cX10_save 177 rfl) (fun x81 q83 h82e h82 h82l h82u => ?_)
        try have h82n : x81.toInt = (0 : Int32).toInt + (3 : Int32).toInt := by omega
        clear h82 q83
        obtain rfl : x81 = 3 := by rw [h82e]; decide
        refine kv_aload_n C 285 rfl 0 (kdec dk_cX10_save 178 rfl) rfl rfl ?_
        have e84 : w74 61 12 = x6 := ((kup_ne u75 rfl : w74 61 12 = w60 61 12).trans ((kup_ne u61 rfl : w60 61 12 = w49 61 12).trans ((kup_ne u50 rfl : w49 61 12 = w_109 61 12).trans ((F_109 61 12 rfl : w_109 61 12 = w 61 12).trans e7))))
        refine kv_get C 288 rfl 61 12 rfl rfl inX10 (by decide) mfl_TaleMachineModel_112 rfl rfl (kdec dk_cX10_save 179 rfl) e84 ?_
        refine kv_iast C 289 rfl 78 rfl (by omega) (by omega) (kdec dk_cX10_save 180 rfl) (fun w85 u86 => ?_)
        have u86 : w85 = kup w74 78 3 x6 := u86
        have I87 : kI false w85 := kI_put u86 I76 (show (0 : Int) ≤ (x6 : Int32).toInt by omega) (show (x6 : Int32).toInt ≤ 65535 by omega)
        have F88 : kF [(74, none), (75, none), (76, none), (77, none), (78, none), (79, none), (80, none)] w w85 := kF_put u86 F77 rfl
        have M89 : kMoT w85 := kMoT_put u86 M78 rfl rfl rfl
        refine kv_aload_n C 290 rfl 0 (kdec dk_cX10_save 181 rfl) rfl rfl ?_
        refine kv_getr C 293 rfl 61 37 rfl rfl inX10 (by decide) mfl_TaleMachineModel_59 rfl rfl (kdec dk_cX10_save 182 rfl) ?_
        refine kv_bipush C 295 rfl 7 (kdec dk_cX10_save 183 rfl) rfl ?_
        refine kv_iload_n C 296 rfl 1 (kdec dk_cX10_save 184 rfl) rfl rfl ?_
        refine kv_imul C 297 rfl (kdec dk_cX10_save 185 rfl) (fun x90 h91e h91l h91u => ?_)
        obtain rfl : x90 = 0 := by rw [h91e]; decide
        refine kv_iconst C 298 rfl 4 (kdec dk_cX10_save 186 rfl) rfl ?_
        refine kv_iadd C 299 rfl (kdec dk_cX10_save 187 rfl) (fun x92 q94 h93e h93 h93l h93u => ?_)
        try have h93n : x92.toInt = (0 : Int32).toInt + (4 : Int32).toInt := by omega
        clear h93 q94
        obtain rfl : x92 = 4 := by rw [h93e]; decide
        refine kv_aload_n C 300 rfl 0 (kdec dk_cX10_save 188 rfl) rfl rfl ?_
        obtain ⟨x95, e96⟩ : ∃ z : Int32, w 61 26 = z := ⟨_, rfl⟩
        have b97 : (0 : Int) ≤ x95.toInt ∧ x95.toInt ≤ 65535 := by rw [← e96]; exact hI 61 26
        have e98 : w85 61 26 = x95 := ((kup_ne u86 rfl : w85 61 26 = w74 61 26).trans ((kup_ne u75 rfl : w74 61 26 = w60 61 26).trans ((kup_ne u61 rfl : w60 61 26 = w49 61 26).trans ((kup_ne u50 rfl : w49 61 26 = w_109 61 26).trans ((F_109 61 26 rfl : w_109 61 26 = w 61 26).trans e96)))))
        refine kv_get C 303 rfl 61 26 rfl rfl inX10 (by decide) mfl_TaleMachineModel_323 rfl rfl (kdec dk_cX10_save 189 rfl) e98 ?_
        refine kv_iast C 304 rfl 78 rfl (by omega) (by omega) (kdec dk_cX10_save 190 rfl) (fun w99 u100 => ?_)
        have u100 : w99 = kup w85 78 4 x95 := u100
        have I101 : kI false w99 := kI_put u100 I87 (show (0 : Int) ≤ (x95 : Int32).toInt by omega) (show (x95 : Int32).toInt ≤ 65535 by omega)
        have F102 : kF [(74, none), (75, none), (76, none), (77, none), (78, none), (79, none), (80, none)] w w99 := kF_put u100 F88 rfl
        have M103 : kMoT w99 := kMoT_put u100 M89 rfl rfl rfl
        refine kv_aload_n C 305 rfl 0 (kdec dk_cX10_save 191 rfl) rfl rfl ?_
        refine kv_getr C 308 rfl 61 37 rfl rfl inX10 (by decide) mfl_TaleMachineModel_59 rfl rfl (kdec dk_cX10_save 192 rfl) ?_
        refine kv_bipush C 310 rfl 7 (kdec dk_cX10_save 193 rfl) rfl ?_
        refine kv_iload_n C 311 rfl 1 (kdec dk_cX10_save 194 rfl) rfl rfl ?_
        refine kv_imul C 312 rfl (kdec dk_cX10_save 195 rfl) (fun x104 h105e h105l h105u => ?_)
        obtain rfl : x104 = 0 := by rw [h105e]; decide
        refine kv_iconst C 313 rfl 5 (kdec dk_cX10_save 196 rfl) rfl ?_
        refine kv_iadd C 314 rfl (kdec dk_cX10_save 197 rfl) (fun x106 q108 h107e h107 h107l h107u => ?_)
        try have h107n : x106.toInt = (0 : Int32).toInt + (5 : Int32).toInt := by omega
        clear h107 q108
        obtain rfl : x106 = 5 := by rw [h107e]; decide
        refine kv_aload_n C 315 rfl 0 (kdec dk_cX10_save 198 rfl) rfl rfl ?_
        obtain ⟨x109, e110⟩ : ∃ z : Int32, w 61 27 = z := ⟨_, rfl⟩
        have b111 : (0 : Int) ≤ x109.toInt ∧ x109.toInt ≤ 65535 := by rw [← e110]; exact hI 61 27
        have e112 : w99 61 27 = x109 := ((kup_ne u100 rfl : w99 61 27 = w85 61 27).trans ((kup_ne u86 rfl : w85 61 27 = w74 61 27).trans ((kup_ne u75 rfl : w74 61 27 = w60 61 27).trans ((kup_ne u61 rfl : w60 61 27 = w49 61 27).trans ((kup_ne u50 rfl : w49 61 27 = w_109 61 27).trans ((F_109 61 27 rfl : w_109 61 27 = w 61 27).trans e110))))))
        refine kv_get C 318 rfl 61 27 rfl rfl inX10 (by decide) mfl_TaleMachineModel_326 rfl rfl (kdec dk_cX10_save 199 rfl) e112 ?_
        refine kv_iast C 319 rfl 78 rfl (by omega) (by omega) (kdec dk_cX10_save 200 rfl) (fun w113 u114 => ?_)
        have u114 : w113 = kup w99 78 5 x109 := u114
        have I115 : kI false w113 := kI_put u114 I101 (show (0 : Int) ≤ (x109 : Int32).toInt by omega) (show (x109 : Int32).toInt ≤ 65535 by omega)
        have F116 : kF [(74, none), (75, none), (76, none), (77, none), (78, none), (79, none), (80, none)] w w113 := kF_put u114 F102 rfl
        have M117 : kMoT w113 := kMoT_put u114 M103 rfl rfl rfl
        refine kv_aload_n C 320 rfl 0 (kdec dk_cX10_save 201 rfl) rfl rfl ?_
        refine kv_iload_n C 321 rfl 1 (kdec dk_cX10_save 202 rfl) rfl rfl ?_
        refine kv_callVv (As := [.int 0]) (rest := []) C 324 rfl 61 (k_x_squeeze l D τ ρ σ w113 0 I115 (by omega)) rfl rfl mml_TaleMachineModel_366 mim_yX10_squeeze mse_yX10_squeeze mcd_yX10_squeeze min_yX10_squeeze hd_yX10_squeeze rfl rfl rfl (by decide) rfl (Nat.le_of_ble_eq_true rfl) (kdec dk_cX10_save 203 rfl) (fun w118 h119 => ?_)
        obtain ⟨I120, f121⟩ := h119
        have F123 : kF [(74, none), (75, none), (76, none), (77, none), (78, none), (79, none), (80, none)] w w118 := kF_call F116 f121 (by decide)
        have M124 : kMoT w118 := kMoT_kF f121 M117 rfl rfl (fun _ => rfl)
        refine kv_aload_n C 325 rfl 0 (kdec dk_cX10_save 204 rfl) rfl rfl ?_
        refine kv_getr C 328 rfl 61 39 rfl rfl inX10 (by decide) mfl_TaleMachineModel_65 rfl rfl (kdec dk_cX10_save 205 rfl) ?_
        refine kv_iload_n C 329 rfl 1 (kdec dk_cX10_save 206 rfl) rfl rfl ?_
        obtain ⟨x125, e126⟩ : ∃ z : Int32, w118 80 0 = z := ⟨_, rfl⟩
        have b127 : (0 : Int) ≤ x125.toInt ∧ x125.toInt ≤ 2050 := by rw [← e126]; exact I120 80 0
        refine kv_iald C 330 rfl 80 rfl (by omega) (by omega) (show w118 80 (0 : Int32).toNatClampNeg = x125 from e126) (kdec dk_cX10_save 207 rfl) ?_
        obtain ⟨x128, e129⟩ : ∃ z : Int32, w 61 3 = z := ⟨_, rfl⟩
        have b130 : (0 : Int) ≤ x128.toInt ∧ x128.toInt ≤ 1 := by rw [← e129]; exact hI 61 3
        have e131 : w118 78 0 = x45 := ((f121 78 0 rfl : w118 78 0 = w113 78 0).trans ((kup_ne u114 rfl : w113 78 0 = w99 78 0).trans ((kup_ne u100 rfl : w99 78 0 = w85 78 0).trans ((kup_ne u86 rfl : w85 78 0 = w74 78 0).trans ((kup_ne u75 rfl : w74 78 0 = w60 78 0).trans ((kup_ne u61 rfl : w60 78 0 = w49 78 0).trans (kup_eq u50)))))))
        have e132 : w118 78 1 = x1 := ((f121 78 1 rfl : w118 78 1 = w113 78 1).trans ((kup_ne u114 rfl : w113 78 1 = w99 78 1).trans ((kup_ne u100 rfl : w99 78 1 = w85 78 1).trans ((kup_ne u86 rfl : w85 78 1 = w74 78 1).trans ((kup_ne u75 rfl : w74 78 1 = w60 78 1).trans (kup_eq u61))))))
        have e133 : w118 78 3 = x6 := ((f121 78 3 rfl : w118 78 3 = w113 78 3).trans ((kup_ne u114 rfl : w113 78 3 = w99 78 3).trans ((kup_ne u100 rfl : w99 78 3 = w85 78 3).trans (kup_eq u86))))
        exact kv_iret C hr hlk (kdec dk_cX10_save 208 rfl) ⟨_, rfl, I120, F123, (by rw [e7]; try omega), (Or.inr M124), (kSl_save (k := 0) (by decide) hS (hMp.resolve_left (by rw [e129, e7]; omega)) hI (fun f9 hf9 => kAc_eq (fun j9 => ((f121 77 j9 rfl : w118 77 j9 = w113 77 j9).trans ((kup_ne u114 rfl : w113 77 j9 = w99 77 j9).trans ((kup_ne u100 rfl : w99 77 j9 = w85 77 j9).trans ((kup_ne u86 rfl : w85 77 j9 = w74 77 j9).trans ((kup_ne u75 rfl : w74 77 j9 = w60 77 j9).trans ((kup_ne u61 rfl : w60 77 j9 = w49 77 j9).trans (kup_ne u50 rfl : w49 77 j9 = w_109 77 j9)))))))) (R109_A f9 (by rw [e2] at hf9; omega))) (fun j9 hj9 => (((f121 77 j9 rfl : w118 77 j9 = w113 77 j9).trans ((kup_ne u114 rfl : w113 77 j9 = w99 77 j9).trans ((kup_ne u100 rfl : w99 77 j9 = w85 77 j9).trans ((kup_ne u86 rfl : w85 77 j9 = w74 77 j9).trans ((kup_ne u75 rfl : w74 77 j9 = w60 77 j9).trans ((kup_ne u61 rfl : w60 77 j9 = w49 77 j9).trans (kup_ne u50 rfl : w49 77 j9 = w_109 77 j9)))))))).trans (R109_B j9 hj9)) (fun j9 _ hj9 => (((f121 74 j9 rfl : w118 74 j9 = w113 74 j9).trans ((kup_ne u114 rfl : w113 74 j9 = w99 74 j9).trans ((kup_ne u100 rfl : w99 74 j9 = w85 74 j9).trans ((kup_ne u86 rfl : w85 74 j9 = w74 74 j9).trans ((kup_ne u75 rfl : w74 74 j9 = w60 74 j9).trans ((kup_ne u61 rfl : w60 74 j9 = w49 74 j9).trans (kup_ne u50 rfl : w49 74 j9 = w_109 74 j9)))))))).trans (R109_I j9 hj9)) (e131.trans e46.symm) (e132.trans e2.symm) (show (w118 78 3).toInt ≤ 4 by rw [e133]; omega) (fun j9 hj9 => (((f121 78 j9 rfl : w118 78 j9 = w113 78 j9).trans ((kup_nek u114 (by omega) : w113 78 j9 = w99 78 j9).trans ((kup_nek u100 (by omega) : w99 78 j9 = w85 78 j9).trans ((kup_nek u86 (by omega) : w85 78 j9 = w74 78 j9).trans ((kup_nek u75 (by omega) : w74 78 j9 = w60 78 j9).trans ((kup_nek u61 (by omega) : w60 78 j9 = w49 78 j9).trans (kup_nek u50 (by omega) : w49 78 j9 = w_109 78 j9)))))))).trans (R109_E j9)))⟩
      · skip
        refine kv_sipush C 120 rfl 1920 (kdec dk_cX10_save 69 rfl) rfl ?_
        refine kv_iload_n C 121 rfl 1 (kdec dk_cX10_save 70 rfl) rfl rfl ?_
        refine kv_imul C 122 rfl (kdec dk_cX10_save 71 rfl) (fun x134 h135e h135l h135u => ?_)
        obtain rfl : x134 = 0 := by rw [h135e]; decide
        refine kv_bipush C 124 rfl 24 (kdec dk_cX10_save 72 rfl) rfl ?_
        refine kv_iload_n C 125 rfl 2 (kdec dk_cX10_save 73 rfl) rfl rfl ?_
        refine kv_imul C 126 rfl (kdec dk_cX10_save 74 rfl) (fun x136 h137e h137l h137u => ?_)
        obtain ⟨q138, g139⟩ := kf_mul 24 l2_109
        rw [← h137e, c_24] at g139
        try have h137n : x136.toInt = 24 * l2_109.toInt := by omega
        clear g139 q138
        refine kv_iadd C 127 rfl (kdec dk_cX10_save 75 rfl) (fun x140 q142 h141e h141 h141l h141u => ?_)
        try have h141n : x140.toInt = (0 : Int32).toInt + x136.toInt := by omega
        clear h141 q142
        refine kv_istore_n C 128 rfl 3 [1, 2, 3, 0] [(0, .ref (ρ 61)), (1, .int 0), (2, .int l2_109), (3, .int x140)] (kdec dk_cX10_save 76 rfl) rfl (by decide) rfl ?_
        refine kv_aload_n C 129 rfl 0 (kdec dk_cX10_save 77 rfl) rfl rfl ?_
        refine kv_getr C 132 rfl 61 36 rfl rfl inX10 (by decide) mfl_TaleMachineModel_56 rfl rfl (kdec dk_cX10_save 78 rfl) ?_
        refine kv_iload_n C 133 rfl 3 (kdec dk_cX10_save 79 rfl) rfl rfl ?_
        refine kv_aload_n C 134 rfl 0 (kdec dk_cX10_save 80 rfl) rfl rfl ?_
        refine kv_getr C 137 rfl 61 21 rfl rfl inX10 (by decide) mfl_TaleMachineModel_25 rfl rfl (kdec dk_cX10_save 81 rfl) ?_
        refine kv_iload_n C 138 rfl 2 (kdec dk_cX10_save 82 rfl) rfl rfl ?_
        obtain ⟨x143, e144⟩ : ∃ z : Int32, w_109 67 (l2_109 : Int32).toNatClampNeg = z := ⟨_, rfl⟩
        have b145 : (0 : Int) ≤ x143.toInt ∧ x143.toInt ≤ 120 := by rw [← e144]; exact I_109 67 _
        refine kv_iald C 139 rfl 67 rfl (by omega) (by omega) e144 (kdec dk_cX10_save 83 rfl) ?_
        obtain ⟨x147, e148⟩ : ∃ z : Int32, w 61 19 = z := ⟨_, rfl⟩
        have b149 : (0 : Int) ≤ x147.toInt ∧ x147.toInt ≤ 120 := by rw [← e148]; exact hI 61 19
        have e150 : w_109 61 19 = x147 := ((F_109 61 19 rfl : w_109 61 19 = w 61 19).trans e148)
        try have t146 := kMoT_top M_109 (x := l2_109) (by rw [e4]; omega) e144
        try rw [e150] at t146
        refine kv_iast C 140 rfl 77 rfl (by omega) (by omega) (kdec dk_cX10_save 84 rfl) (fun w151 u152 => ?_)
        have I153 : kI false w151 := kI_put u152 I_109 (show (0 : Int) ≤ (x143 : Int32).toInt by omega) (show (x143 : Int32).toInt ≤ 65535 by omega)
        have F154 : kF [(74, none), (75, none), (76, none), (77, none), (78, none), (79, none), (80, none)] w w151 := kF_put u152 F_109 rfl
        have M155 : kMoT w151 := kMoT_put u152 M_109 rfl rfl rfl
        refine kv_aload_n C 141 rfl 0 (kdec dk_cX10_save 85 rfl) rfl rfl ?_
        refine kv_getr C 144 rfl 61 36 rfl rfl inX10 (by decide) mfl_TaleMachineModel_56 rfl rfl (kdec dk_cX10_save 86 rfl) ?_
        refine kv_iload_n C 145 rfl 3 (kdec dk_cX10_save 87 rfl) rfl rfl ?_
        refine kv_iconst C 146 rfl 1 (kdec dk_cX10_save 88 rfl) rfl ?_
        refine kv_iadd C 147 rfl (kdec dk_cX10_save 89 rfl) (fun x156 q158 h157e h157 h157l h157u => ?_)
        try have h157n : x156.toInt = x140.toInt + (1 : Int32).toInt := by omega
        clear h157 q158
        refine kv_aload_n C 148 rfl 0 (kdec dk_cX10_save 90 rfl) rfl rfl ?_
        refine kv_getr C 151 rfl 61 22 rfl rfl inX10 (by decide) mfl_TaleMachineModel_28 rfl rfl (kdec dk_cX10_save 91 rfl) ?_
        refine kv_iload_n C 152 rfl 2 (kdec dk_cX10_save 92 rfl) rfl rfl ?_
        obtain ⟨x159, e160⟩ : ∃ z : Int32, w151 68 (l2_109 : Int32).toNatClampNeg = z := ⟨_, rfl⟩
        have b161 : (0 : Int) ≤ x159.toInt ∧ x159.toInt ≤ 65535 := by rw [← e160]; exact I153 68 _
        refine kv_iald C 153 rfl 68 rfl (by omega) (by omega) e160 (kdec dk_cX10_save 93 rfl) ?_
        refine kv_iast C 154 rfl 77 rfl (by omega) (by omega) (kdec dk_cX10_save 94 rfl) (fun w162 u163 => ?_)
        have I164 : kI false w162 := kI_put u163 I153 (show (0 : Int) ≤ (x159 : Int32).toInt by omega) (show (x159 : Int32).toInt ≤ 65535 by omega)
        have F165 : kF [(74, none), (75, none), (76, none), (77, none), (78, none), (79, none), (80, none)] w w162 := kF_put u163 F154 rfl
        have M166 : kMoT w162 := kMoT_put u163 M155 rfl rfl rfl
        refine kv_aload_n C 155 rfl 0 (kdec dk_cX10_save 95 rfl) rfl rfl ?_
        refine kv_getr C 158 rfl 61 36 rfl rfl inX10 (by decide) mfl_TaleMachineModel_56 rfl rfl (kdec dk_cX10_save 96 rfl) ?_
        refine kv_iload_n C 159 rfl 3 (kdec dk_cX10_save 97 rfl) rfl rfl ?_
        refine kv_iconst C 160 rfl 2 (kdec dk_cX10_save 98 rfl) rfl ?_
        refine kv_iadd C 161 rfl (kdec dk_cX10_save 99 rfl) (fun x167 q169 h168e h168 h168l h168u => ?_)
        try have h168n : x167.toInt = x140.toInt + (2 : Int32).toInt := by omega
        clear h168 q169
        refine kv_aload_n C 162 rfl 0 (kdec dk_cX10_save 100 rfl) rfl rfl ?_
        refine kv_getr C 165 rfl 61 23 rfl rfl inX10 (by decide) mfl_TaleMachineModel_31 rfl rfl (kdec dk_cX10_save 101 rfl) ?_
        refine kv_iload_n C 166 rfl 2 (kdec dk_cX10_save 102 rfl) rfl rfl ?_
        obtain ⟨x170, e171⟩ : ∃ z : Int32, w162 69 (l2_109 : Int32).toNatClampNeg = z := ⟨_, rfl⟩
        have b172 : (0 : Int) ≤ x170.toInt ∧ x170.toInt ≤ 255 := by rw [← e171]; exact I164 69 _
        refine kv_iald C 167 rfl 69 rfl (by omega) (by omega) e171 (kdec dk_cX10_save 103 rfl) ?_
        refine kv_iast C 168 rfl 77 rfl (by omega) (by omega) (kdec dk_cX10_save 104 rfl) (fun w173 u174 => ?_)
        have I175 : kI false w173 := kI_put u174 I164 (show (0 : Int) ≤ (x170 : Int32).toInt by omega) (show (x170 : Int32).toInt ≤ 65535 by omega)
        have F176 : kF [(74, none), (75, none), (76, none), (77, none), (78, none), (79, none), (80, none)] w w173 := kF_put u174 F165 rfl
        have M177 : kMoT w173 := kMoT_put u174 M166 rfl rfl rfl
        refine kv_aload_n C 169 rfl 0 (kdec dk_cX10_save 105 rfl) rfl rfl ?_
        refine kv_getr C 172 rfl 61 36 rfl rfl inX10 (by decide) mfl_TaleMachineModel_56 rfl rfl (kdec dk_cX10_save 106 rfl) ?_
        refine kv_iload_n C 173 rfl 3 (kdec dk_cX10_save 107 rfl) rfl rfl ?_
        refine kv_iconst C 174 rfl 3 (kdec dk_cX10_save 108 rfl) rfl ?_
        refine kv_iadd C 175 rfl (kdec dk_cX10_save 109 rfl) (fun x178 q180 h179e h179 h179l h179u => ?_)
        try have h179n : x178.toInt = x140.toInt + (3 : Int32).toInt := by omega
        clear h179 q180
        refine kv_aload_n C 176 rfl 0 (kdec dk_cX10_save 110 rfl) rfl rfl ?_
        refine kv_getr C 179 rfl 61 24 rfl rfl inX10 (by decide) mfl_TaleMachineModel_34 rfl rfl (kdec dk_cX10_save 111 rfl) ?_
        refine kv_iload_n C 180 rfl 2 (kdec dk_cX10_save 112 rfl) rfl rfl ?_
        obtain ⟨x181, e182⟩ : ∃ z : Int32, w173 70 (l2_109 : Int32).toNatClampNeg = z := ⟨_, rfl⟩
        have b183 : (0 : Int) ≤ x181.toInt ∧ x181.toInt ≤ 15 := by rw [← e182]; exact I175 70 _
        refine kv_iald C 181 rfl 70 rfl (by omega) (by omega) e182 (kdec dk_cX10_save 113 rfl) ?_
        refine kv_iast C 182 rfl 77 rfl (by omega) (by omega) (kdec dk_cX10_save 114 rfl) (fun w184 u185 => ?_)
        have I186 : kI false w184 := kI_put u185 I175 (show (0 : Int) ≤ (x181 : Int32).toInt by omega) (show (x181 : Int32).toInt ≤ 65535 by omega)
        have F187 : kF [(74, none), (75, none), (76, none), (77, none), (78, none), (79, none), (80, none)] w w184 := kF_put u185 F176 rfl
        have M188 : kMoT w184 := kMoT_put u185 M177 rfl rfl rfl
        refine kv_iconst C 183 rfl 1 (kdec dk_cX10_save 115 rfl) rfl ?_
        refine kv_istore C 185 rfl 4 [1, 2, 3, 4, 0] [(0, .ref (ρ 61)), (1, .int 0), (2, .int l2_109), (3, .int x140), (4, .int 1)] (kdec dk_cX10_save 116 rfl) (by decide) rfl ?_
        exact cut185 ((((17 - (1 : Int32).toInt)) : Int).toNat + 1) w184 l2_109 x140 1 I186 F187 (by omega) (by omega) (by rw [e7]; try omega) M188 (fun j9 => (((kup_ne u185 rfl : w184 78 j9 = w173 78 j9).trans ((kup_ne u174 rfl : w173 78 j9 = w162 78 j9).trans ((kup_ne u163 rfl : w162 78 j9 = w151 78 j9).trans (kup_ne u152 rfl : w151 78 j9 = w_109 78 j9))))).trans (R109_E j9)) (fun j9 hj9 => (((kup_ne u185 rfl : w184 74 j9 = w173 74 j9).trans ((kup_ne u174 rfl : w173 74 j9 = w162 74 j9).trans ((kup_ne u163 rfl : w162 74 j9 = w151 74 j9).trans (kup_ne u152 rfl : w151 74 j9 = w_109 74 j9))))).trans (R109_I j9 hj9)) (kB_put (kB_put (kB_put (kB_put R109_B u152 (by omega) (by omega)) u163 (by omega) (by omega)) u174 (by omega) (by omega)) u185 (by omega) (by omega)) (kA_add R109_A (by omega) u152 (by omega) u163 (by omega) u174 (by omega) u185 (by omega) ((F_109 67 _ rfl).symm.trans e144) ((F165 69 _ rfl).symm.trans e171) ((F176 70 _ rfl).symm.trans e182)) (by omega)
  have cut76 : ∀ (n_76 : Nat) (w_76 : kw) (l2_76 : Int32), kI false w_76 → kF [(74, none), (75, none), (76, none), (77, none), (78, none), (79, none), (80, none)] w w_76 → (0 ≤ l2_76.toInt ∧ l2_76.toInt ≤ 120) → ((w 61 12).toInt = 1 ∨ (w 61 12).toInt = 3) → kMoT w_76 → (∀ j9 : Nat, w_76 78 j9 = w 78 j9) → (∀ j9 : Nat, j9 ≠ 0 → w_76 74 j9 = w 74 j9) → (∀ j9 : Nat, w_76 77 j9 = w 77 j9) → ((121 - l2_76.toInt) : Int) < (n_76 : Int) → kV p l e { frames := 1, cells := 0, slots := 0, locals := 36 } s m args below meth c (kQ below args s D τ ρ (fun o w' => ∃ r : Int32, o = some (.int r) ∧ kI false w' ∧ kF [(74, none), (75, none), (76, none), (77, none), (78, none), (79, none), (80, none)] w w' ∧ ((w 61 12).toInt = 1 ∨ (w 61 12).toInt = 3 ∨ ((0 : Int32).toInt < 0 ∨ 3 < (0 : Int32).toInt) ∧ r.toInt = -1 ∨ 0 ≤ (0 : Int32).toInt ∧ (0 : Int32).toInt ≤ 3 ∧ r.toInt = -2) ∧ ((w' 61 3).toInt = 0 ∧ (w' 61 12).toInt = 0 ∨ kMoT w') ∧ (kSl w'))) 5 D τ ρ 76 [(0, .ref (ρ 61)), (1, .int 0), (2, .int l2_76)] [] w_76 := by
    intro n_76
    induction n_76 with
    | zero => intro w_76 l2_76 I_76 F_76 k76_0 k76_1 M_76 R76_E R76_I R76_B hmz; exfalso; omega
    | succ n_76 ih76 =>
      intro w_76 l2_76 I_76 F_76 k76_0 k76_1 M_76 R76_E R76_I R76_B hm76
      have gl2_76 := kf_rng l2_76
      obtain ⟨x189, e190⟩ : ∃ z : Int32, w 61 20 = z := ⟨_, rfl⟩
      have b191 : (0 : Int) ≤ x189.toInt ∧ x189.toInt ≤ 20 := by rw [← e190]; exact hI 61 20
      have e192 : w_76 61 20 = x189 := ((F_76 61 20 rfl : w_76 61 20 = w 61 20).trans e190)
      have r193 := kMoT_fr M_76
      rw [e192] at r193
      obtain ⟨x194, e195⟩ : ∃ z : Int32, w 61 12 = z := ⟨_, rfl⟩
      have b196 : (0 : Int) ≤ x194.toInt ∧ x194.toInt ≤ 4 := by rw [← e195]; exact hI 61 12
      rw [e195] at k76_1
      refine kv_iload_n C 77 rfl 2 (kdec dk_cX10_save 45 rfl) rfl rfl ?_
      refine kv_aload_n C 78 rfl 0 (kdec dk_cX10_save 46 rfl) rfl rfl ?_
      obtain ⟨x197, e198⟩ : ∃ z : Int32, w 61 19 = z := ⟨_, rfl⟩
      have b199 : (0 : Int) ≤ x197.toInt ∧ x197.toInt ≤ 120 := by rw [← e198]; exact hI 61 19
      have e200 : w_76 61 19 = x197 := ((F_76 61 19 rfl : w_76 61 19 = w 61 19).trans e198)
      refine kv_get C 81 rfl 61 19 rfl rfl inX10 (by decide) mfl_TaleMachineModel_136 rfl rfl (kdec dk_cX10_save 47 rfl) e200 ?_
      refine kv_icmp_ge C 84 rfl 107 (kdec dk_cX10_save 48 rfl) (by decide) (fun d201 => ?_) (fun d201 => ?_)
      · skip
        refine kv_iconst C 108 rfl 0 (kdec dk_cX10_save 63 rfl) rfl ?_
        refine kv_istore_n C 109 rfl 2 [1, 2, 0] [(0, .ref (ρ 61)), (1, .int 0), (2, .int 0)] (kdec dk_cX10_save 64 rfl) rfl (by decide) rfl ?_
        exact cut109 ((((21 - (0 : Int32).toInt)) : Int).toNat + 1) w_76 0 I_76 F_76 (by omega) (by rw [e195]; try omega) M_76 (fun j9 => (rfl).trans (R76_E j9)) (fun j9 hj9 => (rfl).trans (R76_I j9 hj9)) (fun j9 _ => (rfl).trans (R76_B j9)) (fun f9 hf9 => by exfalso; omega) (by omega)
      · skip
        refine kv_aload_n C 85 rfl 0 (kdec dk_cX10_save 49 rfl) rfl rfl ?_
        refine kv_getr C 88 rfl 61 35 rfl rfl inX10 (by decide) mfl_TaleMachineModel_53 rfl rfl (kdec dk_cX10_save 50 rfl) ?_
        refine kv_bipush C 90 rfl 120 (kdec dk_cX10_save 51 rfl) rfl ?_
        refine kv_iload_n C 91 rfl 1 (kdec dk_cX10_save 52 rfl) rfl rfl ?_
        refine kv_imul C 92 rfl (kdec dk_cX10_save 53 rfl) (fun x202 h203e h203l h203u => ?_)
        obtain rfl : x202 = 0 := by rw [h203e]; decide
        refine kv_iload_n C 93 rfl 2 (kdec dk_cX10_save 54 rfl) rfl rfl ?_
        refine kv_iadd C 94 rfl (kdec dk_cX10_save 55 rfl) (fun x204 q206 h205e h205 h205l h205u => ?_)
        try have h205n : x204.toInt = (0 : Int32).toInt + l2_76.toInt := by omega
        clear h205 q206
        refine kv_aload_n C 95 rfl 0 (kdec dk_cX10_save 56 rfl) rfl rfl ?_
        refine kv_getr C 98 rfl 61 18 rfl rfl inX10 (by decide) mfl_TaleMachineModel_22 rfl rfl (kdec dk_cX10_save 57 rfl) ?_
        refine kv_iload_n C 99 rfl 2 (kdec dk_cX10_save 58 rfl) rfl rfl ?_
        obtain ⟨x207, e208⟩ : ∃ z : Int32, w_76 66 (l2_76 : Int32).toNatClampNeg = z := ⟨_, rfl⟩
        have b209 : (0 : Int) ≤ x207.toInt ∧ x207.toInt ≤ 65535 := by rw [← e208]; exact I_76 66 _
        refine kv_iald C 100 rfl 66 rfl (by omega) (by omega) e208 (kdec dk_cX10_save 59 rfl) ?_
        refine kv_iast C 101 rfl 76 rfl (by omega) (by omega) (kdec dk_cX10_save 60 rfl) (fun w210 u211 => ?_)
        have I212 : kI false w210 := kI_put u211 I_76 (show (0 : Int) ≤ (x207 : Int32).toInt by omega) (show (x207 : Int32).toInt ≤ 65535 by omega)
        have F213 : kF [(74, none), (75, none), (76, none), (77, none), (78, none), (79, none), (80, none)] w w210 := kF_put u211 F_76 rfl
        have M214 : kMoT w210 := kMoT_put u211 M_76 rfl rfl rfl
        refine kv_iinc C 104 rfl 2 2 [1, 2, 0] (fun v9 => [(0, .ref (ρ 61)), (1, .int 0), (2, .int v9)]) (kdec dk_cX10_save 61 rfl) rfl (by decide) (fun _ => rfl) 1 rfl (fun x215 q216 h217e h217 h217l h217u => ?_)
        try have h217n : x215.toInt = l2_76.toInt + 1 := by omega
        clear h217 q216
        refine kv_goto C 76 (kdec dk_cX10_save 62 rfl) (by decide) ?_
        exact ih76 w210 x215 I212 F213 (by omega) (by rw [e195]; try omega) M214 (fun j9 => ((kup_ne u211 rfl : w210 78 j9 = w_76 78 j9)).trans (R76_E j9)) (fun j9 hj9 => ((kup_ne u211 rfl : w210 74 j9 = w_76 74 j9)).trans (R76_I j9 hj9)) (fun j9 => ((kup_ne u211 rfl : w210 77 j9 = w_76 77 j9)).trans (R76_B j9)) (by omega)
  have cut42 : ∀ (n_42 : Nat) (w_42 : kw) (l2_42 : Int32), kI false w_42 → kF [(74, none), (75, none), (76, none), (77, none), (78, none), (79, none), (80, none)] w w_42 → (0 ≤ l2_42.toInt ∧ l2_42.toInt ≤ 1024) → ((w 61 12).toInt = 1 ∨ (w 61 12).toInt = 3) → kMoT w_42 → (∀ j9 : Nat, w_42 78 j9 = w 78 j9) → (∀ j9 : Nat, j9 ≠ 0 → w_42 74 j9 = w 74 j9) → (∀ j9 : Nat, w_42 77 j9 = w 77 j9) → ((1025 - l2_42.toInt) : Int) < (n_42 : Int) → kV p l e { frames := 1, cells := 0, slots := 0, locals := 36 } s m args below meth c (kQ below args s D τ ρ (fun o w' => ∃ r : Int32, o = some (.int r) ∧ kI false w' ∧ kF [(74, none), (75, none), (76, none), (77, none), (78, none), (79, none), (80, none)] w w' ∧ ((w 61 12).toInt = 1 ∨ (w 61 12).toInt = 3 ∨ ((0 : Int32).toInt < 0 ∨ 3 < (0 : Int32).toInt) ∧ r.toInt = -1 ∨ 0 ≤ (0 : Int32).toInt ∧ (0 : Int32).toInt ≤ 3 ∧ r.toInt = -2) ∧ ((w' 61 3).toInt = 0 ∧ (w' 61 12).toInt = 0 ∨ kMoT w') ∧ (kSl w'))) 5 D τ ρ 42 [(0, .ref (ρ 61)), (1, .int 0), (2, .int l2_42)] [] w_42 := by
    intro n_42
    induction n_42 with
    | zero => intro w_42 l2_42 I_42 F_42 k42_0 k42_1 M_42 R42_E R42_I R42_B hmz; exfalso; omega
    | succ n_42 ih42 =>
      intro w_42 l2_42 I_42 F_42 k42_0 k42_1 M_42 R42_E R42_I R42_B hm42
      have gl2_42 := kf_rng l2_42
      obtain ⟨x218, e219⟩ : ∃ z : Int32, w 61 20 = z := ⟨_, rfl⟩
      have b220 : (0 : Int) ≤ x218.toInt ∧ x218.toInt ≤ 20 := by rw [← e219]; exact hI 61 20
      have e221 : w_42 61 20 = x218 := ((F_42 61 20 rfl : w_42 61 20 = w 61 20).trans e219)
      have r222 := kMoT_fr M_42
      rw [e221] at r222
      obtain ⟨x223, e224⟩ : ∃ z : Int32, w 61 12 = z := ⟨_, rfl⟩
      have b225 : (0 : Int) ≤ x223.toInt ∧ x223.toInt ≤ 4 := by rw [← e224]; exact hI 61 12
      rw [e224] at k42_1
      refine kv_iload_n C 43 rfl 2 (kdec dk_cX10_save 25 rfl) rfl rfl ?_
      refine kv_aload_n C 44 rfl 0 (kdec dk_cX10_save 26 rfl) rfl rfl ?_
      obtain ⟨x226, e227⟩ : ∃ z : Int32, w 61 7 = z := ⟨_, rfl⟩
      have b228 : (0 : Int) ≤ x226.toInt ∧ x226.toInt ≤ 1024 := by rw [← e227]; exact hI 61 7
      have e229 : w_42 61 7 = x226 := ((F_42 61 7 rfl : w_42 61 7 = w 61 7).trans e227)
      refine kv_get C 47 rfl 61 7 rfl rfl inX10 (by decide) mfl_TaleMachineModel_118 rfl rfl (kdec dk_cX10_save 27 rfl) e229 ?_
      refine kv_icmp_ge C 50 rfl 74 (kdec dk_cX10_save 28 rfl) (by decide) (fun d230 => ?_) (fun d230 => ?_)
      · skip
        refine kv_iconst C 75 rfl 0 (kdec dk_cX10_save 43 rfl) rfl ?_
        refine kv_istore_n C 76 rfl 2 [1, 2, 0] [(0, .ref (ρ 61)), (1, .int 0), (2, .int 0)] (kdec dk_cX10_save 44 rfl) rfl (by decide) rfl ?_
        exact cut76 ((((121 - (0 : Int32).toInt)) : Int).toNat + 1) w_42 0 I_42 F_42 (by omega) (by rw [e224]; try omega) M_42 (fun j9 => (rfl).trans (R42_E j9)) (fun j9 hj9 => (rfl).trans (R42_I j9 hj9)) (fun j9 => (rfl).trans (R42_B j9)) (by omega)
      · skip
        refine kv_aload_n C 51 rfl 0 (kdec dk_cX10_save 29 rfl) rfl rfl ?_
        refine kv_getr C 54 rfl 61 34 rfl rfl inX10 (by decide) mfl_TaleMachineModel_50 rfl rfl (kdec dk_cX10_save 30 rfl) ?_
        refine kv_sipush C 57 rfl 1024 (kdec dk_cX10_save 31 rfl) rfl ?_
        refine kv_iload_n C 58 rfl 1 (kdec dk_cX10_save 32 rfl) rfl rfl ?_
        refine kv_imul C 59 rfl (kdec dk_cX10_save 33 rfl) (fun x231 h232e h232l h232u => ?_)
        obtain rfl : x231 = 0 := by rw [h232e]; decide
        refine kv_iload_n C 60 rfl 2 (kdec dk_cX10_save 34 rfl) rfl rfl ?_
        refine kv_iadd C 61 rfl (kdec dk_cX10_save 35 rfl) (fun x233 q235 h234e h234 h234l h234u => ?_)
        try have h234n : x233.toInt = (0 : Int32).toInt + l2_42.toInt := by omega
        clear h234 q235
        refine kv_aload_n C 62 rfl 0 (kdec dk_cX10_save 36 rfl) rfl rfl ?_
        refine kv_getr C 65 rfl 61 4 rfl rfl inX10 (by decide) mfl_TaleMachineModel_16 rfl rfl (kdec dk_cX10_save 37 rfl) ?_
        refine kv_iload_n C 66 rfl 2 (kdec dk_cX10_save 38 rfl) rfl rfl ?_
        obtain ⟨x236, e237⟩ : ∃ z : Int32, w_42 64 (l2_42 : Int32).toNatClampNeg = z := ⟨_, rfl⟩
        have b238 : (0 : Int) ≤ x236.toInt ∧ x236.toInt ≤ 255 := by rw [← e237]; exact I_42 64 _
        refine kv_iald C 67 rfl 64 rfl (by omega) (by omega) e237 (kdec dk_cX10_save 39 rfl) ?_
        refine kv_iast C 68 rfl 75 rfl (by omega) (by omega) (kdec dk_cX10_save 40 rfl) (fun w239 u240 => ?_)
        have I241 : kI false w239 := kI_put u240 I_42 (show (0 : Int) ≤ (x236 : Int32).toInt by omega) (show (x236 : Int32).toInt ≤ 255 by omega)
        have F242 : kF [(74, none), (75, none), (76, none), (77, none), (78, none), (79, none), (80, none)] w w239 := kF_put u240 F_42 rfl
        have M243 : kMoT w239 := kMoT_put u240 M_42 rfl rfl rfl
        refine kv_iinc C 71 rfl 2 2 [1, 2, 0] (fun v9 => [(0, .ref (ρ 61)), (1, .int 0), (2, .int v9)]) (kdec dk_cX10_save 41 rfl) rfl (by decide) (fun _ => rfl) 1 rfl (fun x244 q245 h246e h246 h246l h246u => ?_)
        try have h246n : x244.toInt = l2_42.toInt + 1 := by omega
        clear h246 q245
        refine kv_goto C 42 (kdec dk_cX10_save 42 rfl) (by decide) ?_
        exact ih42 w239 x244 I241 F242 (by omega) (by rw [e224]; try omega) M243 (fun j9 => ((kup_ne u240 rfl : w239 78 j9 = w_42 78 j9)).trans (R42_E j9)) (fun j9 hj9 => ((kup_ne u240 rfl : w239 74 j9 = w_42 74 j9)).trans (R42_I j9 hj9)) (fun j9 => ((kup_ne u240 rfl : w239 77 j9 = w_42 77 j9)).trans (R42_B j9)) (by omega)
  refine kv_iload_n C 1 rfl 1 (kdec dk_cX10_save 0 rfl) rfl rfl ?_
  refine kv_i2l C 2 rfl (kdec dk_cX10_save 1 rfl) ?_
  have h247 := kf_i2l 0
  refine kv_lconst C 3 rfl 0 (kdec dk_cX10_save 2 rfl) rfl ?_
  have h248 : (0 : Int64).toInt = 0 := by decide
  refine kv_ldc2 C 6 rfl 3 (kdec dk_cX10_save 3 rfl) mcl_TaleMachineModel_259 ?_
  have h249 : (3 : Int64).toInt = 3 := by decide
  refine kv_callSi (As := [.long (0 : Int32).toInt64, .long (0 : Int64), .long (3 : Int64)]) (rest := []) C 9 rfl (k_x_in l D τ ρ σ w (0 : Int32).toInt64 (0 : Int64) (3 : Int64) hI ) mml_TaleMachineModel_94 mst_yX10_in mcd_yX10_in min_yX10_in hd_yX10_in rfl rfl rfl (by decide) rfl (Nat.le_of_ble_eq_true rfl) (kdec dk_cX10_save 4 rfl) (fun x254 w250 h251 => ?_)
  obtain ⟨I252, f253, p255, p256⟩ := h251
  have F257 : kF [(74, none), (75, none), (76, none), (77, none), (78, none), (79, none), (80, none)] w w250 := kF_call hF0 f253 (by decide)
  have M258 : ((w250 61 3).toInt = 0 ∧ (w250 61 12).toInt = 0 ∨ kMoT w250) := kMoP_kF f253 hMp rfl rfl rfl rfl (fun _ => rfl)
  have g259 := kf_rng x254
  refine kv_if_ne C 12 rfl 14 (kdec dk_cX10_save 5 rfl) (by decide) (fun d260 => ?_) (fun d260 => ?_)
  · skip
    refine kv_aload_n C 15 rfl 0 (kdec dk_cX10_save 8 rfl) rfl rfl ?_
    obtain ⟨x261, e262⟩ : ∃ z : Int32, w 61 12 = z := ⟨_, rfl⟩
    have b263 : (0 : Int) ≤ x261.toInt ∧ x261.toInt ≤ 4 := by rw [← e262]; exact hI 61 12
    have e264 : w250 61 12 = x261 := ((f253 61 12 rfl : w250 61 12 = w 61 12).trans e262)
    refine kv_get C 18 rfl 61 12 rfl rfl inX10 (by decide) mfl_TaleMachineModel_112 rfl rfl (kdec dk_cX10_save 9 rfl) e264 ?_
    refine kv_iconst C 19 rfl 1 (kdec dk_cX10_save 10 rfl) rfl ?_
    refine kv_icmp_eq C 22 rfl 33 (kdec dk_cX10_save 11 rfl) (by decide) (fun d265 => ?_) (fun d265 => ?_)
    · skip
      obtain ⟨x267, e268⟩ : ∃ z : Int32, w 61 3 = z := ⟨_, rfl⟩
      have b269 : (0 : Int) ≤ x267.toInt ∧ x267.toInt ≤ 1 := by rw [← e268]; exact hI 61 3
      have e270 : w250 61 3 = x267 := ((f253 61 3 rfl : w250 61 3 = w 61 3).trans e268)
      have M266 : kMoT w250 := M258.resolve_left (by rw [e270, e264]; omega)
      obtain ⟨x271, e272⟩ : ∃ z : Int32, w 61 20 = z := ⟨_, rfl⟩
      have b273 : (0 : Int) ≤ x271.toInt ∧ x271.toInt ≤ 20 := by rw [← e272]; exact hI 61 20
      have e274 : w250 61 20 = x271 := ((f253 61 20 rfl : w250 61 20 = w 61 20).trans e272)
      have r275 := kMoT_fr M266
      rw [e274] at r275
      refine kv_aload_n C 34 rfl 0 (kdec dk_cX10_save 18 rfl) rfl rfl ?_
      refine kv_getr C 37 rfl 61 33 rfl rfl inX10 (by decide) mfl_TaleMachineModel_46 rfl rfl (kdec dk_cX10_save 19 rfl) ?_
      refine kv_iload_n C 38 rfl 1 (kdec dk_cX10_save 20 rfl) rfl rfl ?_
      refine kv_iconst C 39 rfl 1 (kdec dk_cX10_save 21 rfl) rfl ?_
      refine kv_zast C 40 rfl 74 rfl (by omega) (by omega) (kdec dk_cX10_save 22 rfl) (fun w276 u277 => ?_)
      have u277 : w276 = kup w250 74 0 (vp_nar .boolean 1) := u277
      rw [kf_nar (by decide)] at u277
      have I278 : kI false w276 := kI_put u277 I252 (show (0 : Int) ≤ (1 : Int32).toInt by omega) (show (1 : Int32).toInt ≤ 1 by omega)
      have F279 : kF [(74, none), (75, none), (76, none), (77, none), (78, none), (79, none), (80, none)] w w276 := kF_put u277 F257 rfl
      have M280 : kMoT w276 := kMoT_put u277 M266 rfl rfl rfl
      refine kv_iconst C 41 rfl 0 (kdec dk_cX10_save 23 rfl) rfl ?_
      refine kv_istore_n C 42 rfl 2 [1, 2, 0] [(0, .ref (ρ 61)), (1, .int 0), (2, .int 0)] (kdec dk_cX10_save 24 rfl) rfl (by decide) rfl ?_
      exact cut42 ((((1025 - (0 : Int32).toInt)) : Int).toNat + 1) w276 0 I278 F279 (by omega) (by rw [e262]; try omega) M280 (fun j9 => ((kup_ne u277 rfl : w276 78 j9 = w250 78 j9).trans (f253 78 j9 rfl : w250 78 j9 = w 78 j9))) (fun j9 hj9 => ((kup_nek u277 hj9 : w276 74 j9 = w250 74 j9).trans (f253 74 j9 rfl : w250 74 j9 = w 74 j9))) (fun j9 => ((kup_ne u277 rfl : w276 77 j9 = w250 77 j9).trans (f253 77 j9 rfl : w250 77 j9 = w 77 j9))) (by omega)
    · skip
      refine kv_aload_n C 23 rfl 0 (kdec dk_cX10_save 12 rfl) rfl rfl ?_
      refine kv_get C 26 rfl 61 12 rfl rfl inX10 (by decide) mfl_TaleMachineModel_112 rfl rfl (kdec dk_cX10_save 13 rfl) e264 ?_
      refine kv_iconst C 27 rfl 3 (kdec dk_cX10_save 14 rfl) rfl ?_
      refine kv_icmp_eq C 30 rfl 33 (kdec dk_cX10_save 15 rfl) (by decide) (fun d281 => ?_) (fun d281 => ?_)
      · skip
        obtain ⟨x283, e284⟩ : ∃ z : Int32, w 61 3 = z := ⟨_, rfl⟩
        have b285 : (0 : Int) ≤ x283.toInt ∧ x283.toInt ≤ 1 := by rw [← e284]; exact hI 61 3
        have e286 : w250 61 3 = x283 := ((f253 61 3 rfl : w250 61 3 = w 61 3).trans e284)
        have M282 : kMoT w250 := M258.resolve_left (by rw [e286, e264]; omega)
        obtain ⟨x287, e288⟩ : ∃ z : Int32, w 61 20 = z := ⟨_, rfl⟩
        have b289 : (0 : Int) ≤ x287.toInt ∧ x287.toInt ≤ 20 := by rw [← e288]; exact hI 61 20
        have e290 : w250 61 20 = x287 := ((f253 61 20 rfl : w250 61 20 = w 61 20).trans e288)
        have r291 := kMoT_fr M282
        rw [e290] at r291
        refine kv_aload_n C 34 rfl 0 (kdec dk_cX10_save 18 rfl) rfl rfl ?_
        refine kv_getr C 37 rfl 61 33 rfl rfl inX10 (by decide) mfl_TaleMachineModel_46 rfl rfl (kdec dk_cX10_save 19 rfl) ?_
        refine kv_iload_n C 38 rfl 1 (kdec dk_cX10_save 20 rfl) rfl rfl ?_
        refine kv_iconst C 39 rfl 1 (kdec dk_cX10_save 21 rfl) rfl ?_
        refine kv_zast C 40 rfl 74 rfl (by omega) (by omega) (kdec dk_cX10_save 22 rfl) (fun w292 u293 => ?_)
        have u293 : w292 = kup w250 74 0 (vp_nar .boolean 1) := u293
        rw [kf_nar (by decide)] at u293
        have I294 : kI false w292 := kI_put u293 I252 (show (0 : Int) ≤ (1 : Int32).toInt by omega) (show (1 : Int32).toInt ≤ 1 by omega)
        have F295 : kF [(74, none), (75, none), (76, none), (77, none), (78, none), (79, none), (80, none)] w w292 := kF_put u293 F257 rfl
        have M296 : kMoT w292 := kMoT_put u293 M282 rfl rfl rfl
        refine kv_iconst C 41 rfl 0 (kdec dk_cX10_save 23 rfl) rfl ?_
        refine kv_istore_n C 42 rfl 2 [1, 2, 0] [(0, .ref (ρ 61)), (1, .int 0), (2, .int 0)] (kdec dk_cX10_save 24 rfl) rfl (by decide) rfl ?_
        exact cut42 ((((1025 - (0 : Int32).toInt)) : Int).toNat + 1) w292 0 I294 F295 (by omega) (by rw [e262]; try omega) M296 (fun j9 => ((kup_ne u293 rfl : w292 78 j9 = w250 78 j9).trans (f253 78 j9 rfl : w250 78 j9 = w 78 j9))) (fun j9 hj9 => ((kup_nek u293 hj9 : w292 74 j9 = w250 74 j9).trans (f253 74 j9 rfl : w250 74 j9 = w 74 j9))) (fun j9 => ((kup_ne u293 rfl : w292 77 j9 = w250 77 j9).trans (f253 77 j9 rfl : w250 77 j9 = w 77 j9))) (by omega)
      · skip
        refine kv_bipush C 32 rfl (-2) (kdec dk_cX10_save 16 rfl) rfl ?_
        exact kv_iret C hr hlk (kdec dk_cX10_save 17 rfl) ⟨_, rfl, I252, F257, (by rw [e262]; try omega), M258, (kSl_eq hS (fun j9 => (f253 74 j9 rfl : w250 74 j9 = w 74 j9)) (fun j9 => (f253 77 j9 rfl : w250 77 j9 = w 77 j9)) (fun j9 => (f253 78 j9 rfl : w250 78 j9 = w 78 j9)))⟩
  · skip
    refine kv_iconst C 13 rfl (-1) (kdec dk_cX10_save 6 rfl) rfl ?_
    obtain ⟨x297, e298⟩ : ∃ z : Int32, w 61 12 = z := ⟨_, rfl⟩
    have b299 : (0 : Int) ≤ x297.toInt ∧ x297.toInt ≤ 4 := by rw [← e298]; exact hI 61 12
    exact kv_iret C hr hlk (kdec dk_cX10_save 7 rfl) ⟨_, rfl, I252, F257, (by rw [e298]; try omega), M258, (kSl_eq hS (fun j9 => (f253 74 j9 rfl : w250 74 j9 = w 74 j9)) (fun j9 => (f253 77 j9 rfl : w250 77 j9 = w 77 j9)) (fun j9 => (f253 78 j9 rfl : w250 78 j9 = w 78 j9)))⟩

set_option maxHeartbeats 4000000 in
set_option maxRecDepth 100000 in
theorem k_x_save1 (l : Launch) (D : va_G) (τ : Nat → ClassId) (ρ σ : Nat → Nat) (w : kw)  (hI : kI false w) (hMp : ((w 61 3).toInt = 0 ∧ (w 61 12).toInt = 0 ∨ kMoT w)) (hS : kSl w) :
    kM l D τ ρ σ yX10_save cX10_save 5 (some .int) { frames := 1, cells := 0, slots := 0, locals := 36 } [.ref (ρ 61), .int 1] w
      (fun o w' => ∃ r : Int32, o = some (.int r) ∧ kI false w' ∧ kF [(74, none), (75, none), (76, none), (77, none), (78, none), (79, none), (80, none)] w w' ∧ ((w 61 12).toInt = 1 ∨ (w 61 12).toInt = 3 ∨ ((1 : Int32).toInt < 0 ∨ 3 < (1 : Int32).toInt) ∧ r.toInt = -1 ∨ 0 ≤ (1 : Int32).toInt ∧ (1 : Int32).toInt ≤ 3 ∧ r.toInt = -2) ∧ ((w' 61 3).toInt = 0 ∧ (w' 61 12).toInt = 0 ∨ kMoT w') ∧ (kSl w')) := by
  refine kM_of (own := "TaleMachineModel") rfl (by decide) (Nat.le_of_ble_eq_true rfl) ?_
  intro p e s m args below meth c C hr hlk
  have hF0 : kF [(74, none), (75, none), (76, none), (77, none), (78, none), (79, none), (80, none)] w w := kF.rf
  have c_m2 : (-2 : Int32).toInt = -2 := by decide
  have c_m1 : (-1 : Int32).toInt = -1 := by decide
  have c_0 : (0 : Int32).toInt = 0 := by decide
  have c_1 : (1 : Int32).toInt = 1 := by decide
  have c_2 : (2 : Int32).toInt = 2 := by decide
  have c_3 : (3 : Int32).toInt = 3 := by decide
  have c_4 : (4 : Int32).toInt = 4 := by decide
  have c_5 : (5 : Int32).toInt = 5 := by decide
  have c_7 : (7 : Int32).toInt = 7 := by decide
  have c_8 : (8 : Int32).toInt = 8 := by decide
  have c_9 : (9 : Int32).toInt = 9 := by decide
  have c_10 : (10 : Int32).toInt = 10 := by decide
  have c_11 : (11 : Int32).toInt = 11 := by decide
  have c_12 : (12 : Int32).toInt = 12 := by decide
  have c_16 : (16 : Int32).toInt = 16 := by decide
  have c_24 : (24 : Int32).toInt = 24 := by decide
  have c_120 : (120 : Int32).toInt = 120 := by decide
  have c_1024 : (1024 : Int32).toInt = 1024 := by decide
  have c_1920 : (1920 : Int32).toInt = 1920 := by decide
  refine kV.L (L' := [(0, .ref (ρ 61)), (1, .int 1)]) rfl ?_
  have cut109 : ∀ (n_109 : Nat) (w_109 : kw) (l2_109 : Int32), kI false w_109 → kF [(74, none), (75, none), (76, none), (77, none), (78, none), (79, none), (80, none)] w w_109 → (0 ≤ l2_109.toInt ∧ l2_109.toInt ≤ 20) → ((w 61 12).toInt = 1 ∨ (w 61 12).toInt = 3) → kMoT w_109 → (∀ j9 : Nat, w_109 78 j9 = w 78 j9) → (∀ j9 : Nat, j9 ≠ 1 → w_109 74 j9 = w 74 j9) → (∀ j9 : Nat, (j9 < 1920 ∨ 1920 + 1920 ≤ j9) → w_109 77 j9 = w 77 j9) → (∀ f9 : Nat, (f9 : Int) < l2_109.toInt → kAc 1920 w w_109 f9) → ((21 - l2_109.toInt) : Int) < (n_109 : Int) → kV p l e { frames := 1, cells := 0, slots := 0, locals := 36 } s m args below meth c (kQ below args s D τ ρ (fun o w' => ∃ r : Int32, o = some (.int r) ∧ kI false w' ∧ kF [(74, none), (75, none), (76, none), (77, none), (78, none), (79, none), (80, none)] w w' ∧ ((w 61 12).toInt = 1 ∨ (w 61 12).toInt = 3 ∨ ((1 : Int32).toInt < 0 ∨ 3 < (1 : Int32).toInt) ∧ r.toInt = -1 ∨ 0 ≤ (1 : Int32).toInt ∧ (1 : Int32).toInt ≤ 3 ∧ r.toInt = -2) ∧ ((w' 61 3).toInt = 0 ∧ (w' 61 12).toInt = 0 ∨ kMoT w') ∧ (kSl w'))) 5 D τ ρ 109 [(0, .ref (ρ 61)), (1, .int 1), (2, .int l2_109)] [] w_109 := by
    intro n_109
    induction n_109 with
    | zero => intro w_109 l2_109 I_109 F_109 k109_0 k109_1 M_109 R109_E R109_I R109_B R109_A hmz; exfalso; omega
    | succ n_109 ih109 =>
      intro w_109 l2_109 I_109 F_109 k109_0 k109_1 M_109 R109_E R109_I R109_B R109_A hm109
      have gl2_109 := kf_rng l2_109
      obtain ⟨x1, e2⟩ : ∃ z : Int32, w 61 20 = z := ⟨_, rfl⟩
      have b3 : (0 : Int) ≤ x1.toInt ∧ x1.toInt ≤ 20 := by rw [← e2]; exact hI 61 20
      have e4 : w_109 61 20 = x1 := ((F_109 61 20 rfl : w_109 61 20 = w 61 20).trans e2)
      have r5 := kMoT_fr M_109
      rw [e4] at r5
      obtain ⟨x6, e7⟩ : ∃ z : Int32, w 61 12 = z := ⟨_, rfl⟩
      have b8 : (0 : Int) ≤ x6.toInt ∧ x6.toInt ≤ 4 := by rw [← e7]; exact hI 61 12
      rw [e7] at k109_1
      have cut185 : ∀ (n_185 : Nat) (w_185 : kw) (l2_185 l3_185 l4_185 : Int32), kI false w_185 → kF [(74, none), (75, none), (76, none), (77, none), (78, none), (79, none), (80, none)] w w_185 → (0 ≤ l2_185.toInt ∧ l2_185.toInt < 20 ∧ l2_185.toInt = l2_109.toInt ∧ l3_185.toInt = 1920 + 24 * l2_185.toInt) → (1 ≤ l4_185.toInt ∧ l4_185.toInt ≤ 16) → ((w 61 12).toInt = 1 ∨ (w 61 12).toInt = 3) → kMoT w_185 → (∀ j9 : Nat, w_185 78 j9 = w 78 j9) → (∀ j9 : Nat, j9 ≠ 1 → w_185 74 j9 = w 74 j9) → (∀ j9 : Nat, (j9 < 1920 ∨ 1920 + 1920 ≤ j9) → w_185 77 j9 = w 77 j9) → (∀ f9 : Nat, (f9 : Int) ≤ l2_185.toInt → kAc 1920 w w_185 f9) → ((17 - l4_185.toInt) : Int) < (n_185 : Int) → kV p l e { frames := 1, cells := 0, slots := 0, locals := 36 } s m args below meth c (kQ below args s D τ ρ (fun o w' => ∃ r : Int32, o = some (.int r) ∧ kI false w' ∧ kF [(74, none), (75, none), (76, none), (77, none), (78, none), (79, none), (80, none)] w w' ∧ ((w 61 12).toInt = 1 ∨ (w 61 12).toInt = 3 ∨ ((1 : Int32).toInt < 0 ∨ 3 < (1 : Int32).toInt) ∧ r.toInt = -1 ∨ 0 ≤ (1 : Int32).toInt ∧ (1 : Int32).toInt ≤ 3 ∧ r.toInt = -2) ∧ ((w' 61 3).toInt = 0 ∧ (w' 61 12).toInt = 0 ∨ kMoT w') ∧ (kSl w'))) 5 D τ ρ 185 [(0, .ref (ρ 61)), (1, .int 1), (2, .int l2_185), (3, .int l3_185), (4, .int l4_185)] [] w_185 := by
        intro n_185
        induction n_185 with
        | zero => intro w_185 l2_185 l3_185 l4_185 I_185 F_185 k185_0 k185_1 k185_2 M_185 R185_E R185_I R185_B R185_A hmz; exfalso; omega
        | succ n_185 ih185 =>
          intro w_185 l2_185 l3_185 l4_185 I_185 F_185 k185_0 k185_1 k185_2 M_185 R185_E R185_I R185_B R185_A hm185
          have gl2_185 := kf_rng l2_185
          have gl3_185 := kf_rng l3_185
          have gl4_185 := kf_rng l4_185
          have e9 : w_185 61 20 = x1 := ((F_185 61 20 rfl : w_185 61 20 = w 61 20).trans e2)
          have r10 := kMoT_fr M_185
          rw [e9] at r10
          rw [e7] at k185_2
          refine kv_iload C 187 rfl 4 (kdec dk_cX10_save 117 rfl) rfl ?_
          refine kv_aload_n C 188 rfl 0 (kdec dk_cX10_save 118 rfl) rfl rfl ?_
          refine kv_getr C 191 rfl 61 24 rfl rfl inX10 (by decide) mfl_TaleMachineModel_34 rfl rfl (kdec dk_cX10_save 119 rfl) ?_
          refine kv_iload_n C 192 rfl 2 (kdec dk_cX10_save 120 rfl) rfl rfl ?_
          obtain ⟨x11, e12⟩ : ∃ z : Int32, w_185 70 (l2_185 : Int32).toNatClampNeg = z := ⟨_, rfl⟩
          have b13 : (0 : Int) ≤ x11.toInt ∧ x11.toInt ≤ 15 := by rw [← e12]; exact I_185 70 _
          refine kv_iald C 193 rfl 70 rfl (by omega) (by omega) e12 (kdec dk_cX10_save 121 rfl) ?_
          refine kv_icmp_gt C 196 rfl 225 (kdec dk_cX10_save 122 rfl) (by decide) (fun d14 => ?_) (fun d14 => ?_)
          · skip
            refine kv_iinc C 228 rfl 2 2 [1, 2, 0, 3, 4] (fun v9 => [(0, .ref (ρ 61)), (1, .int 1), (2, .int v9), (3, .int l3_185), (4, .int l4_185)]) (kdec dk_cX10_save 141 rfl) rfl (by decide) (fun _ => rfl) 1 rfl (fun x15 q16 h17e h17 h17l h17u => ?_)
            try have h17n : x15.toInt = l2_185.toInt + 1 := by omega
            clear h17 q16
            refine kv_goto C 109 (kdec dk_cX10_save 142 rfl) (by decide) ?_
            refine kV.sub [0, 1, 2] (L' := [(0, .ref (ρ 61)), (1, .int 1), (2, .int x15)]) rfl ?_
            exact ih109 w_185 x15 I_185 F_185 (by omega) (by rw [e7]; try omega) M_185 (fun j9 => (rfl).trans (R185_E j9)) (fun j9 hj9 => (rfl).trans (R185_I j9 hj9)) R185_B (fun f9 hf9 => R185_A f9 (by omega)) (by omega)
          · skip
            refine kv_aload_n C 197 rfl 0 (kdec dk_cX10_save 123 rfl) rfl rfl ?_
            refine kv_getr C 200 rfl 61 36 rfl rfl inX10 (by decide) mfl_TaleMachineModel_56 rfl rfl (kdec dk_cX10_save 124 rfl) ?_
            refine kv_iload_n C 201 rfl 3 (kdec dk_cX10_save 125 rfl) rfl rfl ?_
            refine kv_iconst C 202 rfl 4 (kdec dk_cX10_save 126 rfl) rfl ?_
            refine kv_iadd C 203 rfl (kdec dk_cX10_save 127 rfl) (fun x18 q20 h19e h19 h19l h19u => ?_)
            try have h19n : x18.toInt = l3_185.toInt + (4 : Int32).toInt := by omega
            clear h19 q20
            refine kv_iload C 205 rfl 4 (kdec dk_cX10_save 128 rfl) rfl ?_
            refine kv_iadd C 206 rfl (kdec dk_cX10_save 129 rfl) (fun x21 q23 h22e h22 h22l h22u => ?_)
            try have h22n : x21.toInt = x18.toInt + l4_185.toInt := by omega
            clear h22 q23
            refine kv_aload_n C 207 rfl 0 (kdec dk_cX10_save 130 rfl) rfl rfl ?_
            refine kv_getr C 210 rfl 61 25 rfl rfl inX10 (by decide) mfl_TaleMachineModel_37 rfl rfl (kdec dk_cX10_save 131 rfl) ?_
            refine kv_bipush C 212 rfl 16 (kdec dk_cX10_save 132 rfl) rfl ?_
            refine kv_iload_n C 213 rfl 2 (kdec dk_cX10_save 133 rfl) rfl rfl ?_
            refine kv_imul C 214 rfl (kdec dk_cX10_save 134 rfl) (fun x24 h25e h25l h25u => ?_)
            obtain ⟨q26, g27⟩ := kf_mul 16 l2_185
            rw [← h25e, c_16] at g27
            try have h25n : x24.toInt = 16 * l2_185.toInt := by omega
            clear g27 q26
            refine kv_iload C 216 rfl 4 (kdec dk_cX10_save 135 rfl) rfl ?_
            refine kv_iadd C 217 rfl (kdec dk_cX10_save 136 rfl) (fun x28 q30 h29e h29 h29l h29u => ?_)
            try have h29n : x28.toInt = x24.toInt + l4_185.toInt := by omega
            clear h29 q30
            obtain ⟨x31, e32⟩ : ∃ z : Int32, w_185 71 (x28 : Int32).toNatClampNeg = z := ⟨_, rfl⟩
            have b33 : (0 : Int) ≤ x31.toInt ∧ x31.toInt ≤ 65535 := by rw [← e32]; exact I_185 71 _
            refine kv_iald C 218 rfl 71 rfl (by omega) (by omega) e32 (kdec dk_cX10_save 137 rfl) ?_
            refine kv_iast C 219 rfl 77 rfl (by omega) (by omega) (kdec dk_cX10_save 138 rfl) (fun w34 u35 => ?_)
            have I36 : kI false w34 := kI_put u35 I_185 (show (0 : Int) ≤ (x31 : Int32).toInt by omega) (show (x31 : Int32).toInt ≤ 65535 by omega)
            have F37 : kF [(74, none), (75, none), (76, none), (77, none), (78, none), (79, none), (80, none)] w w34 := kF_put u35 F_185 rfl
            have M38 : kMoT w34 := kMoT_put u35 M_185 rfl rfl rfl
            refine kv_iinc C 222 rfl 4 4 [1, 2, 3, 4, 0] (fun v9 => [(0, .ref (ρ 61)), (1, .int 1), (2, .int l2_185), (3, .int l3_185), (4, .int v9)]) (kdec dk_cX10_save 139 rfl) rfl (by decide) (fun _ => rfl) 1 rfl (fun x39 q40 h41e h41 h41l h41u => ?_)
            try have h41n : x39.toInt = l4_185.toInt + 1 := by omega
            clear h41 q40
            refine kv_goto C 185 (kdec dk_cX10_save 140 rfl) (by decide) ?_
            exact ih185 w34 l2_185 l3_185 x39 I36 F37 (by omega) (by omega) (by rw [e7]; try omega) M38 (fun j9 => ((kup_ne u35 rfl : w34 78 j9 = w_185 78 j9)).trans (R185_E j9)) (fun j9 hj9 => ((kup_ne u35 rfl : w34 74 j9 = w_185 74 j9)).trans (R185_I j9 hj9)) (kB_put R185_B u35 (by omega) (by omega)) (kA_keep R185_A u35 (by omega) (i := l4_185) (by omega) (by omega) (by omega)) (by omega)
      refine kv_iload_n C 110 rfl 2 (kdec dk_cX10_save 65 rfl) rfl rfl ?_
      refine kv_aload_n C 111 rfl 0 (kdec dk_cX10_save 66 rfl) rfl rfl ?_
      refine kv_get C 114 rfl 61 20 rfl rfl inX10 (by decide) mfl_TaleMachineModel_139 rfl rfl (kdec dk_cX10_save 67 rfl) e4 ?_
      refine kv_icmp_ge C 117 rfl 231 (kdec dk_cX10_save 68 rfl) (by decide) (fun d42 => ?_) (fun d42 => ?_)
      · skip
        refine kv_aload_n C 232 rfl 0 (kdec dk_cX10_save 143 rfl) rfl rfl ?_
        refine kv_getr C 235 rfl 61 37 rfl rfl inX10 (by decide) mfl_TaleMachineModel_59 rfl rfl (kdec dk_cX10_save 144 rfl) ?_
        refine kv_bipush C 237 rfl 7 (kdec dk_cX10_save 145 rfl) rfl ?_
        refine kv_iload_n C 238 rfl 1 (kdec dk_cX10_save 146 rfl) rfl rfl ?_
        refine kv_imul C 239 rfl (kdec dk_cX10_save 147 rfl) (fun x43 h44e h44l h44u => ?_)
        obtain rfl : x43 = 7 := by rw [h44e]; decide
        refine kv_aload_n C 240 rfl 0 (kdec dk_cX10_save 148 rfl) rfl rfl ?_
        obtain ⟨x45, e46⟩ : ∃ z : Int32, w 61 19 = z := ⟨_, rfl⟩
        have b47 : (0 : Int) ≤ x45.toInt ∧ x45.toInt ≤ 120 := by rw [← e46]; exact hI 61 19
        have e48 : w_109 61 19 = x45 := ((F_109 61 19 rfl : w_109 61 19 = w 61 19).trans e46)
        refine kv_get C 243 rfl 61 19 rfl rfl inX10 (by decide) mfl_TaleMachineModel_136 rfl rfl (kdec dk_cX10_save 149 rfl) e48 ?_
        refine kv_iast C 244 rfl 78 rfl (by omega) (by omega) (kdec dk_cX10_save 150 rfl) (fun w49 u50 => ?_)
        have u50 : w49 = kup w_109 78 7 x45 := u50
        have I51 : kI false w49 := kI_put u50 I_109 (show (0 : Int) ≤ (x45 : Int32).toInt by omega) (show (x45 : Int32).toInt ≤ 65535 by omega)
        have F52 : kF [(74, none), (75, none), (76, none), (77, none), (78, none), (79, none), (80, none)] w w49 := kF_put u50 F_109 rfl
        have M53 : kMoT w49 := kMoT_put u50 M_109 rfl rfl rfl
        refine kv_aload_n C 245 rfl 0 (kdec dk_cX10_save 151 rfl) rfl rfl ?_
        refine kv_getr C 248 rfl 61 37 rfl rfl inX10 (by decide) mfl_TaleMachineModel_59 rfl rfl (kdec dk_cX10_save 152 rfl) ?_
        refine kv_bipush C 250 rfl 7 (kdec dk_cX10_save 153 rfl) rfl ?_
        refine kv_iload_n C 251 rfl 1 (kdec dk_cX10_save 154 rfl) rfl rfl ?_
        refine kv_imul C 252 rfl (kdec dk_cX10_save 155 rfl) (fun x54 h55e h55l h55u => ?_)
        obtain rfl : x54 = 7 := by rw [h55e]; decide
        refine kv_iconst C 253 rfl 1 (kdec dk_cX10_save 156 rfl) rfl ?_
        refine kv_iadd C 254 rfl (kdec dk_cX10_save 157 rfl) (fun x56 q58 h57e h57 h57l h57u => ?_)
        try have h57n : x56.toInt = (7 : Int32).toInt + (1 : Int32).toInt := by omega
        clear h57 q58
        obtain rfl : x56 = 8 := by rw [h57e]; decide
        refine kv_aload_n C 255 rfl 0 (kdec dk_cX10_save 158 rfl) rfl rfl ?_
        have e59 : w49 61 20 = x1 := ((kup_ne u50 rfl : w49 61 20 = w_109 61 20).trans e4)
        refine kv_get C 258 rfl 61 20 rfl rfl inX10 (by decide) mfl_TaleMachineModel_139 rfl rfl (kdec dk_cX10_save 159 rfl) e59 ?_
        refine kv_iast C 259 rfl 78 rfl (by omega) (by omega) (kdec dk_cX10_save 160 rfl) (fun w60 u61 => ?_)
        have u61 : w60 = kup w49 78 8 x1 := u61
        have I62 : kI false w60 := kI_put u61 I51 (show (0 : Int) ≤ (x1 : Int32).toInt by omega) (show (x1 : Int32).toInt ≤ 65535 by omega)
        have F63 : kF [(74, none), (75, none), (76, none), (77, none), (78, none), (79, none), (80, none)] w w60 := kF_put u61 F52 rfl
        have M64 : kMoT w60 := kMoT_put u61 M53 rfl rfl rfl
        refine kv_aload_n C 260 rfl 0 (kdec dk_cX10_save 161 rfl) rfl rfl ?_
        refine kv_getr C 263 rfl 61 37 rfl rfl inX10 (by decide) mfl_TaleMachineModel_59 rfl rfl (kdec dk_cX10_save 162 rfl) ?_
        refine kv_bipush C 265 rfl 7 (kdec dk_cX10_save 163 rfl) rfl ?_
        refine kv_iload_n C 266 rfl 1 (kdec dk_cX10_save 164 rfl) rfl rfl ?_
        refine kv_imul C 267 rfl (kdec dk_cX10_save 165 rfl) (fun x65 h66e h66l h66u => ?_)
        obtain rfl : x65 = 7 := by rw [h66e]; decide
        refine kv_iconst C 268 rfl 2 (kdec dk_cX10_save 166 rfl) rfl ?_
        refine kv_iadd C 269 rfl (kdec dk_cX10_save 167 rfl) (fun x67 q69 h68e h68 h68l h68u => ?_)
        try have h68n : x67.toInt = (7 : Int32).toInt + (2 : Int32).toInt := by omega
        clear h68 q69
        obtain rfl : x67 = 9 := by rw [h68e]; decide
        refine kv_aload_n C 270 rfl 0 (kdec dk_cX10_save 168 rfl) rfl rfl ?_
        obtain ⟨x70, e71⟩ : ∃ z : Int32, w 61 14 = z := ⟨_, rfl⟩
        have b72 : (0 : Int) ≤ x70.toInt ∧ x70.toInt ≤ 65535 := by rw [← e71]; exact hI 61 14
        have e73 : w60 61 14 = x70 := ((kup_ne u61 rfl : w60 61 14 = w49 61 14).trans ((kup_ne u50 rfl : w49 61 14 = w_109 61 14).trans ((F_109 61 14 rfl : w_109 61 14 = w 61 14).trans e71)))
        refine kv_get C 273 rfl 61 14 rfl rfl inX10 (by decide) mfl_TaleMachineModel_142 rfl rfl (kdec dk_cX10_save 169 rfl) e73 ?_
        refine kv_iast C 274 rfl 78 rfl (by omega) (by omega) (kdec dk_cX10_save 170 rfl) (fun w74 u75 => ?_)
        have u75 : w74 = kup w60 78 9 x70 := u75
        have I76 : kI false w74 := kI_put u75 I62 (show (0 : Int) ≤ (x70 : Int32).toInt by omega) (show (x70 : Int32).toInt ≤ 65535 by omega)
        have F77 : kF [(74, none), (75, none), (76, none), (77, none), (78, none), (79, none), (80, none)] w w74 := kF_put u75 F63 rfl
        have M78 : kMoT w74 := kMoT_put u75 M64 rfl rfl rfl
        refine kv_aload_n C 275 rfl 0 (kdec dk_cX10_save 171 rfl) rfl rfl ?_
        refine kv_getr C 278 rfl 61 37 rfl rfl inX10 (by decide) mfl_TaleMachineModel_59 rfl rfl (kdec dk_cX10_save 172 rfl) ?_
        refine kv_bipush C 280 rfl 7 (kdec dk_cX10_save 173 rfl) rfl ?_
        refine kv_iload_n C 281 rfl 1 (kdec dk_cX10_save 174 rfl) rfl rfl ?_
        refine kv_imul C 282 rfl (kdec dk_cX10_save 175 rfl) (fun x79 h80e h80l h80u => ?_)
        obtain rfl : x79 = 7 := by rw [h80e]; decide
        refine kv_iconst C 283 rfl 3 (kdec dk_cX10_save 176 rfl) rfl ?_
        refine kv_iadd C 284 rfl (kdec dk_cX10_save 177 rfl) (fun x81 q83 h82e h82 h82l h82u => ?_)
        try have h82n : x81.toInt = (7 : Int32).toInt + (3 : Int32).toInt := by omega
        clear h82 q83
        obtain rfl : x81 = 10 := by rw [h82e]; decide
        refine kv_aload_n C 285 rfl 0 (kdec dk_cX10_save 178 rfl) rfl rfl ?_
        have e84 : w74 61 12 = x6 := ((kup_ne u75 rfl : w74 61 12 = w60 61 12).trans ((kup_ne u61 rfl : w60 61 12 = w49 61 12).trans ((kup_ne u50 rfl : w49 61 12 = w_109 61 12).trans ((F_109 61 12 rfl : w_109 61 12 = w 61 12).trans e7))))
        refine kv_get C 288 rfl 61 12 rfl rfl inX10 (by decide) mfl_TaleMachineModel_112 rfl rfl (kdec dk_cX10_save 179 rfl) e84 ?_
        refine kv_iast C 289 rfl 78 rfl (by omega) (by omega) (kdec dk_cX10_save 180 rfl) (fun w85 u86 => ?_)
        have u86 : w85 = kup w74 78 10 x6 := u86
        have I87 : kI false w85 := kI_put u86 I76 (show (0 : Int) ≤ (x6 : Int32).toInt by omega) (show (x6 : Int32).toInt ≤ 65535 by omega)
        have F88 : kF [(74, none), (75, none), (76, none), (77, none), (78, none), (79, none), (80, none)] w w85 := kF_put u86 F77 rfl
        have M89 : kMoT w85 := kMoT_put u86 M78 rfl rfl rfl
        refine kv_aload_n C 290 rfl 0 (kdec dk_cX10_save 181 rfl) rfl rfl ?_
        refine kv_getr C 293 rfl 61 37 rfl rfl inX10 (by decide) mfl_TaleMachineModel_59 rfl rfl (kdec dk_cX10_save 182 rfl) ?_
        refine kv_bipush C 295 rfl 7 (kdec dk_cX10_save 183 rfl) rfl ?_
        refine kv_iload_n C 296 rfl 1 (kdec dk_cX10_save 184 rfl) rfl rfl ?_
        refine kv_imul C 297 rfl (kdec dk_cX10_save 185 rfl) (fun x90 h91e h91l h91u => ?_)
        obtain rfl : x90 = 7 := by rw [h91e]; decide
        refine kv_iconst C 298 rfl 4 (kdec dk_cX10_save 186 rfl) rfl ?_
        refine kv_iadd C 299 rfl (kdec dk_cX10_save 187 rfl) (fun x92 q94 h93e h93 h93l h93u => ?_)
        try have h93n : x92.toInt = (7 : Int32).toInt + (4 : Int32).toInt := by omega
        clear h93 q94
        obtain rfl : x92 = 11 := by rw [h93e]; decide
        refine kv_aload_n C 300 rfl 0 (kdec dk_cX10_save 188 rfl) rfl rfl ?_
        obtain ⟨x95, e96⟩ : ∃ z : Int32, w 61 26 = z := ⟨_, rfl⟩
        have b97 : (0 : Int) ≤ x95.toInt ∧ x95.toInt ≤ 65535 := by rw [← e96]; exact hI 61 26
        have e98 : w85 61 26 = x95 := ((kup_ne u86 rfl : w85 61 26 = w74 61 26).trans ((kup_ne u75 rfl : w74 61 26 = w60 61 26).trans ((kup_ne u61 rfl : w60 61 26 = w49 61 26).trans ((kup_ne u50 rfl : w49 61 26 = w_109 61 26).trans ((F_109 61 26 rfl : w_109 61 26 = w 61 26).trans e96)))))
        refine kv_get C 303 rfl 61 26 rfl rfl inX10 (by decide) mfl_TaleMachineModel_323 rfl rfl (kdec dk_cX10_save 189 rfl) e98 ?_
        refine kv_iast C 304 rfl 78 rfl (by omega) (by omega) (kdec dk_cX10_save 190 rfl) (fun w99 u100 => ?_)
        have u100 : w99 = kup w85 78 11 x95 := u100
        have I101 : kI false w99 := kI_put u100 I87 (show (0 : Int) ≤ (x95 : Int32).toInt by omega) (show (x95 : Int32).toInt ≤ 65535 by omega)
        have F102 : kF [(74, none), (75, none), (76, none), (77, none), (78, none), (79, none), (80, none)] w w99 := kF_put u100 F88 rfl
        have M103 : kMoT w99 := kMoT_put u100 M89 rfl rfl rfl
        refine kv_aload_n C 305 rfl 0 (kdec dk_cX10_save 191 rfl) rfl rfl ?_
        refine kv_getr C 308 rfl 61 37 rfl rfl inX10 (by decide) mfl_TaleMachineModel_59 rfl rfl (kdec dk_cX10_save 192 rfl) ?_
        refine kv_bipush C 310 rfl 7 (kdec dk_cX10_save 193 rfl) rfl ?_
        refine kv_iload_n C 311 rfl 1 (kdec dk_cX10_save 194 rfl) rfl rfl ?_
        refine kv_imul C 312 rfl (kdec dk_cX10_save 195 rfl) (fun x104 h105e h105l h105u => ?_)
        obtain rfl : x104 = 7 := by rw [h105e]; decide
        refine kv_iconst C 313 rfl 5 (kdec dk_cX10_save 196 rfl) rfl ?_
        refine kv_iadd C 314 rfl (kdec dk_cX10_save 197 rfl) (fun x106 q108 h107e h107 h107l h107u => ?_)
        try have h107n : x106.toInt = (7 : Int32).toInt + (5 : Int32).toInt := by omega
        clear h107 q108
        obtain rfl : x106 = 12 := by rw [h107e]; decide
        refine kv_aload_n C 315 rfl 0 (kdec dk_cX10_save 198 rfl) rfl rfl ?_
        obtain ⟨x109, e110⟩ : ∃ z : Int32, w 61 27 = z := ⟨_, rfl⟩
        have b111 : (0 : Int) ≤ x109.toInt ∧ x109.toInt ≤ 65535 := by rw [← e110]; exact hI 61 27
        have e112 : w99 61 27 = x109 := ((kup_ne u100 rfl : w99 61 27 = w85 61 27).trans ((kup_ne u86 rfl : w85 61 27 = w74 61 27).trans ((kup_ne u75 rfl : w74 61 27 = w60 61 27).trans ((kup_ne u61 rfl : w60 61 27 = w49 61 27).trans ((kup_ne u50 rfl : w49 61 27 = w_109 61 27).trans ((F_109 61 27 rfl : w_109 61 27 = w 61 27).trans e110))))))
        refine kv_get C 318 rfl 61 27 rfl rfl inX10 (by decide) mfl_TaleMachineModel_326 rfl rfl (kdec dk_cX10_save 199 rfl) e112 ?_
        refine kv_iast C 319 rfl 78 rfl (by omega) (by omega) (kdec dk_cX10_save 200 rfl) (fun w113 u114 => ?_)
        have u114 : w113 = kup w99 78 12 x109 := u114
        have I115 : kI false w113 := kI_put u114 I101 (show (0 : Int) ≤ (x109 : Int32).toInt by omega) (show (x109 : Int32).toInt ≤ 65535 by omega)
        have F116 : kF [(74, none), (75, none), (76, none), (77, none), (78, none), (79, none), (80, none)] w w113 := kF_put u114 F102 rfl
        have M117 : kMoT w113 := kMoT_put u114 M103 rfl rfl rfl
        refine kv_aload_n C 320 rfl 0 (kdec dk_cX10_save 201 rfl) rfl rfl ?_
        refine kv_iload_n C 321 rfl 1 (kdec dk_cX10_save 202 rfl) rfl rfl ?_
        refine kv_callVv (As := [.int 1]) (rest := []) C 324 rfl 61 (k_x_squeeze l D τ ρ σ w113 1 I115 (by omega)) rfl rfl mml_TaleMachineModel_366 mim_yX10_squeeze mse_yX10_squeeze mcd_yX10_squeeze min_yX10_squeeze hd_yX10_squeeze rfl rfl rfl (by decide) rfl (Nat.le_of_ble_eq_true rfl) (kdec dk_cX10_save 203 rfl) (fun w118 h119 => ?_)
        obtain ⟨I120, f121⟩ := h119
        have F123 : kF [(74, none), (75, none), (76, none), (77, none), (78, none), (79, none), (80, none)] w w118 := kF_call F116 f121 (by decide)
        have M124 : kMoT w118 := kMoT_kF f121 M117 rfl rfl (fun _ => rfl)
        refine kv_aload_n C 325 rfl 0 (kdec dk_cX10_save 204 rfl) rfl rfl ?_
        refine kv_getr C 328 rfl 61 39 rfl rfl inX10 (by decide) mfl_TaleMachineModel_65 rfl rfl (kdec dk_cX10_save 205 rfl) ?_
        refine kv_iload_n C 329 rfl 1 (kdec dk_cX10_save 206 rfl) rfl rfl ?_
        obtain ⟨x125, e126⟩ : ∃ z : Int32, w118 80 1 = z := ⟨_, rfl⟩
        have b127 : (0 : Int) ≤ x125.toInt ∧ x125.toInt ≤ 2050 := by rw [← e126]; exact I120 80 1
        refine kv_iald C 330 rfl 80 rfl (by omega) (by omega) (show w118 80 (1 : Int32).toNatClampNeg = x125 from e126) (kdec dk_cX10_save 207 rfl) ?_
        obtain ⟨x128, e129⟩ : ∃ z : Int32, w 61 3 = z := ⟨_, rfl⟩
        have b130 : (0 : Int) ≤ x128.toInt ∧ x128.toInt ≤ 1 := by rw [← e129]; exact hI 61 3
        have e131 : w118 78 7 = x45 := ((f121 78 7 rfl : w118 78 7 = w113 78 7).trans ((kup_ne u114 rfl : w113 78 7 = w99 78 7).trans ((kup_ne u100 rfl : w99 78 7 = w85 78 7).trans ((kup_ne u86 rfl : w85 78 7 = w74 78 7).trans ((kup_ne u75 rfl : w74 78 7 = w60 78 7).trans ((kup_ne u61 rfl : w60 78 7 = w49 78 7).trans (kup_eq u50)))))))
        have e132 : w118 78 8 = x1 := ((f121 78 8 rfl : w118 78 8 = w113 78 8).trans ((kup_ne u114 rfl : w113 78 8 = w99 78 8).trans ((kup_ne u100 rfl : w99 78 8 = w85 78 8).trans ((kup_ne u86 rfl : w85 78 8 = w74 78 8).trans ((kup_ne u75 rfl : w74 78 8 = w60 78 8).trans (kup_eq u61))))))
        have e133 : w118 78 10 = x6 := ((f121 78 10 rfl : w118 78 10 = w113 78 10).trans ((kup_ne u114 rfl : w113 78 10 = w99 78 10).trans ((kup_ne u100 rfl : w99 78 10 = w85 78 10).trans (kup_eq u86))))
        exact kv_iret C hr hlk (kdec dk_cX10_save 208 rfl) ⟨_, rfl, I120, F123, (by rw [e7]; try omega), (Or.inr M124), (kSl_save (k := 1) (by decide) hS (hMp.resolve_left (by rw [e129, e7]; omega)) hI (fun f9 hf9 => kAc_eq (fun j9 => ((f121 77 j9 rfl : w118 77 j9 = w113 77 j9).trans ((kup_ne u114 rfl : w113 77 j9 = w99 77 j9).trans ((kup_ne u100 rfl : w99 77 j9 = w85 77 j9).trans ((kup_ne u86 rfl : w85 77 j9 = w74 77 j9).trans ((kup_ne u75 rfl : w74 77 j9 = w60 77 j9).trans ((kup_ne u61 rfl : w60 77 j9 = w49 77 j9).trans (kup_ne u50 rfl : w49 77 j9 = w_109 77 j9)))))))) (R109_A f9 (by rw [e2] at hf9; omega))) (fun j9 hj9 => (((f121 77 j9 rfl : w118 77 j9 = w113 77 j9).trans ((kup_ne u114 rfl : w113 77 j9 = w99 77 j9).trans ((kup_ne u100 rfl : w99 77 j9 = w85 77 j9).trans ((kup_ne u86 rfl : w85 77 j9 = w74 77 j9).trans ((kup_ne u75 rfl : w74 77 j9 = w60 77 j9).trans ((kup_ne u61 rfl : w60 77 j9 = w49 77 j9).trans (kup_ne u50 rfl : w49 77 j9 = w_109 77 j9)))))))).trans (R109_B j9 hj9)) (fun j9 _ hj9 => (((f121 74 j9 rfl : w118 74 j9 = w113 74 j9).trans ((kup_ne u114 rfl : w113 74 j9 = w99 74 j9).trans ((kup_ne u100 rfl : w99 74 j9 = w85 74 j9).trans ((kup_ne u86 rfl : w85 74 j9 = w74 74 j9).trans ((kup_ne u75 rfl : w74 74 j9 = w60 74 j9).trans ((kup_ne u61 rfl : w60 74 j9 = w49 74 j9).trans (kup_ne u50 rfl : w49 74 j9 = w_109 74 j9)))))))).trans (R109_I j9 hj9)) (e131.trans e46.symm) (e132.trans e2.symm) (show (w118 78 10).toInt ≤ 4 by rw [e133]; omega) (fun j9 hj9 => (((f121 78 j9 rfl : w118 78 j9 = w113 78 j9).trans ((kup_nek u114 (by omega) : w113 78 j9 = w99 78 j9).trans ((kup_nek u100 (by omega) : w99 78 j9 = w85 78 j9).trans ((kup_nek u86 (by omega) : w85 78 j9 = w74 78 j9).trans ((kup_nek u75 (by omega) : w74 78 j9 = w60 78 j9).trans ((kup_nek u61 (by omega) : w60 78 j9 = w49 78 j9).trans (kup_nek u50 (by omega) : w49 78 j9 = w_109 78 j9)))))))).trans (R109_E j9)))⟩
      · skip
        refine kv_sipush C 120 rfl 1920 (kdec dk_cX10_save 69 rfl) rfl ?_
        refine kv_iload_n C 121 rfl 1 (kdec dk_cX10_save 70 rfl) rfl rfl ?_
        refine kv_imul C 122 rfl (kdec dk_cX10_save 71 rfl) (fun x134 h135e h135l h135u => ?_)
        obtain rfl : x134 = 1920 := by rw [h135e]; decide
        refine kv_bipush C 124 rfl 24 (kdec dk_cX10_save 72 rfl) rfl ?_
        refine kv_iload_n C 125 rfl 2 (kdec dk_cX10_save 73 rfl) rfl rfl ?_
        refine kv_imul C 126 rfl (kdec dk_cX10_save 74 rfl) (fun x136 h137e h137l h137u => ?_)
        obtain ⟨q138, g139⟩ := kf_mul 24 l2_109
        rw [← h137e, c_24] at g139
        try have h137n : x136.toInt = 24 * l2_109.toInt := by omega
        clear g139 q138
        refine kv_iadd C 127 rfl (kdec dk_cX10_save 75 rfl) (fun x140 q142 h141e h141 h141l h141u => ?_)
        try have h141n : x140.toInt = (1920 : Int32).toInt + x136.toInt := by omega
        clear h141 q142
        refine kv_istore_n C 128 rfl 3 [1, 2, 3, 0] [(0, .ref (ρ 61)), (1, .int 1), (2, .int l2_109), (3, .int x140)] (kdec dk_cX10_save 76 rfl) rfl (by decide) rfl ?_
        refine kv_aload_n C 129 rfl 0 (kdec dk_cX10_save 77 rfl) rfl rfl ?_
        refine kv_getr C 132 rfl 61 36 rfl rfl inX10 (by decide) mfl_TaleMachineModel_56 rfl rfl (kdec dk_cX10_save 78 rfl) ?_
        refine kv_iload_n C 133 rfl 3 (kdec dk_cX10_save 79 rfl) rfl rfl ?_
        refine kv_aload_n C 134 rfl 0 (kdec dk_cX10_save 80 rfl) rfl rfl ?_
        refine kv_getr C 137 rfl 61 21 rfl rfl inX10 (by decide) mfl_TaleMachineModel_25 rfl rfl (kdec dk_cX10_save 81 rfl) ?_
        refine kv_iload_n C 138 rfl 2 (kdec dk_cX10_save 82 rfl) rfl rfl ?_
        obtain ⟨x143, e144⟩ : ∃ z : Int32, w_109 67 (l2_109 : Int32).toNatClampNeg = z := ⟨_, rfl⟩
        have b145 : (0 : Int) ≤ x143.toInt ∧ x143.toInt ≤ 120 := by rw [← e144]; exact I_109 67 _
        refine kv_iald C 139 rfl 67 rfl (by omega) (by omega) e144 (kdec dk_cX10_save 83 rfl) ?_
        obtain ⟨x147, e148⟩ : ∃ z : Int32, w 61 19 = z := ⟨_, rfl⟩
        have b149 : (0 : Int) ≤ x147.toInt ∧ x147.toInt ≤ 120 := by rw [← e148]; exact hI 61 19
        have e150 : w_109 61 19 = x147 := ((F_109 61 19 rfl : w_109 61 19 = w 61 19).trans e148)
        try have t146 := kMoT_top M_109 (x := l2_109) (by rw [e4]; omega) e144
        try rw [e150] at t146
        refine kv_iast C 140 rfl 77 rfl (by omega) (by omega) (kdec dk_cX10_save 84 rfl) (fun w151 u152 => ?_)
        have I153 : kI false w151 := kI_put u152 I_109 (show (0 : Int) ≤ (x143 : Int32).toInt by omega) (show (x143 : Int32).toInt ≤ 65535 by omega)
        have F154 : kF [(74, none), (75, none), (76, none), (77, none), (78, none), (79, none), (80, none)] w w151 := kF_put u152 F_109 rfl
        have M155 : kMoT w151 := kMoT_put u152 M_109 rfl rfl rfl
        refine kv_aload_n C 141 rfl 0 (kdec dk_cX10_save 85 rfl) rfl rfl ?_
        refine kv_getr C 144 rfl 61 36 rfl rfl inX10 (by decide) mfl_TaleMachineModel_56 rfl rfl (kdec dk_cX10_save 86 rfl) ?_
        refine kv_iload_n C 145 rfl 3 (kdec dk_cX10_save 87 rfl) rfl rfl ?_
        refine kv_iconst C 146 rfl 1 (kdec dk_cX10_save 88 rfl) rfl ?_
        refine kv_iadd C 147 rfl (kdec dk_cX10_save 89 rfl) (fun x156 q158 h157e h157 h157l h157u => ?_)
        try have h157n : x156.toInt = x140.toInt + (1 : Int32).toInt := by omega
        clear h157 q158
        refine kv_aload_n C 148 rfl 0 (kdec dk_cX10_save 90 rfl) rfl rfl ?_
        refine kv_getr C 151 rfl 61 22 rfl rfl inX10 (by decide) mfl_TaleMachineModel_28 rfl rfl (kdec dk_cX10_save 91 rfl) ?_
        refine kv_iload_n C 152 rfl 2 (kdec dk_cX10_save 92 rfl) rfl rfl ?_
        obtain ⟨x159, e160⟩ : ∃ z : Int32, w151 68 (l2_109 : Int32).toNatClampNeg = z := ⟨_, rfl⟩
        have b161 : (0 : Int) ≤ x159.toInt ∧ x159.toInt ≤ 65535 := by rw [← e160]; exact I153 68 _
        refine kv_iald C 153 rfl 68 rfl (by omega) (by omega) e160 (kdec dk_cX10_save 93 rfl) ?_
        refine kv_iast C 154 rfl 77 rfl (by omega) (by omega) (kdec dk_cX10_save 94 rfl) (fun w162 u163 => ?_)
        have I164 : kI false w162 := kI_put u163 I153 (show (0 : Int) ≤ (x159 : Int32).toInt by omega) (show (x159 : Int32).toInt ≤ 65535 by omega)
        have F165 : kF [(74, none), (75, none), (76, none), (77, none), (78, none), (79, none), (80, none)] w w162 := kF_put u163 F154 rfl
        have M166 : kMoT w162 := kMoT_put u163 M155 rfl rfl rfl
        refine kv_aload_n C 155 rfl 0 (kdec dk_cX10_save 95 rfl) rfl rfl ?_
        refine kv_getr C 158 rfl 61 36 rfl rfl inX10 (by decide) mfl_TaleMachineModel_56 rfl rfl (kdec dk_cX10_save 96 rfl) ?_
        refine kv_iload_n C 159 rfl 3 (kdec dk_cX10_save 97 rfl) rfl rfl ?_
        refine kv_iconst C 160 rfl 2 (kdec dk_cX10_save 98 rfl) rfl ?_
        refine kv_iadd C 161 rfl (kdec dk_cX10_save 99 rfl) (fun x167 q169 h168e h168 h168l h168u => ?_)
        try have h168n : x167.toInt = x140.toInt + (2 : Int32).toInt := by omega
        clear h168 q169
        refine kv_aload_n C 162 rfl 0 (kdec dk_cX10_save 100 rfl) rfl rfl ?_
        refine kv_getr C 165 rfl 61 23 rfl rfl inX10 (by decide) mfl_TaleMachineModel_31 rfl rfl (kdec dk_cX10_save 101 rfl) ?_
        refine kv_iload_n C 166 rfl 2 (kdec dk_cX10_save 102 rfl) rfl rfl ?_
        obtain ⟨x170, e171⟩ : ∃ z : Int32, w162 69 (l2_109 : Int32).toNatClampNeg = z := ⟨_, rfl⟩
        have b172 : (0 : Int) ≤ x170.toInt ∧ x170.toInt ≤ 255 := by rw [← e171]; exact I164 69 _
        refine kv_iald C 167 rfl 69 rfl (by omega) (by omega) e171 (kdec dk_cX10_save 103 rfl) ?_
        refine kv_iast C 168 rfl 77 rfl (by omega) (by omega) (kdec dk_cX10_save 104 rfl) (fun w173 u174 => ?_)
        have I175 : kI false w173 := kI_put u174 I164 (show (0 : Int) ≤ (x170 : Int32).toInt by omega) (show (x170 : Int32).toInt ≤ 65535 by omega)
        have F176 : kF [(74, none), (75, none), (76, none), (77, none), (78, none), (79, none), (80, none)] w w173 := kF_put u174 F165 rfl
        have M177 : kMoT w173 := kMoT_put u174 M166 rfl rfl rfl
        refine kv_aload_n C 169 rfl 0 (kdec dk_cX10_save 105 rfl) rfl rfl ?_
        refine kv_getr C 172 rfl 61 36 rfl rfl inX10 (by decide) mfl_TaleMachineModel_56 rfl rfl (kdec dk_cX10_save 106 rfl) ?_
        refine kv_iload_n C 173 rfl 3 (kdec dk_cX10_save 107 rfl) rfl rfl ?_
        refine kv_iconst C 174 rfl 3 (kdec dk_cX10_save 108 rfl) rfl ?_
        refine kv_iadd C 175 rfl (kdec dk_cX10_save 109 rfl) (fun x178 q180 h179e h179 h179l h179u => ?_)
        try have h179n : x178.toInt = x140.toInt + (3 : Int32).toInt := by omega
        clear h179 q180
        refine kv_aload_n C 176 rfl 0 (kdec dk_cX10_save 110 rfl) rfl rfl ?_
        refine kv_getr C 179 rfl 61 24 rfl rfl inX10 (by decide) mfl_TaleMachineModel_34 rfl rfl (kdec dk_cX10_save 111 rfl) ?_
        refine kv_iload_n C 180 rfl 2 (kdec dk_cX10_save 112 rfl) rfl rfl ?_
        obtain ⟨x181, e182⟩ : ∃ z : Int32, w173 70 (l2_109 : Int32).toNatClampNeg = z := ⟨_, rfl⟩
        have b183 : (0 : Int) ≤ x181.toInt ∧ x181.toInt ≤ 15 := by rw [← e182]; exact I175 70 _
        refine kv_iald C 181 rfl 70 rfl (by omega) (by omega) e182 (kdec dk_cX10_save 113 rfl) ?_
        refine kv_iast C 182 rfl 77 rfl (by omega) (by omega) (kdec dk_cX10_save 114 rfl) (fun w184 u185 => ?_)
        have I186 : kI false w184 := kI_put u185 I175 (show (0 : Int) ≤ (x181 : Int32).toInt by omega) (show (x181 : Int32).toInt ≤ 65535 by omega)
        have F187 : kF [(74, none), (75, none), (76, none), (77, none), (78, none), (79, none), (80, none)] w w184 := kF_put u185 F176 rfl
        have M188 : kMoT w184 := kMoT_put u185 M177 rfl rfl rfl
        refine kv_iconst C 183 rfl 1 (kdec dk_cX10_save 115 rfl) rfl ?_
        refine kv_istore C 185 rfl 4 [1, 2, 3, 4, 0] [(0, .ref (ρ 61)), (1, .int 1), (2, .int l2_109), (3, .int x140), (4, .int 1)] (kdec dk_cX10_save 116 rfl) (by decide) rfl ?_
        exact cut185 ((((17 - (1 : Int32).toInt)) : Int).toNat + 1) w184 l2_109 x140 1 I186 F187 (by omega) (by omega) (by rw [e7]; try omega) M188 (fun j9 => (((kup_ne u185 rfl : w184 78 j9 = w173 78 j9).trans ((kup_ne u174 rfl : w173 78 j9 = w162 78 j9).trans ((kup_ne u163 rfl : w162 78 j9 = w151 78 j9).trans (kup_ne u152 rfl : w151 78 j9 = w_109 78 j9))))).trans (R109_E j9)) (fun j9 hj9 => (((kup_ne u185 rfl : w184 74 j9 = w173 74 j9).trans ((kup_ne u174 rfl : w173 74 j9 = w162 74 j9).trans ((kup_ne u163 rfl : w162 74 j9 = w151 74 j9).trans (kup_ne u152 rfl : w151 74 j9 = w_109 74 j9))))).trans (R109_I j9 hj9)) (kB_put (kB_put (kB_put (kB_put R109_B u152 (by omega) (by omega)) u163 (by omega) (by omega)) u174 (by omega) (by omega)) u185 (by omega) (by omega)) (kA_add R109_A (by omega) u152 (by omega) u163 (by omega) u174 (by omega) u185 (by omega) ((F_109 67 _ rfl).symm.trans e144) ((F165 69 _ rfl).symm.trans e171) ((F176 70 _ rfl).symm.trans e182)) (by omega)
  have cut76 : ∀ (n_76 : Nat) (w_76 : kw) (l2_76 : Int32), kI false w_76 → kF [(74, none), (75, none), (76, none), (77, none), (78, none), (79, none), (80, none)] w w_76 → (0 ≤ l2_76.toInt ∧ l2_76.toInt ≤ 120) → ((w 61 12).toInt = 1 ∨ (w 61 12).toInt = 3) → kMoT w_76 → (∀ j9 : Nat, w_76 78 j9 = w 78 j9) → (∀ j9 : Nat, j9 ≠ 1 → w_76 74 j9 = w 74 j9) → (∀ j9 : Nat, w_76 77 j9 = w 77 j9) → ((121 - l2_76.toInt) : Int) < (n_76 : Int) → kV p l e { frames := 1, cells := 0, slots := 0, locals := 36 } s m args below meth c (kQ below args s D τ ρ (fun o w' => ∃ r : Int32, o = some (.int r) ∧ kI false w' ∧ kF [(74, none), (75, none), (76, none), (77, none), (78, none), (79, none), (80, none)] w w' ∧ ((w 61 12).toInt = 1 ∨ (w 61 12).toInt = 3 ∨ ((1 : Int32).toInt < 0 ∨ 3 < (1 : Int32).toInt) ∧ r.toInt = -1 ∨ 0 ≤ (1 : Int32).toInt ∧ (1 : Int32).toInt ≤ 3 ∧ r.toInt = -2) ∧ ((w' 61 3).toInt = 0 ∧ (w' 61 12).toInt = 0 ∨ kMoT w') ∧ (kSl w'))) 5 D τ ρ 76 [(0, .ref (ρ 61)), (1, .int 1), (2, .int l2_76)] [] w_76 := by
    intro n_76
    induction n_76 with
    | zero => intro w_76 l2_76 I_76 F_76 k76_0 k76_1 M_76 R76_E R76_I R76_B hmz; exfalso; omega
    | succ n_76 ih76 =>
      intro w_76 l2_76 I_76 F_76 k76_0 k76_1 M_76 R76_E R76_I R76_B hm76
      have gl2_76 := kf_rng l2_76
      obtain ⟨x189, e190⟩ : ∃ z : Int32, w 61 20 = z := ⟨_, rfl⟩
      have b191 : (0 : Int) ≤ x189.toInt ∧ x189.toInt ≤ 20 := by rw [← e190]; exact hI 61 20
      have e192 : w_76 61 20 = x189 := ((F_76 61 20 rfl : w_76 61 20 = w 61 20).trans e190)
      have r193 := kMoT_fr M_76
      rw [e192] at r193
      obtain ⟨x194, e195⟩ : ∃ z : Int32, w 61 12 = z := ⟨_, rfl⟩
      have b196 : (0 : Int) ≤ x194.toInt ∧ x194.toInt ≤ 4 := by rw [← e195]; exact hI 61 12
      rw [e195] at k76_1
      refine kv_iload_n C 77 rfl 2 (kdec dk_cX10_save 45 rfl) rfl rfl ?_
      refine kv_aload_n C 78 rfl 0 (kdec dk_cX10_save 46 rfl) rfl rfl ?_
      obtain ⟨x197, e198⟩ : ∃ z : Int32, w 61 19 = z := ⟨_, rfl⟩
      have b199 : (0 : Int) ≤ x197.toInt ∧ x197.toInt ≤ 120 := by rw [← e198]; exact hI 61 19
      have e200 : w_76 61 19 = x197 := ((F_76 61 19 rfl : w_76 61 19 = w 61 19).trans e198)
      refine kv_get C 81 rfl 61 19 rfl rfl inX10 (by decide) mfl_TaleMachineModel_136 rfl rfl (kdec dk_cX10_save 47 rfl) e200 ?_
      refine kv_icmp_ge C 84 rfl 107 (kdec dk_cX10_save 48 rfl) (by decide) (fun d201 => ?_) (fun d201 => ?_)
      · skip
        refine kv_iconst C 108 rfl 0 (kdec dk_cX10_save 63 rfl) rfl ?_
        refine kv_istore_n C 109 rfl 2 [1, 2, 0] [(0, .ref (ρ 61)), (1, .int 1), (2, .int 0)] (kdec dk_cX10_save 64 rfl) rfl (by decide) rfl ?_
        exact cut109 ((((21 - (0 : Int32).toInt)) : Int).toNat + 1) w_76 0 I_76 F_76 (by omega) (by rw [e195]; try omega) M_76 (fun j9 => (rfl).trans (R76_E j9)) (fun j9 hj9 => (rfl).trans (R76_I j9 hj9)) (fun j9 _ => (rfl).trans (R76_B j9)) (fun f9 hf9 => by exfalso; omega) (by omega)
      · skip
        refine kv_aload_n C 85 rfl 0 (kdec dk_cX10_save 49 rfl) rfl rfl ?_
        refine kv_getr C 88 rfl 61 35 rfl rfl inX10 (by decide) mfl_TaleMachineModel_53 rfl rfl (kdec dk_cX10_save 50 rfl) ?_
        refine kv_bipush C 90 rfl 120 (kdec dk_cX10_save 51 rfl) rfl ?_
        refine kv_iload_n C 91 rfl 1 (kdec dk_cX10_save 52 rfl) rfl rfl ?_
        refine kv_imul C 92 rfl (kdec dk_cX10_save 53 rfl) (fun x202 h203e h203l h203u => ?_)
        obtain rfl : x202 = 120 := by rw [h203e]; decide
        refine kv_iload_n C 93 rfl 2 (kdec dk_cX10_save 54 rfl) rfl rfl ?_
        refine kv_iadd C 94 rfl (kdec dk_cX10_save 55 rfl) (fun x204 q206 h205e h205 h205l h205u => ?_)
        try have h205n : x204.toInt = (120 : Int32).toInt + l2_76.toInt := by omega
        clear h205 q206
        refine kv_aload_n C 95 rfl 0 (kdec dk_cX10_save 56 rfl) rfl rfl ?_
        refine kv_getr C 98 rfl 61 18 rfl rfl inX10 (by decide) mfl_TaleMachineModel_22 rfl rfl (kdec dk_cX10_save 57 rfl) ?_
        refine kv_iload_n C 99 rfl 2 (kdec dk_cX10_save 58 rfl) rfl rfl ?_
        obtain ⟨x207, e208⟩ : ∃ z : Int32, w_76 66 (l2_76 : Int32).toNatClampNeg = z := ⟨_, rfl⟩
        have b209 : (0 : Int) ≤ x207.toInt ∧ x207.toInt ≤ 65535 := by rw [← e208]; exact I_76 66 _
        refine kv_iald C 100 rfl 66 rfl (by omega) (by omega) e208 (kdec dk_cX10_save 59 rfl) ?_
        refine kv_iast C 101 rfl 76 rfl (by omega) (by omega) (kdec dk_cX10_save 60 rfl) (fun w210 u211 => ?_)
        have I212 : kI false w210 := kI_put u211 I_76 (show (0 : Int) ≤ (x207 : Int32).toInt by omega) (show (x207 : Int32).toInt ≤ 65535 by omega)
        have F213 : kF [(74, none), (75, none), (76, none), (77, none), (78, none), (79, none), (80, none)] w w210 := kF_put u211 F_76 rfl
        have M214 : kMoT w210 := kMoT_put u211 M_76 rfl rfl rfl
        refine kv_iinc C 104 rfl 2 2 [1, 2, 0] (fun v9 => [(0, .ref (ρ 61)), (1, .int 1), (2, .int v9)]) (kdec dk_cX10_save 61 rfl) rfl (by decide) (fun _ => rfl) 1 rfl (fun x215 q216 h217e h217 h217l h217u => ?_)
        try have h217n : x215.toInt = l2_76.toInt + 1 := by omega
        clear h217 q216
        refine kv_goto C 76 (kdec dk_cX10_save 62 rfl) (by decide) ?_
        exact ih76 w210 x215 I212 F213 (by omega) (by rw [e195]; try omega) M214 (fun j9 => ((kup_ne u211 rfl : w210 78 j9 = w_76 78 j9)).trans (R76_E j9)) (fun j9 hj9 => ((kup_ne u211 rfl : w210 74 j9 = w_76 74 j9)).trans (R76_I j9 hj9)) (fun j9 => ((kup_ne u211 rfl : w210 77 j9 = w_76 77 j9)).trans (R76_B j9)) (by omega)
  have cut42 : ∀ (n_42 : Nat) (w_42 : kw) (l2_42 : Int32), kI false w_42 → kF [(74, none), (75, none), (76, none), (77, none), (78, none), (79, none), (80, none)] w w_42 → (0 ≤ l2_42.toInt ∧ l2_42.toInt ≤ 1024) → ((w 61 12).toInt = 1 ∨ (w 61 12).toInt = 3) → kMoT w_42 → (∀ j9 : Nat, w_42 78 j9 = w 78 j9) → (∀ j9 : Nat, j9 ≠ 1 → w_42 74 j9 = w 74 j9) → (∀ j9 : Nat, w_42 77 j9 = w 77 j9) → ((1025 - l2_42.toInt) : Int) < (n_42 : Int) → kV p l e { frames := 1, cells := 0, slots := 0, locals := 36 } s m args below meth c (kQ below args s D τ ρ (fun o w' => ∃ r : Int32, o = some (.int r) ∧ kI false w' ∧ kF [(74, none), (75, none), (76, none), (77, none), (78, none), (79, none), (80, none)] w w' ∧ ((w 61 12).toInt = 1 ∨ (w 61 12).toInt = 3 ∨ ((1 : Int32).toInt < 0 ∨ 3 < (1 : Int32).toInt) ∧ r.toInt = -1 ∨ 0 ≤ (1 : Int32).toInt ∧ (1 : Int32).toInt ≤ 3 ∧ r.toInt = -2) ∧ ((w' 61 3).toInt = 0 ∧ (w' 61 12).toInt = 0 ∨ kMoT w') ∧ (kSl w'))) 5 D τ ρ 42 [(0, .ref (ρ 61)), (1, .int 1), (2, .int l2_42)] [] w_42 := by
    intro n_42
    induction n_42 with
    | zero => intro w_42 l2_42 I_42 F_42 k42_0 k42_1 M_42 R42_E R42_I R42_B hmz; exfalso; omega
    | succ n_42 ih42 =>
      intro w_42 l2_42 I_42 F_42 k42_0 k42_1 M_42 R42_E R42_I R42_B hm42
      have gl2_42 := kf_rng l2_42
      obtain ⟨x218, e219⟩ : ∃ z : Int32, w 61 20 = z := ⟨_, rfl⟩
      have b220 : (0 : Int) ≤ x218.toInt ∧ x218.toInt ≤ 20 := by rw [← e219]; exact hI 61 20
      have e221 : w_42 61 20 = x218 := ((F_42 61 20 rfl : w_42 61 20 = w 61 20).trans e219)
      have r222 := kMoT_fr M_42
      rw [e221] at r222
      obtain ⟨x223, e224⟩ : ∃ z : Int32, w 61 12 = z := ⟨_, rfl⟩
      have b225 : (0 : Int) ≤ x223.toInt ∧ x223.toInt ≤ 4 := by rw [← e224]; exact hI 61 12
      rw [e224] at k42_1
      refine kv_iload_n C 43 rfl 2 (kdec dk_cX10_save 25 rfl) rfl rfl ?_
      refine kv_aload_n C 44 rfl 0 (kdec dk_cX10_save 26 rfl) rfl rfl ?_
      obtain ⟨x226, e227⟩ : ∃ z : Int32, w 61 7 = z := ⟨_, rfl⟩
      have b228 : (0 : Int) ≤ x226.toInt ∧ x226.toInt ≤ 1024 := by rw [← e227]; exact hI 61 7
      have e229 : w_42 61 7 = x226 := ((F_42 61 7 rfl : w_42 61 7 = w 61 7).trans e227)
      refine kv_get C 47 rfl 61 7 rfl rfl inX10 (by decide) mfl_TaleMachineModel_118 rfl rfl (kdec dk_cX10_save 27 rfl) e229 ?_
      refine kv_icmp_ge C 50 rfl 74 (kdec dk_cX10_save 28 rfl) (by decide) (fun d230 => ?_) (fun d230 => ?_)
      · skip
        refine kv_iconst C 75 rfl 0 (kdec dk_cX10_save 43 rfl) rfl ?_
        refine kv_istore_n C 76 rfl 2 [1, 2, 0] [(0, .ref (ρ 61)), (1, .int 1), (2, .int 0)] (kdec dk_cX10_save 44 rfl) rfl (by decide) rfl ?_
        exact cut76 ((((121 - (0 : Int32).toInt)) : Int).toNat + 1) w_42 0 I_42 F_42 (by omega) (by rw [e224]; try omega) M_42 (fun j9 => (rfl).trans (R42_E j9)) (fun j9 hj9 => (rfl).trans (R42_I j9 hj9)) (fun j9 => (rfl).trans (R42_B j9)) (by omega)
      · skip
        refine kv_aload_n C 51 rfl 0 (kdec dk_cX10_save 29 rfl) rfl rfl ?_
        refine kv_getr C 54 rfl 61 34 rfl rfl inX10 (by decide) mfl_TaleMachineModel_50 rfl rfl (kdec dk_cX10_save 30 rfl) ?_
        refine kv_sipush C 57 rfl 1024 (kdec dk_cX10_save 31 rfl) rfl ?_
        refine kv_iload_n C 58 rfl 1 (kdec dk_cX10_save 32 rfl) rfl rfl ?_
        refine kv_imul C 59 rfl (kdec dk_cX10_save 33 rfl) (fun x231 h232e h232l h232u => ?_)
        obtain rfl : x231 = 1024 := by rw [h232e]; decide
        refine kv_iload_n C 60 rfl 2 (kdec dk_cX10_save 34 rfl) rfl rfl ?_
        refine kv_iadd C 61 rfl (kdec dk_cX10_save 35 rfl) (fun x233 q235 h234e h234 h234l h234u => ?_)
        try have h234n : x233.toInt = (1024 : Int32).toInt + l2_42.toInt := by omega
        clear h234 q235
        refine kv_aload_n C 62 rfl 0 (kdec dk_cX10_save 36 rfl) rfl rfl ?_
        refine kv_getr C 65 rfl 61 4 rfl rfl inX10 (by decide) mfl_TaleMachineModel_16 rfl rfl (kdec dk_cX10_save 37 rfl) ?_
        refine kv_iload_n C 66 rfl 2 (kdec dk_cX10_save 38 rfl) rfl rfl ?_
        obtain ⟨x236, e237⟩ : ∃ z : Int32, w_42 64 (l2_42 : Int32).toNatClampNeg = z := ⟨_, rfl⟩
        have b238 : (0 : Int) ≤ x236.toInt ∧ x236.toInt ≤ 255 := by rw [← e237]; exact I_42 64 _
        refine kv_iald C 67 rfl 64 rfl (by omega) (by omega) e237 (kdec dk_cX10_save 39 rfl) ?_
        refine kv_iast C 68 rfl 75 rfl (by omega) (by omega) (kdec dk_cX10_save 40 rfl) (fun w239 u240 => ?_)
        have I241 : kI false w239 := kI_put u240 I_42 (show (0 : Int) ≤ (x236 : Int32).toInt by omega) (show (x236 : Int32).toInt ≤ 255 by omega)
        have F242 : kF [(74, none), (75, none), (76, none), (77, none), (78, none), (79, none), (80, none)] w w239 := kF_put u240 F_42 rfl
        have M243 : kMoT w239 := kMoT_put u240 M_42 rfl rfl rfl
        refine kv_iinc C 71 rfl 2 2 [1, 2, 0] (fun v9 => [(0, .ref (ρ 61)), (1, .int 1), (2, .int v9)]) (kdec dk_cX10_save 41 rfl) rfl (by decide) (fun _ => rfl) 1 rfl (fun x244 q245 h246e h246 h246l h246u => ?_)
        try have h246n : x244.toInt = l2_42.toInt + 1 := by omega
        clear h246 q245
        refine kv_goto C 42 (kdec dk_cX10_save 42 rfl) (by decide) ?_
        exact ih42 w239 x244 I241 F242 (by omega) (by rw [e224]; try omega) M243 (fun j9 => ((kup_ne u240 rfl : w239 78 j9 = w_42 78 j9)).trans (R42_E j9)) (fun j9 hj9 => ((kup_ne u240 rfl : w239 74 j9 = w_42 74 j9)).trans (R42_I j9 hj9)) (fun j9 => ((kup_ne u240 rfl : w239 77 j9 = w_42 77 j9)).trans (R42_B j9)) (by omega)
  refine kv_iload_n C 1 rfl 1 (kdec dk_cX10_save 0 rfl) rfl rfl ?_
  refine kv_i2l C 2 rfl (kdec dk_cX10_save 1 rfl) ?_
  have h247 := kf_i2l 1
  refine kv_lconst C 3 rfl 0 (kdec dk_cX10_save 2 rfl) rfl ?_
  have h248 : (0 : Int64).toInt = 0 := by decide
  refine kv_ldc2 C 6 rfl 3 (kdec dk_cX10_save 3 rfl) mcl_TaleMachineModel_259 ?_
  have h249 : (3 : Int64).toInt = 3 := by decide
  refine kv_callSi (As := [.long (1 : Int32).toInt64, .long (0 : Int64), .long (3 : Int64)]) (rest := []) C 9 rfl (k_x_in l D τ ρ σ w (1 : Int32).toInt64 (0 : Int64) (3 : Int64) hI ) mml_TaleMachineModel_94 mst_yX10_in mcd_yX10_in min_yX10_in hd_yX10_in rfl rfl rfl (by decide) rfl (Nat.le_of_ble_eq_true rfl) (kdec dk_cX10_save 4 rfl) (fun x254 w250 h251 => ?_)
  obtain ⟨I252, f253, p255, p256⟩ := h251
  have F257 : kF [(74, none), (75, none), (76, none), (77, none), (78, none), (79, none), (80, none)] w w250 := kF_call hF0 f253 (by decide)
  have M258 : ((w250 61 3).toInt = 0 ∧ (w250 61 12).toInt = 0 ∨ kMoT w250) := kMoP_kF f253 hMp rfl rfl rfl rfl (fun _ => rfl)
  have g259 := kf_rng x254
  refine kv_if_ne C 12 rfl 14 (kdec dk_cX10_save 5 rfl) (by decide) (fun d260 => ?_) (fun d260 => ?_)
  · skip
    refine kv_aload_n C 15 rfl 0 (kdec dk_cX10_save 8 rfl) rfl rfl ?_
    obtain ⟨x261, e262⟩ : ∃ z : Int32, w 61 12 = z := ⟨_, rfl⟩
    have b263 : (0 : Int) ≤ x261.toInt ∧ x261.toInt ≤ 4 := by rw [← e262]; exact hI 61 12
    have e264 : w250 61 12 = x261 := ((f253 61 12 rfl : w250 61 12 = w 61 12).trans e262)
    refine kv_get C 18 rfl 61 12 rfl rfl inX10 (by decide) mfl_TaleMachineModel_112 rfl rfl (kdec dk_cX10_save 9 rfl) e264 ?_
    refine kv_iconst C 19 rfl 1 (kdec dk_cX10_save 10 rfl) rfl ?_
    refine kv_icmp_eq C 22 rfl 33 (kdec dk_cX10_save 11 rfl) (by decide) (fun d265 => ?_) (fun d265 => ?_)
    · skip
      obtain ⟨x267, e268⟩ : ∃ z : Int32, w 61 3 = z := ⟨_, rfl⟩
      have b269 : (0 : Int) ≤ x267.toInt ∧ x267.toInt ≤ 1 := by rw [← e268]; exact hI 61 3
      have e270 : w250 61 3 = x267 := ((f253 61 3 rfl : w250 61 3 = w 61 3).trans e268)
      have M266 : kMoT w250 := M258.resolve_left (by rw [e270, e264]; omega)
      obtain ⟨x271, e272⟩ : ∃ z : Int32, w 61 20 = z := ⟨_, rfl⟩
      have b273 : (0 : Int) ≤ x271.toInt ∧ x271.toInt ≤ 20 := by rw [← e272]; exact hI 61 20
      have e274 : w250 61 20 = x271 := ((f253 61 20 rfl : w250 61 20 = w 61 20).trans e272)
      have r275 := kMoT_fr M266
      rw [e274] at r275
      refine kv_aload_n C 34 rfl 0 (kdec dk_cX10_save 18 rfl) rfl rfl ?_
      refine kv_getr C 37 rfl 61 33 rfl rfl inX10 (by decide) mfl_TaleMachineModel_46 rfl rfl (kdec dk_cX10_save 19 rfl) ?_
      refine kv_iload_n C 38 rfl 1 (kdec dk_cX10_save 20 rfl) rfl rfl ?_
      refine kv_iconst C 39 rfl 1 (kdec dk_cX10_save 21 rfl) rfl ?_
      refine kv_zast C 40 rfl 74 rfl (by omega) (by omega) (kdec dk_cX10_save 22 rfl) (fun w276 u277 => ?_)
      have u277 : w276 = kup w250 74 1 (vp_nar .boolean 1) := u277
      rw [kf_nar (by decide)] at u277
      have I278 : kI false w276 := kI_put u277 I252 (show (0 : Int) ≤ (1 : Int32).toInt by omega) (show (1 : Int32).toInt ≤ 1 by omega)
      have F279 : kF [(74, none), (75, none), (76, none), (77, none), (78, none), (79, none), (80, none)] w w276 := kF_put u277 F257 rfl
      have M280 : kMoT w276 := kMoT_put u277 M266 rfl rfl rfl
      refine kv_iconst C 41 rfl 0 (kdec dk_cX10_save 23 rfl) rfl ?_
      refine kv_istore_n C 42 rfl 2 [1, 2, 0] [(0, .ref (ρ 61)), (1, .int 1), (2, .int 0)] (kdec dk_cX10_save 24 rfl) rfl (by decide) rfl ?_
      exact cut42 ((((1025 - (0 : Int32).toInt)) : Int).toNat + 1) w276 0 I278 F279 (by omega) (by rw [e262]; try omega) M280 (fun j9 => ((kup_ne u277 rfl : w276 78 j9 = w250 78 j9).trans (f253 78 j9 rfl : w250 78 j9 = w 78 j9))) (fun j9 hj9 => ((kup_nek u277 hj9 : w276 74 j9 = w250 74 j9).trans (f253 74 j9 rfl : w250 74 j9 = w 74 j9))) (fun j9 => ((kup_ne u277 rfl : w276 77 j9 = w250 77 j9).trans (f253 77 j9 rfl : w250 77 j9 = w 77 j9))) (by omega)
    · skip
      refine kv_aload_n C 23 rfl 0 (kdec dk_cX10_save 12 rfl) rfl rfl ?_
      refine kv_get C 26 rfl 61 12 rfl rfl inX10 (by decide) mfl_TaleMachineModel_112 rfl rfl (kdec dk_cX10_save 13 rfl) e264 ?_
      refine kv_iconst C 27 rfl 3 (kdec dk_cX10_save 14 rfl) rfl ?_
      refine kv_icmp_eq C 30 rfl 33 (kdec dk_cX10_save 15 rfl) (by decide) (fun d281 => ?_) (fun d281 => ?_)
      · skip
        obtain ⟨x283, e284⟩ : ∃ z : Int32, w 61 3 = z := ⟨_, rfl⟩
        have b285 : (0 : Int) ≤ x283.toInt ∧ x283.toInt ≤ 1 := by rw [← e284]; exact hI 61 3
        have e286 : w250 61 3 = x283 := ((f253 61 3 rfl : w250 61 3 = w 61 3).trans e284)
        have M282 : kMoT w250 := M258.resolve_left (by rw [e286, e264]; omega)
        obtain ⟨x287, e288⟩ : ∃ z : Int32, w 61 20 = z := ⟨_, rfl⟩
        have b289 : (0 : Int) ≤ x287.toInt ∧ x287.toInt ≤ 20 := by rw [← e288]; exact hI 61 20
        have e290 : w250 61 20 = x287 := ((f253 61 20 rfl : w250 61 20 = w 61 20).trans e288)
        have r291 := kMoT_fr M282
        rw [e290] at r291
        refine kv_aload_n C 34 rfl 0 (kdec dk_cX10_save 18 rfl) rfl rfl ?_
        refine kv_getr C 37 rfl 61 33 rfl rfl inX10 (by decide) mfl_TaleMachineModel_46 rfl rfl (kdec dk_cX10_save 19 rfl) ?_
        refine kv_iload_n C 38 rfl 1 (kdec dk_cX10_save 20 rfl) rfl rfl ?_
        refine kv_iconst C 39 rfl 1 (kdec dk_cX10_save 21 rfl) rfl ?_
        refine kv_zast C 40 rfl 74 rfl (by omega) (by omega) (kdec dk_cX10_save 22 rfl) (fun w292 u293 => ?_)
        have u293 : w292 = kup w250 74 1 (vp_nar .boolean 1) := u293
        rw [kf_nar (by decide)] at u293
        have I294 : kI false w292 := kI_put u293 I252 (show (0 : Int) ≤ (1 : Int32).toInt by omega) (show (1 : Int32).toInt ≤ 1 by omega)
        have F295 : kF [(74, none), (75, none), (76, none), (77, none), (78, none), (79, none), (80, none)] w w292 := kF_put u293 F257 rfl
        have M296 : kMoT w292 := kMoT_put u293 M282 rfl rfl rfl
        refine kv_iconst C 41 rfl 0 (kdec dk_cX10_save 23 rfl) rfl ?_
        refine kv_istore_n C 42 rfl 2 [1, 2, 0] [(0, .ref (ρ 61)), (1, .int 1), (2, .int 0)] (kdec dk_cX10_save 24 rfl) rfl (by decide) rfl ?_
        exact cut42 ((((1025 - (0 : Int32).toInt)) : Int).toNat + 1) w292 0 I294 F295 (by omega) (by rw [e262]; try omega) M296 (fun j9 => ((kup_ne u293 rfl : w292 78 j9 = w250 78 j9).trans (f253 78 j9 rfl : w250 78 j9 = w 78 j9))) (fun j9 hj9 => ((kup_nek u293 hj9 : w292 74 j9 = w250 74 j9).trans (f253 74 j9 rfl : w250 74 j9 = w 74 j9))) (fun j9 => ((kup_ne u293 rfl : w292 77 j9 = w250 77 j9).trans (f253 77 j9 rfl : w250 77 j9 = w 77 j9))) (by omega)
      · skip
        refine kv_bipush C 32 rfl (-2) (kdec dk_cX10_save 16 rfl) rfl ?_
        exact kv_iret C hr hlk (kdec dk_cX10_save 17 rfl) ⟨_, rfl, I252, F257, (by rw [e262]; try omega), M258, (kSl_eq hS (fun j9 => (f253 74 j9 rfl : w250 74 j9 = w 74 j9)) (fun j9 => (f253 77 j9 rfl : w250 77 j9 = w 77 j9)) (fun j9 => (f253 78 j9 rfl : w250 78 j9 = w 78 j9)))⟩
  · skip
    refine kv_iconst C 13 rfl (-1) (kdec dk_cX10_save 6 rfl) rfl ?_
    obtain ⟨x297, e298⟩ : ∃ z : Int32, w 61 12 = z := ⟨_, rfl⟩
    have b299 : (0 : Int) ≤ x297.toInt ∧ x297.toInt ≤ 4 := by rw [← e298]; exact hI 61 12
    exact kv_iret C hr hlk (kdec dk_cX10_save 7 rfl) ⟨_, rfl, I252, F257, (by rw [e298]; try omega), M258, (kSl_eq hS (fun j9 => (f253 74 j9 rfl : w250 74 j9 = w 74 j9)) (fun j9 => (f253 77 j9 rfl : w250 77 j9 = w 77 j9)) (fun j9 => (f253 78 j9 rfl : w250 78 j9 = w 78 j9)))⟩

set_option maxHeartbeats 4000000 in
set_option maxRecDepth 100000 in
theorem k_x_save2 (l : Launch) (D : va_G) (τ : Nat → ClassId) (ρ σ : Nat → Nat) (w : kw)  (hI : kI false w) (hMp : ((w 61 3).toInt = 0 ∧ (w 61 12).toInt = 0 ∨ kMoT w)) (hS : kSl w) :
    kM l D τ ρ σ yX10_save cX10_save 5 (some .int) { frames := 1, cells := 0, slots := 0, locals := 36 } [.ref (ρ 61), .int 2] w
      (fun o w' => ∃ r : Int32, o = some (.int r) ∧ kI false w' ∧ kF [(74, none), (75, none), (76, none), (77, none), (78, none), (79, none), (80, none)] w w' ∧ ((w 61 12).toInt = 1 ∨ (w 61 12).toInt = 3 ∨ ((2 : Int32).toInt < 0 ∨ 3 < (2 : Int32).toInt) ∧ r.toInt = -1 ∨ 0 ≤ (2 : Int32).toInt ∧ (2 : Int32).toInt ≤ 3 ∧ r.toInt = -2) ∧ ((w' 61 3).toInt = 0 ∧ (w' 61 12).toInt = 0 ∨ kMoT w') ∧ (kSl w')) := by
  refine kM_of (own := "TaleMachineModel") rfl (by decide) (Nat.le_of_ble_eq_true rfl) ?_
  intro p e s m args below meth c C hr hlk
  have hF0 : kF [(74, none), (75, none), (76, none), (77, none), (78, none), (79, none), (80, none)] w w := kF.rf
  have c_m2 : (-2 : Int32).toInt = -2 := by decide
  have c_m1 : (-1 : Int32).toInt = -1 := by decide
  have c_0 : (0 : Int32).toInt = 0 := by decide
  have c_1 : (1 : Int32).toInt = 1 := by decide
  have c_2 : (2 : Int32).toInt = 2 := by decide
  have c_3 : (3 : Int32).toInt = 3 := by decide
  have c_4 : (4 : Int32).toInt = 4 := by decide
  have c_5 : (5 : Int32).toInt = 5 := by decide
  have c_7 : (7 : Int32).toInt = 7 := by decide
  have c_14 : (14 : Int32).toInt = 14 := by decide
  have c_15 : (15 : Int32).toInt = 15 := by decide
  have c_16 : (16 : Int32).toInt = 16 := by decide
  have c_17 : (17 : Int32).toInt = 17 := by decide
  have c_18 : (18 : Int32).toInt = 18 := by decide
  have c_19 : (19 : Int32).toInt = 19 := by decide
  have c_24 : (24 : Int32).toInt = 24 := by decide
  have c_120 : (120 : Int32).toInt = 120 := by decide
  have c_240 : (240 : Int32).toInt = 240 := by decide
  have c_1024 : (1024 : Int32).toInt = 1024 := by decide
  have c_1920 : (1920 : Int32).toInt = 1920 := by decide
  have c_2048 : (2048 : Int32).toInt = 2048 := by decide
  have c_3840 : (3840 : Int32).toInt = 3840 := by decide
  refine kV.L (L' := [(0, .ref (ρ 61)), (1, .int 2)]) rfl ?_
  have cut109 : ∀ (n_109 : Nat) (w_109 : kw) (l2_109 : Int32), kI false w_109 → kF [(74, none), (75, none), (76, none), (77, none), (78, none), (79, none), (80, none)] w w_109 → (0 ≤ l2_109.toInt ∧ l2_109.toInt ≤ 20) → ((w 61 12).toInt = 1 ∨ (w 61 12).toInt = 3) → kMoT w_109 → (∀ j9 : Nat, w_109 78 j9 = w 78 j9) → (∀ j9 : Nat, j9 ≠ 2 → w_109 74 j9 = w 74 j9) → (∀ j9 : Nat, (j9 < 3840 ∨ 3840 + 1920 ≤ j9) → w_109 77 j9 = w 77 j9) → (∀ f9 : Nat, (f9 : Int) < l2_109.toInt → kAc 3840 w w_109 f9) → ((21 - l2_109.toInt) : Int) < (n_109 : Int) → kV p l e { frames := 1, cells := 0, slots := 0, locals := 36 } s m args below meth c (kQ below args s D τ ρ (fun o w' => ∃ r : Int32, o = some (.int r) ∧ kI false w' ∧ kF [(74, none), (75, none), (76, none), (77, none), (78, none), (79, none), (80, none)] w w' ∧ ((w 61 12).toInt = 1 ∨ (w 61 12).toInt = 3 ∨ ((2 : Int32).toInt < 0 ∨ 3 < (2 : Int32).toInt) ∧ r.toInt = -1 ∨ 0 ≤ (2 : Int32).toInt ∧ (2 : Int32).toInt ≤ 3 ∧ r.toInt = -2) ∧ ((w' 61 3).toInt = 0 ∧ (w' 61 12).toInt = 0 ∨ kMoT w') ∧ (kSl w'))) 5 D τ ρ 109 [(0, .ref (ρ 61)), (1, .int 2), (2, .int l2_109)] [] w_109 := by
    intro n_109
    induction n_109 with
    | zero => intro w_109 l2_109 I_109 F_109 k109_0 k109_1 M_109 R109_E R109_I R109_B R109_A hmz; exfalso; omega
    | succ n_109 ih109 =>
      intro w_109 l2_109 I_109 F_109 k109_0 k109_1 M_109 R109_E R109_I R109_B R109_A hm109
      have gl2_109 := kf_rng l2_109
      obtain ⟨x1, e2⟩ : ∃ z : Int32, w 61 20 = z := ⟨_, rfl⟩
      have b3 : (0 : Int) ≤ x1.toInt ∧ x1.toInt ≤ 20 := by rw [← e2]; exact hI 61 20
      have e4 : w_109 61 20 = x1 := ((F_109 61 20 rfl : w_109 61 20 = w 61 20).trans e2)
      have r5 := kMoT_fr M_109
      rw [e4] at r5
      obtain ⟨x6, e7⟩ : ∃ z : Int32, w 61 12 = z := ⟨_, rfl⟩
      have b8 : (0 : Int) ≤ x6.toInt ∧ x6.toInt ≤ 4 := by rw [← e7]; exact hI 61 12
      rw [e7] at k109_1
      have cut185 : ∀ (n_185 : Nat) (w_185 : kw) (l2_185 l3_185 l4_185 : Int32), kI false w_185 → kF [(74, none), (75, none), (76, none), (77, none), (78, none), (79, none), (80, none)] w w_185 → (0 ≤ l2_185.toInt ∧ l2_185.toInt < 20 ∧ l2_185.toInt = l2_109.toInt ∧ l3_185.toInt = 3840 + 24 * l2_185.toInt) → (1 ≤ l4_185.toInt ∧ l4_185.toInt ≤ 16) → ((w 61 12).toInt = 1 ∨ (w 61 12).toInt = 3) → kMoT w_185 → (∀ j9 : Nat, w_185 78 j9 = w 78 j9) → (∀ j9 : Nat, j9 ≠ 2 → w_185 74 j9 = w 74 j9) → (∀ j9 : Nat, (j9 < 3840 ∨ 3840 + 1920 ≤ j9) → w_185 77 j9 = w 77 j9) → (∀ f9 : Nat, (f9 : Int) ≤ l2_185.toInt → kAc 3840 w w_185 f9) → ((17 - l4_185.toInt) : Int) < (n_185 : Int) → kV p l e { frames := 1, cells := 0, slots := 0, locals := 36 } s m args below meth c (kQ below args s D τ ρ (fun o w' => ∃ r : Int32, o = some (.int r) ∧ kI false w' ∧ kF [(74, none), (75, none), (76, none), (77, none), (78, none), (79, none), (80, none)] w w' ∧ ((w 61 12).toInt = 1 ∨ (w 61 12).toInt = 3 ∨ ((2 : Int32).toInt < 0 ∨ 3 < (2 : Int32).toInt) ∧ r.toInt = -1 ∨ 0 ≤ (2 : Int32).toInt ∧ (2 : Int32).toInt ≤ 3 ∧ r.toInt = -2) ∧ ((w' 61 3).toInt = 0 ∧ (w' 61 12).toInt = 0 ∨ kMoT w') ∧ (kSl w'))) 5 D τ ρ 185 [(0, .ref (ρ 61)), (1, .int 2), (2, .int l2_185), (3, .int l3_185), (4, .int l4_185)] [] w_185 := by
        intro n_185
        induction n_185 with
        | zero => intro w_185 l2_185 l3_185 l4_185 I_185 F_185 k185_0 k185_1 k185_2 M_185 R185_E R185_I R185_B R185_A hmz; exfalso; omega
        | succ n_185 ih185 =>
          intro w_185 l2_185 l3_185 l4_185 I_185 F_185 k185_0 k185_1 k185_2 M_185 R185_E R185_I R185_B R185_A hm185
          have gl2_185 := kf_rng l2_185
          have gl3_185 := kf_rng l3_185
          have gl4_185 := kf_rng l4_185
          have e9 : w_185 61 20 = x1 := ((F_185 61 20 rfl : w_185 61 20 = w 61 20).trans e2)
          have r10 := kMoT_fr M_185
          rw [e9] at r10
          rw [e7] at k185_2
          refine kv_iload C 187 rfl 4 (kdec dk_cX10_save 117 rfl) rfl ?_
          refine kv_aload_n C 188 rfl 0 (kdec dk_cX10_save 118 rfl) rfl rfl ?_
          refine kv_getr C 191 rfl 61 24 rfl rfl inX10 (by decide) mfl_TaleMachineModel_34 rfl rfl (kdec dk_cX10_save 119 rfl) ?_
          refine kv_iload_n C 192 rfl 2 (kdec dk_cX10_save 120 rfl) rfl rfl ?_
          obtain ⟨x11, e12⟩ : ∃ z : Int32, w_185 70 (l2_185 : Int32).toNatClampNeg = z := ⟨_, rfl⟩
          have b13 : (0 : Int) ≤ x11.toInt ∧ x11.toInt ≤ 15 := by rw [← e12]; exact I_185 70 _
          refine kv_iald C 193 rfl 70 rfl (by omega) (by omega) e12 (kdec dk_cX10_save 121 rfl) ?_
          refine kv_icmp_gt C 196 rfl 225 (kdec dk_cX10_save 122 rfl) (by decide) (fun d14 => ?_) (fun d14 => ?_)
          · skip
            refine kv_iinc C 228 rfl 2 2 [1, 2, 0, 3, 4] (fun v9 => [(0, .ref (ρ 61)), (1, .int 2), (2, .int v9), (3, .int l3_185), (4, .int l4_185)]) (kdec dk_cX10_save 141 rfl) rfl (by decide) (fun _ => rfl) 1 rfl (fun x15 q16 h17e h17 h17l h17u => ?_)
            try have h17n : x15.toInt = l2_185.toInt + 1 := by omega
            clear h17 q16
            refine kv_goto C 109 (kdec dk_cX10_save 142 rfl) (by decide) ?_
            refine kV.sub [0, 1, 2] (L' := [(0, .ref (ρ 61)), (1, .int 2), (2, .int x15)]) rfl ?_
            exact ih109 w_185 x15 I_185 F_185 (by omega) (by rw [e7]; try omega) M_185 (fun j9 => (rfl).trans (R185_E j9)) (fun j9 hj9 => (rfl).trans (R185_I j9 hj9)) R185_B (fun f9 hf9 => R185_A f9 (by omega)) (by omega)
          · skip
            refine kv_aload_n C 197 rfl 0 (kdec dk_cX10_save 123 rfl) rfl rfl ?_
            refine kv_getr C 200 rfl 61 36 rfl rfl inX10 (by decide) mfl_TaleMachineModel_56 rfl rfl (kdec dk_cX10_save 124 rfl) ?_
            refine kv_iload_n C 201 rfl 3 (kdec dk_cX10_save 125 rfl) rfl rfl ?_
            refine kv_iconst C 202 rfl 4 (kdec dk_cX10_save 126 rfl) rfl ?_
            refine kv_iadd C 203 rfl (kdec dk_cX10_save 127 rfl) (fun x18 q20 h19e h19 h19l h19u => ?_)
            try have h19n : x18.toInt = l3_185.toInt + (4 : Int32).toInt := by omega
            clear h19 q20
            refine kv_iload C 205 rfl 4 (kdec dk_cX10_save 128 rfl) rfl ?_
            refine kv_iadd C 206 rfl (kdec dk_cX10_save 129 rfl) (fun x21 q23 h22e h22 h22l h22u => ?_)
            try have h22n : x21.toInt = x18.toInt + l4_185.toInt := by omega
            clear h22 q23
            refine kv_aload_n C 207 rfl 0 (kdec dk_cX10_save 130 rfl) rfl rfl ?_
            refine kv_getr C 210 rfl 61 25 rfl rfl inX10 (by decide) mfl_TaleMachineModel_37 rfl rfl (kdec dk_cX10_save 131 rfl) ?_
            refine kv_bipush C 212 rfl 16 (kdec dk_cX10_save 132 rfl) rfl ?_
            refine kv_iload_n C 213 rfl 2 (kdec dk_cX10_save 133 rfl) rfl rfl ?_
            refine kv_imul C 214 rfl (kdec dk_cX10_save 134 rfl) (fun x24 h25e h25l h25u => ?_)
            obtain ⟨q26, g27⟩ := kf_mul 16 l2_185
            rw [← h25e, c_16] at g27
            try have h25n : x24.toInt = 16 * l2_185.toInt := by omega
            clear g27 q26
            refine kv_iload C 216 rfl 4 (kdec dk_cX10_save 135 rfl) rfl ?_
            refine kv_iadd C 217 rfl (kdec dk_cX10_save 136 rfl) (fun x28 q30 h29e h29 h29l h29u => ?_)
            try have h29n : x28.toInt = x24.toInt + l4_185.toInt := by omega
            clear h29 q30
            obtain ⟨x31, e32⟩ : ∃ z : Int32, w_185 71 (x28 : Int32).toNatClampNeg = z := ⟨_, rfl⟩
            have b33 : (0 : Int) ≤ x31.toInt ∧ x31.toInt ≤ 65535 := by rw [← e32]; exact I_185 71 _
            refine kv_iald C 218 rfl 71 rfl (by omega) (by omega) e32 (kdec dk_cX10_save 137 rfl) ?_
            refine kv_iast C 219 rfl 77 rfl (by omega) (by omega) (kdec dk_cX10_save 138 rfl) (fun w34 u35 => ?_)
            have I36 : kI false w34 := kI_put u35 I_185 (show (0 : Int) ≤ (x31 : Int32).toInt by omega) (show (x31 : Int32).toInt ≤ 65535 by omega)
            have F37 : kF [(74, none), (75, none), (76, none), (77, none), (78, none), (79, none), (80, none)] w w34 := kF_put u35 F_185 rfl
            have M38 : kMoT w34 := kMoT_put u35 M_185 rfl rfl rfl
            refine kv_iinc C 222 rfl 4 4 [1, 2, 3, 4, 0] (fun v9 => [(0, .ref (ρ 61)), (1, .int 2), (2, .int l2_185), (3, .int l3_185), (4, .int v9)]) (kdec dk_cX10_save 139 rfl) rfl (by decide) (fun _ => rfl) 1 rfl (fun x39 q40 h41e h41 h41l h41u => ?_)
            try have h41n : x39.toInt = l4_185.toInt + 1 := by omega
            clear h41 q40
            refine kv_goto C 185 (kdec dk_cX10_save 140 rfl) (by decide) ?_
            exact ih185 w34 l2_185 l3_185 x39 I36 F37 (by omega) (by omega) (by rw [e7]; try omega) M38 (fun j9 => ((kup_ne u35 rfl : w34 78 j9 = w_185 78 j9)).trans (R185_E j9)) (fun j9 hj9 => ((kup_ne u35 rfl : w34 74 j9 = w_185 74 j9)).trans (R185_I j9 hj9)) (kB_put R185_B u35 (by omega) (by omega)) (kA_keep R185_A u35 (by omega) (i := l4_185) (by omega) (by omega) (by omega)) (by omega)
      refine kv_iload_n C 110 rfl 2 (kdec dk_cX10_save 65 rfl) rfl rfl ?_
      refine kv_aload_n C 111 rfl 0 (kdec dk_cX10_save 66 rfl) rfl rfl ?_
      refine kv_get C 114 rfl 61 20 rfl rfl inX10 (by decide) mfl_TaleMachineModel_139 rfl rfl (kdec dk_cX10_save 67 rfl) e4 ?_
      refine kv_icmp_ge C 117 rfl 231 (kdec dk_cX10_save 68 rfl) (by decide) (fun d42 => ?_) (fun d42 => ?_)
      · skip
        refine kv_aload_n C 232 rfl 0 (kdec dk_cX10_save 143 rfl) rfl rfl ?_
        refine kv_getr C 235 rfl 61 37 rfl rfl inX10 (by decide) mfl_TaleMachineModel_59 rfl rfl (kdec dk_cX10_save 144 rfl) ?_
        refine kv_bipush C 237 rfl 7 (kdec dk_cX10_save 145 rfl) rfl ?_
        refine kv_iload_n C 238 rfl 1 (kdec dk_cX10_save 146 rfl) rfl rfl ?_
        refine kv_imul C 239 rfl (kdec dk_cX10_save 147 rfl) (fun x43 h44e h44l h44u => ?_)
        obtain rfl : x43 = 14 := by rw [h44e]; decide
        refine kv_aload_n C 240 rfl 0 (kdec dk_cX10_save 148 rfl) rfl rfl ?_
        obtain ⟨x45, e46⟩ : ∃ z : Int32, w 61 19 = z := ⟨_, rfl⟩
        have b47 : (0 : Int) ≤ x45.toInt ∧ x45.toInt ≤ 120 := by rw [← e46]; exact hI 61 19
        have e48 : w_109 61 19 = x45 := ((F_109 61 19 rfl : w_109 61 19 = w 61 19).trans e46)
        refine kv_get C 243 rfl 61 19 rfl rfl inX10 (by decide) mfl_TaleMachineModel_136 rfl rfl (kdec dk_cX10_save 149 rfl) e48 ?_
        refine kv_iast C 244 rfl 78 rfl (by omega) (by omega) (kdec dk_cX10_save 150 rfl) (fun w49 u50 => ?_)
        have u50 : w49 = kup w_109 78 14 x45 := u50
        have I51 : kI false w49 := kI_put u50 I_109 (show (0 : Int) ≤ (x45 : Int32).toInt by omega) (show (x45 : Int32).toInt ≤ 65535 by omega)
        have F52 : kF [(74, none), (75, none), (76, none), (77, none), (78, none), (79, none), (80, none)] w w49 := kF_put u50 F_109 rfl
        have M53 : kMoT w49 := kMoT_put u50 M_109 rfl rfl rfl
        refine kv_aload_n C 245 rfl 0 (kdec dk_cX10_save 151 rfl) rfl rfl ?_
        refine kv_getr C 248 rfl 61 37 rfl rfl inX10 (by decide) mfl_TaleMachineModel_59 rfl rfl (kdec dk_cX10_save 152 rfl) ?_
        refine kv_bipush C 250 rfl 7 (kdec dk_cX10_save 153 rfl) rfl ?_
        refine kv_iload_n C 251 rfl 1 (kdec dk_cX10_save 154 rfl) rfl rfl ?_
        refine kv_imul C 252 rfl (kdec dk_cX10_save 155 rfl) (fun x54 h55e h55l h55u => ?_)
        obtain rfl : x54 = 14 := by rw [h55e]; decide
        refine kv_iconst C 253 rfl 1 (kdec dk_cX10_save 156 rfl) rfl ?_
        refine kv_iadd C 254 rfl (kdec dk_cX10_save 157 rfl) (fun x56 q58 h57e h57 h57l h57u => ?_)
        try have h57n : x56.toInt = (14 : Int32).toInt + (1 : Int32).toInt := by omega
        clear h57 q58
        obtain rfl : x56 = 15 := by rw [h57e]; decide
        refine kv_aload_n C 255 rfl 0 (kdec dk_cX10_save 158 rfl) rfl rfl ?_
        have e59 : w49 61 20 = x1 := ((kup_ne u50 rfl : w49 61 20 = w_109 61 20).trans e4)
        refine kv_get C 258 rfl 61 20 rfl rfl inX10 (by decide) mfl_TaleMachineModel_139 rfl rfl (kdec dk_cX10_save 159 rfl) e59 ?_
        refine kv_iast C 259 rfl 78 rfl (by omega) (by omega) (kdec dk_cX10_save 160 rfl) (fun w60 u61 => ?_)
        have u61 : w60 = kup w49 78 15 x1 := u61
        have I62 : kI false w60 := kI_put u61 I51 (show (0 : Int) ≤ (x1 : Int32).toInt by omega) (show (x1 : Int32).toInt ≤ 65535 by omega)
        have F63 : kF [(74, none), (75, none), (76, none), (77, none), (78, none), (79, none), (80, none)] w w60 := kF_put u61 F52 rfl
        have M64 : kMoT w60 := kMoT_put u61 M53 rfl rfl rfl
        refine kv_aload_n C 260 rfl 0 (kdec dk_cX10_save 161 rfl) rfl rfl ?_
        refine kv_getr C 263 rfl 61 37 rfl rfl inX10 (by decide) mfl_TaleMachineModel_59 rfl rfl (kdec dk_cX10_save 162 rfl) ?_
        refine kv_bipush C 265 rfl 7 (kdec dk_cX10_save 163 rfl) rfl ?_
        refine kv_iload_n C 266 rfl 1 (kdec dk_cX10_save 164 rfl) rfl rfl ?_
        refine kv_imul C 267 rfl (kdec dk_cX10_save 165 rfl) (fun x65 h66e h66l h66u => ?_)
        obtain rfl : x65 = 14 := by rw [h66e]; decide
        refine kv_iconst C 268 rfl 2 (kdec dk_cX10_save 166 rfl) rfl ?_
        refine kv_iadd C 269 rfl (kdec dk_cX10_save 167 rfl) (fun x67 q69 h68e h68 h68l h68u => ?_)
        try have h68n : x67.toInt = (14 : Int32).toInt + (2 : Int32).toInt := by omega
        clear h68 q69
        obtain rfl : x67 = 16 := by rw [h68e]; decide
        refine kv_aload_n C 270 rfl 0 (kdec dk_cX10_save 168 rfl) rfl rfl ?_
        obtain ⟨x70, e71⟩ : ∃ z : Int32, w 61 14 = z := ⟨_, rfl⟩
        have b72 : (0 : Int) ≤ x70.toInt ∧ x70.toInt ≤ 65535 := by rw [← e71]; exact hI 61 14
        have e73 : w60 61 14 = x70 := ((kup_ne u61 rfl : w60 61 14 = w49 61 14).trans ((kup_ne u50 rfl : w49 61 14 = w_109 61 14).trans ((F_109 61 14 rfl : w_109 61 14 = w 61 14).trans e71)))
        refine kv_get C 273 rfl 61 14 rfl rfl inX10 (by decide) mfl_TaleMachineModel_142 rfl rfl (kdec dk_cX10_save 169 rfl) e73 ?_
        refine kv_iast C 274 rfl 78 rfl (by omega) (by omega) (kdec dk_cX10_save 170 rfl) (fun w74 u75 => ?_)
        have u75 : w74 = kup w60 78 16 x70 := u75
        have I76 : kI false w74 := kI_put u75 I62 (show (0 : Int) ≤ (x70 : Int32).toInt by omega) (show (x70 : Int32).toInt ≤ 65535 by omega)
        have F77 : kF [(74, none), (75, none), (76, none), (77, none), (78, none), (79, none), (80, none)] w w74 := kF_put u75 F63 rfl
        have M78 : kMoT w74 := kMoT_put u75 M64 rfl rfl rfl
        refine kv_aload_n C 275 rfl 0 (kdec dk_cX10_save 171 rfl) rfl rfl ?_
        refine kv_getr C 278 rfl 61 37 rfl rfl inX10 (by decide) mfl_TaleMachineModel_59 rfl rfl (kdec dk_cX10_save 172 rfl) ?_
        refine kv_bipush C 280 rfl 7 (kdec dk_cX10_save 173 rfl) rfl ?_
        refine kv_iload_n C 281 rfl 1 (kdec dk_cX10_save 174 rfl) rfl rfl ?_
        refine kv_imul C 282 rfl (kdec dk_cX10_save 175 rfl) (fun x79 h80e h80l h80u => ?_)
        obtain rfl : x79 = 14 := by rw [h80e]; decide
        refine kv_iconst C 283 rfl 3 (kdec dk_cX10_save 176 rfl) rfl ?_
        refine kv_iadd C 284 rfl (kdec dk_cX10_save 177 rfl) (fun x81 q83 h82e h82 h82l h82u => ?_)
        try have h82n : x81.toInt = (14 : Int32).toInt + (3 : Int32).toInt := by omega
        clear h82 q83
        obtain rfl : x81 = 17 := by rw [h82e]; decide
        refine kv_aload_n C 285 rfl 0 (kdec dk_cX10_save 178 rfl) rfl rfl ?_
        have e84 : w74 61 12 = x6 := ((kup_ne u75 rfl : w74 61 12 = w60 61 12).trans ((kup_ne u61 rfl : w60 61 12 = w49 61 12).trans ((kup_ne u50 rfl : w49 61 12 = w_109 61 12).trans ((F_109 61 12 rfl : w_109 61 12 = w 61 12).trans e7))))
        refine kv_get C 288 rfl 61 12 rfl rfl inX10 (by decide) mfl_TaleMachineModel_112 rfl rfl (kdec dk_cX10_save 179 rfl) e84 ?_
        refine kv_iast C 289 rfl 78 rfl (by omega) (by omega) (kdec dk_cX10_save 180 rfl) (fun w85 u86 => ?_)
        have u86 : w85 = kup w74 78 17 x6 := u86
        have I87 : kI false w85 := kI_put u86 I76 (show (0 : Int) ≤ (x6 : Int32).toInt by omega) (show (x6 : Int32).toInt ≤ 65535 by omega)
        have F88 : kF [(74, none), (75, none), (76, none), (77, none), (78, none), (79, none), (80, none)] w w85 := kF_put u86 F77 rfl
        have M89 : kMoT w85 := kMoT_put u86 M78 rfl rfl rfl
        refine kv_aload_n C 290 rfl 0 (kdec dk_cX10_save 181 rfl) rfl rfl ?_
        refine kv_getr C 293 rfl 61 37 rfl rfl inX10 (by decide) mfl_TaleMachineModel_59 rfl rfl (kdec dk_cX10_save 182 rfl) ?_
        refine kv_bipush C 295 rfl 7 (kdec dk_cX10_save 183 rfl) rfl ?_
        refine kv_iload_n C 296 rfl 1 (kdec dk_cX10_save 184 rfl) rfl rfl ?_
        refine kv_imul C 297 rfl (kdec dk_cX10_save 185 rfl) (fun x90 h91e h91l h91u => ?_)
        obtain rfl : x90 = 14 := by rw [h91e]; decide
        refine kv_iconst C 298 rfl 4 (kdec dk_cX10_save 186 rfl) rfl ?_
        refine kv_iadd C 299 rfl (kdec dk_cX10_save 187 rfl) (fun x92 q94 h93e h93 h93l h93u => ?_)
        try have h93n : x92.toInt = (14 : Int32).toInt + (4 : Int32).toInt := by omega
        clear h93 q94
        obtain rfl : x92 = 18 := by rw [h93e]; decide
        refine kv_aload_n C 300 rfl 0 (kdec dk_cX10_save 188 rfl) rfl rfl ?_
        obtain ⟨x95, e96⟩ : ∃ z : Int32, w 61 26 = z := ⟨_, rfl⟩
        have b97 : (0 : Int) ≤ x95.toInt ∧ x95.toInt ≤ 65535 := by rw [← e96]; exact hI 61 26
        have e98 : w85 61 26 = x95 := ((kup_ne u86 rfl : w85 61 26 = w74 61 26).trans ((kup_ne u75 rfl : w74 61 26 = w60 61 26).trans ((kup_ne u61 rfl : w60 61 26 = w49 61 26).trans ((kup_ne u50 rfl : w49 61 26 = w_109 61 26).trans ((F_109 61 26 rfl : w_109 61 26 = w 61 26).trans e96)))))
        refine kv_get C 303 rfl 61 26 rfl rfl inX10 (by decide) mfl_TaleMachineModel_323 rfl rfl (kdec dk_cX10_save 189 rfl) e98 ?_
        refine kv_iast C 304 rfl 78 rfl (by omega) (by omega) (kdec dk_cX10_save 190 rfl) (fun w99 u100 => ?_)
        have u100 : w99 = kup w85 78 18 x95 := u100
        have I101 : kI false w99 := kI_put u100 I87 (show (0 : Int) ≤ (x95 : Int32).toInt by omega) (show (x95 : Int32).toInt ≤ 65535 by omega)
        have F102 : kF [(74, none), (75, none), (76, none), (77, none), (78, none), (79, none), (80, none)] w w99 := kF_put u100 F88 rfl
        have M103 : kMoT w99 := kMoT_put u100 M89 rfl rfl rfl
        refine kv_aload_n C 305 rfl 0 (kdec dk_cX10_save 191 rfl) rfl rfl ?_
        refine kv_getr C 308 rfl 61 37 rfl rfl inX10 (by decide) mfl_TaleMachineModel_59 rfl rfl (kdec dk_cX10_save 192 rfl) ?_
        refine kv_bipush C 310 rfl 7 (kdec dk_cX10_save 193 rfl) rfl ?_
        refine kv_iload_n C 311 rfl 1 (kdec dk_cX10_save 194 rfl) rfl rfl ?_
        refine kv_imul C 312 rfl (kdec dk_cX10_save 195 rfl) (fun x104 h105e h105l h105u => ?_)
        obtain rfl : x104 = 14 := by rw [h105e]; decide
        refine kv_iconst C 313 rfl 5 (kdec dk_cX10_save 196 rfl) rfl ?_
        refine kv_iadd C 314 rfl (kdec dk_cX10_save 197 rfl) (fun x106 q108 h107e h107 h107l h107u => ?_)
        try have h107n : x106.toInt = (14 : Int32).toInt + (5 : Int32).toInt := by omega
        clear h107 q108
        obtain rfl : x106 = 19 := by rw [h107e]; decide
        refine kv_aload_n C 315 rfl 0 (kdec dk_cX10_save 198 rfl) rfl rfl ?_
        obtain ⟨x109, e110⟩ : ∃ z : Int32, w 61 27 = z := ⟨_, rfl⟩
        have b111 : (0 : Int) ≤ x109.toInt ∧ x109.toInt ≤ 65535 := by rw [← e110]; exact hI 61 27
        have e112 : w99 61 27 = x109 := ((kup_ne u100 rfl : w99 61 27 = w85 61 27).trans ((kup_ne u86 rfl : w85 61 27 = w74 61 27).trans ((kup_ne u75 rfl : w74 61 27 = w60 61 27).trans ((kup_ne u61 rfl : w60 61 27 = w49 61 27).trans ((kup_ne u50 rfl : w49 61 27 = w_109 61 27).trans ((F_109 61 27 rfl : w_109 61 27 = w 61 27).trans e110))))))
        refine kv_get C 318 rfl 61 27 rfl rfl inX10 (by decide) mfl_TaleMachineModel_326 rfl rfl (kdec dk_cX10_save 199 rfl) e112 ?_
        refine kv_iast C 319 rfl 78 rfl (by omega) (by omega) (kdec dk_cX10_save 200 rfl) (fun w113 u114 => ?_)
        have u114 : w113 = kup w99 78 19 x109 := u114
        have I115 : kI false w113 := kI_put u114 I101 (show (0 : Int) ≤ (x109 : Int32).toInt by omega) (show (x109 : Int32).toInt ≤ 65535 by omega)
        have F116 : kF [(74, none), (75, none), (76, none), (77, none), (78, none), (79, none), (80, none)] w w113 := kF_put u114 F102 rfl
        have M117 : kMoT w113 := kMoT_put u114 M103 rfl rfl rfl
        refine kv_aload_n C 320 rfl 0 (kdec dk_cX10_save 201 rfl) rfl rfl ?_
        refine kv_iload_n C 321 rfl 1 (kdec dk_cX10_save 202 rfl) rfl rfl ?_
        refine kv_callVv (As := [.int 2]) (rest := []) C 324 rfl 61 (k_x_squeeze l D τ ρ σ w113 2 I115 (by omega)) rfl rfl mml_TaleMachineModel_366 mim_yX10_squeeze mse_yX10_squeeze mcd_yX10_squeeze min_yX10_squeeze hd_yX10_squeeze rfl rfl rfl (by decide) rfl (Nat.le_of_ble_eq_true rfl) (kdec dk_cX10_save 203 rfl) (fun w118 h119 => ?_)
        obtain ⟨I120, f121⟩ := h119
        have F123 : kF [(74, none), (75, none), (76, none), (77, none), (78, none), (79, none), (80, none)] w w118 := kF_call F116 f121 (by decide)
        have M124 : kMoT w118 := kMoT_kF f121 M117 rfl rfl (fun _ => rfl)
        refine kv_aload_n C 325 rfl 0 (kdec dk_cX10_save 204 rfl) rfl rfl ?_
        refine kv_getr C 328 rfl 61 39 rfl rfl inX10 (by decide) mfl_TaleMachineModel_65 rfl rfl (kdec dk_cX10_save 205 rfl) ?_
        refine kv_iload_n C 329 rfl 1 (kdec dk_cX10_save 206 rfl) rfl rfl ?_
        obtain ⟨x125, e126⟩ : ∃ z : Int32, w118 80 2 = z := ⟨_, rfl⟩
        have b127 : (0 : Int) ≤ x125.toInt ∧ x125.toInt ≤ 2050 := by rw [← e126]; exact I120 80 2
        refine kv_iald C 330 rfl 80 rfl (by omega) (by omega) (show w118 80 (2 : Int32).toNatClampNeg = x125 from e126) (kdec dk_cX10_save 207 rfl) ?_
        obtain ⟨x128, e129⟩ : ∃ z : Int32, w 61 3 = z := ⟨_, rfl⟩
        have b130 : (0 : Int) ≤ x128.toInt ∧ x128.toInt ≤ 1 := by rw [← e129]; exact hI 61 3
        have e131 : w118 78 14 = x45 := ((f121 78 14 rfl : w118 78 14 = w113 78 14).trans ((kup_ne u114 rfl : w113 78 14 = w99 78 14).trans ((kup_ne u100 rfl : w99 78 14 = w85 78 14).trans ((kup_ne u86 rfl : w85 78 14 = w74 78 14).trans ((kup_ne u75 rfl : w74 78 14 = w60 78 14).trans ((kup_ne u61 rfl : w60 78 14 = w49 78 14).trans (kup_eq u50)))))))
        have e132 : w118 78 15 = x1 := ((f121 78 15 rfl : w118 78 15 = w113 78 15).trans ((kup_ne u114 rfl : w113 78 15 = w99 78 15).trans ((kup_ne u100 rfl : w99 78 15 = w85 78 15).trans ((kup_ne u86 rfl : w85 78 15 = w74 78 15).trans ((kup_ne u75 rfl : w74 78 15 = w60 78 15).trans (kup_eq u61))))))
        have e133 : w118 78 17 = x6 := ((f121 78 17 rfl : w118 78 17 = w113 78 17).trans ((kup_ne u114 rfl : w113 78 17 = w99 78 17).trans ((kup_ne u100 rfl : w99 78 17 = w85 78 17).trans (kup_eq u86))))
        exact kv_iret C hr hlk (kdec dk_cX10_save 208 rfl) ⟨_, rfl, I120, F123, (by rw [e7]; try omega), (Or.inr M124), (kSl_save (k := 2) (by decide) hS (hMp.resolve_left (by rw [e129, e7]; omega)) hI (fun f9 hf9 => kAc_eq (fun j9 => ((f121 77 j9 rfl : w118 77 j9 = w113 77 j9).trans ((kup_ne u114 rfl : w113 77 j9 = w99 77 j9).trans ((kup_ne u100 rfl : w99 77 j9 = w85 77 j9).trans ((kup_ne u86 rfl : w85 77 j9 = w74 77 j9).trans ((kup_ne u75 rfl : w74 77 j9 = w60 77 j9).trans ((kup_ne u61 rfl : w60 77 j9 = w49 77 j9).trans (kup_ne u50 rfl : w49 77 j9 = w_109 77 j9)))))))) (R109_A f9 (by rw [e2] at hf9; omega))) (fun j9 hj9 => (((f121 77 j9 rfl : w118 77 j9 = w113 77 j9).trans ((kup_ne u114 rfl : w113 77 j9 = w99 77 j9).trans ((kup_ne u100 rfl : w99 77 j9 = w85 77 j9).trans ((kup_ne u86 rfl : w85 77 j9 = w74 77 j9).trans ((kup_ne u75 rfl : w74 77 j9 = w60 77 j9).trans ((kup_ne u61 rfl : w60 77 j9 = w49 77 j9).trans (kup_ne u50 rfl : w49 77 j9 = w_109 77 j9)))))))).trans (R109_B j9 hj9)) (fun j9 _ hj9 => (((f121 74 j9 rfl : w118 74 j9 = w113 74 j9).trans ((kup_ne u114 rfl : w113 74 j9 = w99 74 j9).trans ((kup_ne u100 rfl : w99 74 j9 = w85 74 j9).trans ((kup_ne u86 rfl : w85 74 j9 = w74 74 j9).trans ((kup_ne u75 rfl : w74 74 j9 = w60 74 j9).trans ((kup_ne u61 rfl : w60 74 j9 = w49 74 j9).trans (kup_ne u50 rfl : w49 74 j9 = w_109 74 j9)))))))).trans (R109_I j9 hj9)) (e131.trans e46.symm) (e132.trans e2.symm) (show (w118 78 17).toInt ≤ 4 by rw [e133]; omega) (fun j9 hj9 => (((f121 78 j9 rfl : w118 78 j9 = w113 78 j9).trans ((kup_nek u114 (by omega) : w113 78 j9 = w99 78 j9).trans ((kup_nek u100 (by omega) : w99 78 j9 = w85 78 j9).trans ((kup_nek u86 (by omega) : w85 78 j9 = w74 78 j9).trans ((kup_nek u75 (by omega) : w74 78 j9 = w60 78 j9).trans ((kup_nek u61 (by omega) : w60 78 j9 = w49 78 j9).trans (kup_nek u50 (by omega) : w49 78 j9 = w_109 78 j9)))))))).trans (R109_E j9)))⟩
      · skip
        refine kv_sipush C 120 rfl 1920 (kdec dk_cX10_save 69 rfl) rfl ?_
        refine kv_iload_n C 121 rfl 1 (kdec dk_cX10_save 70 rfl) rfl rfl ?_
        refine kv_imul C 122 rfl (kdec dk_cX10_save 71 rfl) (fun x134 h135e h135l h135u => ?_)
        obtain rfl : x134 = 3840 := by rw [h135e]; decide
        refine kv_bipush C 124 rfl 24 (kdec dk_cX10_save 72 rfl) rfl ?_
        refine kv_iload_n C 125 rfl 2 (kdec dk_cX10_save 73 rfl) rfl rfl ?_
        refine kv_imul C 126 rfl (kdec dk_cX10_save 74 rfl) (fun x136 h137e h137l h137u => ?_)
        obtain ⟨q138, g139⟩ := kf_mul 24 l2_109
        rw [← h137e, c_24] at g139
        try have h137n : x136.toInt = 24 * l2_109.toInt := by omega
        clear g139 q138
        refine kv_iadd C 127 rfl (kdec dk_cX10_save 75 rfl) (fun x140 q142 h141e h141 h141l h141u => ?_)
        try have h141n : x140.toInt = (3840 : Int32).toInt + x136.toInt := by omega
        clear h141 q142
        refine kv_istore_n C 128 rfl 3 [1, 2, 3, 0] [(0, .ref (ρ 61)), (1, .int 2), (2, .int l2_109), (3, .int x140)] (kdec dk_cX10_save 76 rfl) rfl (by decide) rfl ?_
        refine kv_aload_n C 129 rfl 0 (kdec dk_cX10_save 77 rfl) rfl rfl ?_
        refine kv_getr C 132 rfl 61 36 rfl rfl inX10 (by decide) mfl_TaleMachineModel_56 rfl rfl (kdec dk_cX10_save 78 rfl) ?_
        refine kv_iload_n C 133 rfl 3 (kdec dk_cX10_save 79 rfl) rfl rfl ?_
        refine kv_aload_n C 134 rfl 0 (kdec dk_cX10_save 80 rfl) rfl rfl ?_
        refine kv_getr C 137 rfl 61 21 rfl rfl inX10 (by decide) mfl_TaleMachineModel_25 rfl rfl (kdec dk_cX10_save 81 rfl) ?_
        refine kv_iload_n C 138 rfl 2 (kdec dk_cX10_save 82 rfl) rfl rfl ?_
        obtain ⟨x143, e144⟩ : ∃ z : Int32, w_109 67 (l2_109 : Int32).toNatClampNeg = z := ⟨_, rfl⟩
        have b145 : (0 : Int) ≤ x143.toInt ∧ x143.toInt ≤ 120 := by rw [← e144]; exact I_109 67 _
        refine kv_iald C 139 rfl 67 rfl (by omega) (by omega) e144 (kdec dk_cX10_save 83 rfl) ?_
        obtain ⟨x147, e148⟩ : ∃ z : Int32, w 61 19 = z := ⟨_, rfl⟩
        have b149 : (0 : Int) ≤ x147.toInt ∧ x147.toInt ≤ 120 := by rw [← e148]; exact hI 61 19
        have e150 : w_109 61 19 = x147 := ((F_109 61 19 rfl : w_109 61 19 = w 61 19).trans e148)
        try have t146 := kMoT_top M_109 (x := l2_109) (by rw [e4]; omega) e144
        try rw [e150] at t146
        refine kv_iast C 140 rfl 77 rfl (by omega) (by omega) (kdec dk_cX10_save 84 rfl) (fun w151 u152 => ?_)
        have I153 : kI false w151 := kI_put u152 I_109 (show (0 : Int) ≤ (x143 : Int32).toInt by omega) (show (x143 : Int32).toInt ≤ 65535 by omega)
        have F154 : kF [(74, none), (75, none), (76, none), (77, none), (78, none), (79, none), (80, none)] w w151 := kF_put u152 F_109 rfl
        have M155 : kMoT w151 := kMoT_put u152 M_109 rfl rfl rfl
        refine kv_aload_n C 141 rfl 0 (kdec dk_cX10_save 85 rfl) rfl rfl ?_
        refine kv_getr C 144 rfl 61 36 rfl rfl inX10 (by decide) mfl_TaleMachineModel_56 rfl rfl (kdec dk_cX10_save 86 rfl) ?_
        refine kv_iload_n C 145 rfl 3 (kdec dk_cX10_save 87 rfl) rfl rfl ?_
        refine kv_iconst C 146 rfl 1 (kdec dk_cX10_save 88 rfl) rfl ?_
        refine kv_iadd C 147 rfl (kdec dk_cX10_save 89 rfl) (fun x156 q158 h157e h157 h157l h157u => ?_)
        try have h157n : x156.toInt = x140.toInt + (1 : Int32).toInt := by omega
        clear h157 q158
        refine kv_aload_n C 148 rfl 0 (kdec dk_cX10_save 90 rfl) rfl rfl ?_
        refine kv_getr C 151 rfl 61 22 rfl rfl inX10 (by decide) mfl_TaleMachineModel_28 rfl rfl (kdec dk_cX10_save 91 rfl) ?_
        refine kv_iload_n C 152 rfl 2 (kdec dk_cX10_save 92 rfl) rfl rfl ?_
        obtain ⟨x159, e160⟩ : ∃ z : Int32, w151 68 (l2_109 : Int32).toNatClampNeg = z := ⟨_, rfl⟩
        have b161 : (0 : Int) ≤ x159.toInt ∧ x159.toInt ≤ 65535 := by rw [← e160]; exact I153 68 _
        refine kv_iald C 153 rfl 68 rfl (by omega) (by omega) e160 (kdec dk_cX10_save 93 rfl) ?_
        refine kv_iast C 154 rfl 77 rfl (by omega) (by omega) (kdec dk_cX10_save 94 rfl) (fun w162 u163 => ?_)
        have I164 : kI false w162 := kI_put u163 I153 (show (0 : Int) ≤ (x159 : Int32).toInt by omega) (show (x159 : Int32).toInt ≤ 65535 by omega)
        have F165 : kF [(74, none), (75, none), (76, none), (77, none), (78, none), (79, none), (80, none)] w w162 := kF_put u163 F154 rfl
        have M166 : kMoT w162 := kMoT_put u163 M155 rfl rfl rfl
        refine kv_aload_n C 155 rfl 0 (kdec dk_cX10_save 95 rfl) rfl rfl ?_
        refine kv_getr C 158 rfl 61 36 rfl rfl inX10 (by decide) mfl_TaleMachineModel_56 rfl rfl (kdec dk_cX10_save 96 rfl) ?_
        refine kv_iload_n C 159 rfl 3 (kdec dk_cX10_save 97 rfl) rfl rfl ?_
        refine kv_iconst C 160 rfl 2 (kdec dk_cX10_save 98 rfl) rfl ?_
        refine kv_iadd C 161 rfl (kdec dk_cX10_save 99 rfl) (fun x167 q169 h168e h168 h168l h168u => ?_)
        try have h168n : x167.toInt = x140.toInt + (2 : Int32).toInt := by omega
        clear h168 q169
        refine kv_aload_n C 162 rfl 0 (kdec dk_cX10_save 100 rfl) rfl rfl ?_
        refine kv_getr C 165 rfl 61 23 rfl rfl inX10 (by decide) mfl_TaleMachineModel_31 rfl rfl (kdec dk_cX10_save 101 rfl) ?_
        refine kv_iload_n C 166 rfl 2 (kdec dk_cX10_save 102 rfl) rfl rfl ?_
        obtain ⟨x170, e171⟩ : ∃ z : Int32, w162 69 (l2_109 : Int32).toNatClampNeg = z := ⟨_, rfl⟩
        have b172 : (0 : Int) ≤ x170.toInt ∧ x170.toInt ≤ 255 := by rw [← e171]; exact I164 69 _
        refine kv_iald C 167 rfl 69 rfl (by omega) (by omega) e171 (kdec dk_cX10_save 103 rfl) ?_
        refine kv_iast C 168 rfl 77 rfl (by omega) (by omega) (kdec dk_cX10_save 104 rfl) (fun w173 u174 => ?_)
        have I175 : kI false w173 := kI_put u174 I164 (show (0 : Int) ≤ (x170 : Int32).toInt by omega) (show (x170 : Int32).toInt ≤ 65535 by omega)
        have F176 : kF [(74, none), (75, none), (76, none), (77, none), (78, none), (79, none), (80, none)] w w173 := kF_put u174 F165 rfl
        have M177 : kMoT w173 := kMoT_put u174 M166 rfl rfl rfl
        refine kv_aload_n C 169 rfl 0 (kdec dk_cX10_save 105 rfl) rfl rfl ?_
        refine kv_getr C 172 rfl 61 36 rfl rfl inX10 (by decide) mfl_TaleMachineModel_56 rfl rfl (kdec dk_cX10_save 106 rfl) ?_
        refine kv_iload_n C 173 rfl 3 (kdec dk_cX10_save 107 rfl) rfl rfl ?_
        refine kv_iconst C 174 rfl 3 (kdec dk_cX10_save 108 rfl) rfl ?_
        refine kv_iadd C 175 rfl (kdec dk_cX10_save 109 rfl) (fun x178 q180 h179e h179 h179l h179u => ?_)
        try have h179n : x178.toInt = x140.toInt + (3 : Int32).toInt := by omega
        clear h179 q180
        refine kv_aload_n C 176 rfl 0 (kdec dk_cX10_save 110 rfl) rfl rfl ?_
        refine kv_getr C 179 rfl 61 24 rfl rfl inX10 (by decide) mfl_TaleMachineModel_34 rfl rfl (kdec dk_cX10_save 111 rfl) ?_
        refine kv_iload_n C 180 rfl 2 (kdec dk_cX10_save 112 rfl) rfl rfl ?_
        obtain ⟨x181, e182⟩ : ∃ z : Int32, w173 70 (l2_109 : Int32).toNatClampNeg = z := ⟨_, rfl⟩
        have b183 : (0 : Int) ≤ x181.toInt ∧ x181.toInt ≤ 15 := by rw [← e182]; exact I175 70 _
        refine kv_iald C 181 rfl 70 rfl (by omega) (by omega) e182 (kdec dk_cX10_save 113 rfl) ?_
        refine kv_iast C 182 rfl 77 rfl (by omega) (by omega) (kdec dk_cX10_save 114 rfl) (fun w184 u185 => ?_)
        have I186 : kI false w184 := kI_put u185 I175 (show (0 : Int) ≤ (x181 : Int32).toInt by omega) (show (x181 : Int32).toInt ≤ 65535 by omega)
        have F187 : kF [(74, none), (75, none), (76, none), (77, none), (78, none), (79, none), (80, none)] w w184 := kF_put u185 F176 rfl
        have M188 : kMoT w184 := kMoT_put u185 M177 rfl rfl rfl
        refine kv_iconst C 183 rfl 1 (kdec dk_cX10_save 115 rfl) rfl ?_
        refine kv_istore C 185 rfl 4 [1, 2, 3, 4, 0] [(0, .ref (ρ 61)), (1, .int 2), (2, .int l2_109), (3, .int x140), (4, .int 1)] (kdec dk_cX10_save 116 rfl) (by decide) rfl ?_
        exact cut185 ((((17 - (1 : Int32).toInt)) : Int).toNat + 1) w184 l2_109 x140 1 I186 F187 (by omega) (by omega) (by rw [e7]; try omega) M188 (fun j9 => (((kup_ne u185 rfl : w184 78 j9 = w173 78 j9).trans ((kup_ne u174 rfl : w173 78 j9 = w162 78 j9).trans ((kup_ne u163 rfl : w162 78 j9 = w151 78 j9).trans (kup_ne u152 rfl : w151 78 j9 = w_109 78 j9))))).trans (R109_E j9)) (fun j9 hj9 => (((kup_ne u185 rfl : w184 74 j9 = w173 74 j9).trans ((kup_ne u174 rfl : w173 74 j9 = w162 74 j9).trans ((kup_ne u163 rfl : w162 74 j9 = w151 74 j9).trans (kup_ne u152 rfl : w151 74 j9 = w_109 74 j9))))).trans (R109_I j9 hj9)) (kB_put (kB_put (kB_put (kB_put R109_B u152 (by omega) (by omega)) u163 (by omega) (by omega)) u174 (by omega) (by omega)) u185 (by omega) (by omega)) (kA_add R109_A (by omega) u152 (by omega) u163 (by omega) u174 (by omega) u185 (by omega) ((F_109 67 _ rfl).symm.trans e144) ((F165 69 _ rfl).symm.trans e171) ((F176 70 _ rfl).symm.trans e182)) (by omega)
  have cut76 : ∀ (n_76 : Nat) (w_76 : kw) (l2_76 : Int32), kI false w_76 → kF [(74, none), (75, none), (76, none), (77, none), (78, none), (79, none), (80, none)] w w_76 → (0 ≤ l2_76.toInt ∧ l2_76.toInt ≤ 120) → ((w 61 12).toInt = 1 ∨ (w 61 12).toInt = 3) → kMoT w_76 → (∀ j9 : Nat, w_76 78 j9 = w 78 j9) → (∀ j9 : Nat, j9 ≠ 2 → w_76 74 j9 = w 74 j9) → (∀ j9 : Nat, w_76 77 j9 = w 77 j9) → ((121 - l2_76.toInt) : Int) < (n_76 : Int) → kV p l e { frames := 1, cells := 0, slots := 0, locals := 36 } s m args below meth c (kQ below args s D τ ρ (fun o w' => ∃ r : Int32, o = some (.int r) ∧ kI false w' ∧ kF [(74, none), (75, none), (76, none), (77, none), (78, none), (79, none), (80, none)] w w' ∧ ((w 61 12).toInt = 1 ∨ (w 61 12).toInt = 3 ∨ ((2 : Int32).toInt < 0 ∨ 3 < (2 : Int32).toInt) ∧ r.toInt = -1 ∨ 0 ≤ (2 : Int32).toInt ∧ (2 : Int32).toInt ≤ 3 ∧ r.toInt = -2) ∧ ((w' 61 3).toInt = 0 ∧ (w' 61 12).toInt = 0 ∨ kMoT w') ∧ (kSl w'))) 5 D τ ρ 76 [(0, .ref (ρ 61)), (1, .int 2), (2, .int l2_76)] [] w_76 := by
    intro n_76
    induction n_76 with
    | zero => intro w_76 l2_76 I_76 F_76 k76_0 k76_1 M_76 R76_E R76_I R76_B hmz; exfalso; omega
    | succ n_76 ih76 =>
      intro w_76 l2_76 I_76 F_76 k76_0 k76_1 M_76 R76_E R76_I R76_B hm76
      have gl2_76 := kf_rng l2_76
      obtain ⟨x189, e190⟩ : ∃ z : Int32, w 61 20 = z := ⟨_, rfl⟩
      have b191 : (0 : Int) ≤ x189.toInt ∧ x189.toInt ≤ 20 := by rw [← e190]; exact hI 61 20
      have e192 : w_76 61 20 = x189 := ((F_76 61 20 rfl : w_76 61 20 = w 61 20).trans e190)
      have r193 := kMoT_fr M_76
      rw [e192] at r193
      obtain ⟨x194, e195⟩ : ∃ z : Int32, w 61 12 = z := ⟨_, rfl⟩
      have b196 : (0 : Int) ≤ x194.toInt ∧ x194.toInt ≤ 4 := by rw [← e195]; exact hI 61 12
      rw [e195] at k76_1
      refine kv_iload_n C 77 rfl 2 (kdec dk_cX10_save 45 rfl) rfl rfl ?_
      refine kv_aload_n C 78 rfl 0 (kdec dk_cX10_save 46 rfl) rfl rfl ?_
      obtain ⟨x197, e198⟩ : ∃ z : Int32, w 61 19 = z := ⟨_, rfl⟩
      have b199 : (0 : Int) ≤ x197.toInt ∧ x197.toInt ≤ 120 := by rw [← e198]; exact hI 61 19
      have e200 : w_76 61 19 = x197 := ((F_76 61 19 rfl : w_76 61 19 = w 61 19).trans e198)
      refine kv_get C 81 rfl 61 19 rfl rfl inX10 (by decide) mfl_TaleMachineModel_136 rfl rfl (kdec dk_cX10_save 47 rfl) e200 ?_
      refine kv_icmp_ge C 84 rfl 107 (kdec dk_cX10_save 48 rfl) (by decide) (fun d201 => ?_) (fun d201 => ?_)
      · skip
        refine kv_iconst C 108 rfl 0 (kdec dk_cX10_save 63 rfl) rfl ?_
        refine kv_istore_n C 109 rfl 2 [1, 2, 0] [(0, .ref (ρ 61)), (1, .int 2), (2, .int 0)] (kdec dk_cX10_save 64 rfl) rfl (by decide) rfl ?_
        exact cut109 ((((21 - (0 : Int32).toInt)) : Int).toNat + 1) w_76 0 I_76 F_76 (by omega) (by rw [e195]; try omega) M_76 (fun j9 => (rfl).trans (R76_E j9)) (fun j9 hj9 => (rfl).trans (R76_I j9 hj9)) (fun j9 _ => (rfl).trans (R76_B j9)) (fun f9 hf9 => by exfalso; omega) (by omega)
      · skip
        refine kv_aload_n C 85 rfl 0 (kdec dk_cX10_save 49 rfl) rfl rfl ?_
        refine kv_getr C 88 rfl 61 35 rfl rfl inX10 (by decide) mfl_TaleMachineModel_53 rfl rfl (kdec dk_cX10_save 50 rfl) ?_
        refine kv_bipush C 90 rfl 120 (kdec dk_cX10_save 51 rfl) rfl ?_
        refine kv_iload_n C 91 rfl 1 (kdec dk_cX10_save 52 rfl) rfl rfl ?_
        refine kv_imul C 92 rfl (kdec dk_cX10_save 53 rfl) (fun x202 h203e h203l h203u => ?_)
        obtain rfl : x202 = 240 := by rw [h203e]; decide
        refine kv_iload_n C 93 rfl 2 (kdec dk_cX10_save 54 rfl) rfl rfl ?_
        refine kv_iadd C 94 rfl (kdec dk_cX10_save 55 rfl) (fun x204 q206 h205e h205 h205l h205u => ?_)
        try have h205n : x204.toInt = (240 : Int32).toInt + l2_76.toInt := by omega
        clear h205 q206
        refine kv_aload_n C 95 rfl 0 (kdec dk_cX10_save 56 rfl) rfl rfl ?_
        refine kv_getr C 98 rfl 61 18 rfl rfl inX10 (by decide) mfl_TaleMachineModel_22 rfl rfl (kdec dk_cX10_save 57 rfl) ?_
        refine kv_iload_n C 99 rfl 2 (kdec dk_cX10_save 58 rfl) rfl rfl ?_
        obtain ⟨x207, e208⟩ : ∃ z : Int32, w_76 66 (l2_76 : Int32).toNatClampNeg = z := ⟨_, rfl⟩
        have b209 : (0 : Int) ≤ x207.toInt ∧ x207.toInt ≤ 65535 := by rw [← e208]; exact I_76 66 _
        refine kv_iald C 100 rfl 66 rfl (by omega) (by omega) e208 (kdec dk_cX10_save 59 rfl) ?_
        refine kv_iast C 101 rfl 76 rfl (by omega) (by omega) (kdec dk_cX10_save 60 rfl) (fun w210 u211 => ?_)
        have I212 : kI false w210 := kI_put u211 I_76 (show (0 : Int) ≤ (x207 : Int32).toInt by omega) (show (x207 : Int32).toInt ≤ 65535 by omega)
        have F213 : kF [(74, none), (75, none), (76, none), (77, none), (78, none), (79, none), (80, none)] w w210 := kF_put u211 F_76 rfl
        have M214 : kMoT w210 := kMoT_put u211 M_76 rfl rfl rfl
        refine kv_iinc C 104 rfl 2 2 [1, 2, 0] (fun v9 => [(0, .ref (ρ 61)), (1, .int 2), (2, .int v9)]) (kdec dk_cX10_save 61 rfl) rfl (by decide) (fun _ => rfl) 1 rfl (fun x215 q216 h217e h217 h217l h217u => ?_)
        try have h217n : x215.toInt = l2_76.toInt + 1 := by omega
        clear h217 q216
        refine kv_goto C 76 (kdec dk_cX10_save 62 rfl) (by decide) ?_
        exact ih76 w210 x215 I212 F213 (by omega) (by rw [e195]; try omega) M214 (fun j9 => ((kup_ne u211 rfl : w210 78 j9 = w_76 78 j9)).trans (R76_E j9)) (fun j9 hj9 => ((kup_ne u211 rfl : w210 74 j9 = w_76 74 j9)).trans (R76_I j9 hj9)) (fun j9 => ((kup_ne u211 rfl : w210 77 j9 = w_76 77 j9)).trans (R76_B j9)) (by omega)
  have cut42 : ∀ (n_42 : Nat) (w_42 : kw) (l2_42 : Int32), kI false w_42 → kF [(74, none), (75, none), (76, none), (77, none), (78, none), (79, none), (80, none)] w w_42 → (0 ≤ l2_42.toInt ∧ l2_42.toInt ≤ 1024) → ((w 61 12).toInt = 1 ∨ (w 61 12).toInt = 3) → kMoT w_42 → (∀ j9 : Nat, w_42 78 j9 = w 78 j9) → (∀ j9 : Nat, j9 ≠ 2 → w_42 74 j9 = w 74 j9) → (∀ j9 : Nat, w_42 77 j9 = w 77 j9) → ((1025 - l2_42.toInt) : Int) < (n_42 : Int) → kV p l e { frames := 1, cells := 0, slots := 0, locals := 36 } s m args below meth c (kQ below args s D τ ρ (fun o w' => ∃ r : Int32, o = some (.int r) ∧ kI false w' ∧ kF [(74, none), (75, none), (76, none), (77, none), (78, none), (79, none), (80, none)] w w' ∧ ((w 61 12).toInt = 1 ∨ (w 61 12).toInt = 3 ∨ ((2 : Int32).toInt < 0 ∨ 3 < (2 : Int32).toInt) ∧ r.toInt = -1 ∨ 0 ≤ (2 : Int32).toInt ∧ (2 : Int32).toInt ≤ 3 ∧ r.toInt = -2) ∧ ((w' 61 3).toInt = 0 ∧ (w' 61 12).toInt = 0 ∨ kMoT w') ∧ (kSl w'))) 5 D τ ρ 42 [(0, .ref (ρ 61)), (1, .int 2), (2, .int l2_42)] [] w_42 := by
    intro n_42
    induction n_42 with
    | zero => intro w_42 l2_42 I_42 F_42 k42_0 k42_1 M_42 R42_E R42_I R42_B hmz; exfalso; omega
    | succ n_42 ih42 =>
      intro w_42 l2_42 I_42 F_42 k42_0 k42_1 M_42 R42_E R42_I R42_B hm42
      have gl2_42 := kf_rng l2_42
      obtain ⟨x218, e219⟩ : ∃ z : Int32, w 61 20 = z := ⟨_, rfl⟩
      have b220 : (0 : Int) ≤ x218.toInt ∧ x218.toInt ≤ 20 := by rw [← e219]; exact hI 61 20
      have e221 : w_42 61 20 = x218 := ((F_42 61 20 rfl : w_42 61 20 = w 61 20).trans e219)
      have r222 := kMoT_fr M_42
      rw [e221] at r222
      obtain ⟨x223, e224⟩ : ∃ z : Int32, w 61 12 = z := ⟨_, rfl⟩
      have b225 : (0 : Int) ≤ x223.toInt ∧ x223.toInt ≤ 4 := by rw [← e224]; exact hI 61 12
      rw [e224] at k42_1
      refine kv_iload_n C 43 rfl 2 (kdec dk_cX10_save 25 rfl) rfl rfl ?_
      refine kv_aload_n C 44 rfl 0 (kdec dk_cX10_save 26 rfl) rfl rfl ?_
      obtain ⟨x226, e227⟩ : ∃ z : Int32, w 61 7 = z := ⟨_, rfl⟩
      have b228 : (0 : Int) ≤ x226.toInt ∧ x226.toInt ≤ 1024 := by rw [← e227]; exact hI 61 7
      have e229 : w_42 61 7 = x226 := ((F_42 61 7 rfl : w_42 61 7 = w 61 7).trans e227)
      refine kv_get C 47 rfl 61 7 rfl rfl inX10 (by decide) mfl_TaleMachineModel_118 rfl rfl (kdec dk_cX10_save 27 rfl) e229 ?_
      refine kv_icmp_ge C 50 rfl 74 (kdec dk_cX10_save 28 rfl) (by decide) (fun d230 => ?_) (fun d230 => ?_)
      · skip
        refine kv_iconst C 75 rfl 0 (kdec dk_cX10_save 43 rfl) rfl ?_
        refine kv_istore_n C 76 rfl 2 [1, 2, 0] [(0, .ref (ρ 61)), (1, .int 2), (2, .int 0)] (kdec dk_cX10_save 44 rfl) rfl (by decide) rfl ?_
        exact cut76 ((((121 - (0 : Int32).toInt)) : Int).toNat + 1) w_42 0 I_42 F_42 (by omega) (by rw [e224]; try omega) M_42 (fun j9 => (rfl).trans (R42_E j9)) (fun j9 hj9 => (rfl).trans (R42_I j9 hj9)) (fun j9 => (rfl).trans (R42_B j9)) (by omega)
      · skip
        refine kv_aload_n C 51 rfl 0 (kdec dk_cX10_save 29 rfl) rfl rfl ?_
        refine kv_getr C 54 rfl 61 34 rfl rfl inX10 (by decide) mfl_TaleMachineModel_50 rfl rfl (kdec dk_cX10_save 30 rfl) ?_
        refine kv_sipush C 57 rfl 1024 (kdec dk_cX10_save 31 rfl) rfl ?_
        refine kv_iload_n C 58 rfl 1 (kdec dk_cX10_save 32 rfl) rfl rfl ?_
        refine kv_imul C 59 rfl (kdec dk_cX10_save 33 rfl) (fun x231 h232e h232l h232u => ?_)
        obtain rfl : x231 = 2048 := by rw [h232e]; decide
        refine kv_iload_n C 60 rfl 2 (kdec dk_cX10_save 34 rfl) rfl rfl ?_
        refine kv_iadd C 61 rfl (kdec dk_cX10_save 35 rfl) (fun x233 q235 h234e h234 h234l h234u => ?_)
        try have h234n : x233.toInt = (2048 : Int32).toInt + l2_42.toInt := by omega
        clear h234 q235
        refine kv_aload_n C 62 rfl 0 (kdec dk_cX10_save 36 rfl) rfl rfl ?_
        refine kv_getr C 65 rfl 61 4 rfl rfl inX10 (by decide) mfl_TaleMachineModel_16 rfl rfl (kdec dk_cX10_save 37 rfl) ?_
        refine kv_iload_n C 66 rfl 2 (kdec dk_cX10_save 38 rfl) rfl rfl ?_
        obtain ⟨x236, e237⟩ : ∃ z : Int32, w_42 64 (l2_42 : Int32).toNatClampNeg = z := ⟨_, rfl⟩
        have b238 : (0 : Int) ≤ x236.toInt ∧ x236.toInt ≤ 255 := by rw [← e237]; exact I_42 64 _
        refine kv_iald C 67 rfl 64 rfl (by omega) (by omega) e237 (kdec dk_cX10_save 39 rfl) ?_
        refine kv_iast C 68 rfl 75 rfl (by omega) (by omega) (kdec dk_cX10_save 40 rfl) (fun w239 u240 => ?_)
        have I241 : kI false w239 := kI_put u240 I_42 (show (0 : Int) ≤ (x236 : Int32).toInt by omega) (show (x236 : Int32).toInt ≤ 255 by omega)
        have F242 : kF [(74, none), (75, none), (76, none), (77, none), (78, none), (79, none), (80, none)] w w239 := kF_put u240 F_42 rfl
        have M243 : kMoT w239 := kMoT_put u240 M_42 rfl rfl rfl
        refine kv_iinc C 71 rfl 2 2 [1, 2, 0] (fun v9 => [(0, .ref (ρ 61)), (1, .int 2), (2, .int v9)]) (kdec dk_cX10_save 41 rfl) rfl (by decide) (fun _ => rfl) 1 rfl (fun x244 q245 h246e h246 h246l h246u => ?_)
        try have h246n : x244.toInt = l2_42.toInt + 1 := by omega
        clear h246 q245
        refine kv_goto C 42 (kdec dk_cX10_save 42 rfl) (by decide) ?_
        exact ih42 w239 x244 I241 F242 (by omega) (by rw [e224]; try omega) M243 (fun j9 => ((kup_ne u240 rfl : w239 78 j9 = w_42 78 j9)).trans (R42_E j9)) (fun j9 hj9 => ((kup_ne u240 rfl : w239 74 j9 = w_42 74 j9)).trans (R42_I j9 hj9)) (fun j9 => ((kup_ne u240 rfl : w239 77 j9 = w_42 77 j9)).trans (R42_B j9)) (by omega)
  refine kv_iload_n C 1 rfl 1 (kdec dk_cX10_save 0 rfl) rfl rfl ?_
  refine kv_i2l C 2 rfl (kdec dk_cX10_save 1 rfl) ?_
  have h247 := kf_i2l 2
  refine kv_lconst C 3 rfl 0 (kdec dk_cX10_save 2 rfl) rfl ?_
  have h248 : (0 : Int64).toInt = 0 := by decide
  refine kv_ldc2 C 6 rfl 3 (kdec dk_cX10_save 3 rfl) mcl_TaleMachineModel_259 ?_
  have h249 : (3 : Int64).toInt = 3 := by decide
  refine kv_callSi (As := [.long (2 : Int32).toInt64, .long (0 : Int64), .long (3 : Int64)]) (rest := []) C 9 rfl (k_x_in l D τ ρ σ w (2 : Int32).toInt64 (0 : Int64) (3 : Int64) hI ) mml_TaleMachineModel_94 mst_yX10_in mcd_yX10_in min_yX10_in hd_yX10_in rfl rfl rfl (by decide) rfl (Nat.le_of_ble_eq_true rfl) (kdec dk_cX10_save 4 rfl) (fun x254 w250 h251 => ?_)
  obtain ⟨I252, f253, p255, p256⟩ := h251
  have F257 : kF [(74, none), (75, none), (76, none), (77, none), (78, none), (79, none), (80, none)] w w250 := kF_call hF0 f253 (by decide)
  have M258 : ((w250 61 3).toInt = 0 ∧ (w250 61 12).toInt = 0 ∨ kMoT w250) := kMoP_kF f253 hMp rfl rfl rfl rfl (fun _ => rfl)
  have g259 := kf_rng x254
  refine kv_if_ne C 12 rfl 14 (kdec dk_cX10_save 5 rfl) (by decide) (fun d260 => ?_) (fun d260 => ?_)
  · skip
    refine kv_aload_n C 15 rfl 0 (kdec dk_cX10_save 8 rfl) rfl rfl ?_
    obtain ⟨x261, e262⟩ : ∃ z : Int32, w 61 12 = z := ⟨_, rfl⟩
    have b263 : (0 : Int) ≤ x261.toInt ∧ x261.toInt ≤ 4 := by rw [← e262]; exact hI 61 12
    have e264 : w250 61 12 = x261 := ((f253 61 12 rfl : w250 61 12 = w 61 12).trans e262)
    refine kv_get C 18 rfl 61 12 rfl rfl inX10 (by decide) mfl_TaleMachineModel_112 rfl rfl (kdec dk_cX10_save 9 rfl) e264 ?_
    refine kv_iconst C 19 rfl 1 (kdec dk_cX10_save 10 rfl) rfl ?_
    refine kv_icmp_eq C 22 rfl 33 (kdec dk_cX10_save 11 rfl) (by decide) (fun d265 => ?_) (fun d265 => ?_)
    · skip
      obtain ⟨x267, e268⟩ : ∃ z : Int32, w 61 3 = z := ⟨_, rfl⟩
      have b269 : (0 : Int) ≤ x267.toInt ∧ x267.toInt ≤ 1 := by rw [← e268]; exact hI 61 3
      have e270 : w250 61 3 = x267 := ((f253 61 3 rfl : w250 61 3 = w 61 3).trans e268)
      have M266 : kMoT w250 := M258.resolve_left (by rw [e270, e264]; omega)
      obtain ⟨x271, e272⟩ : ∃ z : Int32, w 61 20 = z := ⟨_, rfl⟩
      have b273 : (0 : Int) ≤ x271.toInt ∧ x271.toInt ≤ 20 := by rw [← e272]; exact hI 61 20
      have e274 : w250 61 20 = x271 := ((f253 61 20 rfl : w250 61 20 = w 61 20).trans e272)
      have r275 := kMoT_fr M266
      rw [e274] at r275
      refine kv_aload_n C 34 rfl 0 (kdec dk_cX10_save 18 rfl) rfl rfl ?_
      refine kv_getr C 37 rfl 61 33 rfl rfl inX10 (by decide) mfl_TaleMachineModel_46 rfl rfl (kdec dk_cX10_save 19 rfl) ?_
      refine kv_iload_n C 38 rfl 1 (kdec dk_cX10_save 20 rfl) rfl rfl ?_
      refine kv_iconst C 39 rfl 1 (kdec dk_cX10_save 21 rfl) rfl ?_
      refine kv_zast C 40 rfl 74 rfl (by omega) (by omega) (kdec dk_cX10_save 22 rfl) (fun w276 u277 => ?_)
      have u277 : w276 = kup w250 74 2 (vp_nar .boolean 1) := u277
      rw [kf_nar (by decide)] at u277
      have I278 : kI false w276 := kI_put u277 I252 (show (0 : Int) ≤ (1 : Int32).toInt by omega) (show (1 : Int32).toInt ≤ 1 by omega)
      have F279 : kF [(74, none), (75, none), (76, none), (77, none), (78, none), (79, none), (80, none)] w w276 := kF_put u277 F257 rfl
      have M280 : kMoT w276 := kMoT_put u277 M266 rfl rfl rfl
      refine kv_iconst C 41 rfl 0 (kdec dk_cX10_save 23 rfl) rfl ?_
      refine kv_istore_n C 42 rfl 2 [1, 2, 0] [(0, .ref (ρ 61)), (1, .int 2), (2, .int 0)] (kdec dk_cX10_save 24 rfl) rfl (by decide) rfl ?_
      exact cut42 ((((1025 - (0 : Int32).toInt)) : Int).toNat + 1) w276 0 I278 F279 (by omega) (by rw [e262]; try omega) M280 (fun j9 => ((kup_ne u277 rfl : w276 78 j9 = w250 78 j9).trans (f253 78 j9 rfl : w250 78 j9 = w 78 j9))) (fun j9 hj9 => ((kup_nek u277 hj9 : w276 74 j9 = w250 74 j9).trans (f253 74 j9 rfl : w250 74 j9 = w 74 j9))) (fun j9 => ((kup_ne u277 rfl : w276 77 j9 = w250 77 j9).trans (f253 77 j9 rfl : w250 77 j9 = w 77 j9))) (by omega)
    · skip
      refine kv_aload_n C 23 rfl 0 (kdec dk_cX10_save 12 rfl) rfl rfl ?_
      refine kv_get C 26 rfl 61 12 rfl rfl inX10 (by decide) mfl_TaleMachineModel_112 rfl rfl (kdec dk_cX10_save 13 rfl) e264 ?_
      refine kv_iconst C 27 rfl 3 (kdec dk_cX10_save 14 rfl) rfl ?_
      refine kv_icmp_eq C 30 rfl 33 (kdec dk_cX10_save 15 rfl) (by decide) (fun d281 => ?_) (fun d281 => ?_)
      · skip
        obtain ⟨x283, e284⟩ : ∃ z : Int32, w 61 3 = z := ⟨_, rfl⟩
        have b285 : (0 : Int) ≤ x283.toInt ∧ x283.toInt ≤ 1 := by rw [← e284]; exact hI 61 3
        have e286 : w250 61 3 = x283 := ((f253 61 3 rfl : w250 61 3 = w 61 3).trans e284)
        have M282 : kMoT w250 := M258.resolve_left (by rw [e286, e264]; omega)
        obtain ⟨x287, e288⟩ : ∃ z : Int32, w 61 20 = z := ⟨_, rfl⟩
        have b289 : (0 : Int) ≤ x287.toInt ∧ x287.toInt ≤ 20 := by rw [← e288]; exact hI 61 20
        have e290 : w250 61 20 = x287 := ((f253 61 20 rfl : w250 61 20 = w 61 20).trans e288)
        have r291 := kMoT_fr M282
        rw [e290] at r291
        refine kv_aload_n C 34 rfl 0 (kdec dk_cX10_save 18 rfl) rfl rfl ?_
        refine kv_getr C 37 rfl 61 33 rfl rfl inX10 (by decide) mfl_TaleMachineModel_46 rfl rfl (kdec dk_cX10_save 19 rfl) ?_
        refine kv_iload_n C 38 rfl 1 (kdec dk_cX10_save 20 rfl) rfl rfl ?_
        refine kv_iconst C 39 rfl 1 (kdec dk_cX10_save 21 rfl) rfl ?_
        refine kv_zast C 40 rfl 74 rfl (by omega) (by omega) (kdec dk_cX10_save 22 rfl) (fun w292 u293 => ?_)
        have u293 : w292 = kup w250 74 2 (vp_nar .boolean 1) := u293
        rw [kf_nar (by decide)] at u293
        have I294 : kI false w292 := kI_put u293 I252 (show (0 : Int) ≤ (1 : Int32).toInt by omega) (show (1 : Int32).toInt ≤ 1 by omega)
        have F295 : kF [(74, none), (75, none), (76, none), (77, none), (78, none), (79, none), (80, none)] w w292 := kF_put u293 F257 rfl
        have M296 : kMoT w292 := kMoT_put u293 M282 rfl rfl rfl
        refine kv_iconst C 41 rfl 0 (kdec dk_cX10_save 23 rfl) rfl ?_
        refine kv_istore_n C 42 rfl 2 [1, 2, 0] [(0, .ref (ρ 61)), (1, .int 2), (2, .int 0)] (kdec dk_cX10_save 24 rfl) rfl (by decide) rfl ?_
        exact cut42 ((((1025 - (0 : Int32).toInt)) : Int).toNat + 1) w292 0 I294 F295 (by omega) (by rw [e262]; try omega) M296 (fun j9 => ((kup_ne u293 rfl : w292 78 j9 = w250 78 j9).trans (f253 78 j9 rfl : w250 78 j9 = w 78 j9))) (fun j9 hj9 => ((kup_nek u293 hj9 : w292 74 j9 = w250 74 j9).trans (f253 74 j9 rfl : w250 74 j9 = w 74 j9))) (fun j9 => ((kup_ne u293 rfl : w292 77 j9 = w250 77 j9).trans (f253 77 j9 rfl : w250 77 j9 = w 77 j9))) (by omega)
      · skip
        refine kv_bipush C 32 rfl (-2) (kdec dk_cX10_save 16 rfl) rfl ?_
        exact kv_iret C hr hlk (kdec dk_cX10_save 17 rfl) ⟨_, rfl, I252, F257, (by rw [e262]; try omega), M258, (kSl_eq hS (fun j9 => (f253 74 j9 rfl : w250 74 j9 = w 74 j9)) (fun j9 => (f253 77 j9 rfl : w250 77 j9 = w 77 j9)) (fun j9 => (f253 78 j9 rfl : w250 78 j9 = w 78 j9)))⟩
  · skip
    refine kv_iconst C 13 rfl (-1) (kdec dk_cX10_save 6 rfl) rfl ?_
    obtain ⟨x297, e298⟩ : ∃ z : Int32, w 61 12 = z := ⟨_, rfl⟩
    have b299 : (0 : Int) ≤ x297.toInt ∧ x297.toInt ≤ 4 := by rw [← e298]; exact hI 61 12
    exact kv_iret C hr hlk (kdec dk_cX10_save 7 rfl) ⟨_, rfl, I252, F257, (by rw [e298]; try omega), M258, (kSl_eq hS (fun j9 => (f253 74 j9 rfl : w250 74 j9 = w 74 j9)) (fun j9 => (f253 77 j9 rfl : w250 77 j9 = w 77 j9)) (fun j9 => (f253 78 j9 rfl : w250 78 j9 = w 78 j9)))⟩

set_option maxHeartbeats 4000000 in
set_option maxRecDepth 100000 in
theorem k_x_save3 (l : Launch) (D : va_G) (τ : Nat → ClassId) (ρ σ : Nat → Nat) (w : kw)  (hI : kI false w) (hMp : ((w 61 3).toInt = 0 ∧ (w 61 12).toInt = 0 ∨ kMoT w)) (hS : kSl w) :
    kM l D τ ρ σ yX10_save cX10_save 5 (some .int) { frames := 1, cells := 0, slots := 0, locals := 36 } [.ref (ρ 61), .int 3] w
      (fun o w' => ∃ r : Int32, o = some (.int r) ∧ kI false w' ∧ kF [(74, none), (75, none), (76, none), (77, none), (78, none), (79, none), (80, none)] w w' ∧ ((w 61 12).toInt = 1 ∨ (w 61 12).toInt = 3 ∨ ((3 : Int32).toInt < 0 ∨ 3 < (3 : Int32).toInt) ∧ r.toInt = -1 ∨ 0 ≤ (3 : Int32).toInt ∧ (3 : Int32).toInt ≤ 3 ∧ r.toInt = -2) ∧ ((w' 61 3).toInt = 0 ∧ (w' 61 12).toInt = 0 ∨ kMoT w') ∧ (kSl w')) := by
  refine kM_of (own := "TaleMachineModel") rfl (by decide) (Nat.le_of_ble_eq_true rfl) ?_
  intro p e s m args below meth c C hr hlk
  have hF0 : kF [(74, none), (75, none), (76, none), (77, none), (78, none), (79, none), (80, none)] w w := kF.rf
  have c_m2 : (-2 : Int32).toInt = -2 := by decide
  have c_m1 : (-1 : Int32).toInt = -1 := by decide
  have c_0 : (0 : Int32).toInt = 0 := by decide
  have c_1 : (1 : Int32).toInt = 1 := by decide
  have c_2 : (2 : Int32).toInt = 2 := by decide
  have c_3 : (3 : Int32).toInt = 3 := by decide
  have c_4 : (4 : Int32).toInt = 4 := by decide
  have c_5 : (5 : Int32).toInt = 5 := by decide
  have c_7 : (7 : Int32).toInt = 7 := by decide
  have c_16 : (16 : Int32).toInt = 16 := by decide
  have c_21 : (21 : Int32).toInt = 21 := by decide
  have c_22 : (22 : Int32).toInt = 22 := by decide
  have c_23 : (23 : Int32).toInt = 23 := by decide
  have c_24 : (24 : Int32).toInt = 24 := by decide
  have c_25 : (25 : Int32).toInt = 25 := by decide
  have c_26 : (26 : Int32).toInt = 26 := by decide
  have c_120 : (120 : Int32).toInt = 120 := by decide
  have c_360 : (360 : Int32).toInt = 360 := by decide
  have c_1024 : (1024 : Int32).toInt = 1024 := by decide
  have c_1920 : (1920 : Int32).toInt = 1920 := by decide
  have c_3072 : (3072 : Int32).toInt = 3072 := by decide
  have c_5760 : (5760 : Int32).toInt = 5760 := by decide
  refine kV.L (L' := [(0, .ref (ρ 61)), (1, .int 3)]) rfl ?_
  have cut109 : ∀ (n_109 : Nat) (w_109 : kw) (l2_109 : Int32), kI false w_109 → kF [(74, none), (75, none), (76, none), (77, none), (78, none), (79, none), (80, none)] w w_109 → (0 ≤ l2_109.toInt ∧ l2_109.toInt ≤ 20) → ((w 61 12).toInt = 1 ∨ (w 61 12).toInt = 3) → kMoT w_109 → (∀ j9 : Nat, w_109 78 j9 = w 78 j9) → (∀ j9 : Nat, j9 ≠ 3 → w_109 74 j9 = w 74 j9) → (∀ j9 : Nat, (j9 < 5760 ∨ 5760 + 1920 ≤ j9) → w_109 77 j9 = w 77 j9) → (∀ f9 : Nat, (f9 : Int) < l2_109.toInt → kAc 5760 w w_109 f9) → ((21 - l2_109.toInt) : Int) < (n_109 : Int) → kV p l e { frames := 1, cells := 0, slots := 0, locals := 36 } s m args below meth c (kQ below args s D τ ρ (fun o w' => ∃ r : Int32, o = some (.int r) ∧ kI false w' ∧ kF [(74, none), (75, none), (76, none), (77, none), (78, none), (79, none), (80, none)] w w' ∧ ((w 61 12).toInt = 1 ∨ (w 61 12).toInt = 3 ∨ ((3 : Int32).toInt < 0 ∨ 3 < (3 : Int32).toInt) ∧ r.toInt = -1 ∨ 0 ≤ (3 : Int32).toInt ∧ (3 : Int32).toInt ≤ 3 ∧ r.toInt = -2) ∧ ((w' 61 3).toInt = 0 ∧ (w' 61 12).toInt = 0 ∨ kMoT w') ∧ (kSl w'))) 5 D τ ρ 109 [(0, .ref (ρ 61)), (1, .int 3), (2, .int l2_109)] [] w_109 := by
    intro n_109
    induction n_109 with
    | zero => intro w_109 l2_109 I_109 F_109 k109_0 k109_1 M_109 R109_E R109_I R109_B R109_A hmz; exfalso; omega
    | succ n_109 ih109 =>
      intro w_109 l2_109 I_109 F_109 k109_0 k109_1 M_109 R109_E R109_I R109_B R109_A hm109
      have gl2_109 := kf_rng l2_109
      obtain ⟨x1, e2⟩ : ∃ z : Int32, w 61 20 = z := ⟨_, rfl⟩
      have b3 : (0 : Int) ≤ x1.toInt ∧ x1.toInt ≤ 20 := by rw [← e2]; exact hI 61 20
      have e4 : w_109 61 20 = x1 := ((F_109 61 20 rfl : w_109 61 20 = w 61 20).trans e2)
      have r5 := kMoT_fr M_109
      rw [e4] at r5
      obtain ⟨x6, e7⟩ : ∃ z : Int32, w 61 12 = z := ⟨_, rfl⟩
      have b8 : (0 : Int) ≤ x6.toInt ∧ x6.toInt ≤ 4 := by rw [← e7]; exact hI 61 12
      rw [e7] at k109_1
      have cut185 : ∀ (n_185 : Nat) (w_185 : kw) (l2_185 l3_185 l4_185 : Int32), kI false w_185 → kF [(74, none), (75, none), (76, none), (77, none), (78, none), (79, none), (80, none)] w w_185 → (0 ≤ l2_185.toInt ∧ l2_185.toInt < 20 ∧ l2_185.toInt = l2_109.toInt ∧ l3_185.toInt = 5760 + 24 * l2_185.toInt) → (1 ≤ l4_185.toInt ∧ l4_185.toInt ≤ 16) → ((w 61 12).toInt = 1 ∨ (w 61 12).toInt = 3) → kMoT w_185 → (∀ j9 : Nat, w_185 78 j9 = w 78 j9) → (∀ j9 : Nat, j9 ≠ 3 → w_185 74 j9 = w 74 j9) → (∀ j9 : Nat, (j9 < 5760 ∨ 5760 + 1920 ≤ j9) → w_185 77 j9 = w 77 j9) → (∀ f9 : Nat, (f9 : Int) ≤ l2_185.toInt → kAc 5760 w w_185 f9) → ((17 - l4_185.toInt) : Int) < (n_185 : Int) → kV p l e { frames := 1, cells := 0, slots := 0, locals := 36 } s m args below meth c (kQ below args s D τ ρ (fun o w' => ∃ r : Int32, o = some (.int r) ∧ kI false w' ∧ kF [(74, none), (75, none), (76, none), (77, none), (78, none), (79, none), (80, none)] w w' ∧ ((w 61 12).toInt = 1 ∨ (w 61 12).toInt = 3 ∨ ((3 : Int32).toInt < 0 ∨ 3 < (3 : Int32).toInt) ∧ r.toInt = -1 ∨ 0 ≤ (3 : Int32).toInt ∧ (3 : Int32).toInt ≤ 3 ∧ r.toInt = -2) ∧ ((w' 61 3).toInt = 0 ∧ (w' 61 12).toInt = 0 ∨ kMoT w') ∧ (kSl w'))) 5 D τ ρ 185 [(0, .ref (ρ 61)), (1, .int 3), (2, .int l2_185), (3, .int l3_185), (4, .int l4_185)] [] w_185 := by
        intro n_185
        induction n_185 with
        | zero => intro w_185 l2_185 l3_185 l4_185 I_185 F_185 k185_0 k185_1 k185_2 M_185 R185_E R185_I R185_B R185_A hmz; exfalso; omega
        | succ n_185 ih185 =>
          intro w_185 l2_185 l3_185 l4_185 I_185 F_185 k185_0 k185_1 k185_2 M_185 R185_E R185_I R185_B R185_A hm185
          have gl2_185 := kf_rng l2_185
          have gl3_185 := kf_rng l3_185
          have gl4_185 := kf_rng l4_185
          have e9 : w_185 61 20 = x1 := ((F_185 61 20 rfl : w_185 61 20 = w 61 20).trans e2)
          have r10 := kMoT_fr M_185
          rw [e9] at r10
          rw [e7] at k185_2
          refine kv_iload C 187 rfl 4 (kdec dk_cX10_save 117 rfl) rfl ?_
          refine kv_aload_n C 188 rfl 0 (kdec dk_cX10_save 118 rfl) rfl rfl ?_
          refine kv_getr C 191 rfl 61 24 rfl rfl inX10 (by decide) mfl_TaleMachineModel_34 rfl rfl (kdec dk_cX10_save 119 rfl) ?_
          refine kv_iload_n C 192 rfl 2 (kdec dk_cX10_save 120 rfl) rfl rfl ?_
          obtain ⟨x11, e12⟩ : ∃ z : Int32, w_185 70 (l2_185 : Int32).toNatClampNeg = z := ⟨_, rfl⟩
          have b13 : (0 : Int) ≤ x11.toInt ∧ x11.toInt ≤ 15 := by rw [← e12]; exact I_185 70 _
          refine kv_iald C 193 rfl 70 rfl (by omega) (by omega) e12 (kdec dk_cX10_save 121 rfl) ?_
          refine kv_icmp_gt C 196 rfl 225 (kdec dk_cX10_save 122 rfl) (by decide) (fun d14 => ?_) (fun d14 => ?_)
          · skip
            refine kv_iinc C 228 rfl 2 2 [1, 2, 0, 3, 4] (fun v9 => [(0, .ref (ρ 61)), (1, .int 3), (2, .int v9), (3, .int l3_185), (4, .int l4_185)]) (kdec dk_cX10_save 141 rfl) rfl (by decide) (fun _ => rfl) 1 rfl (fun x15 q16 h17e h17 h17l h17u => ?_)
            try have h17n : x15.toInt = l2_185.toInt + 1 := by omega
            clear h17 q16
            refine kv_goto C 109 (kdec dk_cX10_save 142 rfl) (by decide) ?_
            refine kV.sub [0, 1, 2] (L' := [(0, .ref (ρ 61)), (1, .int 3), (2, .int x15)]) rfl ?_
            exact ih109 w_185 x15 I_185 F_185 (by omega) (by rw [e7]; try omega) M_185 (fun j9 => (rfl).trans (R185_E j9)) (fun j9 hj9 => (rfl).trans (R185_I j9 hj9)) R185_B (fun f9 hf9 => R185_A f9 (by omega)) (by omega)
          · skip
            refine kv_aload_n C 197 rfl 0 (kdec dk_cX10_save 123 rfl) rfl rfl ?_
            refine kv_getr C 200 rfl 61 36 rfl rfl inX10 (by decide) mfl_TaleMachineModel_56 rfl rfl (kdec dk_cX10_save 124 rfl) ?_
            refine kv_iload_n C 201 rfl 3 (kdec dk_cX10_save 125 rfl) rfl rfl ?_
            refine kv_iconst C 202 rfl 4 (kdec dk_cX10_save 126 rfl) rfl ?_
            refine kv_iadd C 203 rfl (kdec dk_cX10_save 127 rfl) (fun x18 q20 h19e h19 h19l h19u => ?_)
            try have h19n : x18.toInt = l3_185.toInt + (4 : Int32).toInt := by omega
            clear h19 q20
            refine kv_iload C 205 rfl 4 (kdec dk_cX10_save 128 rfl) rfl ?_
            refine kv_iadd C 206 rfl (kdec dk_cX10_save 129 rfl) (fun x21 q23 h22e h22 h22l h22u => ?_)
            try have h22n : x21.toInt = x18.toInt + l4_185.toInt := by omega
            clear h22 q23
            refine kv_aload_n C 207 rfl 0 (kdec dk_cX10_save 130 rfl) rfl rfl ?_
            refine kv_getr C 210 rfl 61 25 rfl rfl inX10 (by decide) mfl_TaleMachineModel_37 rfl rfl (kdec dk_cX10_save 131 rfl) ?_
            refine kv_bipush C 212 rfl 16 (kdec dk_cX10_save 132 rfl) rfl ?_
            refine kv_iload_n C 213 rfl 2 (kdec dk_cX10_save 133 rfl) rfl rfl ?_
            refine kv_imul C 214 rfl (kdec dk_cX10_save 134 rfl) (fun x24 h25e h25l h25u => ?_)
            obtain ⟨q26, g27⟩ := kf_mul 16 l2_185
            rw [← h25e, c_16] at g27
            try have h25n : x24.toInt = 16 * l2_185.toInt := by omega
            clear g27 q26
            refine kv_iload C 216 rfl 4 (kdec dk_cX10_save 135 rfl) rfl ?_
            refine kv_iadd C 217 rfl (kdec dk_cX10_save 136 rfl) (fun x28 q30 h29e h29 h29l h29u => ?_)
            try have h29n : x28.toInt = x24.toInt + l4_185.toInt := by omega
            clear h29 q30
            obtain ⟨x31, e32⟩ : ∃ z : Int32, w_185 71 (x28 : Int32).toNatClampNeg = z := ⟨_, rfl⟩
            have b33 : (0 : Int) ≤ x31.toInt ∧ x31.toInt ≤ 65535 := by rw [← e32]; exact I_185 71 _
            refine kv_iald C 218 rfl 71 rfl (by omega) (by omega) e32 (kdec dk_cX10_save 137 rfl) ?_
            refine kv_iast C 219 rfl 77 rfl (by omega) (by omega) (kdec dk_cX10_save 138 rfl) (fun w34 u35 => ?_)
            have I36 : kI false w34 := kI_put u35 I_185 (show (0 : Int) ≤ (x31 : Int32).toInt by omega) (show (x31 : Int32).toInt ≤ 65535 by omega)
            have F37 : kF [(74, none), (75, none), (76, none), (77, none), (78, none), (79, none), (80, none)] w w34 := kF_put u35 F_185 rfl
            have M38 : kMoT w34 := kMoT_put u35 M_185 rfl rfl rfl
            refine kv_iinc C 222 rfl 4 4 [1, 2, 3, 4, 0] (fun v9 => [(0, .ref (ρ 61)), (1, .int 3), (2, .int l2_185), (3, .int l3_185), (4, .int v9)]) (kdec dk_cX10_save 139 rfl) rfl (by decide) (fun _ => rfl) 1 rfl (fun x39 q40 h41e h41 h41l h41u => ?_)
            try have h41n : x39.toInt = l4_185.toInt + 1 := by omega
            clear h41 q40
            refine kv_goto C 185 (kdec dk_cX10_save 140 rfl) (by decide) ?_
            exact ih185 w34 l2_185 l3_185 x39 I36 F37 (by omega) (by omega) (by rw [e7]; try omega) M38 (fun j9 => ((kup_ne u35 rfl : w34 78 j9 = w_185 78 j9)).trans (R185_E j9)) (fun j9 hj9 => ((kup_ne u35 rfl : w34 74 j9 = w_185 74 j9)).trans (R185_I j9 hj9)) (kB_put R185_B u35 (by omega) (by omega)) (kA_keep R185_A u35 (by omega) (i := l4_185) (by omega) (by omega) (by omega)) (by omega)
      refine kv_iload_n C 110 rfl 2 (kdec dk_cX10_save 65 rfl) rfl rfl ?_
      refine kv_aload_n C 111 rfl 0 (kdec dk_cX10_save 66 rfl) rfl rfl ?_
      refine kv_get C 114 rfl 61 20 rfl rfl inX10 (by decide) mfl_TaleMachineModel_139 rfl rfl (kdec dk_cX10_save 67 rfl) e4 ?_
      refine kv_icmp_ge C 117 rfl 231 (kdec dk_cX10_save 68 rfl) (by decide) (fun d42 => ?_) (fun d42 => ?_)
      · skip
        refine kv_aload_n C 232 rfl 0 (kdec dk_cX10_save 143 rfl) rfl rfl ?_
        refine kv_getr C 235 rfl 61 37 rfl rfl inX10 (by decide) mfl_TaleMachineModel_59 rfl rfl (kdec dk_cX10_save 144 rfl) ?_
        refine kv_bipush C 237 rfl 7 (kdec dk_cX10_save 145 rfl) rfl ?_
        refine kv_iload_n C 238 rfl 1 (kdec dk_cX10_save 146 rfl) rfl rfl ?_
        refine kv_imul C 239 rfl (kdec dk_cX10_save 147 rfl) (fun x43 h44e h44l h44u => ?_)
        obtain rfl : x43 = 21 := by rw [h44e]; decide
        refine kv_aload_n C 240 rfl 0 (kdec dk_cX10_save 148 rfl) rfl rfl ?_
        obtain ⟨x45, e46⟩ : ∃ z : Int32, w 61 19 = z := ⟨_, rfl⟩
        have b47 : (0 : Int) ≤ x45.toInt ∧ x45.toInt ≤ 120 := by rw [← e46]; exact hI 61 19
        have e48 : w_109 61 19 = x45 := ((F_109 61 19 rfl : w_109 61 19 = w 61 19).trans e46)
        refine kv_get C 243 rfl 61 19 rfl rfl inX10 (by decide) mfl_TaleMachineModel_136 rfl rfl (kdec dk_cX10_save 149 rfl) e48 ?_
        refine kv_iast C 244 rfl 78 rfl (by omega) (by omega) (kdec dk_cX10_save 150 rfl) (fun w49 u50 => ?_)
        have u50 : w49 = kup w_109 78 21 x45 := u50
        have I51 : kI false w49 := kI_put u50 I_109 (show (0 : Int) ≤ (x45 : Int32).toInt by omega) (show (x45 : Int32).toInt ≤ 65535 by omega)
        have F52 : kF [(74, none), (75, none), (76, none), (77, none), (78, none), (79, none), (80, none)] w w49 := kF_put u50 F_109 rfl
        have M53 : kMoT w49 := kMoT_put u50 M_109 rfl rfl rfl
        refine kv_aload_n C 245 rfl 0 (kdec dk_cX10_save 151 rfl) rfl rfl ?_
        refine kv_getr C 248 rfl 61 37 rfl rfl inX10 (by decide) mfl_TaleMachineModel_59 rfl rfl (kdec dk_cX10_save 152 rfl) ?_
        refine kv_bipush C 250 rfl 7 (kdec dk_cX10_save 153 rfl) rfl ?_
        refine kv_iload_n C 251 rfl 1 (kdec dk_cX10_save 154 rfl) rfl rfl ?_
        refine kv_imul C 252 rfl (kdec dk_cX10_save 155 rfl) (fun x54 h55e h55l h55u => ?_)
        obtain rfl : x54 = 21 := by rw [h55e]; decide
        refine kv_iconst C 253 rfl 1 (kdec dk_cX10_save 156 rfl) rfl ?_
        refine kv_iadd C 254 rfl (kdec dk_cX10_save 157 rfl) (fun x56 q58 h57e h57 h57l h57u => ?_)
        try have h57n : x56.toInt = (21 : Int32).toInt + (1 : Int32).toInt := by omega
        clear h57 q58
        obtain rfl : x56 = 22 := by rw [h57e]; decide
        refine kv_aload_n C 255 rfl 0 (kdec dk_cX10_save 158 rfl) rfl rfl ?_
        have e59 : w49 61 20 = x1 := ((kup_ne u50 rfl : w49 61 20 = w_109 61 20).trans e4)
        refine kv_get C 258 rfl 61 20 rfl rfl inX10 (by decide) mfl_TaleMachineModel_139 rfl rfl (kdec dk_cX10_save 159 rfl) e59 ?_
        refine kv_iast C 259 rfl 78 rfl (by omega) (by omega) (kdec dk_cX10_save 160 rfl) (fun w60 u61 => ?_)
        have u61 : w60 = kup w49 78 22 x1 := u61
        have I62 : kI false w60 := kI_put u61 I51 (show (0 : Int) ≤ (x1 : Int32).toInt by omega) (show (x1 : Int32).toInt ≤ 65535 by omega)
        have F63 : kF [(74, none), (75, none), (76, none), (77, none), (78, none), (79, none), (80, none)] w w60 := kF_put u61 F52 rfl
        have M64 : kMoT w60 := kMoT_put u61 M53 rfl rfl rfl
        refine kv_aload_n C 260 rfl 0 (kdec dk_cX10_save 161 rfl) rfl rfl ?_
        refine kv_getr C 263 rfl 61 37 rfl rfl inX10 (by decide) mfl_TaleMachineModel_59 rfl rfl (kdec dk_cX10_save 162 rfl) ?_
        refine kv_bipush C 265 rfl 7 (kdec dk_cX10_save 163 rfl) rfl ?_
        refine kv_iload_n C 266 rfl 1 (kdec dk_cX10_save 164 rfl) rfl rfl ?_
        refine kv_imul C 267 rfl (kdec dk_cX10_save 165 rfl) (fun x65 h66e h66l h66u => ?_)
        obtain rfl : x65 = 21 := by rw [h66e]; decide
        refine kv_iconst C 268 rfl 2 (kdec dk_cX10_save 166 rfl) rfl ?_
        refine kv_iadd C 269 rfl (kdec dk_cX10_save 167 rfl) (fun x67 q69 h68e h68 h68l h68u => ?_)
        try have h68n : x67.toInt = (21 : Int32).toInt + (2 : Int32).toInt := by omega
        clear h68 q69
        obtain rfl : x67 = 23 := by rw [h68e]; decide
        refine kv_aload_n C 270 rfl 0 (kdec dk_cX10_save 168 rfl) rfl rfl ?_
        obtain ⟨x70, e71⟩ : ∃ z : Int32, w 61 14 = z := ⟨_, rfl⟩
        have b72 : (0 : Int) ≤ x70.toInt ∧ x70.toInt ≤ 65535 := by rw [← e71]; exact hI 61 14
        have e73 : w60 61 14 = x70 := ((kup_ne u61 rfl : w60 61 14 = w49 61 14).trans ((kup_ne u50 rfl : w49 61 14 = w_109 61 14).trans ((F_109 61 14 rfl : w_109 61 14 = w 61 14).trans e71)))
        refine kv_get C 273 rfl 61 14 rfl rfl inX10 (by decide) mfl_TaleMachineModel_142 rfl rfl (kdec dk_cX10_save 169 rfl) e73 ?_
        refine kv_iast C 274 rfl 78 rfl (by omega) (by omega) (kdec dk_cX10_save 170 rfl) (fun w74 u75 => ?_)
        have u75 : w74 = kup w60 78 23 x70 := u75
        have I76 : kI false w74 := kI_put u75 I62 (show (0 : Int) ≤ (x70 : Int32).toInt by omega) (show (x70 : Int32).toInt ≤ 65535 by omega)
        have F77 : kF [(74, none), (75, none), (76, none), (77, none), (78, none), (79, none), (80, none)] w w74 := kF_put u75 F63 rfl
        have M78 : kMoT w74 := kMoT_put u75 M64 rfl rfl rfl
        refine kv_aload_n C 275 rfl 0 (kdec dk_cX10_save 171 rfl) rfl rfl ?_
        refine kv_getr C 278 rfl 61 37 rfl rfl inX10 (by decide) mfl_TaleMachineModel_59 rfl rfl (kdec dk_cX10_save 172 rfl) ?_
        refine kv_bipush C 280 rfl 7 (kdec dk_cX10_save 173 rfl) rfl ?_
        refine kv_iload_n C 281 rfl 1 (kdec dk_cX10_save 174 rfl) rfl rfl ?_
        refine kv_imul C 282 rfl (kdec dk_cX10_save 175 rfl) (fun x79 h80e h80l h80u => ?_)
        obtain rfl : x79 = 21 := by rw [h80e]; decide
        refine kv_iconst C 283 rfl 3 (kdec dk_cX10_save 176 rfl) rfl ?_
        refine kv_iadd C 284 rfl (kdec dk_cX10_save 177 rfl) (fun x81 q83 h82e h82 h82l h82u => ?_)
        try have h82n : x81.toInt = (21 : Int32).toInt + (3 : Int32).toInt := by omega
        clear h82 q83
        obtain rfl : x81 = 24 := by rw [h82e]; decide
        refine kv_aload_n C 285 rfl 0 (kdec dk_cX10_save 178 rfl) rfl rfl ?_
        have e84 : w74 61 12 = x6 := ((kup_ne u75 rfl : w74 61 12 = w60 61 12).trans ((kup_ne u61 rfl : w60 61 12 = w49 61 12).trans ((kup_ne u50 rfl : w49 61 12 = w_109 61 12).trans ((F_109 61 12 rfl : w_109 61 12 = w 61 12).trans e7))))
        refine kv_get C 288 rfl 61 12 rfl rfl inX10 (by decide) mfl_TaleMachineModel_112 rfl rfl (kdec dk_cX10_save 179 rfl) e84 ?_
        refine kv_iast C 289 rfl 78 rfl (by omega) (by omega) (kdec dk_cX10_save 180 rfl) (fun w85 u86 => ?_)
        have u86 : w85 = kup w74 78 24 x6 := u86
        have I87 : kI false w85 := kI_put u86 I76 (show (0 : Int) ≤ (x6 : Int32).toInt by omega) (show (x6 : Int32).toInt ≤ 65535 by omega)
        have F88 : kF [(74, none), (75, none), (76, none), (77, none), (78, none), (79, none), (80, none)] w w85 := kF_put u86 F77 rfl
        have M89 : kMoT w85 := kMoT_put u86 M78 rfl rfl rfl
        refine kv_aload_n C 290 rfl 0 (kdec dk_cX10_save 181 rfl) rfl rfl ?_
        refine kv_getr C 293 rfl 61 37 rfl rfl inX10 (by decide) mfl_TaleMachineModel_59 rfl rfl (kdec dk_cX10_save 182 rfl) ?_
        refine kv_bipush C 295 rfl 7 (kdec dk_cX10_save 183 rfl) rfl ?_
        refine kv_iload_n C 296 rfl 1 (kdec dk_cX10_save 184 rfl) rfl rfl ?_
        refine kv_imul C 297 rfl (kdec dk_cX10_save 185 rfl) (fun x90 h91e h91l h91u => ?_)
        obtain rfl : x90 = 21 := by rw [h91e]; decide
        refine kv_iconst C 298 rfl 4 (kdec dk_cX10_save 186 rfl) rfl ?_
        refine kv_iadd C 299 rfl (kdec dk_cX10_save 187 rfl) (fun x92 q94 h93e h93 h93l h93u => ?_)
        try have h93n : x92.toInt = (21 : Int32).toInt + (4 : Int32).toInt := by omega
        clear h93 q94
        obtain rfl : x92 = 25 := by rw [h93e]; decide
        refine kv_aload_n C 300 rfl 0 (kdec dk_cX10_save 188 rfl) rfl rfl ?_
        obtain ⟨x95, e96⟩ : ∃ z : Int32, w 61 26 = z := ⟨_, rfl⟩
        have b97 : (0 : Int) ≤ x95.toInt ∧ x95.toInt ≤ 65535 := by rw [← e96]; exact hI 61 26
        have e98 : w85 61 26 = x95 := ((kup_ne u86 rfl : w85 61 26 = w74 61 26).trans ((kup_ne u75 rfl : w74 61 26 = w60 61 26).trans ((kup_ne u61 rfl : w60 61 26 = w49 61 26).trans ((kup_ne u50 rfl : w49 61 26 = w_109 61 26).trans ((F_109 61 26 rfl : w_109 61 26 = w 61 26).trans e96)))))
        refine kv_get C 303 rfl 61 26 rfl rfl inX10 (by decide) mfl_TaleMachineModel_323 rfl rfl (kdec dk_cX10_save 189 rfl) e98 ?_
        refine kv_iast C 304 rfl 78 rfl (by omega) (by omega) (kdec dk_cX10_save 190 rfl) (fun w99 u100 => ?_)
        have u100 : w99 = kup w85 78 25 x95 := u100
        have I101 : kI false w99 := kI_put u100 I87 (show (0 : Int) ≤ (x95 : Int32).toInt by omega) (show (x95 : Int32).toInt ≤ 65535 by omega)
        have F102 : kF [(74, none), (75, none), (76, none), (77, none), (78, none), (79, none), (80, none)] w w99 := kF_put u100 F88 rfl
        have M103 : kMoT w99 := kMoT_put u100 M89 rfl rfl rfl
        refine kv_aload_n C 305 rfl 0 (kdec dk_cX10_save 191 rfl) rfl rfl ?_
        refine kv_getr C 308 rfl 61 37 rfl rfl inX10 (by decide) mfl_TaleMachineModel_59 rfl rfl (kdec dk_cX10_save 192 rfl) ?_
        refine kv_bipush C 310 rfl 7 (kdec dk_cX10_save 193 rfl) rfl ?_
        refine kv_iload_n C 311 rfl 1 (kdec dk_cX10_save 194 rfl) rfl rfl ?_
        refine kv_imul C 312 rfl (kdec dk_cX10_save 195 rfl) (fun x104 h105e h105l h105u => ?_)
        obtain rfl : x104 = 21 := by rw [h105e]; decide
        refine kv_iconst C 313 rfl 5 (kdec dk_cX10_save 196 rfl) rfl ?_
        refine kv_iadd C 314 rfl (kdec dk_cX10_save 197 rfl) (fun x106 q108 h107e h107 h107l h107u => ?_)
        try have h107n : x106.toInt = (21 : Int32).toInt + (5 : Int32).toInt := by omega
        clear h107 q108
        obtain rfl : x106 = 26 := by rw [h107e]; decide
        refine kv_aload_n C 315 rfl 0 (kdec dk_cX10_save 198 rfl) rfl rfl ?_
        obtain ⟨x109, e110⟩ : ∃ z : Int32, w 61 27 = z := ⟨_, rfl⟩
        have b111 : (0 : Int) ≤ x109.toInt ∧ x109.toInt ≤ 65535 := by rw [← e110]; exact hI 61 27
        have e112 : w99 61 27 = x109 := ((kup_ne u100 rfl : w99 61 27 = w85 61 27).trans ((kup_ne u86 rfl : w85 61 27 = w74 61 27).trans ((kup_ne u75 rfl : w74 61 27 = w60 61 27).trans ((kup_ne u61 rfl : w60 61 27 = w49 61 27).trans ((kup_ne u50 rfl : w49 61 27 = w_109 61 27).trans ((F_109 61 27 rfl : w_109 61 27 = w 61 27).trans e110))))))
        refine kv_get C 318 rfl 61 27 rfl rfl inX10 (by decide) mfl_TaleMachineModel_326 rfl rfl (kdec dk_cX10_save 199 rfl) e112 ?_
        refine kv_iast C 319 rfl 78 rfl (by omega) (by omega) (kdec dk_cX10_save 200 rfl) (fun w113 u114 => ?_)
        have u114 : w113 = kup w99 78 26 x109 := u114
        have I115 : kI false w113 := kI_put u114 I101 (show (0 : Int) ≤ (x109 : Int32).toInt by omega) (show (x109 : Int32).toInt ≤ 65535 by omega)
        have F116 : kF [(74, none), (75, none), (76, none), (77, none), (78, none), (79, none), (80, none)] w w113 := kF_put u114 F102 rfl
        have M117 : kMoT w113 := kMoT_put u114 M103 rfl rfl rfl
        refine kv_aload_n C 320 rfl 0 (kdec dk_cX10_save 201 rfl) rfl rfl ?_
        refine kv_iload_n C 321 rfl 1 (kdec dk_cX10_save 202 rfl) rfl rfl ?_
        refine kv_callVv (As := [.int 3]) (rest := []) C 324 rfl 61 (k_x_squeeze l D τ ρ σ w113 3 I115 (by omega)) rfl rfl mml_TaleMachineModel_366 mim_yX10_squeeze mse_yX10_squeeze mcd_yX10_squeeze min_yX10_squeeze hd_yX10_squeeze rfl rfl rfl (by decide) rfl (Nat.le_of_ble_eq_true rfl) (kdec dk_cX10_save 203 rfl) (fun w118 h119 => ?_)
        obtain ⟨I120, f121⟩ := h119
        have F123 : kF [(74, none), (75, none), (76, none), (77, none), (78, none), (79, none), (80, none)] w w118 := kF_call F116 f121 (by decide)
        have M124 : kMoT w118 := kMoT_kF f121 M117 rfl rfl (fun _ => rfl)
        refine kv_aload_n C 325 rfl 0 (kdec dk_cX10_save 204 rfl) rfl rfl ?_
        refine kv_getr C 328 rfl 61 39 rfl rfl inX10 (by decide) mfl_TaleMachineModel_65 rfl rfl (kdec dk_cX10_save 205 rfl) ?_
        refine kv_iload_n C 329 rfl 1 (kdec dk_cX10_save 206 rfl) rfl rfl ?_
        obtain ⟨x125, e126⟩ : ∃ z : Int32, w118 80 3 = z := ⟨_, rfl⟩
        have b127 : (0 : Int) ≤ x125.toInt ∧ x125.toInt ≤ 2050 := by rw [← e126]; exact I120 80 3
        refine kv_iald C 330 rfl 80 rfl (by omega) (by omega) (show w118 80 (3 : Int32).toNatClampNeg = x125 from e126) (kdec dk_cX10_save 207 rfl) ?_
        obtain ⟨x128, e129⟩ : ∃ z : Int32, w 61 3 = z := ⟨_, rfl⟩
        have b130 : (0 : Int) ≤ x128.toInt ∧ x128.toInt ≤ 1 := by rw [← e129]; exact hI 61 3
        have e131 : w118 78 21 = x45 := ((f121 78 21 rfl : w118 78 21 = w113 78 21).trans ((kup_ne u114 rfl : w113 78 21 = w99 78 21).trans ((kup_ne u100 rfl : w99 78 21 = w85 78 21).trans ((kup_ne u86 rfl : w85 78 21 = w74 78 21).trans ((kup_ne u75 rfl : w74 78 21 = w60 78 21).trans ((kup_ne u61 rfl : w60 78 21 = w49 78 21).trans (kup_eq u50)))))))
        have e132 : w118 78 22 = x1 := ((f121 78 22 rfl : w118 78 22 = w113 78 22).trans ((kup_ne u114 rfl : w113 78 22 = w99 78 22).trans ((kup_ne u100 rfl : w99 78 22 = w85 78 22).trans ((kup_ne u86 rfl : w85 78 22 = w74 78 22).trans ((kup_ne u75 rfl : w74 78 22 = w60 78 22).trans (kup_eq u61))))))
        have e133 : w118 78 24 = x6 := ((f121 78 24 rfl : w118 78 24 = w113 78 24).trans ((kup_ne u114 rfl : w113 78 24 = w99 78 24).trans ((kup_ne u100 rfl : w99 78 24 = w85 78 24).trans (kup_eq u86))))
        exact kv_iret C hr hlk (kdec dk_cX10_save 208 rfl) ⟨_, rfl, I120, F123, (by rw [e7]; try omega), (Or.inr M124), (kSl_save (k := 3) (by decide) hS (hMp.resolve_left (by rw [e129, e7]; omega)) hI (fun f9 hf9 => kAc_eq (fun j9 => ((f121 77 j9 rfl : w118 77 j9 = w113 77 j9).trans ((kup_ne u114 rfl : w113 77 j9 = w99 77 j9).trans ((kup_ne u100 rfl : w99 77 j9 = w85 77 j9).trans ((kup_ne u86 rfl : w85 77 j9 = w74 77 j9).trans ((kup_ne u75 rfl : w74 77 j9 = w60 77 j9).trans ((kup_ne u61 rfl : w60 77 j9 = w49 77 j9).trans (kup_ne u50 rfl : w49 77 j9 = w_109 77 j9)))))))) (R109_A f9 (by rw [e2] at hf9; omega))) (fun j9 hj9 => (((f121 77 j9 rfl : w118 77 j9 = w113 77 j9).trans ((kup_ne u114 rfl : w113 77 j9 = w99 77 j9).trans ((kup_ne u100 rfl : w99 77 j9 = w85 77 j9).trans ((kup_ne u86 rfl : w85 77 j9 = w74 77 j9).trans ((kup_ne u75 rfl : w74 77 j9 = w60 77 j9).trans ((kup_ne u61 rfl : w60 77 j9 = w49 77 j9).trans (kup_ne u50 rfl : w49 77 j9 = w_109 77 j9)))))))).trans (R109_B j9 hj9)) (fun j9 _ hj9 => (((f121 74 j9 rfl : w118 74 j9 = w113 74 j9).trans ((kup_ne u114 rfl : w113 74 j9 = w99 74 j9).trans ((kup_ne u100 rfl : w99 74 j9 = w85 74 j9).trans ((kup_ne u86 rfl : w85 74 j9 = w74 74 j9).trans ((kup_ne u75 rfl : w74 74 j9 = w60 74 j9).trans ((kup_ne u61 rfl : w60 74 j9 = w49 74 j9).trans (kup_ne u50 rfl : w49 74 j9 = w_109 74 j9)))))))).trans (R109_I j9 hj9)) (e131.trans e46.symm) (e132.trans e2.symm) (show (w118 78 24).toInt ≤ 4 by rw [e133]; omega) (fun j9 hj9 => (((f121 78 j9 rfl : w118 78 j9 = w113 78 j9).trans ((kup_nek u114 (by omega) : w113 78 j9 = w99 78 j9).trans ((kup_nek u100 (by omega) : w99 78 j9 = w85 78 j9).trans ((kup_nek u86 (by omega) : w85 78 j9 = w74 78 j9).trans ((kup_nek u75 (by omega) : w74 78 j9 = w60 78 j9).trans ((kup_nek u61 (by omega) : w60 78 j9 = w49 78 j9).trans (kup_nek u50 (by omega) : w49 78 j9 = w_109 78 j9)))))))).trans (R109_E j9)))⟩
      · skip
        refine kv_sipush C 120 rfl 1920 (kdec dk_cX10_save 69 rfl) rfl ?_
        refine kv_iload_n C 121 rfl 1 (kdec dk_cX10_save 70 rfl) rfl rfl ?_
        refine kv_imul C 122 rfl (kdec dk_cX10_save 71 rfl) (fun x134 h135e h135l h135u => ?_)
        obtain rfl : x134 = 5760 := by rw [h135e]; decide
        refine kv_bipush C 124 rfl 24 (kdec dk_cX10_save 72 rfl) rfl ?_
        refine kv_iload_n C 125 rfl 2 (kdec dk_cX10_save 73 rfl) rfl rfl ?_
        refine kv_imul C 126 rfl (kdec dk_cX10_save 74 rfl) (fun x136 h137e h137l h137u => ?_)
        obtain ⟨q138, g139⟩ := kf_mul 24 l2_109
        rw [← h137e, c_24] at g139
        try have h137n : x136.toInt = 24 * l2_109.toInt := by omega
        clear g139 q138
        refine kv_iadd C 127 rfl (kdec dk_cX10_save 75 rfl) (fun x140 q142 h141e h141 h141l h141u => ?_)
        try have h141n : x140.toInt = (5760 : Int32).toInt + x136.toInt := by omega
        clear h141 q142
        refine kv_istore_n C 128 rfl 3 [1, 2, 3, 0] [(0, .ref (ρ 61)), (1, .int 3), (2, .int l2_109), (3, .int x140)] (kdec dk_cX10_save 76 rfl) rfl (by decide) rfl ?_
        refine kv_aload_n C 129 rfl 0 (kdec dk_cX10_save 77 rfl) rfl rfl ?_
        refine kv_getr C 132 rfl 61 36 rfl rfl inX10 (by decide) mfl_TaleMachineModel_56 rfl rfl (kdec dk_cX10_save 78 rfl) ?_
        refine kv_iload_n C 133 rfl 3 (kdec dk_cX10_save 79 rfl) rfl rfl ?_
        refine kv_aload_n C 134 rfl 0 (kdec dk_cX10_save 80 rfl) rfl rfl ?_
        refine kv_getr C 137 rfl 61 21 rfl rfl inX10 (by decide) mfl_TaleMachineModel_25 rfl rfl (kdec dk_cX10_save 81 rfl) ?_
        refine kv_iload_n C 138 rfl 2 (kdec dk_cX10_save 82 rfl) rfl rfl ?_
        obtain ⟨x143, e144⟩ : ∃ z : Int32, w_109 67 (l2_109 : Int32).toNatClampNeg = z := ⟨_, rfl⟩
        have b145 : (0 : Int) ≤ x143.toInt ∧ x143.toInt ≤ 120 := by rw [← e144]; exact I_109 67 _
        refine kv_iald C 139 rfl 67 rfl (by omega) (by omega) e144 (kdec dk_cX10_save 83 rfl) ?_
        obtain ⟨x147, e148⟩ : ∃ z : Int32, w 61 19 = z := ⟨_, rfl⟩
        have b149 : (0 : Int) ≤ x147.toInt ∧ x147.toInt ≤ 120 := by rw [← e148]; exact hI 61 19
        have e150 : w_109 61 19 = x147 := ((F_109 61 19 rfl : w_109 61 19 = w 61 19).trans e148)
        try have t146 := kMoT_top M_109 (x := l2_109) (by rw [e4]; omega) e144
        try rw [e150] at t146
        refine kv_iast C 140 rfl 77 rfl (by omega) (by omega) (kdec dk_cX10_save 84 rfl) (fun w151 u152 => ?_)
        have I153 : kI false w151 := kI_put u152 I_109 (show (0 : Int) ≤ (x143 : Int32).toInt by omega) (show (x143 : Int32).toInt ≤ 65535 by omega)
        have F154 : kF [(74, none), (75, none), (76, none), (77, none), (78, none), (79, none), (80, none)] w w151 := kF_put u152 F_109 rfl
        have M155 : kMoT w151 := kMoT_put u152 M_109 rfl rfl rfl
        refine kv_aload_n C 141 rfl 0 (kdec dk_cX10_save 85 rfl) rfl rfl ?_
        refine kv_getr C 144 rfl 61 36 rfl rfl inX10 (by decide) mfl_TaleMachineModel_56 rfl rfl (kdec dk_cX10_save 86 rfl) ?_
        refine kv_iload_n C 145 rfl 3 (kdec dk_cX10_save 87 rfl) rfl rfl ?_
        refine kv_iconst C 146 rfl 1 (kdec dk_cX10_save 88 rfl) rfl ?_
        refine kv_iadd C 147 rfl (kdec dk_cX10_save 89 rfl) (fun x156 q158 h157e h157 h157l h157u => ?_)
        try have h157n : x156.toInt = x140.toInt + (1 : Int32).toInt := by omega
        clear h157 q158
        refine kv_aload_n C 148 rfl 0 (kdec dk_cX10_save 90 rfl) rfl rfl ?_
        refine kv_getr C 151 rfl 61 22 rfl rfl inX10 (by decide) mfl_TaleMachineModel_28 rfl rfl (kdec dk_cX10_save 91 rfl) ?_
        refine kv_iload_n C 152 rfl 2 (kdec dk_cX10_save 92 rfl) rfl rfl ?_
        obtain ⟨x159, e160⟩ : ∃ z : Int32, w151 68 (l2_109 : Int32).toNatClampNeg = z := ⟨_, rfl⟩
        have b161 : (0 : Int) ≤ x159.toInt ∧ x159.toInt ≤ 65535 := by rw [← e160]; exact I153 68 _
        refine kv_iald C 153 rfl 68 rfl (by omega) (by omega) e160 (kdec dk_cX10_save 93 rfl) ?_
        refine kv_iast C 154 rfl 77 rfl (by omega) (by omega) (kdec dk_cX10_save 94 rfl) (fun w162 u163 => ?_)
        have I164 : kI false w162 := kI_put u163 I153 (show (0 : Int) ≤ (x159 : Int32).toInt by omega) (show (x159 : Int32).toInt ≤ 65535 by omega)
        have F165 : kF [(74, none), (75, none), (76, none), (77, none), (78, none), (79, none), (80, none)] w w162 := kF_put u163 F154 rfl
        have M166 : kMoT w162 := kMoT_put u163 M155 rfl rfl rfl
        refine kv_aload_n C 155 rfl 0 (kdec dk_cX10_save 95 rfl) rfl rfl ?_
        refine kv_getr C 158 rfl 61 36 rfl rfl inX10 (by decide) mfl_TaleMachineModel_56 rfl rfl (kdec dk_cX10_save 96 rfl) ?_
        refine kv_iload_n C 159 rfl 3 (kdec dk_cX10_save 97 rfl) rfl rfl ?_
        refine kv_iconst C 160 rfl 2 (kdec dk_cX10_save 98 rfl) rfl ?_
        refine kv_iadd C 161 rfl (kdec dk_cX10_save 99 rfl) (fun x167 q169 h168e h168 h168l h168u => ?_)
        try have h168n : x167.toInt = x140.toInt + (2 : Int32).toInt := by omega
        clear h168 q169
        refine kv_aload_n C 162 rfl 0 (kdec dk_cX10_save 100 rfl) rfl rfl ?_
        refine kv_getr C 165 rfl 61 23 rfl rfl inX10 (by decide) mfl_TaleMachineModel_31 rfl rfl (kdec dk_cX10_save 101 rfl) ?_
        refine kv_iload_n C 166 rfl 2 (kdec dk_cX10_save 102 rfl) rfl rfl ?_
        obtain ⟨x170, e171⟩ : ∃ z : Int32, w162 69 (l2_109 : Int32).toNatClampNeg = z := ⟨_, rfl⟩
        have b172 : (0 : Int) ≤ x170.toInt ∧ x170.toInt ≤ 255 := by rw [← e171]; exact I164 69 _
        refine kv_iald C 167 rfl 69 rfl (by omega) (by omega) e171 (kdec dk_cX10_save 103 rfl) ?_
        refine kv_iast C 168 rfl 77 rfl (by omega) (by omega) (kdec dk_cX10_save 104 rfl) (fun w173 u174 => ?_)
        have I175 : kI false w173 := kI_put u174 I164 (show (0 : Int) ≤ (x170 : Int32).toInt by omega) (show (x170 : Int32).toInt ≤ 65535 by omega)
        have F176 : kF [(74, none), (75, none), (76, none), (77, none), (78, none), (79, none), (80, none)] w w173 := kF_put u174 F165 rfl
        have M177 : kMoT w173 := kMoT_put u174 M166 rfl rfl rfl
        refine kv_aload_n C 169 rfl 0 (kdec dk_cX10_save 105 rfl) rfl rfl ?_
        refine kv_getr C 172 rfl 61 36 rfl rfl inX10 (by decide) mfl_TaleMachineModel_56 rfl rfl (kdec dk_cX10_save 106 rfl) ?_
        refine kv_iload_n C 173 rfl 3 (kdec dk_cX10_save 107 rfl) rfl rfl ?_
        refine kv_iconst C 174 rfl 3 (kdec dk_cX10_save 108 rfl) rfl ?_
        refine kv_iadd C 175 rfl (kdec dk_cX10_save 109 rfl) (fun x178 q180 h179e h179 h179l h179u => ?_)
        try have h179n : x178.toInt = x140.toInt + (3 : Int32).toInt := by omega
        clear h179 q180
        refine kv_aload_n C 176 rfl 0 (kdec dk_cX10_save 110 rfl) rfl rfl ?_
        refine kv_getr C 179 rfl 61 24 rfl rfl inX10 (by decide) mfl_TaleMachineModel_34 rfl rfl (kdec dk_cX10_save 111 rfl) ?_
        refine kv_iload_n C 180 rfl 2 (kdec dk_cX10_save 112 rfl) rfl rfl ?_
        obtain ⟨x181, e182⟩ : ∃ z : Int32, w173 70 (l2_109 : Int32).toNatClampNeg = z := ⟨_, rfl⟩
        have b183 : (0 : Int) ≤ x181.toInt ∧ x181.toInt ≤ 15 := by rw [← e182]; exact I175 70 _
        refine kv_iald C 181 rfl 70 rfl (by omega) (by omega) e182 (kdec dk_cX10_save 113 rfl) ?_
        refine kv_iast C 182 rfl 77 rfl (by omega) (by omega) (kdec dk_cX10_save 114 rfl) (fun w184 u185 => ?_)
        have I186 : kI false w184 := kI_put u185 I175 (show (0 : Int) ≤ (x181 : Int32).toInt by omega) (show (x181 : Int32).toInt ≤ 65535 by omega)
        have F187 : kF [(74, none), (75, none), (76, none), (77, none), (78, none), (79, none), (80, none)] w w184 := kF_put u185 F176 rfl
        have M188 : kMoT w184 := kMoT_put u185 M177 rfl rfl rfl
        refine kv_iconst C 183 rfl 1 (kdec dk_cX10_save 115 rfl) rfl ?_
        refine kv_istore C 185 rfl 4 [1, 2, 3, 4, 0] [(0, .ref (ρ 61)), (1, .int 3), (2, .int l2_109), (3, .int x140), (4, .int 1)] (kdec dk_cX10_save 116 rfl) (by decide) rfl ?_
        exact cut185 ((((17 - (1 : Int32).toInt)) : Int).toNat + 1) w184 l2_109 x140 1 I186 F187 (by omega) (by omega) (by rw [e7]; try omega) M188 (fun j9 => (((kup_ne u185 rfl : w184 78 j9 = w173 78 j9).trans ((kup_ne u174 rfl : w173 78 j9 = w162 78 j9).trans ((kup_ne u163 rfl : w162 78 j9 = w151 78 j9).trans (kup_ne u152 rfl : w151 78 j9 = w_109 78 j9))))).trans (R109_E j9)) (fun j9 hj9 => (((kup_ne u185 rfl : w184 74 j9 = w173 74 j9).trans ((kup_ne u174 rfl : w173 74 j9 = w162 74 j9).trans ((kup_ne u163 rfl : w162 74 j9 = w151 74 j9).trans (kup_ne u152 rfl : w151 74 j9 = w_109 74 j9))))).trans (R109_I j9 hj9)) (kB_put (kB_put (kB_put (kB_put R109_B u152 (by omega) (by omega)) u163 (by omega) (by omega)) u174 (by omega) (by omega)) u185 (by omega) (by omega)) (kA_add R109_A (by omega) u152 (by omega) u163 (by omega) u174 (by omega) u185 (by omega) ((F_109 67 _ rfl).symm.trans e144) ((F165 69 _ rfl).symm.trans e171) ((F176 70 _ rfl).symm.trans e182)) (by omega)
  have cut76 : ∀ (n_76 : Nat) (w_76 : kw) (l2_76 : Int32), kI false w_76 → kF [(74, none), (75, none), (76, none), (77, none), (78, none), (79, none), (80, none)] w w_76 → (0 ≤ l2_76.toInt ∧ l2_76.toInt ≤ 120) → ((w 61 12).toInt = 1 ∨ (w 61 12).toInt = 3) → kMoT w_76 → (∀ j9 : Nat, w_76 78 j9 = w 78 j9) → (∀ j9 : Nat, j9 ≠ 3 → w_76 74 j9 = w 74 j9) → (∀ j9 : Nat, w_76 77 j9 = w 77 j9) → ((121 - l2_76.toInt) : Int) < (n_76 : Int) → kV p l e { frames := 1, cells := 0, slots := 0, locals := 36 } s m args below meth c (kQ below args s D τ ρ (fun o w' => ∃ r : Int32, o = some (.int r) ∧ kI false w' ∧ kF [(74, none), (75, none), (76, none), (77, none), (78, none), (79, none), (80, none)] w w' ∧ ((w 61 12).toInt = 1 ∨ (w 61 12).toInt = 3 ∨ ((3 : Int32).toInt < 0 ∨ 3 < (3 : Int32).toInt) ∧ r.toInt = -1 ∨ 0 ≤ (3 : Int32).toInt ∧ (3 : Int32).toInt ≤ 3 ∧ r.toInt = -2) ∧ ((w' 61 3).toInt = 0 ∧ (w' 61 12).toInt = 0 ∨ kMoT w') ∧ (kSl w'))) 5 D τ ρ 76 [(0, .ref (ρ 61)), (1, .int 3), (2, .int l2_76)] [] w_76 := by
    intro n_76
    induction n_76 with
    | zero => intro w_76 l2_76 I_76 F_76 k76_0 k76_1 M_76 R76_E R76_I R76_B hmz; exfalso; omega
    | succ n_76 ih76 =>
      intro w_76 l2_76 I_76 F_76 k76_0 k76_1 M_76 R76_E R76_I R76_B hm76
      have gl2_76 := kf_rng l2_76
      obtain ⟨x189, e190⟩ : ∃ z : Int32, w 61 20 = z := ⟨_, rfl⟩
      have b191 : (0 : Int) ≤ x189.toInt ∧ x189.toInt ≤ 20 := by rw [← e190]; exact hI 61 20
      have e192 : w_76 61 20 = x189 := ((F_76 61 20 rfl : w_76 61 20 = w 61 20).trans e190)
      have r193 := kMoT_fr M_76
      rw [e192] at r193
      obtain ⟨x194, e195⟩ : ∃ z : Int32, w 61 12 = z := ⟨_, rfl⟩
      have b196 : (0 : Int) ≤ x194.toInt ∧ x194.toInt ≤ 4 := by rw [← e195]; exact hI 61 12
      rw [e195] at k76_1
      refine kv_iload_n C 77 rfl 2 (kdec dk_cX10_save 45 rfl) rfl rfl ?_
      refine kv_aload_n C 78 rfl 0 (kdec dk_cX10_save 46 rfl) rfl rfl ?_
      obtain ⟨x197, e198⟩ : ∃ z : Int32, w 61 19 = z := ⟨_, rfl⟩
      have b199 : (0 : Int) ≤ x197.toInt ∧ x197.toInt ≤ 120 := by rw [← e198]; exact hI 61 19
      have e200 : w_76 61 19 = x197 := ((F_76 61 19 rfl : w_76 61 19 = w 61 19).trans e198)
      refine kv_get C 81 rfl 61 19 rfl rfl inX10 (by decide) mfl_TaleMachineModel_136 rfl rfl (kdec dk_cX10_save 47 rfl) e200 ?_
      refine kv_icmp_ge C 84 rfl 107 (kdec dk_cX10_save 48 rfl) (by decide) (fun d201 => ?_) (fun d201 => ?_)
      · skip
        refine kv_iconst C 108 rfl 0 (kdec dk_cX10_save 63 rfl) rfl ?_
        refine kv_istore_n C 109 rfl 2 [1, 2, 0] [(0, .ref (ρ 61)), (1, .int 3), (2, .int 0)] (kdec dk_cX10_save 64 rfl) rfl (by decide) rfl ?_
        exact cut109 ((((21 - (0 : Int32).toInt)) : Int).toNat + 1) w_76 0 I_76 F_76 (by omega) (by rw [e195]; try omega) M_76 (fun j9 => (rfl).trans (R76_E j9)) (fun j9 hj9 => (rfl).trans (R76_I j9 hj9)) (fun j9 _ => (rfl).trans (R76_B j9)) (fun f9 hf9 => by exfalso; omega) (by omega)
      · skip
        refine kv_aload_n C 85 rfl 0 (kdec dk_cX10_save 49 rfl) rfl rfl ?_
        refine kv_getr C 88 rfl 61 35 rfl rfl inX10 (by decide) mfl_TaleMachineModel_53 rfl rfl (kdec dk_cX10_save 50 rfl) ?_
        refine kv_bipush C 90 rfl 120 (kdec dk_cX10_save 51 rfl) rfl ?_
        refine kv_iload_n C 91 rfl 1 (kdec dk_cX10_save 52 rfl) rfl rfl ?_
        refine kv_imul C 92 rfl (kdec dk_cX10_save 53 rfl) (fun x202 h203e h203l h203u => ?_)
        obtain rfl : x202 = 360 := by rw [h203e]; decide
        refine kv_iload_n C 93 rfl 2 (kdec dk_cX10_save 54 rfl) rfl rfl ?_
        refine kv_iadd C 94 rfl (kdec dk_cX10_save 55 rfl) (fun x204 q206 h205e h205 h205l h205u => ?_)
        try have h205n : x204.toInt = (360 : Int32).toInt + l2_76.toInt := by omega
        clear h205 q206
        refine kv_aload_n C 95 rfl 0 (kdec dk_cX10_save 56 rfl) rfl rfl ?_
        refine kv_getr C 98 rfl 61 18 rfl rfl inX10 (by decide) mfl_TaleMachineModel_22 rfl rfl (kdec dk_cX10_save 57 rfl) ?_
        refine kv_iload_n C 99 rfl 2 (kdec dk_cX10_save 58 rfl) rfl rfl ?_
        obtain ⟨x207, e208⟩ : ∃ z : Int32, w_76 66 (l2_76 : Int32).toNatClampNeg = z := ⟨_, rfl⟩
        have b209 : (0 : Int) ≤ x207.toInt ∧ x207.toInt ≤ 65535 := by rw [← e208]; exact I_76 66 _
        refine kv_iald C 100 rfl 66 rfl (by omega) (by omega) e208 (kdec dk_cX10_save 59 rfl) ?_
        refine kv_iast C 101 rfl 76 rfl (by omega) (by omega) (kdec dk_cX10_save 60 rfl) (fun w210 u211 => ?_)
        have I212 : kI false w210 := kI_put u211 I_76 (show (0 : Int) ≤ (x207 : Int32).toInt by omega) (show (x207 : Int32).toInt ≤ 65535 by omega)
        have F213 : kF [(74, none), (75, none), (76, none), (77, none), (78, none), (79, none), (80, none)] w w210 := kF_put u211 F_76 rfl
        have M214 : kMoT w210 := kMoT_put u211 M_76 rfl rfl rfl
        refine kv_iinc C 104 rfl 2 2 [1, 2, 0] (fun v9 => [(0, .ref (ρ 61)), (1, .int 3), (2, .int v9)]) (kdec dk_cX10_save 61 rfl) rfl (by decide) (fun _ => rfl) 1 rfl (fun x215 q216 h217e h217 h217l h217u => ?_)
        try have h217n : x215.toInt = l2_76.toInt + 1 := by omega
        clear h217 q216
        refine kv_goto C 76 (kdec dk_cX10_save 62 rfl) (by decide) ?_
        exact ih76 w210 x215 I212 F213 (by omega) (by rw [e195]; try omega) M214 (fun j9 => ((kup_ne u211 rfl : w210 78 j9 = w_76 78 j9)).trans (R76_E j9)) (fun j9 hj9 => ((kup_ne u211 rfl : w210 74 j9 = w_76 74 j9)).trans (R76_I j9 hj9)) (fun j9 => ((kup_ne u211 rfl : w210 77 j9 = w_76 77 j9)).trans (R76_B j9)) (by omega)
  have cut42 : ∀ (n_42 : Nat) (w_42 : kw) (l2_42 : Int32), kI false w_42 → kF [(74, none), (75, none), (76, none), (77, none), (78, none), (79, none), (80, none)] w w_42 → (0 ≤ l2_42.toInt ∧ l2_42.toInt ≤ 1024) → ((w 61 12).toInt = 1 ∨ (w 61 12).toInt = 3) → kMoT w_42 → (∀ j9 : Nat, w_42 78 j9 = w 78 j9) → (∀ j9 : Nat, j9 ≠ 3 → w_42 74 j9 = w 74 j9) → (∀ j9 : Nat, w_42 77 j9 = w 77 j9) → ((1025 - l2_42.toInt) : Int) < (n_42 : Int) → kV p l e { frames := 1, cells := 0, slots := 0, locals := 36 } s m args below meth c (kQ below args s D τ ρ (fun o w' => ∃ r : Int32, o = some (.int r) ∧ kI false w' ∧ kF [(74, none), (75, none), (76, none), (77, none), (78, none), (79, none), (80, none)] w w' ∧ ((w 61 12).toInt = 1 ∨ (w 61 12).toInt = 3 ∨ ((3 : Int32).toInt < 0 ∨ 3 < (3 : Int32).toInt) ∧ r.toInt = -1 ∨ 0 ≤ (3 : Int32).toInt ∧ (3 : Int32).toInt ≤ 3 ∧ r.toInt = -2) ∧ ((w' 61 3).toInt = 0 ∧ (w' 61 12).toInt = 0 ∨ kMoT w') ∧ (kSl w'))) 5 D τ ρ 42 [(0, .ref (ρ 61)), (1, .int 3), (2, .int l2_42)] [] w_42 := by
    intro n_42
    induction n_42 with
    | zero => intro w_42 l2_42 I_42 F_42 k42_0 k42_1 M_42 R42_E R42_I R42_B hmz; exfalso; omega
    | succ n_42 ih42 =>
      intro w_42 l2_42 I_42 F_42 k42_0 k42_1 M_42 R42_E R42_I R42_B hm42
      have gl2_42 := kf_rng l2_42
      obtain ⟨x218, e219⟩ : ∃ z : Int32, w 61 20 = z := ⟨_, rfl⟩
      have b220 : (0 : Int) ≤ x218.toInt ∧ x218.toInt ≤ 20 := by rw [← e219]; exact hI 61 20
      have e221 : w_42 61 20 = x218 := ((F_42 61 20 rfl : w_42 61 20 = w 61 20).trans e219)
      have r222 := kMoT_fr M_42
      rw [e221] at r222
      obtain ⟨x223, e224⟩ : ∃ z : Int32, w 61 12 = z := ⟨_, rfl⟩
      have b225 : (0 : Int) ≤ x223.toInt ∧ x223.toInt ≤ 4 := by rw [← e224]; exact hI 61 12
      rw [e224] at k42_1
      refine kv_iload_n C 43 rfl 2 (kdec dk_cX10_save 25 rfl) rfl rfl ?_
      refine kv_aload_n C 44 rfl 0 (kdec dk_cX10_save 26 rfl) rfl rfl ?_
      obtain ⟨x226, e227⟩ : ∃ z : Int32, w 61 7 = z := ⟨_, rfl⟩
      have b228 : (0 : Int) ≤ x226.toInt ∧ x226.toInt ≤ 1024 := by rw [← e227]; exact hI 61 7
      have e229 : w_42 61 7 = x226 := ((F_42 61 7 rfl : w_42 61 7 = w 61 7).trans e227)
      refine kv_get C 47 rfl 61 7 rfl rfl inX10 (by decide) mfl_TaleMachineModel_118 rfl rfl (kdec dk_cX10_save 27 rfl) e229 ?_
      refine kv_icmp_ge C 50 rfl 74 (kdec dk_cX10_save 28 rfl) (by decide) (fun d230 => ?_) (fun d230 => ?_)
      · skip
        refine kv_iconst C 75 rfl 0 (kdec dk_cX10_save 43 rfl) rfl ?_
        refine kv_istore_n C 76 rfl 2 [1, 2, 0] [(0, .ref (ρ 61)), (1, .int 3), (2, .int 0)] (kdec dk_cX10_save 44 rfl) rfl (by decide) rfl ?_
        exact cut76 ((((121 - (0 : Int32).toInt)) : Int).toNat + 1) w_42 0 I_42 F_42 (by omega) (by rw [e224]; try omega) M_42 (fun j9 => (rfl).trans (R42_E j9)) (fun j9 hj9 => (rfl).trans (R42_I j9 hj9)) (fun j9 => (rfl).trans (R42_B j9)) (by omega)
      · skip
        refine kv_aload_n C 51 rfl 0 (kdec dk_cX10_save 29 rfl) rfl rfl ?_
        refine kv_getr C 54 rfl 61 34 rfl rfl inX10 (by decide) mfl_TaleMachineModel_50 rfl rfl (kdec dk_cX10_save 30 rfl) ?_
        refine kv_sipush C 57 rfl 1024 (kdec dk_cX10_save 31 rfl) rfl ?_
        refine kv_iload_n C 58 rfl 1 (kdec dk_cX10_save 32 rfl) rfl rfl ?_
        refine kv_imul C 59 rfl (kdec dk_cX10_save 33 rfl) (fun x231 h232e h232l h232u => ?_)
        obtain rfl : x231 = 3072 := by rw [h232e]; decide
        refine kv_iload_n C 60 rfl 2 (kdec dk_cX10_save 34 rfl) rfl rfl ?_
        refine kv_iadd C 61 rfl (kdec dk_cX10_save 35 rfl) (fun x233 q235 h234e h234 h234l h234u => ?_)
        try have h234n : x233.toInt = (3072 : Int32).toInt + l2_42.toInt := by omega
        clear h234 q235
        refine kv_aload_n C 62 rfl 0 (kdec dk_cX10_save 36 rfl) rfl rfl ?_
        refine kv_getr C 65 rfl 61 4 rfl rfl inX10 (by decide) mfl_TaleMachineModel_16 rfl rfl (kdec dk_cX10_save 37 rfl) ?_
        refine kv_iload_n C 66 rfl 2 (kdec dk_cX10_save 38 rfl) rfl rfl ?_
        obtain ⟨x236, e237⟩ : ∃ z : Int32, w_42 64 (l2_42 : Int32).toNatClampNeg = z := ⟨_, rfl⟩
        have b238 : (0 : Int) ≤ x236.toInt ∧ x236.toInt ≤ 255 := by rw [← e237]; exact I_42 64 _
        refine kv_iald C 67 rfl 64 rfl (by omega) (by omega) e237 (kdec dk_cX10_save 39 rfl) ?_
        refine kv_iast C 68 rfl 75 rfl (by omega) (by omega) (kdec dk_cX10_save 40 rfl) (fun w239 u240 => ?_)
        have I241 : kI false w239 := kI_put u240 I_42 (show (0 : Int) ≤ (x236 : Int32).toInt by omega) (show (x236 : Int32).toInt ≤ 255 by omega)
        have F242 : kF [(74, none), (75, none), (76, none), (77, none), (78, none), (79, none), (80, none)] w w239 := kF_put u240 F_42 rfl
        have M243 : kMoT w239 := kMoT_put u240 M_42 rfl rfl rfl
        refine kv_iinc C 71 rfl 2 2 [1, 2, 0] (fun v9 => [(0, .ref (ρ 61)), (1, .int 3), (2, .int v9)]) (kdec dk_cX10_save 41 rfl) rfl (by decide) (fun _ => rfl) 1 rfl (fun x244 q245 h246e h246 h246l h246u => ?_)
        try have h246n : x244.toInt = l2_42.toInt + 1 := by omega
        clear h246 q245
        refine kv_goto C 42 (kdec dk_cX10_save 42 rfl) (by decide) ?_
        exact ih42 w239 x244 I241 F242 (by omega) (by rw [e224]; try omega) M243 (fun j9 => ((kup_ne u240 rfl : w239 78 j9 = w_42 78 j9)).trans (R42_E j9)) (fun j9 hj9 => ((kup_ne u240 rfl : w239 74 j9 = w_42 74 j9)).trans (R42_I j9 hj9)) (fun j9 => ((kup_ne u240 rfl : w239 77 j9 = w_42 77 j9)).trans (R42_B j9)) (by omega)
  refine kv_iload_n C 1 rfl 1 (kdec dk_cX10_save 0 rfl) rfl rfl ?_
  refine kv_i2l C 2 rfl (kdec dk_cX10_save 1 rfl) ?_
  have h247 := kf_i2l 3
  refine kv_lconst C 3 rfl 0 (kdec dk_cX10_save 2 rfl) rfl ?_
  have h248 : (0 : Int64).toInt = 0 := by decide
  refine kv_ldc2 C 6 rfl 3 (kdec dk_cX10_save 3 rfl) mcl_TaleMachineModel_259 ?_
  have h249 : (3 : Int64).toInt = 3 := by decide
  refine kv_callSi (As := [.long (3 : Int32).toInt64, .long (0 : Int64), .long (3 : Int64)]) (rest := []) C 9 rfl (k_x_in l D τ ρ σ w (3 : Int32).toInt64 (0 : Int64) (3 : Int64) hI ) mml_TaleMachineModel_94 mst_yX10_in mcd_yX10_in min_yX10_in hd_yX10_in rfl rfl rfl (by decide) rfl (Nat.le_of_ble_eq_true rfl) (kdec dk_cX10_save 4 rfl) (fun x254 w250 h251 => ?_)
  obtain ⟨I252, f253, p255, p256⟩ := h251
  have F257 : kF [(74, none), (75, none), (76, none), (77, none), (78, none), (79, none), (80, none)] w w250 := kF_call hF0 f253 (by decide)
  have M258 : ((w250 61 3).toInt = 0 ∧ (w250 61 12).toInt = 0 ∨ kMoT w250) := kMoP_kF f253 hMp rfl rfl rfl rfl (fun _ => rfl)
  have g259 := kf_rng x254
  refine kv_if_ne C 12 rfl 14 (kdec dk_cX10_save 5 rfl) (by decide) (fun d260 => ?_) (fun d260 => ?_)
  · skip
    refine kv_aload_n C 15 rfl 0 (kdec dk_cX10_save 8 rfl) rfl rfl ?_
    obtain ⟨x261, e262⟩ : ∃ z : Int32, w 61 12 = z := ⟨_, rfl⟩
    have b263 : (0 : Int) ≤ x261.toInt ∧ x261.toInt ≤ 4 := by rw [← e262]; exact hI 61 12
    have e264 : w250 61 12 = x261 := ((f253 61 12 rfl : w250 61 12 = w 61 12).trans e262)
    refine kv_get C 18 rfl 61 12 rfl rfl inX10 (by decide) mfl_TaleMachineModel_112 rfl rfl (kdec dk_cX10_save 9 rfl) e264 ?_
    refine kv_iconst C 19 rfl 1 (kdec dk_cX10_save 10 rfl) rfl ?_
    refine kv_icmp_eq C 22 rfl 33 (kdec dk_cX10_save 11 rfl) (by decide) (fun d265 => ?_) (fun d265 => ?_)
    · skip
      obtain ⟨x267, e268⟩ : ∃ z : Int32, w 61 3 = z := ⟨_, rfl⟩
      have b269 : (0 : Int) ≤ x267.toInt ∧ x267.toInt ≤ 1 := by rw [← e268]; exact hI 61 3
      have e270 : w250 61 3 = x267 := ((f253 61 3 rfl : w250 61 3 = w 61 3).trans e268)
      have M266 : kMoT w250 := M258.resolve_left (by rw [e270, e264]; omega)
      obtain ⟨x271, e272⟩ : ∃ z : Int32, w 61 20 = z := ⟨_, rfl⟩
      have b273 : (0 : Int) ≤ x271.toInt ∧ x271.toInt ≤ 20 := by rw [← e272]; exact hI 61 20
      have e274 : w250 61 20 = x271 := ((f253 61 20 rfl : w250 61 20 = w 61 20).trans e272)
      have r275 := kMoT_fr M266
      rw [e274] at r275
      refine kv_aload_n C 34 rfl 0 (kdec dk_cX10_save 18 rfl) rfl rfl ?_
      refine kv_getr C 37 rfl 61 33 rfl rfl inX10 (by decide) mfl_TaleMachineModel_46 rfl rfl (kdec dk_cX10_save 19 rfl) ?_
      refine kv_iload_n C 38 rfl 1 (kdec dk_cX10_save 20 rfl) rfl rfl ?_
      refine kv_iconst C 39 rfl 1 (kdec dk_cX10_save 21 rfl) rfl ?_
      refine kv_zast C 40 rfl 74 rfl (by omega) (by omega) (kdec dk_cX10_save 22 rfl) (fun w276 u277 => ?_)
      have u277 : w276 = kup w250 74 3 (vp_nar .boolean 1) := u277
      rw [kf_nar (by decide)] at u277
      have I278 : kI false w276 := kI_put u277 I252 (show (0 : Int) ≤ (1 : Int32).toInt by omega) (show (1 : Int32).toInt ≤ 1 by omega)
      have F279 : kF [(74, none), (75, none), (76, none), (77, none), (78, none), (79, none), (80, none)] w w276 := kF_put u277 F257 rfl
      have M280 : kMoT w276 := kMoT_put u277 M266 rfl rfl rfl
      refine kv_iconst C 41 rfl 0 (kdec dk_cX10_save 23 rfl) rfl ?_
      refine kv_istore_n C 42 rfl 2 [1, 2, 0] [(0, .ref (ρ 61)), (1, .int 3), (2, .int 0)] (kdec dk_cX10_save 24 rfl) rfl (by decide) rfl ?_
      exact cut42 ((((1025 - (0 : Int32).toInt)) : Int).toNat + 1) w276 0 I278 F279 (by omega) (by rw [e262]; try omega) M280 (fun j9 => ((kup_ne u277 rfl : w276 78 j9 = w250 78 j9).trans (f253 78 j9 rfl : w250 78 j9 = w 78 j9))) (fun j9 hj9 => ((kup_nek u277 hj9 : w276 74 j9 = w250 74 j9).trans (f253 74 j9 rfl : w250 74 j9 = w 74 j9))) (fun j9 => ((kup_ne u277 rfl : w276 77 j9 = w250 77 j9).trans (f253 77 j9 rfl : w250 77 j9 = w 77 j9))) (by omega)
    · skip
      refine kv_aload_n C 23 rfl 0 (kdec dk_cX10_save 12 rfl) rfl rfl ?_
      refine kv_get C 26 rfl 61 12 rfl rfl inX10 (by decide) mfl_TaleMachineModel_112 rfl rfl (kdec dk_cX10_save 13 rfl) e264 ?_
      refine kv_iconst C 27 rfl 3 (kdec dk_cX10_save 14 rfl) rfl ?_
      refine kv_icmp_eq C 30 rfl 33 (kdec dk_cX10_save 15 rfl) (by decide) (fun d281 => ?_) (fun d281 => ?_)
      · skip
        obtain ⟨x283, e284⟩ : ∃ z : Int32, w 61 3 = z := ⟨_, rfl⟩
        have b285 : (0 : Int) ≤ x283.toInt ∧ x283.toInt ≤ 1 := by rw [← e284]; exact hI 61 3
        have e286 : w250 61 3 = x283 := ((f253 61 3 rfl : w250 61 3 = w 61 3).trans e284)
        have M282 : kMoT w250 := M258.resolve_left (by rw [e286, e264]; omega)
        obtain ⟨x287, e288⟩ : ∃ z : Int32, w 61 20 = z := ⟨_, rfl⟩
        have b289 : (0 : Int) ≤ x287.toInt ∧ x287.toInt ≤ 20 := by rw [← e288]; exact hI 61 20
        have e290 : w250 61 20 = x287 := ((f253 61 20 rfl : w250 61 20 = w 61 20).trans e288)
        have r291 := kMoT_fr M282
        rw [e290] at r291
        refine kv_aload_n C 34 rfl 0 (kdec dk_cX10_save 18 rfl) rfl rfl ?_
        refine kv_getr C 37 rfl 61 33 rfl rfl inX10 (by decide) mfl_TaleMachineModel_46 rfl rfl (kdec dk_cX10_save 19 rfl) ?_
        refine kv_iload_n C 38 rfl 1 (kdec dk_cX10_save 20 rfl) rfl rfl ?_
        refine kv_iconst C 39 rfl 1 (kdec dk_cX10_save 21 rfl) rfl ?_
        refine kv_zast C 40 rfl 74 rfl (by omega) (by omega) (kdec dk_cX10_save 22 rfl) (fun w292 u293 => ?_)
        have u293 : w292 = kup w250 74 3 (vp_nar .boolean 1) := u293
        rw [kf_nar (by decide)] at u293
        have I294 : kI false w292 := kI_put u293 I252 (show (0 : Int) ≤ (1 : Int32).toInt by omega) (show (1 : Int32).toInt ≤ 1 by omega)
        have F295 : kF [(74, none), (75, none), (76, none), (77, none), (78, none), (79, none), (80, none)] w w292 := kF_put u293 F257 rfl
        have M296 : kMoT w292 := kMoT_put u293 M282 rfl rfl rfl
        refine kv_iconst C 41 rfl 0 (kdec dk_cX10_save 23 rfl) rfl ?_
        refine kv_istore_n C 42 rfl 2 [1, 2, 0] [(0, .ref (ρ 61)), (1, .int 3), (2, .int 0)] (kdec dk_cX10_save 24 rfl) rfl (by decide) rfl ?_
        exact cut42 ((((1025 - (0 : Int32).toInt)) : Int).toNat + 1) w292 0 I294 F295 (by omega) (by rw [e262]; try omega) M296 (fun j9 => ((kup_ne u293 rfl : w292 78 j9 = w250 78 j9).trans (f253 78 j9 rfl : w250 78 j9 = w 78 j9))) (fun j9 hj9 => ((kup_nek u293 hj9 : w292 74 j9 = w250 74 j9).trans (f253 74 j9 rfl : w250 74 j9 = w 74 j9))) (fun j9 => ((kup_ne u293 rfl : w292 77 j9 = w250 77 j9).trans (f253 77 j9 rfl : w250 77 j9 = w 77 j9))) (by omega)
      · skip
        refine kv_bipush C 32 rfl (-2) (kdec dk_cX10_save 16 rfl) rfl ?_
        exact kv_iret C hr hlk (kdec dk_cX10_save 17 rfl) ⟨_, rfl, I252, F257, (by rw [e262]; try omega), M258, (kSl_eq hS (fun j9 => (f253 74 j9 rfl : w250 74 j9 = w 74 j9)) (fun j9 => (f253 77 j9 rfl : w250 77 j9 = w 77 j9)) (fun j9 => (f253 78 j9 rfl : w250 78 j9 = w 78 j9)))⟩
  · skip
    refine kv_iconst C 13 rfl (-1) (kdec dk_cX10_save 6 rfl) rfl ?_
    obtain ⟨x297, e298⟩ : ∃ z : Int32, w 61 12 = z := ⟨_, rfl⟩
    have b299 : (0 : Int) ≤ x297.toInt ∧ x297.toInt ≤ 4 := by rw [← e298]; exact hI 61 12
    exact kv_iret C hr hlk (kdec dk_cX10_save 7 rfl) ⟨_, rfl, I252, F257, (by rw [e298]; try omega), M258, (kSl_eq hS (fun j9 => (f253 74 j9 rfl : w250 74 j9 = w 74 j9)) (fun j9 => (f253 77 j9 rfl : w250 77 j9 = w 77 j9)) (fun j9 => (f253 78 j9 rfl : w250 78 j9 = w 78 j9)))⟩

set_option maxHeartbeats 4000000 in
set_option maxRecDepth 100000 in
theorem k_x_saveo (l : Launch) (D : va_G) (τ : Nat → ClassId) (ρ σ : Nat → Nat) (w : kw) (a1 : Int32) (hI : kI false w) (hp0 : a1.toInt < 0 ∨ 3 < a1.toInt) (hMp : ((w 61 3).toInt = 0 ∧ (w 61 12).toInt = 0 ∨ kMoT w)) (hS : kSl w) :
    kM l D τ ρ σ yX10_save cX10_save 5 (some .int) { frames := 1, cells := 0, slots := 0, locals := 36 } [.ref (ρ 61), .int a1] w
      (fun o w' => ∃ r : Int32, o = some (.int r) ∧ kI false w' ∧ kF [(74, none), (75, none), (76, none), (77, none), (78, none), (79, none), (80, none)] w w' ∧ ((w 61 12).toInt = 1 ∨ (w 61 12).toInt = 3 ∨ (a1.toInt < 0 ∨ 3 < a1.toInt) ∧ r.toInt = -1 ∨ 0 ≤ a1.toInt ∧ a1.toInt ≤ 3 ∧ r.toInt = -2) ∧ ((w' 61 3).toInt = 0 ∧ (w' 61 12).toInt = 0 ∨ kMoT w') ∧ (kSl w')) := by
  refine kM_of (own := "TaleMachineModel") rfl (by decide) (Nat.le_of_ble_eq_true rfl) ?_
  intro p e s m args below meth c C hr hlk
  have hF0 : kF [(74, none), (75, none), (76, none), (77, none), (78, none), (79, none), (80, none)] w w := kF.rf
  have c_m1 : (-1 : Int32).toInt = -1 := by decide
  refine kV.L (L' := [(0, .ref (ρ 61)), (1, .int a1)]) rfl ?_
  have g1 := kf_rng a1
  refine kv_iload_n C 1 rfl 1 (kdec dk_cX10_save 0 rfl) rfl rfl ?_
  refine kv_i2l C 2 rfl (kdec dk_cX10_save 1 rfl) ?_
  have h2 := kf_i2l a1
  refine kv_lconst C 3 rfl 0 (kdec dk_cX10_save 2 rfl) rfl ?_
  have h3 : (0 : Int64).toInt = 0 := by decide
  refine kv_ldc2 C 6 rfl 3 (kdec dk_cX10_save 3 rfl) mcl_TaleMachineModel_259 ?_
  have h4 : (3 : Int64).toInt = 3 := by decide
  refine kv_callSi (As := [.long (a1 : Int32).toInt64, .long (0 : Int64), .long (3 : Int64)]) (rest := []) C 9 rfl (k_x_in l D τ ρ σ w (a1 : Int32).toInt64 (0 : Int64) (3 : Int64) hI ) mml_TaleMachineModel_94 mst_yX10_in mcd_yX10_in min_yX10_in hd_yX10_in rfl rfl rfl (by decide) rfl (Nat.le_of_ble_eq_true rfl) (kdec dk_cX10_save 4 rfl) (fun x9 w5 h6 => ?_)
  obtain ⟨I7, f8, p10, p11⟩ := h6
  have F12 : kF [(74, none), (75, none), (76, none), (77, none), (78, none), (79, none), (80, none)] w w5 := kF_call hF0 f8 (by decide)
  have M13 : ((w5 61 3).toInt = 0 ∧ (w5 61 12).toInt = 0 ∨ kMoT w5) := kMoP_kF f8 hMp rfl rfl rfl rfl (fun _ => rfl)
  have g14 := kf_rng x9
  refine kv_if_ne C 12 rfl 14 (kdec dk_cX10_save 5 rfl) (by decide) (fun d15 => ?_) (fun d15 => ?_)
  · exfalso; omega
  · skip
    refine kv_iconst C 13 rfl (-1) (kdec dk_cX10_save 6 rfl) rfl ?_
    obtain ⟨x16, e17⟩ : ∃ z : Int32, w 61 12 = z := ⟨_, rfl⟩
    have b18 : (0 : Int) ≤ x16.toInt ∧ x16.toInt ≤ 4 := by rw [← e17]; exact hI 61 12
    exact kv_iret C hr hlk (kdec dk_cX10_save 7 rfl) ⟨_, rfl, I7, F12, (by rw [e17]; try omega), M13, (kSl_eq hS (fun j9 => (f8 74 j9 rfl : w5 74 j9 = w 74 j9)) (fun j9 => (f8 77 j9 rfl : w5 77 j9 = w 77 j9)) (fun j9 => (f8 78 j9 rfl : w5 78 j9 = w 78 j9)))⟩

set_option maxHeartbeats 4000000 in
set_option maxRecDepth 100000 in
theorem k_x_restore0 (l : Launch) (D : va_G) (τ : Nat → ClassId) (ρ σ : Nat → Nat) (w : kw)  (hI : kI false w) (hMp : ((w 61 3).toInt = 0 ∧ (w 61 12).toInt = 0 ∨ kMoT w)) (hS : kSl w) :
    kM l D τ ρ σ yX10_restore cX10_restore 5 (some .int) { frames := 1, cells := 0, slots := 0, locals := 36 } [.ref (ρ 61), .int 0] w
      (fun o w' => ∃ r : Int32, o = some (.int r) ∧ kI false w' ∧ kF [(61, some 12), (61, some 13), (61, some 14), (61, some 19), (61, some 20), (61, some 26), (61, some 27), (64, none), (66, none), (67, none), (68, none), (69, none), (70, none), (71, none)] w w' ∧ (¬ (w 61 3).toInt = 0 ∨ ((0 : Int32).toInt < 0 ∨ 3 < (0 : Int32).toInt) ∧ r.toInt = -1 ∨ 0 ≤ (0 : Int32).toInt ∧ (0 : Int32).toInt ≤ 3 ∧ r.toInt = -2) ∧ ((w' 61 3).toInt = 0 ∧ (w' 61 12).toInt = 0 ∨ kMoT w')) := by
  refine kM_of (own := "TaleMachineModel") rfl (by decide) (Nat.le_of_ble_eq_true rfl) ?_
  intro p e s m args below meth c C hr hlk
  have hF0 : kF [(61, some 12), (61, some 13), (61, some 14), (61, some 19), (61, some 20), (61, some 26), (61, some 27), (64, none), (66, none), (67, none), (68, none), (69, none), (70, none), (71, none)] w w := kF.rf
  have c_m2 : (-2 : Int32).toInt = -2 := by decide
  have c_m1 : (-1 : Int32).toInt = -1 := by decide
  have c_0 : (0 : Int32).toInt = 0 := by decide
  have c_1 : (1 : Int32).toInt = 1 := by decide
  have c_2 : (2 : Int32).toInt = 2 := by decide
  have c_3 : (3 : Int32).toInt = 3 := by decide
  have c_4 : (4 : Int32).toInt = 4 := by decide
  have c_5 : (5 : Int32).toInt = 5 := by decide
  have c_7 : (7 : Int32).toInt = 7 := by decide
  have c_16 : (16 : Int32).toInt = 16 := by decide
  have c_24 : (24 : Int32).toInt = 24 := by decide
  have c_120 : (120 : Int32).toInt = 120 := by decide
  have c_1024 : (1024 : Int32).toInt = 1024 := by decide
  have c_1920 : (1920 : Int32).toInt = 1920 := by decide
  refine kV.L (L' := [(0, .ref (ρ 61)), (1, .int 0)]) rfl ?_
  have cut195 : ∀ (n_195 : Nat) (w_195 : kw) (l2_195 : Int32), kI false w_195 → kF [(61, some 12), (61, some 13), (61, some 14), (61, some 19), (61, some 20), (61, some 26), (61, some 27), (64, none), (66, none), (67, none), (68, none), (69, none), (70, none), (71, none)] w w_195 → (0 ≤ l2_195.toInt ∧ l2_195.toInt ≤ 20) → (1 ≤ (w 78 1).toInt ∧ (w 78 1).toInt ≤ 20 ∧ (w 78 0).toInt ≤ 120 ∧ (w 78 3).toInt ≤ 4) → ((w_195 61 20).toInt = (w 78 1).toInt ∧ (w_195 61 19).toInt = (w 78 0).toInt) → (¬ (w 61 3).toInt = 0) → (kSlot w 0) → (∀ f9 : Nat, (f9 : Int) < l2_195.toInt → w_195 67 f9 = w 77 (0 + 24 * f9)) → ((21 - l2_195.toInt) : Int) < (n_195 : Int) → kV p l e { frames := 1, cells := 0, slots := 0, locals := 36 } s m args below meth c (kQ below args s D τ ρ (fun o w' => ∃ r : Int32, o = some (.int r) ∧ kI false w' ∧ kF [(61, some 12), (61, some 13), (61, some 14), (61, some 19), (61, some 20), (61, some 26), (61, some 27), (64, none), (66, none), (67, none), (68, none), (69, none), (70, none), (71, none)] w w' ∧ (¬ (w 61 3).toInt = 0 ∨ ((0 : Int32).toInt < 0 ∨ 3 < (0 : Int32).toInt) ∧ r.toInt = -1 ∨ 0 ≤ (0 : Int32).toInt ∧ (0 : Int32).toInt ≤ 3 ∧ r.toInt = -2) ∧ ((w' 61 3).toInt = 0 ∧ (w' 61 12).toInt = 0 ∨ kMoT w'))) 5 D τ ρ 195 [(0, .ref (ρ 61)), (1, .int 0), (2, .int l2_195)] [] w_195 := by
    intro n_195
    induction n_195 with
    | zero => intro w_195 l2_195 I_195 F_195 k195_0 k195_1 k195_2 k195_3 R195_S R195_C hmz; exfalso; omega
    | succ n_195 ih195 =>
      intro w_195 l2_195 I_195 F_195 k195_0 k195_1 k195_2 k195_3 R195_S R195_C hm195
      have gl2_195 := kf_rng l2_195
      obtain ⟨x1, e2⟩ : ∃ z : Int32, w 78 1 = z := ⟨_, rfl⟩
      have b3 : (0 : Int) ≤ x1.toInt ∧ x1.toInt ≤ 65535 := by rw [← e2]; exact hI 78 1
      obtain ⟨x4, e5⟩ : ∃ z : Int32, w 78 0 = z := ⟨_, rfl⟩
      have b6 : (0 : Int) ≤ x4.toInt ∧ x4.toInt ≤ 65535 := by rw [← e5]; exact hI 78 0
      obtain ⟨x7, e8⟩ : ∃ z : Int32, w 78 3 = z := ⟨_, rfl⟩
      have b9 : (0 : Int) ≤ x7.toInt ∧ x7.toInt ≤ 65535 := by rw [← e8]; exact hI 78 3
      rw [e2, e5, e8] at k195_1
      obtain ⟨x10, e11⟩ : ∃ z : Int32, w_195 61 20 = z := ⟨_, rfl⟩
      have b12 : (0 : Int) ≤ x10.toInt ∧ x10.toInt ≤ 20 := by rw [← e11]; exact I_195 61 20
      obtain ⟨x13, e14⟩ : ∃ z : Int32, w_195 61 19 = z := ⟨_, rfl⟩
      have b15 : (0 : Int) ≤ x13.toInt ∧ x13.toInt ≤ 120 := by rw [← e14]; exact I_195 61 19
      rw [e2, e5, e11, e14] at k195_2
      obtain ⟨x16, e17⟩ : ∃ z : Int32, w 61 3 = z := ⟨_, rfl⟩
      have b18 : (0 : Int) ≤ x16.toInt ∧ x16.toInt ≤ 1 := by rw [← e17]; exact hI 61 3
      rw [e17] at k195_3
      have cut271 : ∀ (n_271 : Nat) (w_271 : kw) (l2_271 l3_271 l4_271 : Int32), kI false w_271 → kF [(61, some 12), (61, some 13), (61, some 14), (61, some 19), (61, some 20), (61, some 26), (61, some 27), (64, none), (66, none), (67, none), (68, none), (69, none), (70, none), (71, none)] w w_271 → (0 ≤ l2_271.toInt ∧ l2_271.toInt < (w_271 61 20).toInt ∧ l2_271.toInt = l2_195.toInt ∧ l3_271.toInt = 0 + 24 * l2_271.toInt) → (1 ≤ l4_271.toInt ∧ l4_271.toInt ≤ 16) → (1 ≤ (w 78 1).toInt ∧ (w 78 1).toInt ≤ 20 ∧ (w 78 0).toInt ≤ 120 ∧ (w 78 3).toInt ≤ 4) → ((w_271 61 20).toInt = (w 78 1).toInt ∧ (w_271 61 19).toInt = (w 78 0).toInt) → (¬ (w 61 3).toInt = 0) → (kSlot w 0) → (∀ f9 : Nat, (f9 : Int) ≤ l2_271.toInt → w_271 67 f9 = w 77 (0 + 24 * f9)) → ((17 - l4_271.toInt) : Int) < (n_271 : Int) → kV p l e { frames := 1, cells := 0, slots := 0, locals := 36 } s m args below meth c (kQ below args s D τ ρ (fun o w' => ∃ r : Int32, o = some (.int r) ∧ kI false w' ∧ kF [(61, some 12), (61, some 13), (61, some 14), (61, some 19), (61, some 20), (61, some 26), (61, some 27), (64, none), (66, none), (67, none), (68, none), (69, none), (70, none), (71, none)] w w' ∧ (¬ (w 61 3).toInt = 0 ∨ ((0 : Int32).toInt < 0 ∨ 3 < (0 : Int32).toInt) ∧ r.toInt = -1 ∨ 0 ≤ (0 : Int32).toInt ∧ (0 : Int32).toInt ≤ 3 ∧ r.toInt = -2) ∧ ((w' 61 3).toInt = 0 ∧ (w' 61 12).toInt = 0 ∨ kMoT w'))) 5 D τ ρ 271 [(0, .ref (ρ 61)), (1, .int 0), (2, .int l2_271), (3, .int l3_271), (4, .int l4_271)] [] w_271 := by
        intro n_271
        induction n_271 with
        | zero => intro w_271 l2_271 l3_271 l4_271 I_271 F_271 k271_0 k271_1 k271_2 k271_3 k271_4 R271_S R271_C hmz; exfalso; omega
        | succ n_271 ih271 =>
          intro w_271 l2_271 l3_271 l4_271 I_271 F_271 k271_0 k271_1 k271_2 k271_3 k271_4 R271_S R271_C hm271
          have gl2_271 := kf_rng l2_271
          have gl3_271 := kf_rng l3_271
          have gl4_271 := kf_rng l4_271
          obtain ⟨x19, e20⟩ : ∃ z : Int32, w_271 61 20 = z := ⟨_, rfl⟩
          have b21 : (0 : Int) ≤ x19.toInt ∧ x19.toInt ≤ 20 := by rw [← e20]; exact I_271 61 20
          rw [e20] at k271_0
          rw [e2, e5, e8] at k271_2
          obtain ⟨x22, e23⟩ : ∃ z : Int32, w_271 61 19 = z := ⟨_, rfl⟩
          have b24 : (0 : Int) ≤ x22.toInt ∧ x22.toInt ≤ 120 := by rw [← e23]; exact I_271 61 19
          rw [e2, e5, e20, e23] at k271_3
          rw [e17] at k271_4
          refine kv_iload C 273 rfl 4 (kdec dk_cX10_restore 173 rfl) rfl ?_
          refine kv_aload_n C 274 rfl 0 (kdec dk_cX10_restore 174 rfl) rfl rfl ?_
          refine kv_getr C 277 rfl 61 24 rfl rfl inX10 (by decide) mfl_TaleMachineModel_34 rfl rfl (kdec dk_cX10_restore 175 rfl) ?_
          refine kv_iload_n C 278 rfl 2 (kdec dk_cX10_restore 176 rfl) rfl rfl ?_
          obtain ⟨x25, e26⟩ : ∃ z : Int32, w_271 70 (l2_271 : Int32).toNatClampNeg = z := ⟨_, rfl⟩
          have b27 : (0 : Int) ≤ x25.toInt ∧ x25.toInt ≤ 15 := by rw [← e26]; exact I_271 70 _
          refine kv_iald C 279 rfl 70 rfl (by omega) (by omega) e26 (kdec dk_cX10_restore 177 rfl) ?_
          refine kv_icmp_gt C 282 rfl 311 (kdec dk_cX10_restore 178 rfl) (by decide) (fun d28 => ?_) (fun d28 => ?_)
          · skip
            refine kv_iinc C 314 rfl 2 2 [1, 2, 0, 3, 4] (fun v9 => [(0, .ref (ρ 61)), (1, .int 0), (2, .int v9), (3, .int l3_271), (4, .int l4_271)]) (kdec dk_cX10_restore 197 rfl) rfl (by decide) (fun _ => rfl) 1 rfl (fun x29 q30 h31e h31 h31l h31u => ?_)
            try have h31n : x29.toInt = l2_271.toInt + 1 := by omega
            clear h31 q30
            refine kv_goto C 195 (kdec dk_cX10_restore 198 rfl) (by decide) ?_
            refine kV.sub [0, 1, 2] (L' := [(0, .ref (ρ 61)), (1, .int 0), (2, .int x29)]) rfl ?_
            exact ih195 w_271 x29 I_271 F_271 (by omega) (by rw [e2, e5, e8]; try omega) (by rw [e2, e5, e20, e23]; try omega) (by rw [e17]; try omega) R271_S (fun f9 hf9 => R271_C f9 (by omega)) (by omega)
          · skip
            refine kv_aload_n C 283 rfl 0 (kdec dk_cX10_restore 179 rfl) rfl rfl ?_
            refine kv_getr C 286 rfl 61 25 rfl rfl inX10 (by decide) mfl_TaleMachineModel_37 rfl rfl (kdec dk_cX10_restore 180 rfl) ?_
            refine kv_bipush C 288 rfl 16 (kdec dk_cX10_restore 181 rfl) rfl ?_
            refine kv_iload_n C 289 rfl 2 (kdec dk_cX10_restore 182 rfl) rfl rfl ?_
            refine kv_imul C 290 rfl (kdec dk_cX10_restore 183 rfl) (fun x32 h33e h33l h33u => ?_)
            obtain ⟨q34, g35⟩ := kf_mul 16 l2_271
            rw [← h33e, c_16] at g35
            try have h33n : x32.toInt = 16 * l2_271.toInt := by omega
            clear g35 q34
            refine kv_iload C 292 rfl 4 (kdec dk_cX10_restore 184 rfl) rfl ?_
            refine kv_iadd C 293 rfl (kdec dk_cX10_restore 185 rfl) (fun x36 q38 h37e h37 h37l h37u => ?_)
            try have h37n : x36.toInt = x32.toInt + l4_271.toInt := by omega
            clear h37 q38
            refine kv_aload_n C 294 rfl 0 (kdec dk_cX10_restore 186 rfl) rfl rfl ?_
            refine kv_getr C 297 rfl 61 36 rfl rfl inX10 (by decide) mfl_TaleMachineModel_56 rfl rfl (kdec dk_cX10_restore 187 rfl) ?_
            refine kv_iload_n C 298 rfl 3 (kdec dk_cX10_restore 188 rfl) rfl rfl ?_
            refine kv_iconst C 299 rfl 4 (kdec dk_cX10_restore 189 rfl) rfl ?_
            refine kv_iadd C 300 rfl (kdec dk_cX10_restore 190 rfl) (fun x39 q41 h40e h40 h40l h40u => ?_)
            try have h40n : x39.toInt = l3_271.toInt + (4 : Int32).toInt := by omega
            clear h40 q41
            refine kv_iload C 302 rfl 4 (kdec dk_cX10_restore 191 rfl) rfl ?_
            refine kv_iadd C 303 rfl (kdec dk_cX10_restore 192 rfl) (fun x42 q44 h43e h43 h43l h43u => ?_)
            try have h43n : x42.toInt = x39.toInt + l4_271.toInt := by omega
            clear h43 q44
            obtain ⟨x45, e46⟩ : ∃ z : Int32, w_271 77 (x42 : Int32).toNatClampNeg = z := ⟨_, rfl⟩
            have b47 : (0 : Int) ≤ x45.toInt ∧ x45.toInt ≤ 65535 := by rw [← e46]; exact I_271 77 _
            refine kv_iald C 304 rfl 77 rfl (by omega) (by omega) e46 (kdec dk_cX10_restore 193 rfl) ?_
            refine kv_iast C 305 rfl 71 rfl (by omega) (by omega) (kdec dk_cX10_restore 194 rfl) (fun w48 u49 => ?_)
            have I50 : kI false w48 := kI_put u49 I_271 (show (0 : Int) ≤ (x45 : Int32).toInt by omega) (show (x45 : Int32).toInt ≤ 65535 by omega)
            have F51 : kF [(61, some 12), (61, some 13), (61, some 14), (61, some 19), (61, some 20), (61, some 26), (61, some 27), (64, none), (66, none), (67, none), (68, none), (69, none), (70, none), (71, none)] w w48 := kF_put u49 F_271 rfl
            refine kv_iinc C 308 rfl 4 4 [1, 2, 3, 4, 0] (fun v9 => [(0, .ref (ρ 61)), (1, .int 0), (2, .int l2_271), (3, .int l3_271), (4, .int v9)]) (kdec dk_cX10_restore 195 rfl) rfl (by decide) (fun _ => rfl) 1 rfl (fun x52 q53 h54e h54 h54l h54u => ?_)
            try have h54n : x52.toInt = l4_271.toInt + 1 := by omega
            clear h54 q53
            refine kv_goto C 271 (kdec dk_cX10_restore 196 rfl) (by decide) ?_
            have e55 : w48 61 20 = x19 := ((kup_ne u49 rfl : w48 61 20 = w_271 61 20).trans e20)
            have e56 : w48 61 19 = x22 := ((kup_ne u49 rfl : w48 61 19 = w_271 61 19).trans e23)
            exact ih271 w48 l2_271 l3_271 x52 I50 F51 (by rw [e55]; try omega) (by omega) (by rw [e2, e5, e8]; try omega) (by rw [e2, e5, e55, e56]; try omega) (by rw [e17]; try omega) R271_S (fun f9 hf9 => ((kup_ne u49 rfl : w48 67 f9 = w_271 67 f9)).trans (R271_C f9 hf9)) (by omega)
      refine kv_iload_n C 196 rfl 2 (kdec dk_cX10_restore 121 rfl) rfl rfl ?_
      refine kv_aload_n C 197 rfl 0 (kdec dk_cX10_restore 122 rfl) rfl rfl ?_
      refine kv_get C 200 rfl 61 20 rfl rfl inX10 (by decide) mfl_TaleMachineModel_139 rfl rfl (kdec dk_cX10_restore 123 rfl) e11 ?_
      refine kv_icmp_ge C 203 rfl 317 (kdec dk_cX10_restore 124 rfl) (by decide) (fun d57 => ?_) (fun d57 => ?_)
      · skip
        have M58 : kMoT w_195 := kMoT_rest (k := 0) R195_S (fun f9 hf9 => R195_C f9 (by rw [show w 78 (7 * 0 + 1) = _ from e2] at hf9; omega)) (Int32.toInt_inj.mp (by rw [e11, show w 78 (7 * 0 + 1) = _ from e2]; omega)) (Int32.toInt_inj.mp (by rw [e14, show w 78 (7 * 0) = _ from e5]; omega))
        refine kv_iconst C 318 rfl 1 (kdec dk_cX10_restore 199 rfl) rfl ?_
        exact kv_iret C hr hlk (kdec dk_cX10_restore 200 rfl) ⟨_, rfl, I_195, F_195, (by rw [e17]; try omega), (Or.inr M58)⟩
      · skip
        refine kv_sipush C 206 rfl 1920 (kdec dk_cX10_restore 125 rfl) rfl ?_
        refine kv_iload_n C 207 rfl 1 (kdec dk_cX10_restore 126 rfl) rfl rfl ?_
        refine kv_imul C 208 rfl (kdec dk_cX10_restore 127 rfl) (fun x59 h60e h60l h60u => ?_)
        obtain rfl : x59 = 0 := by rw [h60e]; decide
        refine kv_bipush C 210 rfl 24 (kdec dk_cX10_restore 128 rfl) rfl ?_
        refine kv_iload_n C 211 rfl 2 (kdec dk_cX10_restore 129 rfl) rfl rfl ?_
        refine kv_imul C 212 rfl (kdec dk_cX10_restore 130 rfl) (fun x61 h62e h62l h62u => ?_)
        obtain ⟨q63, g64⟩ := kf_mul 24 l2_195
        rw [← h62e, c_24] at g64
        try have h62n : x61.toInt = 24 * l2_195.toInt := by omega
        clear g64 q63
        refine kv_iadd C 213 rfl (kdec dk_cX10_restore 131 rfl) (fun x65 q67 h66e h66 h66l h66u => ?_)
        try have h66n : x65.toInt = (0 : Int32).toInt + x61.toInt := by omega
        clear h66 q67
        refine kv_istore_n C 214 rfl 3 [1, 2, 3, 0] [(0, .ref (ρ 61)), (1, .int 0), (2, .int l2_195), (3, .int x65)] (kdec dk_cX10_restore 132 rfl) rfl (by decide) rfl ?_
        refine kv_aload_n C 215 rfl 0 (kdec dk_cX10_restore 133 rfl) rfl rfl ?_
        refine kv_getr C 218 rfl 61 21 rfl rfl inX10 (by decide) mfl_TaleMachineModel_25 rfl rfl (kdec dk_cX10_restore 134 rfl) ?_
        refine kv_iload_n C 219 rfl 2 (kdec dk_cX10_restore 135 rfl) rfl rfl ?_
        refine kv_aload_n C 220 rfl 0 (kdec dk_cX10_restore 136 rfl) rfl rfl ?_
        refine kv_getr C 223 rfl 61 36 rfl rfl inX10 (by decide) mfl_TaleMachineModel_56 rfl rfl (kdec dk_cX10_restore 137 rfl) ?_
        refine kv_iload_n C 224 rfl 3 (kdec dk_cX10_restore 138 rfl) rfl rfl ?_
        obtain ⟨x68, e69⟩ : ∃ z : Int32, w_195 77 (x65 : Int32).toNatClampNeg = z := ⟨_, rfl⟩
        have b70 : (0 : Int) ≤ x68.toInt ∧ x68.toInt ≤ 65535 := by rw [← e69]; exact I_195 77 _
        refine kv_iald C 225 rfl 77 rfl (by omega) (by omega) e69 (kdec dk_cX10_restore 139 rfl) ?_
        have t71 := kSlot_b R195_S (l := l2_195) 0 120 (by decide) (by omega) (show _ < (w 78 1).toInt by rw [e2]; omega) (by omega) ((F_195 77 _ rfl).symm.trans e69)
        refine kv_iast C 226 rfl 67 rfl (by omega) (by omega) (kdec dk_cX10_restore 140 rfl) (fun w72 u73 => ?_)
        have I74 : kI false w72 := kI_put u73 I_195 (show (0 : Int) ≤ (x68 : Int32).toInt by omega) (show (x68 : Int32).toInt ≤ 120 by omega)
        have F75 : kF [(61, some 12), (61, some 13), (61, some 14), (61, some 19), (61, some 20), (61, some 26), (61, some 27), (64, none), (66, none), (67, none), (68, none), (69, none), (70, none), (71, none)] w w72 := kF_put u73 F_195 rfl
        refine kv_aload_n C 227 rfl 0 (kdec dk_cX10_restore 141 rfl) rfl rfl ?_
        refine kv_getr C 230 rfl 61 22 rfl rfl inX10 (by decide) mfl_TaleMachineModel_28 rfl rfl (kdec dk_cX10_restore 142 rfl) ?_
        refine kv_iload_n C 231 rfl 2 (kdec dk_cX10_restore 143 rfl) rfl rfl ?_
        refine kv_aload_n C 232 rfl 0 (kdec dk_cX10_restore 144 rfl) rfl rfl ?_
        refine kv_getr C 235 rfl 61 36 rfl rfl inX10 (by decide) mfl_TaleMachineModel_56 rfl rfl (kdec dk_cX10_restore 145 rfl) ?_
        refine kv_iload_n C 236 rfl 3 (kdec dk_cX10_restore 146 rfl) rfl rfl ?_
        refine kv_iconst C 237 rfl 1 (kdec dk_cX10_restore 147 rfl) rfl ?_
        refine kv_iadd C 238 rfl (kdec dk_cX10_restore 148 rfl) (fun x76 q78 h77e h77 h77l h77u => ?_)
        try have h77n : x76.toInt = x65.toInt + (1 : Int32).toInt := by omega
        clear h77 q78
        obtain ⟨x79, e80⟩ : ∃ z : Int32, w72 77 (x76 : Int32).toNatClampNeg = z := ⟨_, rfl⟩
        have b81 : (0 : Int) ≤ x79.toInt ∧ x79.toInt ≤ 65535 := by rw [← e80]; exact I74 77 _
        refine kv_iald C 239 rfl 77 rfl (by omega) (by omega) e80 (kdec dk_cX10_restore 149 rfl) ?_
        refine kv_iast C 240 rfl 68 rfl (by omega) (by omega) (kdec dk_cX10_restore 150 rfl) (fun w82 u83 => ?_)
        have I84 : kI false w82 := kI_put u83 I74 (show (0 : Int) ≤ (x79 : Int32).toInt by omega) (show (x79 : Int32).toInt ≤ 65535 by omega)
        have F85 : kF [(61, some 12), (61, some 13), (61, some 14), (61, some 19), (61, some 20), (61, some 26), (61, some 27), (64, none), (66, none), (67, none), (68, none), (69, none), (70, none), (71, none)] w w82 := kF_put u83 F75 rfl
        refine kv_aload_n C 241 rfl 0 (kdec dk_cX10_restore 151 rfl) rfl rfl ?_
        refine kv_getr C 244 rfl 61 23 rfl rfl inX10 (by decide) mfl_TaleMachineModel_31 rfl rfl (kdec dk_cX10_restore 152 rfl) ?_
        refine kv_iload_n C 245 rfl 2 (kdec dk_cX10_restore 153 rfl) rfl rfl ?_
        refine kv_aload_n C 246 rfl 0 (kdec dk_cX10_restore 154 rfl) rfl rfl ?_
        refine kv_getr C 249 rfl 61 36 rfl rfl inX10 (by decide) mfl_TaleMachineModel_56 rfl rfl (kdec dk_cX10_restore 155 rfl) ?_
        refine kv_iload_n C 250 rfl 3 (kdec dk_cX10_restore 156 rfl) rfl rfl ?_
        refine kv_iconst C 251 rfl 2 (kdec dk_cX10_restore 157 rfl) rfl ?_
        refine kv_iadd C 252 rfl (kdec dk_cX10_restore 158 rfl) (fun x86 q88 h87e h87 h87l h87u => ?_)
        try have h87n : x86.toInt = x65.toInt + (2 : Int32).toInt := by omega
        clear h87 q88
        obtain ⟨x89, e90⟩ : ∃ z : Int32, w82 77 (x86 : Int32).toNatClampNeg = z := ⟨_, rfl⟩
        have b91 : (0 : Int) ≤ x89.toInt ∧ x89.toInt ≤ 65535 := by rw [← e90]; exact I84 77 _
        refine kv_iald C 253 rfl 77 rfl (by omega) (by omega) e90 (kdec dk_cX10_restore 159 rfl) ?_
        have t92 := kSlot_b R195_S (l := l2_195) 2 255 (by decide) (by omega) (show _ < (w 78 1).toInt by rw [e2]; omega) (by omega) ((F85 77 _ rfl).symm.trans e90)
        refine kv_iast C 254 rfl 69 rfl (by omega) (by omega) (kdec dk_cX10_restore 160 rfl) (fun w93 u94 => ?_)
        have I95 : kI false w93 := kI_put u94 I84 (show (0 : Int) ≤ (x89 : Int32).toInt by omega) (show (x89 : Int32).toInt ≤ 255 by omega)
        have F96 : kF [(61, some 12), (61, some 13), (61, some 14), (61, some 19), (61, some 20), (61, some 26), (61, some 27), (64, none), (66, none), (67, none), (68, none), (69, none), (70, none), (71, none)] w w93 := kF_put u94 F85 rfl
        refine kv_aload_n C 255 rfl 0 (kdec dk_cX10_restore 161 rfl) rfl rfl ?_
        refine kv_getr C 258 rfl 61 24 rfl rfl inX10 (by decide) mfl_TaleMachineModel_34 rfl rfl (kdec dk_cX10_restore 162 rfl) ?_
        refine kv_iload_n C 259 rfl 2 (kdec dk_cX10_restore 163 rfl) rfl rfl ?_
        refine kv_aload_n C 260 rfl 0 (kdec dk_cX10_restore 164 rfl) rfl rfl ?_
        refine kv_getr C 263 rfl 61 36 rfl rfl inX10 (by decide) mfl_TaleMachineModel_56 rfl rfl (kdec dk_cX10_restore 165 rfl) ?_
        refine kv_iload_n C 264 rfl 3 (kdec dk_cX10_restore 166 rfl) rfl rfl ?_
        refine kv_iconst C 265 rfl 3 (kdec dk_cX10_restore 167 rfl) rfl ?_
        refine kv_iadd C 266 rfl (kdec dk_cX10_restore 168 rfl) (fun x97 q99 h98e h98 h98l h98u => ?_)
        try have h98n : x97.toInt = x65.toInt + (3 : Int32).toInt := by omega
        clear h98 q99
        obtain ⟨x100, e101⟩ : ∃ z : Int32, w93 77 (x97 : Int32).toNatClampNeg = z := ⟨_, rfl⟩
        have b102 : (0 : Int) ≤ x100.toInt ∧ x100.toInt ≤ 65535 := by rw [← e101]; exact I95 77 _
        refine kv_iald C 267 rfl 77 rfl (by omega) (by omega) e101 (kdec dk_cX10_restore 169 rfl) ?_
        have t103 := kSlot_b R195_S (l := l2_195) 3 15 (by decide) (by omega) (show _ < (w 78 1).toInt by rw [e2]; omega) (by omega) ((F96 77 _ rfl).symm.trans e101)
        refine kv_iast C 268 rfl 70 rfl (by omega) (by omega) (kdec dk_cX10_restore 170 rfl) (fun w104 u105 => ?_)
        have I106 : kI false w104 := kI_put u105 I95 (show (0 : Int) ≤ (x100 : Int32).toInt by omega) (show (x100 : Int32).toInt ≤ 15 by omega)
        have F107 : kF [(61, some 12), (61, some 13), (61, some 14), (61, some 19), (61, some 20), (61, some 26), (61, some 27), (64, none), (66, none), (67, none), (68, none), (69, none), (70, none), (71, none)] w w104 := kF_put u105 F96 rfl
        refine kv_iconst C 269 rfl 1 (kdec dk_cX10_restore 171 rfl) rfl ?_
        refine kv_istore C 271 rfl 4 [1, 2, 3, 4, 0] [(0, .ref (ρ 61)), (1, .int 0), (2, .int l2_195), (3, .int x65), (4, .int 1)] (kdec dk_cX10_restore 172 rfl) (by decide) rfl ?_
        have e108 : w104 61 20 = x10 := ((kup_ne u105 rfl : w104 61 20 = w93 61 20).trans ((kup_ne u94 rfl : w93 61 20 = w82 61 20).trans ((kup_ne u83 rfl : w82 61 20 = w72 61 20).trans ((kup_ne u73 rfl : w72 61 20 = w_195 61 20).trans e11))))
        have e109 : w104 61 19 = x13 := ((kup_ne u105 rfl : w104 61 19 = w93 61 19).trans ((kup_ne u94 rfl : w93 61 19 = w82 61 19).trans ((kup_ne u83 rfl : w82 61 19 = w72 61 19).trans ((kup_ne u73 rfl : w72 61 19 = w_195 61 19).trans e14))))
        exact cut271 ((((17 - (1 : Int32).toInt)) : Int).toNat + 1) w104 l2_195 x65 1 I106 F107 (by rw [e108]; try omega) (by omega) (by rw [e2, e5, e8]; try omega) (by rw [e2, e5, e108, e109]; try omega) (by rw [e17]; try omega) R195_S (fun f9 hf9 => (((kup_ne u105 rfl : w104 67 f9 = w93 67 f9).trans ((kup_ne u94 rfl : w93 67 f9 = w82 67 f9).trans (kup_ne u83 rfl : w82 67 f9 = w72 67 f9)))).trans (kC_add R195_C u73 (by omega) (by omega) ((F_195 77 _ rfl).symm.trans e69) f9 hf9)) (by omega)
  have cut162 : ∀ (n_162 : Nat) (w_162 : kw) (l2_162 : Int32), kI false w_162 → kF [(61, some 12), (61, some 13), (61, some 14), (61, some 19), (61, some 20), (61, some 26), (61, some 27), (64, none), (66, none), (67, none), (68, none), (69, none), (70, none), (71, none)] w w_162 → (0 ≤ l2_162.toInt ∧ l2_162.toInt ≤ 120) → (1 ≤ (w 78 1).toInt ∧ (w 78 1).toInt ≤ 20 ∧ (w 78 0).toInt ≤ 120 ∧ (w 78 3).toInt ≤ 4) → ((w_162 61 20).toInt = (w 78 1).toInt ∧ (w_162 61 19).toInt = (w 78 0).toInt) → (¬ (w 61 3).toInt = 0) → (kSlot w 0) → ((121 - l2_162.toInt) : Int) < (n_162 : Int) → kV p l e { frames := 1, cells := 0, slots := 0, locals := 36 } s m args below meth c (kQ below args s D τ ρ (fun o w' => ∃ r : Int32, o = some (.int r) ∧ kI false w' ∧ kF [(61, some 12), (61, some 13), (61, some 14), (61, some 19), (61, some 20), (61, some 26), (61, some 27), (64, none), (66, none), (67, none), (68, none), (69, none), (70, none), (71, none)] w w' ∧ (¬ (w 61 3).toInt = 0 ∨ ((0 : Int32).toInt < 0 ∨ 3 < (0 : Int32).toInt) ∧ r.toInt = -1 ∨ 0 ≤ (0 : Int32).toInt ∧ (0 : Int32).toInt ≤ 3 ∧ r.toInt = -2) ∧ ((w' 61 3).toInt = 0 ∧ (w' 61 12).toInt = 0 ∨ kMoT w'))) 5 D τ ρ 162 [(0, .ref (ρ 61)), (1, .int 0), (2, .int l2_162)] [] w_162 := by
    intro n_162
    induction n_162 with
    | zero => intro w_162 l2_162 I_162 F_162 k162_0 k162_1 k162_2 k162_3 R162_S hmz; exfalso; omega
    | succ n_162 ih162 =>
      intro w_162 l2_162 I_162 F_162 k162_0 k162_1 k162_2 k162_3 R162_S hm162
      have gl2_162 := kf_rng l2_162
      obtain ⟨x110, e111⟩ : ∃ z : Int32, w 78 1 = z := ⟨_, rfl⟩
      have b112 : (0 : Int) ≤ x110.toInt ∧ x110.toInt ≤ 65535 := by rw [← e111]; exact hI 78 1
      obtain ⟨x113, e114⟩ : ∃ z : Int32, w 78 0 = z := ⟨_, rfl⟩
      have b115 : (0 : Int) ≤ x113.toInt ∧ x113.toInt ≤ 65535 := by rw [← e114]; exact hI 78 0
      obtain ⟨x116, e117⟩ : ∃ z : Int32, w 78 3 = z := ⟨_, rfl⟩
      have b118 : (0 : Int) ≤ x116.toInt ∧ x116.toInt ≤ 65535 := by rw [← e117]; exact hI 78 3
      rw [e111, e114, e117] at k162_1
      obtain ⟨x119, e120⟩ : ∃ z : Int32, w_162 61 20 = z := ⟨_, rfl⟩
      have b121 : (0 : Int) ≤ x119.toInt ∧ x119.toInt ≤ 20 := by rw [← e120]; exact I_162 61 20
      obtain ⟨x122, e123⟩ : ∃ z : Int32, w_162 61 19 = z := ⟨_, rfl⟩
      have b124 : (0 : Int) ≤ x122.toInt ∧ x122.toInt ≤ 120 := by rw [← e123]; exact I_162 61 19
      rw [e111, e114, e120, e123] at k162_2
      obtain ⟨x125, e126⟩ : ∃ z : Int32, w 61 3 = z := ⟨_, rfl⟩
      have b127 : (0 : Int) ≤ x125.toInt ∧ x125.toInt ≤ 1 := by rw [← e126]; exact hI 61 3
      rw [e126] at k162_3
      refine kv_iload_n C 163 rfl 2 (kdec dk_cX10_restore 101 rfl) rfl rfl ?_
      refine kv_aload_n C 164 rfl 0 (kdec dk_cX10_restore 102 rfl) rfl rfl ?_
      refine kv_get C 167 rfl 61 19 rfl rfl inX10 (by decide) mfl_TaleMachineModel_136 rfl rfl (kdec dk_cX10_restore 103 rfl) e123 ?_
      refine kv_icmp_ge C 170 rfl 193 (kdec dk_cX10_restore 104 rfl) (by decide) (fun d128 => ?_) (fun d128 => ?_)
      · skip
        refine kv_iconst C 194 rfl 0 (kdec dk_cX10_restore 119 rfl) rfl ?_
        refine kv_istore_n C 195 rfl 2 [1, 2, 0] [(0, .ref (ρ 61)), (1, .int 0), (2, .int 0)] (kdec dk_cX10_restore 120 rfl) rfl (by decide) rfl ?_
        exact cut195 ((((21 - (0 : Int32).toInt)) : Int).toNat + 1) w_162 0 I_162 F_162 (by omega) (by rw [e111, e114, e117]; try omega) (by rw [e111, e114, e120, e123]; try omega) (by rw [e126]; try omega) R162_S (fun f9 hf9 => by exfalso; omega) (by omega)
      · skip
        refine kv_aload_n C 171 rfl 0 (kdec dk_cX10_restore 105 rfl) rfl rfl ?_
        refine kv_getr C 174 rfl 61 18 rfl rfl inX10 (by decide) mfl_TaleMachineModel_22 rfl rfl (kdec dk_cX10_restore 106 rfl) ?_
        refine kv_iload_n C 175 rfl 2 (kdec dk_cX10_restore 107 rfl) rfl rfl ?_
        refine kv_aload_n C 176 rfl 0 (kdec dk_cX10_restore 108 rfl) rfl rfl ?_
        refine kv_getr C 179 rfl 61 35 rfl rfl inX10 (by decide) mfl_TaleMachineModel_53 rfl rfl (kdec dk_cX10_restore 109 rfl) ?_
        refine kv_bipush C 181 rfl 120 (kdec dk_cX10_restore 110 rfl) rfl ?_
        refine kv_iload_n C 182 rfl 1 (kdec dk_cX10_restore 111 rfl) rfl rfl ?_
        refine kv_imul C 183 rfl (kdec dk_cX10_restore 112 rfl) (fun x129 h130e h130l h130u => ?_)
        obtain rfl : x129 = 0 := by rw [h130e]; decide
        refine kv_iload_n C 184 rfl 2 (kdec dk_cX10_restore 113 rfl) rfl rfl ?_
        refine kv_iadd C 185 rfl (kdec dk_cX10_restore 114 rfl) (fun x131 q133 h132e h132 h132l h132u => ?_)
        try have h132n : x131.toInt = (0 : Int32).toInt + l2_162.toInt := by omega
        clear h132 q133
        obtain ⟨x134, e135⟩ : ∃ z : Int32, w_162 76 (x131 : Int32).toNatClampNeg = z := ⟨_, rfl⟩
        have b136 : (0 : Int) ≤ x134.toInt ∧ x134.toInt ≤ 65535 := by rw [← e135]; exact I_162 76 _
        refine kv_iald C 186 rfl 76 rfl (by omega) (by omega) e135 (kdec dk_cX10_restore 115 rfl) ?_
        refine kv_iast C 187 rfl 66 rfl (by omega) (by omega) (kdec dk_cX10_restore 116 rfl) (fun w137 u138 => ?_)
        have I139 : kI false w137 := kI_put u138 I_162 (show (0 : Int) ≤ (x134 : Int32).toInt by omega) (show (x134 : Int32).toInt ≤ 65535 by omega)
        have F140 : kF [(61, some 12), (61, some 13), (61, some 14), (61, some 19), (61, some 20), (61, some 26), (61, some 27), (64, none), (66, none), (67, none), (68, none), (69, none), (70, none), (71, none)] w w137 := kF_put u138 F_162 rfl
        refine kv_iinc C 190 rfl 2 2 [1, 2, 0] (fun v9 => [(0, .ref (ρ 61)), (1, .int 0), (2, .int v9)]) (kdec dk_cX10_restore 117 rfl) rfl (by decide) (fun _ => rfl) 1 rfl (fun x141 q142 h143e h143 h143l h143u => ?_)
        try have h143n : x141.toInt = l2_162.toInt + 1 := by omega
        clear h143 q142
        refine kv_goto C 162 (kdec dk_cX10_restore 118 rfl) (by decide) ?_
        have e144 : w137 61 20 = x119 := ((kup_ne u138 rfl : w137 61 20 = w_162 61 20).trans e120)
        have e145 : w137 61 19 = x122 := ((kup_ne u138 rfl : w137 61 19 = w_162 61 19).trans e123)
        exact ih162 w137 x141 I139 F140 (by omega) (by rw [e111, e114, e117]; try omega) (by rw [e111, e114, e144, e145]; try omega) (by rw [e126]; try omega) R162_S (by omega)
  have cut35 : ∀ (n_35 : Nat) (w_35 : kw) (l2_35 : Int32), kI false w_35 → kF [(61, some 12), (61, some 13), (61, some 14), (61, some 19), (61, some 20), (61, some 26), (61, some 27), (64, none), (66, none), (67, none), (68, none), (69, none), (70, none), (71, none)] w w_35 → (0 ≤ l2_35.toInt ∧ l2_35.toInt ≤ 1024) → (1 ≤ (w 78 1).toInt ∧ (w 78 1).toInt ≤ 20 ∧ (w 78 0).toInt ≤ 120 ∧ (w 78 3).toInt ≤ 4) → (¬ (w 61 3).toInt = 0) → (kSlot w 0) → ((1025 - l2_35.toInt) : Int) < (n_35 : Int) → kV p l e { frames := 1, cells := 0, slots := 0, locals := 36 } s m args below meth c (kQ below args s D τ ρ (fun o w' => ∃ r : Int32, o = some (.int r) ∧ kI false w' ∧ kF [(61, some 12), (61, some 13), (61, some 14), (61, some 19), (61, some 20), (61, some 26), (61, some 27), (64, none), (66, none), (67, none), (68, none), (69, none), (70, none), (71, none)] w w' ∧ (¬ (w 61 3).toInt = 0 ∨ ((0 : Int32).toInt < 0 ∨ 3 < (0 : Int32).toInt) ∧ r.toInt = -1 ∨ 0 ≤ (0 : Int32).toInt ∧ (0 : Int32).toInt ≤ 3 ∧ r.toInt = -2) ∧ ((w' 61 3).toInt = 0 ∧ (w' 61 12).toInt = 0 ∨ kMoT w'))) 5 D τ ρ 35 [(0, .ref (ρ 61)), (1, .int 0), (2, .int l2_35)] [] w_35 := by
    intro n_35
    induction n_35 with
    | zero => intro w_35 l2_35 I_35 F_35 k35_0 k35_1 k35_2 R35_S hmz; exfalso; omega
    | succ n_35 ih35 =>
      intro w_35 l2_35 I_35 F_35 k35_0 k35_1 k35_2 R35_S hm35
      have gl2_35 := kf_rng l2_35
      obtain ⟨x146, e147⟩ : ∃ z : Int32, w 78 1 = z := ⟨_, rfl⟩
      have b148 : (0 : Int) ≤ x146.toInt ∧ x146.toInt ≤ 65535 := by rw [← e147]; exact hI 78 1
      obtain ⟨x149, e150⟩ : ∃ z : Int32, w 78 0 = z := ⟨_, rfl⟩
      have b151 : (0 : Int) ≤ x149.toInt ∧ x149.toInt ≤ 65535 := by rw [← e150]; exact hI 78 0
      obtain ⟨x152, e153⟩ : ∃ z : Int32, w 78 3 = z := ⟨_, rfl⟩
      have b154 : (0 : Int) ≤ x152.toInt ∧ x152.toInt ≤ 65535 := by rw [← e153]; exact hI 78 3
      rw [e147, e150, e153] at k35_1
      obtain ⟨x155, e156⟩ : ∃ z : Int32, w 61 3 = z := ⟨_, rfl⟩
      have b157 : (0 : Int) ≤ x155.toInt ∧ x155.toInt ≤ 1 := by rw [← e156]; exact hI 61 3
      rw [e156] at k35_2
      refine kv_iload_n C 36 rfl 2 (kdec dk_cX10_restore 20 rfl) rfl rfl ?_
      refine kv_aload_n C 37 rfl 0 (kdec dk_cX10_restore 21 rfl) rfl rfl ?_
      obtain ⟨x158, e159⟩ : ∃ z : Int32, w 61 7 = z := ⟨_, rfl⟩
      have b160 : (0 : Int) ≤ x158.toInt ∧ x158.toInt ≤ 1024 := by rw [← e159]; exact hI 61 7
      have e161 : w_35 61 7 = x158 := ((F_35 61 7 rfl : w_35 61 7 = w 61 7).trans e159)
      refine kv_get C 40 rfl 61 7 rfl rfl inX10 (by decide) mfl_TaleMachineModel_118 rfl rfl (kdec dk_cX10_restore 22 rfl) e161 ?_
      refine kv_icmp_ge C 43 rfl 67 (kdec dk_cX10_restore 23 rfl) (by decide) (fun d162 => ?_) (fun d162 => ?_)
      · skip
        refine kv_aload_n C 68 rfl 0 (kdec dk_cX10_restore 38 rfl) rfl rfl ?_
        refine kv_aload_n C 69 rfl 0 (kdec dk_cX10_restore 39 rfl) rfl rfl ?_
        refine kv_getr C 72 rfl 61 37 rfl rfl inX10 (by decide) mfl_TaleMachineModel_59 rfl rfl (kdec dk_cX10_restore 40 rfl) ?_
        refine kv_bipush C 74 rfl 7 (kdec dk_cX10_restore 41 rfl) rfl ?_
        refine kv_iload_n C 75 rfl 1 (kdec dk_cX10_restore 42 rfl) rfl rfl ?_
        refine kv_imul C 76 rfl (kdec dk_cX10_restore 43 rfl) (fun x163 h164e h164l h164u => ?_)
        obtain rfl : x163 = 0 := by rw [h164e]; decide
        have e165 : w_35 78 0 = x149 := ((F_35 78 0 rfl : w_35 78 0 = w 78 0).trans e150)
        refine kv_iald C 77 rfl 78 rfl (by omega) (by omega) (show w_35 78 (0 : Int32).toNatClampNeg = x149 from e165) (kdec dk_cX10_restore 44 rfl) ?_
        refine kv_put C 80 rfl 61 19 rfl rfl inX10 (by decide) mfl_TaleMachineModel_136 rfl tyX10 tyX10_ok nmX10 rfl rfl (kdec dk_cX10_restore 45 rfl) rfl rfl (fun w166 u167 => ?_)
        have I168 : kI false w166 := kI_put u167 I_35 (show (0 : Int) ≤ (x149 : Int32).toInt by omega) (show (x149 : Int32).toInt ≤ 120 by omega)
        have F169 : kF [(61, some 12), (61, some 13), (61, some 14), (61, some 19), (61, some 20), (61, some 26), (61, some 27), (64, none), (66, none), (67, none), (68, none), (69, none), (70, none), (71, none)] w w166 := kF_put u167 F_35 rfl
        refine kv_aload_n C 81 rfl 0 (kdec dk_cX10_restore 46 rfl) rfl rfl ?_
        refine kv_aload_n C 82 rfl 0 (kdec dk_cX10_restore 47 rfl) rfl rfl ?_
        refine kv_getr C 85 rfl 61 37 rfl rfl inX10 (by decide) mfl_TaleMachineModel_59 rfl rfl (kdec dk_cX10_restore 48 rfl) ?_
        refine kv_bipush C 87 rfl 7 (kdec dk_cX10_restore 49 rfl) rfl ?_
        refine kv_iload_n C 88 rfl 1 (kdec dk_cX10_restore 50 rfl) rfl rfl ?_
        refine kv_imul C 89 rfl (kdec dk_cX10_restore 51 rfl) (fun x170 h171e h171l h171u => ?_)
        obtain rfl : x170 = 0 := by rw [h171e]; decide
        refine kv_iconst C 90 rfl 1 (kdec dk_cX10_restore 52 rfl) rfl ?_
        refine kv_iadd C 91 rfl (kdec dk_cX10_restore 53 rfl) (fun x172 q174 h173e h173 h173l h173u => ?_)
        try have h173n : x172.toInt = (0 : Int32).toInt + (1 : Int32).toInt := by omega
        clear h173 q174
        obtain rfl : x172 = 1 := by rw [h173e]; decide
        have e175 : w166 78 1 = x146 := ((kup_ne u167 rfl : w166 78 1 = w_35 78 1).trans ((F_35 78 1 rfl : w_35 78 1 = w 78 1).trans e147))
        refine kv_iald C 92 rfl 78 rfl (by omega) (by omega) (show w166 78 (1 : Int32).toNatClampNeg = x146 from e175) (kdec dk_cX10_restore 54 rfl) ?_
        refine kv_put C 95 rfl 61 20 rfl rfl inX10 (by decide) mfl_TaleMachineModel_139 rfl tyX10 tyX10_ok nmX10 rfl rfl (kdec dk_cX10_restore 55 rfl) rfl rfl (fun w176 u177 => ?_)
        have I178 : kI false w176 := kI_put u177 I168 (show (0 : Int) ≤ (x146 : Int32).toInt by omega) (show (x146 : Int32).toInt ≤ 20 by omega)
        have F179 : kF [(61, some 12), (61, some 13), (61, some 14), (61, some 19), (61, some 20), (61, some 26), (61, some 27), (64, none), (66, none), (67, none), (68, none), (69, none), (70, none), (71, none)] w w176 := kF_put u177 F169 rfl
        refine kv_aload_n C 96 rfl 0 (kdec dk_cX10_restore 56 rfl) rfl rfl ?_
        refine kv_aload_n C 97 rfl 0 (kdec dk_cX10_restore 57 rfl) rfl rfl ?_
        refine kv_getr C 100 rfl 61 37 rfl rfl inX10 (by decide) mfl_TaleMachineModel_59 rfl rfl (kdec dk_cX10_restore 58 rfl) ?_
        refine kv_bipush C 102 rfl 7 (kdec dk_cX10_restore 59 rfl) rfl ?_
        refine kv_iload_n C 103 rfl 1 (kdec dk_cX10_restore 60 rfl) rfl rfl ?_
        refine kv_imul C 104 rfl (kdec dk_cX10_restore 61 rfl) (fun x180 h181e h181l h181u => ?_)
        obtain rfl : x180 = 0 := by rw [h181e]; decide
        refine kv_iconst C 105 rfl 2 (kdec dk_cX10_restore 62 rfl) rfl ?_
        refine kv_iadd C 106 rfl (kdec dk_cX10_restore 63 rfl) (fun x182 q184 h183e h183 h183l h183u => ?_)
        try have h183n : x182.toInt = (0 : Int32).toInt + (2 : Int32).toInt := by omega
        clear h183 q184
        obtain rfl : x182 = 2 := by rw [h183e]; decide
        obtain ⟨x185, e186⟩ : ∃ z : Int32, w 78 2 = z := ⟨_, rfl⟩
        have b187 : (0 : Int) ≤ x185.toInt ∧ x185.toInt ≤ 65535 := by rw [← e186]; exact hI 78 2
        have e188 : w176 78 2 = x185 := ((kup_ne u177 rfl : w176 78 2 = w166 78 2).trans ((kup_ne u167 rfl : w166 78 2 = w_35 78 2).trans ((F_35 78 2 rfl : w_35 78 2 = w 78 2).trans e186)))
        refine kv_iald C 107 rfl 78 rfl (by omega) (by omega) (show w176 78 (2 : Int32).toNatClampNeg = x185 from e188) (kdec dk_cX10_restore 64 rfl) ?_
        refine kv_put C 110 rfl 61 14 rfl rfl inX10 (by decide) mfl_TaleMachineModel_142 rfl tyX10 tyX10_ok nmX10 rfl rfl (kdec dk_cX10_restore 65 rfl) rfl rfl (fun w189 u190 => ?_)
        have I191 : kI false w189 := kI_put u190 I178 (show (0 : Int) ≤ (x185 : Int32).toInt by omega) (show (x185 : Int32).toInt ≤ 65535 by omega)
        have F192 : kF [(61, some 12), (61, some 13), (61, some 14), (61, some 19), (61, some 20), (61, some 26), (61, some 27), (64, none), (66, none), (67, none), (68, none), (69, none), (70, none), (71, none)] w w189 := kF_put u190 F179 rfl
        refine kv_aload_n C 111 rfl 0 (kdec dk_cX10_restore 66 rfl) rfl rfl ?_
        refine kv_aload_n C 112 rfl 0 (kdec dk_cX10_restore 67 rfl) rfl rfl ?_
        refine kv_getr C 115 rfl 61 37 rfl rfl inX10 (by decide) mfl_TaleMachineModel_59 rfl rfl (kdec dk_cX10_restore 68 rfl) ?_
        refine kv_bipush C 117 rfl 7 (kdec dk_cX10_restore 69 rfl) rfl ?_
        refine kv_iload_n C 118 rfl 1 (kdec dk_cX10_restore 70 rfl) rfl rfl ?_
        refine kv_imul C 119 rfl (kdec dk_cX10_restore 71 rfl) (fun x193 h194e h194l h194u => ?_)
        obtain rfl : x193 = 0 := by rw [h194e]; decide
        refine kv_iconst C 120 rfl 3 (kdec dk_cX10_restore 72 rfl) rfl ?_
        refine kv_iadd C 121 rfl (kdec dk_cX10_restore 73 rfl) (fun x195 q197 h196e h196 h196l h196u => ?_)
        try have h196n : x195.toInt = (0 : Int32).toInt + (3 : Int32).toInt := by omega
        clear h196 q197
        obtain rfl : x195 = 3 := by rw [h196e]; decide
        have e198 : w189 78 3 = x152 := ((kup_ne u190 rfl : w189 78 3 = w176 78 3).trans ((kup_ne u177 rfl : w176 78 3 = w166 78 3).trans ((kup_ne u167 rfl : w166 78 3 = w_35 78 3).trans ((F_35 78 3 rfl : w_35 78 3 = w 78 3).trans e153))))
        refine kv_iald C 122 rfl 78 rfl (by omega) (by omega) (show w189 78 (3 : Int32).toNatClampNeg = x152 from e198) (kdec dk_cX10_restore 74 rfl) ?_
        refine kv_put C 125 rfl 61 12 rfl rfl inX10 (by decide) mfl_TaleMachineModel_112 rfl tyX10 tyX10_ok nmX10 rfl rfl (kdec dk_cX10_restore 75 rfl) rfl rfl (fun w199 u200 => ?_)
        have I201 : kI false w199 := kI_put u200 I191 (show (0 : Int) ≤ (x152 : Int32).toInt by omega) (show (x152 : Int32).toInt ≤ 4 by omega)
        have F202 : kF [(61, some 12), (61, some 13), (61, some 14), (61, some 19), (61, some 20), (61, some 26), (61, some 27), (64, none), (66, none), (67, none), (68, none), (69, none), (70, none), (71, none)] w w199 := kF_put u200 F192 rfl
        refine kv_aload_n C 126 rfl 0 (kdec dk_cX10_restore 76 rfl) rfl rfl ?_
        refine kv_aload_n C 127 rfl 0 (kdec dk_cX10_restore 77 rfl) rfl rfl ?_
        refine kv_getr C 130 rfl 61 37 rfl rfl inX10 (by decide) mfl_TaleMachineModel_59 rfl rfl (kdec dk_cX10_restore 78 rfl) ?_
        refine kv_bipush C 132 rfl 7 (kdec dk_cX10_restore 79 rfl) rfl ?_
        refine kv_iload_n C 133 rfl 1 (kdec dk_cX10_restore 80 rfl) rfl rfl ?_
        refine kv_imul C 134 rfl (kdec dk_cX10_restore 81 rfl) (fun x203 h204e h204l h204u => ?_)
        obtain rfl : x203 = 0 := by rw [h204e]; decide
        refine kv_iconst C 135 rfl 4 (kdec dk_cX10_restore 82 rfl) rfl ?_
        refine kv_iadd C 136 rfl (kdec dk_cX10_restore 83 rfl) (fun x205 q207 h206e h206 h206l h206u => ?_)
        try have h206n : x205.toInt = (0 : Int32).toInt + (4 : Int32).toInt := by omega
        clear h206 q207
        obtain rfl : x205 = 4 := by rw [h206e]; decide
        obtain ⟨x208, e209⟩ : ∃ z : Int32, w 78 4 = z := ⟨_, rfl⟩
        have b210 : (0 : Int) ≤ x208.toInt ∧ x208.toInt ≤ 65535 := by rw [← e209]; exact hI 78 4
        have e211 : w199 78 4 = x208 := ((kup_ne u200 rfl : w199 78 4 = w189 78 4).trans ((kup_ne u190 rfl : w189 78 4 = w176 78 4).trans ((kup_ne u177 rfl : w176 78 4 = w166 78 4).trans ((kup_ne u167 rfl : w166 78 4 = w_35 78 4).trans ((F_35 78 4 rfl : w_35 78 4 = w 78 4).trans e209)))))
        refine kv_iald C 137 rfl 78 rfl (by omega) (by omega) (show w199 78 (4 : Int32).toNatClampNeg = x208 from e211) (kdec dk_cX10_restore 84 rfl) ?_
        refine kv_put C 140 rfl 61 26 rfl rfl inX10 (by decide) mfl_TaleMachineModel_323 rfl tyX10 tyX10_ok nmX10 rfl rfl (kdec dk_cX10_restore 85 rfl) rfl rfl (fun w212 u213 => ?_)
        have I214 : kI false w212 := kI_put u213 I201 (show (0 : Int) ≤ (x208 : Int32).toInt by omega) (show (x208 : Int32).toInt ≤ 65535 by omega)
        have F215 : kF [(61, some 12), (61, some 13), (61, some 14), (61, some 19), (61, some 20), (61, some 26), (61, some 27), (64, none), (66, none), (67, none), (68, none), (69, none), (70, none), (71, none)] w w212 := kF_put u213 F202 rfl
        refine kv_aload_n C 141 rfl 0 (kdec dk_cX10_restore 86 rfl) rfl rfl ?_
        refine kv_aload_n C 142 rfl 0 (kdec dk_cX10_restore 87 rfl) rfl rfl ?_
        refine kv_getr C 145 rfl 61 37 rfl rfl inX10 (by decide) mfl_TaleMachineModel_59 rfl rfl (kdec dk_cX10_restore 88 rfl) ?_
        refine kv_bipush C 147 rfl 7 (kdec dk_cX10_restore 89 rfl) rfl ?_
        refine kv_iload_n C 148 rfl 1 (kdec dk_cX10_restore 90 rfl) rfl rfl ?_
        refine kv_imul C 149 rfl (kdec dk_cX10_restore 91 rfl) (fun x216 h217e h217l h217u => ?_)
        obtain rfl : x216 = 0 := by rw [h217e]; decide
        refine kv_iconst C 150 rfl 5 (kdec dk_cX10_restore 92 rfl) rfl ?_
        refine kv_iadd C 151 rfl (kdec dk_cX10_restore 93 rfl) (fun x218 q220 h219e h219 h219l h219u => ?_)
        try have h219n : x218.toInt = (0 : Int32).toInt + (5 : Int32).toInt := by omega
        clear h219 q220
        obtain rfl : x218 = 5 := by rw [h219e]; decide
        obtain ⟨x221, e222⟩ : ∃ z : Int32, w 78 5 = z := ⟨_, rfl⟩
        have b223 : (0 : Int) ≤ x221.toInt ∧ x221.toInt ≤ 65535 := by rw [← e222]; exact hI 78 5
        have e224 : w212 78 5 = x221 := ((kup_ne u213 rfl : w212 78 5 = w199 78 5).trans ((kup_ne u200 rfl : w199 78 5 = w189 78 5).trans ((kup_ne u190 rfl : w189 78 5 = w176 78 5).trans ((kup_ne u177 rfl : w176 78 5 = w166 78 5).trans ((kup_ne u167 rfl : w166 78 5 = w_35 78 5).trans ((F_35 78 5 rfl : w_35 78 5 = w 78 5).trans e222))))))
        refine kv_iald C 152 rfl 78 rfl (by omega) (by omega) (show w212 78 (5 : Int32).toNatClampNeg = x221 from e224) (kdec dk_cX10_restore 94 rfl) ?_
        refine kv_put C 155 rfl 61 27 rfl rfl inX10 (by decide) mfl_TaleMachineModel_326 rfl tyX10 tyX10_ok nmX10 rfl rfl (kdec dk_cX10_restore 95 rfl) rfl rfl (fun w225 u226 => ?_)
        have I227 : kI false w225 := kI_put u226 I214 (show (0 : Int) ≤ (x221 : Int32).toInt by omega) (show (x221 : Int32).toInt ≤ 65535 by omega)
        have F228 : kF [(61, some 12), (61, some 13), (61, some 14), (61, some 19), (61, some 20), (61, some 26), (61, some 27), (64, none), (66, none), (67, none), (68, none), (69, none), (70, none), (71, none)] w w225 := kF_put u226 F215 rfl
        refine kv_aload_n C 156 rfl 0 (kdec dk_cX10_restore 96 rfl) rfl rfl ?_
        refine kv_iconst C 157 rfl 0 (kdec dk_cX10_restore 97 rfl) rfl ?_
        refine kv_put C 160 rfl 61 13 rfl rfl inX10 (by decide) mfl_TaleMachineModel_148 rfl tyX10 tyX10_ok nmX10 rfl rfl (kdec dk_cX10_restore 98 rfl) rfl rfl (fun w229 u230 => ?_)
        have I231 : kI false w229 := kI_put u230 I227 (show (0 : Int) ≤ (0 : Int32).toInt by omega) (show (0 : Int32).toInt ≤ 13 by omega)
        have F232 : kF [(61, some 12), (61, some 13), (61, some 14), (61, some 19), (61, some 20), (61, some 26), (61, some 27), (64, none), (66, none), (67, none), (68, none), (69, none), (70, none), (71, none)] w w229 := kF_put u230 F228 rfl
        refine kv_iconst C 161 rfl 0 (kdec dk_cX10_restore 99 rfl) rfl ?_
        refine kv_istore_n C 162 rfl 2 [1, 2, 0] [(0, .ref (ρ 61)), (1, .int 0), (2, .int 0)] (kdec dk_cX10_restore 100 rfl) rfl (by decide) rfl ?_
        have e233 : w229 61 20 = x146 := ((kup_ne u230 rfl : w229 61 20 = w225 61 20).trans ((kup_ne u226 rfl : w225 61 20 = w212 61 20).trans ((kup_ne u213 rfl : w212 61 20 = w199 61 20).trans ((kup_ne u200 rfl : w199 61 20 = w189 61 20).trans ((kup_ne u190 rfl : w189 61 20 = w176 61 20).trans (kup_eq u177))))))
        have e234 : w229 61 19 = x149 := ((kup_ne u230 rfl : w229 61 19 = w225 61 19).trans ((kup_ne u226 rfl : w225 61 19 = w212 61 19).trans ((kup_ne u213 rfl : w212 61 19 = w199 61 19).trans ((kup_ne u200 rfl : w199 61 19 = w189 61 19).trans ((kup_ne u190 rfl : w189 61 19 = w176 61 19).trans ((kup_ne u177 rfl : w176 61 19 = w166 61 19).trans (kup_eq u167)))))))
        exact cut162 ((((121 - (0 : Int32).toInt)) : Int).toNat + 1) w229 0 I231 F232 (by omega) (by rw [e147, e150, e153]; try omega) (by rw [e147, e150, e233, e234]; try omega) (by rw [e156]; try omega) R35_S (by omega)
      · skip
        refine kv_aload_n C 44 rfl 0 (kdec dk_cX10_restore 24 rfl) rfl rfl ?_
        refine kv_getr C 47 rfl 61 4 rfl rfl inX10 (by decide) mfl_TaleMachineModel_16 rfl rfl (kdec dk_cX10_restore 25 rfl) ?_
        refine kv_iload_n C 48 rfl 2 (kdec dk_cX10_restore 26 rfl) rfl rfl ?_
        refine kv_aload_n C 49 rfl 0 (kdec dk_cX10_restore 27 rfl) rfl rfl ?_
        refine kv_getr C 52 rfl 61 34 rfl rfl inX10 (by decide) mfl_TaleMachineModel_50 rfl rfl (kdec dk_cX10_restore 28 rfl) ?_
        refine kv_sipush C 55 rfl 1024 (kdec dk_cX10_restore 29 rfl) rfl ?_
        refine kv_iload_n C 56 rfl 1 (kdec dk_cX10_restore 30 rfl) rfl rfl ?_
        refine kv_imul C 57 rfl (kdec dk_cX10_restore 31 rfl) (fun x235 h236e h236l h236u => ?_)
        obtain rfl : x235 = 0 := by rw [h236e]; decide
        refine kv_iload_n C 58 rfl 2 (kdec dk_cX10_restore 32 rfl) rfl rfl ?_
        refine kv_iadd C 59 rfl (kdec dk_cX10_restore 33 rfl) (fun x237 q239 h238e h238 h238l h238u => ?_)
        try have h238n : x237.toInt = (0 : Int32).toInt + l2_35.toInt := by omega
        clear h238 q239
        obtain ⟨x240, e241⟩ : ∃ z : Int32, w_35 75 (x237 : Int32).toNatClampNeg = z := ⟨_, rfl⟩
        have b242 : (0 : Int) ≤ x240.toInt ∧ x240.toInt ≤ 255 := by rw [← e241]; exact I_35 75 _
        refine kv_iald C 60 rfl 75 rfl (by omega) (by omega) e241 (kdec dk_cX10_restore 34 rfl) ?_
        refine kv_iast C 61 rfl 64 rfl (by omega) (by omega) (kdec dk_cX10_restore 35 rfl) (fun w243 u244 => ?_)
        have I245 : kI false w243 := kI_put u244 I_35 (show (0 : Int) ≤ (x240 : Int32).toInt by omega) (show (x240 : Int32).toInt ≤ 255 by omega)
        have F246 : kF [(61, some 12), (61, some 13), (61, some 14), (61, some 19), (61, some 20), (61, some 26), (61, some 27), (64, none), (66, none), (67, none), (68, none), (69, none), (70, none), (71, none)] w w243 := kF_put u244 F_35 rfl
        refine kv_iinc C 64 rfl 2 2 [1, 2, 0] (fun v9 => [(0, .ref (ρ 61)), (1, .int 0), (2, .int v9)]) (kdec dk_cX10_restore 36 rfl) rfl (by decide) (fun _ => rfl) 1 rfl (fun x247 q248 h249e h249 h249l h249u => ?_)
        try have h249n : x247.toInt = l2_35.toInt + 1 := by omega
        clear h249 q248
        refine kv_goto C 35 (kdec dk_cX10_restore 37 rfl) (by decide) ?_
        exact ih35 w243 x247 I245 F246 (by omega) (by rw [e147, e150, e153]; try omega) (by rw [e156]; try omega) R35_S (by omega)
  refine kv_iload_n C 1 rfl 1 (kdec dk_cX10_restore 0 rfl) rfl rfl ?_
  refine kv_i2l C 2 rfl (kdec dk_cX10_restore 1 rfl) ?_
  have h250 := kf_i2l 0
  refine kv_lconst C 3 rfl 0 (kdec dk_cX10_restore 2 rfl) rfl ?_
  have h251 : (0 : Int64).toInt = 0 := by decide
  refine kv_ldc2 C 6 rfl 3 (kdec dk_cX10_restore 3 rfl) mcl_TaleMachineModel_259 ?_
  have h252 : (3 : Int64).toInt = 3 := by decide
  refine kv_callSi (As := [.long (0 : Int32).toInt64, .long (0 : Int64), .long (3 : Int64)]) (rest := []) C 9 rfl (k_x_in l D τ ρ σ w (0 : Int32).toInt64 (0 : Int64) (3 : Int64) hI ) mml_TaleMachineModel_94 mst_yX10_in mcd_yX10_in min_yX10_in hd_yX10_in rfl rfl rfl (by decide) rfl (Nat.le_of_ble_eq_true rfl) (kdec dk_cX10_restore 4 rfl) (fun x257 w253 h254 => ?_)
  obtain ⟨I255, f256, p258, p259⟩ := h254
  have F260 : kF [(61, some 12), (61, some 13), (61, some 14), (61, some 19), (61, some 20), (61, some 26), (61, some 27), (64, none), (66, none), (67, none), (68, none), (69, none), (70, none), (71, none)] w w253 := kF_call hF0 f256 (by decide)
  have M261 : ((w253 61 3).toInt = 0 ∧ (w253 61 12).toInt = 0 ∨ kMoT w253) := kMoP_kF f256 hMp rfl rfl rfl rfl (fun _ => rfl)
  have g262 := kf_rng x257
  refine kv_if_ne C 12 rfl 14 (kdec dk_cX10_restore 5 rfl) (by decide) (fun d263 => ?_) (fun d263 => ?_)
  · skip
    refine kv_aload_n C 15 rfl 0 (kdec dk_cX10_restore 8 rfl) rfl rfl ?_
    obtain ⟨x264, e265⟩ : ∃ z : Int32, w 61 3 = z := ⟨_, rfl⟩
    have b266 : (0 : Int) ≤ x264.toInt ∧ x264.toInt ≤ 1 := by rw [← e265]; exact hI 61 3
    have e267 : w253 61 3 = x264 := ((f256 61 3 rfl : w253 61 3 = w 61 3).trans e265)
    refine kv_get C 18 rfl 61 3 rfl rfl inX10 (by decide) mfl_TaleMachineModel_108 rfl rfl (kdec dk_cX10_restore 9 rfl) e267 ?_
    refine kv_if_eq C 21 rfl 30 (kdec dk_cX10_restore 10 rfl) (by decide) (fun d268 => ?_) (fun d268 => ?_)
    · skip
      refine kv_bipush C 32 rfl (-2) (kdec dk_cX10_restore 16 rfl) rfl ?_
      exact kv_iret C hr hlk (kdec dk_cX10_restore 17 rfl) ⟨_, rfl, I255, F260, (by rw [e265]; try omega), M261⟩
    · skip
      refine kv_aload_n C 22 rfl 0 (kdec dk_cX10_restore 11 rfl) rfl rfl ?_
      refine kv_getr C 25 rfl 61 33 rfl rfl inX10 (by decide) mfl_TaleMachineModel_46 rfl rfl (kdec dk_cX10_restore 12 rfl) ?_
      refine kv_iload_n C 26 rfl 1 (kdec dk_cX10_restore 13 rfl) rfl rfl ?_
      obtain ⟨x269, e270⟩ : ∃ z : Int32, w 74 0 = z := ⟨_, rfl⟩
      have b271 : (0 : Int) ≤ x269.toInt ∧ x269.toInt ≤ 1 := by rw [← e270]; exact hI 74 0
      have e272 : w253 74 0 = x269 := ((f256 74 0 rfl : w253 74 0 = w 74 0).trans e270)
      refine kv_zald C 27 rfl 74 rfl (by omega) (by omega) (show w253 74 (0 : Int32).toNatClampNeg = x269 from e272) (kdec dk_cX10_restore 14 rfl) ?_
      refine kv_if_ne C 30 rfl 33 (kdec dk_cX10_restore 15 rfl) (by decide) (fun d273 => ?_) (fun d273 => ?_)
      · skip
        have hSl : kSlot w 0 := hS 0 (by decide) (by rw [e270]; omega)
        obtain ⟨x274, e275⟩ : ∃ z : Int32, w 78 0 = z := ⟨_, rfl⟩
        have b276 : (0 : Int) ≤ x274.toInt ∧ x274.toInt ≤ 65535 := by rw [← e275]; exact hI 78 0
        obtain ⟨x277, e278⟩ : ∃ z : Int32, w 78 1 = z := ⟨_, rfl⟩
        have b279 : (0 : Int) ≤ x277.toInt ∧ x277.toInt ≤ 65535 := by rw [← e278]; exact hI 78 1
        obtain ⟨x280, e281⟩ : ∃ z : Int32, w 78 3 = z := ⟨_, rfl⟩
        have b282 : (0 : Int) ≤ x280.toInt ∧ x280.toInt ≤ 65535 := by rw [← e281]; exact hI 78 3
        have hSf : 1 ≤ x277.toInt ∧ x277.toInt ≤ 20 ∧ x274.toInt ≤ 120 ∧ x280.toInt ≤ 4 := by rw [← e275, ← e278, ← e281]; exact hSl.1
        refine kv_iconst C 34 rfl 0 (kdec dk_cX10_restore 18 rfl) rfl ?_
        refine kv_istore_n C 35 rfl 2 [1, 2, 0] [(0, .ref (ρ 61)), (1, .int 0), (2, .int 0)] (kdec dk_cX10_restore 19 rfl) rfl (by decide) rfl ?_
        exact cut35 ((((1025 - (0 : Int32).toInt)) : Int).toNat + 1) w253 0 I255 F260 (by omega) (by rw [e278, e275, e281]; try omega) (by rw [e265]; try omega) hSl (by omega)
      · skip
        refine kv_bipush C 32 rfl (-2) (kdec dk_cX10_restore 16 rfl) rfl ?_
        exact kv_iret C hr hlk (kdec dk_cX10_restore 17 rfl) ⟨_, rfl, I255, F260, (by rw [e265]; try omega), M261⟩
  · skip
    refine kv_iconst C 13 rfl (-1) (kdec dk_cX10_restore 6 rfl) rfl ?_
    obtain ⟨x283, e284⟩ : ∃ z : Int32, w 61 3 = z := ⟨_, rfl⟩
    have b285 : (0 : Int) ≤ x283.toInt ∧ x283.toInt ≤ 1 := by rw [← e284]; exact hI 61 3
    exact kv_iret C hr hlk (kdec dk_cX10_restore 7 rfl) ⟨_, rfl, I255, F260, (by rw [e284]; try omega), M261⟩

set_option maxHeartbeats 4000000 in
set_option maxRecDepth 100000 in
theorem k_x_restore1 (l : Launch) (D : va_G) (τ : Nat → ClassId) (ρ σ : Nat → Nat) (w : kw)  (hI : kI false w) (hMp : ((w 61 3).toInt = 0 ∧ (w 61 12).toInt = 0 ∨ kMoT w)) (hS : kSl w) :
    kM l D τ ρ σ yX10_restore cX10_restore 5 (some .int) { frames := 1, cells := 0, slots := 0, locals := 36 } [.ref (ρ 61), .int 1] w
      (fun o w' => ∃ r : Int32, o = some (.int r) ∧ kI false w' ∧ kF [(61, some 12), (61, some 13), (61, some 14), (61, some 19), (61, some 20), (61, some 26), (61, some 27), (64, none), (66, none), (67, none), (68, none), (69, none), (70, none), (71, none)] w w' ∧ (¬ (w 61 3).toInt = 0 ∨ ((1 : Int32).toInt < 0 ∨ 3 < (1 : Int32).toInt) ∧ r.toInt = -1 ∨ 0 ≤ (1 : Int32).toInt ∧ (1 : Int32).toInt ≤ 3 ∧ r.toInt = -2) ∧ ((w' 61 3).toInt = 0 ∧ (w' 61 12).toInt = 0 ∨ kMoT w')) := by
  refine kM_of (own := "TaleMachineModel") rfl (by decide) (Nat.le_of_ble_eq_true rfl) ?_
  intro p e s m args below meth c C hr hlk
  have hF0 : kF [(61, some 12), (61, some 13), (61, some 14), (61, some 19), (61, some 20), (61, some 26), (61, some 27), (64, none), (66, none), (67, none), (68, none), (69, none), (70, none), (71, none)] w w := kF.rf
  have c_m2 : (-2 : Int32).toInt = -2 := by decide
  have c_m1 : (-1 : Int32).toInt = -1 := by decide
  have c_0 : (0 : Int32).toInt = 0 := by decide
  have c_1 : (1 : Int32).toInt = 1 := by decide
  have c_2 : (2 : Int32).toInt = 2 := by decide
  have c_3 : (3 : Int32).toInt = 3 := by decide
  have c_4 : (4 : Int32).toInt = 4 := by decide
  have c_5 : (5 : Int32).toInt = 5 := by decide
  have c_7 : (7 : Int32).toInt = 7 := by decide
  have c_8 : (8 : Int32).toInt = 8 := by decide
  have c_9 : (9 : Int32).toInt = 9 := by decide
  have c_10 : (10 : Int32).toInt = 10 := by decide
  have c_11 : (11 : Int32).toInt = 11 := by decide
  have c_12 : (12 : Int32).toInt = 12 := by decide
  have c_16 : (16 : Int32).toInt = 16 := by decide
  have c_24 : (24 : Int32).toInt = 24 := by decide
  have c_120 : (120 : Int32).toInt = 120 := by decide
  have c_1024 : (1024 : Int32).toInt = 1024 := by decide
  have c_1920 : (1920 : Int32).toInt = 1920 := by decide
  refine kV.L (L' := [(0, .ref (ρ 61)), (1, .int 1)]) rfl ?_
  have cut195 : ∀ (n_195 : Nat) (w_195 : kw) (l2_195 : Int32), kI false w_195 → kF [(61, some 12), (61, some 13), (61, some 14), (61, some 19), (61, some 20), (61, some 26), (61, some 27), (64, none), (66, none), (67, none), (68, none), (69, none), (70, none), (71, none)] w w_195 → (0 ≤ l2_195.toInt ∧ l2_195.toInt ≤ 20) → (1 ≤ (w 78 8).toInt ∧ (w 78 8).toInt ≤ 20 ∧ (w 78 7).toInt ≤ 120 ∧ (w 78 10).toInt ≤ 4) → ((w_195 61 20).toInt = (w 78 8).toInt ∧ (w_195 61 19).toInt = (w 78 7).toInt) → (¬ (w 61 3).toInt = 0) → (kSlot w 1) → (∀ f9 : Nat, (f9 : Int) < l2_195.toInt → w_195 67 f9 = w 77 (1920 + 24 * f9)) → ((21 - l2_195.toInt) : Int) < (n_195 : Int) → kV p l e { frames := 1, cells := 0, slots := 0, locals := 36 } s m args below meth c (kQ below args s D τ ρ (fun o w' => ∃ r : Int32, o = some (.int r) ∧ kI false w' ∧ kF [(61, some 12), (61, some 13), (61, some 14), (61, some 19), (61, some 20), (61, some 26), (61, some 27), (64, none), (66, none), (67, none), (68, none), (69, none), (70, none), (71, none)] w w' ∧ (¬ (w 61 3).toInt = 0 ∨ ((1 : Int32).toInt < 0 ∨ 3 < (1 : Int32).toInt) ∧ r.toInt = -1 ∨ 0 ≤ (1 : Int32).toInt ∧ (1 : Int32).toInt ≤ 3 ∧ r.toInt = -2) ∧ ((w' 61 3).toInt = 0 ∧ (w' 61 12).toInt = 0 ∨ kMoT w'))) 5 D τ ρ 195 [(0, .ref (ρ 61)), (1, .int 1), (2, .int l2_195)] [] w_195 := by
    intro n_195
    induction n_195 with
    | zero => intro w_195 l2_195 I_195 F_195 k195_0 k195_1 k195_2 k195_3 R195_S R195_C hmz; exfalso; omega
    | succ n_195 ih195 =>
      intro w_195 l2_195 I_195 F_195 k195_0 k195_1 k195_2 k195_3 R195_S R195_C hm195
      have gl2_195 := kf_rng l2_195
      obtain ⟨x1, e2⟩ : ∃ z : Int32, w 78 8 = z := ⟨_, rfl⟩
      have b3 : (0 : Int) ≤ x1.toInt ∧ x1.toInt ≤ 65535 := by rw [← e2]; exact hI 78 8
      obtain ⟨x4, e5⟩ : ∃ z : Int32, w 78 7 = z := ⟨_, rfl⟩
      have b6 : (0 : Int) ≤ x4.toInt ∧ x4.toInt ≤ 65535 := by rw [← e5]; exact hI 78 7
      obtain ⟨x7, e8⟩ : ∃ z : Int32, w 78 10 = z := ⟨_, rfl⟩
      have b9 : (0 : Int) ≤ x7.toInt ∧ x7.toInt ≤ 65535 := by rw [← e8]; exact hI 78 10
      rw [e2, e5, e8] at k195_1
      obtain ⟨x10, e11⟩ : ∃ z : Int32, w_195 61 20 = z := ⟨_, rfl⟩
      have b12 : (0 : Int) ≤ x10.toInt ∧ x10.toInt ≤ 20 := by rw [← e11]; exact I_195 61 20
      obtain ⟨x13, e14⟩ : ∃ z : Int32, w_195 61 19 = z := ⟨_, rfl⟩
      have b15 : (0 : Int) ≤ x13.toInt ∧ x13.toInt ≤ 120 := by rw [← e14]; exact I_195 61 19
      rw [e2, e5, e11, e14] at k195_2
      obtain ⟨x16, e17⟩ : ∃ z : Int32, w 61 3 = z := ⟨_, rfl⟩
      have b18 : (0 : Int) ≤ x16.toInt ∧ x16.toInt ≤ 1 := by rw [← e17]; exact hI 61 3
      rw [e17] at k195_3
      have cut271 : ∀ (n_271 : Nat) (w_271 : kw) (l2_271 l3_271 l4_271 : Int32), kI false w_271 → kF [(61, some 12), (61, some 13), (61, some 14), (61, some 19), (61, some 20), (61, some 26), (61, some 27), (64, none), (66, none), (67, none), (68, none), (69, none), (70, none), (71, none)] w w_271 → (0 ≤ l2_271.toInt ∧ l2_271.toInt < (w_271 61 20).toInt ∧ l2_271.toInt = l2_195.toInt ∧ l3_271.toInt = 1920 + 24 * l2_271.toInt) → (1 ≤ l4_271.toInt ∧ l4_271.toInt ≤ 16) → (1 ≤ (w 78 8).toInt ∧ (w 78 8).toInt ≤ 20 ∧ (w 78 7).toInt ≤ 120 ∧ (w 78 10).toInt ≤ 4) → ((w_271 61 20).toInt = (w 78 8).toInt ∧ (w_271 61 19).toInt = (w 78 7).toInt) → (¬ (w 61 3).toInt = 0) → (kSlot w 1) → (∀ f9 : Nat, (f9 : Int) ≤ l2_271.toInt → w_271 67 f9 = w 77 (1920 + 24 * f9)) → ((17 - l4_271.toInt) : Int) < (n_271 : Int) → kV p l e { frames := 1, cells := 0, slots := 0, locals := 36 } s m args below meth c (kQ below args s D τ ρ (fun o w' => ∃ r : Int32, o = some (.int r) ∧ kI false w' ∧ kF [(61, some 12), (61, some 13), (61, some 14), (61, some 19), (61, some 20), (61, some 26), (61, some 27), (64, none), (66, none), (67, none), (68, none), (69, none), (70, none), (71, none)] w w' ∧ (¬ (w 61 3).toInt = 0 ∨ ((1 : Int32).toInt < 0 ∨ 3 < (1 : Int32).toInt) ∧ r.toInt = -1 ∨ 0 ≤ (1 : Int32).toInt ∧ (1 : Int32).toInt ≤ 3 ∧ r.toInt = -2) ∧ ((w' 61 3).toInt = 0 ∧ (w' 61 12).toInt = 0 ∨ kMoT w'))) 5 D τ ρ 271 [(0, .ref (ρ 61)), (1, .int 1), (2, .int l2_271), (3, .int l3_271), (4, .int l4_271)] [] w_271 := by
        intro n_271
        induction n_271 with
        | zero => intro w_271 l2_271 l3_271 l4_271 I_271 F_271 k271_0 k271_1 k271_2 k271_3 k271_4 R271_S R271_C hmz; exfalso; omega
        | succ n_271 ih271 =>
          intro w_271 l2_271 l3_271 l4_271 I_271 F_271 k271_0 k271_1 k271_2 k271_3 k271_4 R271_S R271_C hm271
          have gl2_271 := kf_rng l2_271
          have gl3_271 := kf_rng l3_271
          have gl4_271 := kf_rng l4_271
          obtain ⟨x19, e20⟩ : ∃ z : Int32, w_271 61 20 = z := ⟨_, rfl⟩
          have b21 : (0 : Int) ≤ x19.toInt ∧ x19.toInt ≤ 20 := by rw [← e20]; exact I_271 61 20
          rw [e20] at k271_0
          rw [e2, e5, e8] at k271_2
          obtain ⟨x22, e23⟩ : ∃ z : Int32, w_271 61 19 = z := ⟨_, rfl⟩
          have b24 : (0 : Int) ≤ x22.toInt ∧ x22.toInt ≤ 120 := by rw [← e23]; exact I_271 61 19
          rw [e2, e5, e20, e23] at k271_3
          rw [e17] at k271_4
          refine kv_iload C 273 rfl 4 (kdec dk_cX10_restore 173 rfl) rfl ?_
          refine kv_aload_n C 274 rfl 0 (kdec dk_cX10_restore 174 rfl) rfl rfl ?_
          refine kv_getr C 277 rfl 61 24 rfl rfl inX10 (by decide) mfl_TaleMachineModel_34 rfl rfl (kdec dk_cX10_restore 175 rfl) ?_
          refine kv_iload_n C 278 rfl 2 (kdec dk_cX10_restore 176 rfl) rfl rfl ?_
          obtain ⟨x25, e26⟩ : ∃ z : Int32, w_271 70 (l2_271 : Int32).toNatClampNeg = z := ⟨_, rfl⟩
          have b27 : (0 : Int) ≤ x25.toInt ∧ x25.toInt ≤ 15 := by rw [← e26]; exact I_271 70 _
          refine kv_iald C 279 rfl 70 rfl (by omega) (by omega) e26 (kdec dk_cX10_restore 177 rfl) ?_
          refine kv_icmp_gt C 282 rfl 311 (kdec dk_cX10_restore 178 rfl) (by decide) (fun d28 => ?_) (fun d28 => ?_)
          · skip
            refine kv_iinc C 314 rfl 2 2 [1, 2, 0, 3, 4] (fun v9 => [(0, .ref (ρ 61)), (1, .int 1), (2, .int v9), (3, .int l3_271), (4, .int l4_271)]) (kdec dk_cX10_restore 197 rfl) rfl (by decide) (fun _ => rfl) 1 rfl (fun x29 q30 h31e h31 h31l h31u => ?_)
            try have h31n : x29.toInt = l2_271.toInt + 1 := by omega
            clear h31 q30
            refine kv_goto C 195 (kdec dk_cX10_restore 198 rfl) (by decide) ?_
            refine kV.sub [0, 1, 2] (L' := [(0, .ref (ρ 61)), (1, .int 1), (2, .int x29)]) rfl ?_
            exact ih195 w_271 x29 I_271 F_271 (by omega) (by rw [e2, e5, e8]; try omega) (by rw [e2, e5, e20, e23]; try omega) (by rw [e17]; try omega) R271_S (fun f9 hf9 => R271_C f9 (by omega)) (by omega)
          · skip
            refine kv_aload_n C 283 rfl 0 (kdec dk_cX10_restore 179 rfl) rfl rfl ?_
            refine kv_getr C 286 rfl 61 25 rfl rfl inX10 (by decide) mfl_TaleMachineModel_37 rfl rfl (kdec dk_cX10_restore 180 rfl) ?_
            refine kv_bipush C 288 rfl 16 (kdec dk_cX10_restore 181 rfl) rfl ?_
            refine kv_iload_n C 289 rfl 2 (kdec dk_cX10_restore 182 rfl) rfl rfl ?_
            refine kv_imul C 290 rfl (kdec dk_cX10_restore 183 rfl) (fun x32 h33e h33l h33u => ?_)
            obtain ⟨q34, g35⟩ := kf_mul 16 l2_271
            rw [← h33e, c_16] at g35
            try have h33n : x32.toInt = 16 * l2_271.toInt := by omega
            clear g35 q34
            refine kv_iload C 292 rfl 4 (kdec dk_cX10_restore 184 rfl) rfl ?_
            refine kv_iadd C 293 rfl (kdec dk_cX10_restore 185 rfl) (fun x36 q38 h37e h37 h37l h37u => ?_)
            try have h37n : x36.toInt = x32.toInt + l4_271.toInt := by omega
            clear h37 q38
            refine kv_aload_n C 294 rfl 0 (kdec dk_cX10_restore 186 rfl) rfl rfl ?_
            refine kv_getr C 297 rfl 61 36 rfl rfl inX10 (by decide) mfl_TaleMachineModel_56 rfl rfl (kdec dk_cX10_restore 187 rfl) ?_
            refine kv_iload_n C 298 rfl 3 (kdec dk_cX10_restore 188 rfl) rfl rfl ?_
            refine kv_iconst C 299 rfl 4 (kdec dk_cX10_restore 189 rfl) rfl ?_
            refine kv_iadd C 300 rfl (kdec dk_cX10_restore 190 rfl) (fun x39 q41 h40e h40 h40l h40u => ?_)
            try have h40n : x39.toInt = l3_271.toInt + (4 : Int32).toInt := by omega
            clear h40 q41
            refine kv_iload C 302 rfl 4 (kdec dk_cX10_restore 191 rfl) rfl ?_
            refine kv_iadd C 303 rfl (kdec dk_cX10_restore 192 rfl) (fun x42 q44 h43e h43 h43l h43u => ?_)
            try have h43n : x42.toInt = x39.toInt + l4_271.toInt := by omega
            clear h43 q44
            obtain ⟨x45, e46⟩ : ∃ z : Int32, w_271 77 (x42 : Int32).toNatClampNeg = z := ⟨_, rfl⟩
            have b47 : (0 : Int) ≤ x45.toInt ∧ x45.toInt ≤ 65535 := by rw [← e46]; exact I_271 77 _
            refine kv_iald C 304 rfl 77 rfl (by omega) (by omega) e46 (kdec dk_cX10_restore 193 rfl) ?_
            refine kv_iast C 305 rfl 71 rfl (by omega) (by omega) (kdec dk_cX10_restore 194 rfl) (fun w48 u49 => ?_)
            have I50 : kI false w48 := kI_put u49 I_271 (show (0 : Int) ≤ (x45 : Int32).toInt by omega) (show (x45 : Int32).toInt ≤ 65535 by omega)
            have F51 : kF [(61, some 12), (61, some 13), (61, some 14), (61, some 19), (61, some 20), (61, some 26), (61, some 27), (64, none), (66, none), (67, none), (68, none), (69, none), (70, none), (71, none)] w w48 := kF_put u49 F_271 rfl
            refine kv_iinc C 308 rfl 4 4 [1, 2, 3, 4, 0] (fun v9 => [(0, .ref (ρ 61)), (1, .int 1), (2, .int l2_271), (3, .int l3_271), (4, .int v9)]) (kdec dk_cX10_restore 195 rfl) rfl (by decide) (fun _ => rfl) 1 rfl (fun x52 q53 h54e h54 h54l h54u => ?_)
            try have h54n : x52.toInt = l4_271.toInt + 1 := by omega
            clear h54 q53
            refine kv_goto C 271 (kdec dk_cX10_restore 196 rfl) (by decide) ?_
            have e55 : w48 61 20 = x19 := ((kup_ne u49 rfl : w48 61 20 = w_271 61 20).trans e20)
            have e56 : w48 61 19 = x22 := ((kup_ne u49 rfl : w48 61 19 = w_271 61 19).trans e23)
            exact ih271 w48 l2_271 l3_271 x52 I50 F51 (by rw [e55]; try omega) (by omega) (by rw [e2, e5, e8]; try omega) (by rw [e2, e5, e55, e56]; try omega) (by rw [e17]; try omega) R271_S (fun f9 hf9 => ((kup_ne u49 rfl : w48 67 f9 = w_271 67 f9)).trans (R271_C f9 hf9)) (by omega)
      refine kv_iload_n C 196 rfl 2 (kdec dk_cX10_restore 121 rfl) rfl rfl ?_
      refine kv_aload_n C 197 rfl 0 (kdec dk_cX10_restore 122 rfl) rfl rfl ?_
      refine kv_get C 200 rfl 61 20 rfl rfl inX10 (by decide) mfl_TaleMachineModel_139 rfl rfl (kdec dk_cX10_restore 123 rfl) e11 ?_
      refine kv_icmp_ge C 203 rfl 317 (kdec dk_cX10_restore 124 rfl) (by decide) (fun d57 => ?_) (fun d57 => ?_)
      · skip
        have M58 : kMoT w_195 := kMoT_rest (k := 1) R195_S (fun f9 hf9 => R195_C f9 (by rw [show w 78 (7 * 1 + 1) = _ from e2] at hf9; omega)) (Int32.toInt_inj.mp (by rw [e11, show w 78 (7 * 1 + 1) = _ from e2]; omega)) (Int32.toInt_inj.mp (by rw [e14, show w 78 (7 * 1) = _ from e5]; omega))
        refine kv_iconst C 318 rfl 1 (kdec dk_cX10_restore 199 rfl) rfl ?_
        exact kv_iret C hr hlk (kdec dk_cX10_restore 200 rfl) ⟨_, rfl, I_195, F_195, (by rw [e17]; try omega), (Or.inr M58)⟩
      · skip
        refine kv_sipush C 206 rfl 1920 (kdec dk_cX10_restore 125 rfl) rfl ?_
        refine kv_iload_n C 207 rfl 1 (kdec dk_cX10_restore 126 rfl) rfl rfl ?_
        refine kv_imul C 208 rfl (kdec dk_cX10_restore 127 rfl) (fun x59 h60e h60l h60u => ?_)
        obtain rfl : x59 = 1920 := by rw [h60e]; decide
        refine kv_bipush C 210 rfl 24 (kdec dk_cX10_restore 128 rfl) rfl ?_
        refine kv_iload_n C 211 rfl 2 (kdec dk_cX10_restore 129 rfl) rfl rfl ?_
        refine kv_imul C 212 rfl (kdec dk_cX10_restore 130 rfl) (fun x61 h62e h62l h62u => ?_)
        obtain ⟨q63, g64⟩ := kf_mul 24 l2_195
        rw [← h62e, c_24] at g64
        try have h62n : x61.toInt = 24 * l2_195.toInt := by omega
        clear g64 q63
        refine kv_iadd C 213 rfl (kdec dk_cX10_restore 131 rfl) (fun x65 q67 h66e h66 h66l h66u => ?_)
        try have h66n : x65.toInt = (1920 : Int32).toInt + x61.toInt := by omega
        clear h66 q67
        refine kv_istore_n C 214 rfl 3 [1, 2, 3, 0] [(0, .ref (ρ 61)), (1, .int 1), (2, .int l2_195), (3, .int x65)] (kdec dk_cX10_restore 132 rfl) rfl (by decide) rfl ?_
        refine kv_aload_n C 215 rfl 0 (kdec dk_cX10_restore 133 rfl) rfl rfl ?_
        refine kv_getr C 218 rfl 61 21 rfl rfl inX10 (by decide) mfl_TaleMachineModel_25 rfl rfl (kdec dk_cX10_restore 134 rfl) ?_
        refine kv_iload_n C 219 rfl 2 (kdec dk_cX10_restore 135 rfl) rfl rfl ?_
        refine kv_aload_n C 220 rfl 0 (kdec dk_cX10_restore 136 rfl) rfl rfl ?_
        refine kv_getr C 223 rfl 61 36 rfl rfl inX10 (by decide) mfl_TaleMachineModel_56 rfl rfl (kdec dk_cX10_restore 137 rfl) ?_
        refine kv_iload_n C 224 rfl 3 (kdec dk_cX10_restore 138 rfl) rfl rfl ?_
        obtain ⟨x68, e69⟩ : ∃ z : Int32, w_195 77 (x65 : Int32).toNatClampNeg = z := ⟨_, rfl⟩
        have b70 : (0 : Int) ≤ x68.toInt ∧ x68.toInt ≤ 65535 := by rw [← e69]; exact I_195 77 _
        refine kv_iald C 225 rfl 77 rfl (by omega) (by omega) e69 (kdec dk_cX10_restore 139 rfl) ?_
        have t71 := kSlot_b R195_S (l := l2_195) 0 120 (by decide) (by omega) (show _ < (w 78 8).toInt by rw [e2]; omega) (by omega) ((F_195 77 _ rfl).symm.trans e69)
        refine kv_iast C 226 rfl 67 rfl (by omega) (by omega) (kdec dk_cX10_restore 140 rfl) (fun w72 u73 => ?_)
        have I74 : kI false w72 := kI_put u73 I_195 (show (0 : Int) ≤ (x68 : Int32).toInt by omega) (show (x68 : Int32).toInt ≤ 120 by omega)
        have F75 : kF [(61, some 12), (61, some 13), (61, some 14), (61, some 19), (61, some 20), (61, some 26), (61, some 27), (64, none), (66, none), (67, none), (68, none), (69, none), (70, none), (71, none)] w w72 := kF_put u73 F_195 rfl
        refine kv_aload_n C 227 rfl 0 (kdec dk_cX10_restore 141 rfl) rfl rfl ?_
        refine kv_getr C 230 rfl 61 22 rfl rfl inX10 (by decide) mfl_TaleMachineModel_28 rfl rfl (kdec dk_cX10_restore 142 rfl) ?_
        refine kv_iload_n C 231 rfl 2 (kdec dk_cX10_restore 143 rfl) rfl rfl ?_
        refine kv_aload_n C 232 rfl 0 (kdec dk_cX10_restore 144 rfl) rfl rfl ?_
        refine kv_getr C 235 rfl 61 36 rfl rfl inX10 (by decide) mfl_TaleMachineModel_56 rfl rfl (kdec dk_cX10_restore 145 rfl) ?_
        refine kv_iload_n C 236 rfl 3 (kdec dk_cX10_restore 146 rfl) rfl rfl ?_
        refine kv_iconst C 237 rfl 1 (kdec dk_cX10_restore 147 rfl) rfl ?_
        refine kv_iadd C 238 rfl (kdec dk_cX10_restore 148 rfl) (fun x76 q78 h77e h77 h77l h77u => ?_)
        try have h77n : x76.toInt = x65.toInt + (1 : Int32).toInt := by omega
        clear h77 q78
        obtain ⟨x79, e80⟩ : ∃ z : Int32, w72 77 (x76 : Int32).toNatClampNeg = z := ⟨_, rfl⟩
        have b81 : (0 : Int) ≤ x79.toInt ∧ x79.toInt ≤ 65535 := by rw [← e80]; exact I74 77 _
        refine kv_iald C 239 rfl 77 rfl (by omega) (by omega) e80 (kdec dk_cX10_restore 149 rfl) ?_
        refine kv_iast C 240 rfl 68 rfl (by omega) (by omega) (kdec dk_cX10_restore 150 rfl) (fun w82 u83 => ?_)
        have I84 : kI false w82 := kI_put u83 I74 (show (0 : Int) ≤ (x79 : Int32).toInt by omega) (show (x79 : Int32).toInt ≤ 65535 by omega)
        have F85 : kF [(61, some 12), (61, some 13), (61, some 14), (61, some 19), (61, some 20), (61, some 26), (61, some 27), (64, none), (66, none), (67, none), (68, none), (69, none), (70, none), (71, none)] w w82 := kF_put u83 F75 rfl
        refine kv_aload_n C 241 rfl 0 (kdec dk_cX10_restore 151 rfl) rfl rfl ?_
        refine kv_getr C 244 rfl 61 23 rfl rfl inX10 (by decide) mfl_TaleMachineModel_31 rfl rfl (kdec dk_cX10_restore 152 rfl) ?_
        refine kv_iload_n C 245 rfl 2 (kdec dk_cX10_restore 153 rfl) rfl rfl ?_
        refine kv_aload_n C 246 rfl 0 (kdec dk_cX10_restore 154 rfl) rfl rfl ?_
        refine kv_getr C 249 rfl 61 36 rfl rfl inX10 (by decide) mfl_TaleMachineModel_56 rfl rfl (kdec dk_cX10_restore 155 rfl) ?_
        refine kv_iload_n C 250 rfl 3 (kdec dk_cX10_restore 156 rfl) rfl rfl ?_
        refine kv_iconst C 251 rfl 2 (kdec dk_cX10_restore 157 rfl) rfl ?_
        refine kv_iadd C 252 rfl (kdec dk_cX10_restore 158 rfl) (fun x86 q88 h87e h87 h87l h87u => ?_)
        try have h87n : x86.toInt = x65.toInt + (2 : Int32).toInt := by omega
        clear h87 q88
        obtain ⟨x89, e90⟩ : ∃ z : Int32, w82 77 (x86 : Int32).toNatClampNeg = z := ⟨_, rfl⟩
        have b91 : (0 : Int) ≤ x89.toInt ∧ x89.toInt ≤ 65535 := by rw [← e90]; exact I84 77 _
        refine kv_iald C 253 rfl 77 rfl (by omega) (by omega) e90 (kdec dk_cX10_restore 159 rfl) ?_
        have t92 := kSlot_b R195_S (l := l2_195) 2 255 (by decide) (by omega) (show _ < (w 78 8).toInt by rw [e2]; omega) (by omega) ((F85 77 _ rfl).symm.trans e90)
        refine kv_iast C 254 rfl 69 rfl (by omega) (by omega) (kdec dk_cX10_restore 160 rfl) (fun w93 u94 => ?_)
        have I95 : kI false w93 := kI_put u94 I84 (show (0 : Int) ≤ (x89 : Int32).toInt by omega) (show (x89 : Int32).toInt ≤ 255 by omega)
        have F96 : kF [(61, some 12), (61, some 13), (61, some 14), (61, some 19), (61, some 20), (61, some 26), (61, some 27), (64, none), (66, none), (67, none), (68, none), (69, none), (70, none), (71, none)] w w93 := kF_put u94 F85 rfl
        refine kv_aload_n C 255 rfl 0 (kdec dk_cX10_restore 161 rfl) rfl rfl ?_
        refine kv_getr C 258 rfl 61 24 rfl rfl inX10 (by decide) mfl_TaleMachineModel_34 rfl rfl (kdec dk_cX10_restore 162 rfl) ?_
        refine kv_iload_n C 259 rfl 2 (kdec dk_cX10_restore 163 rfl) rfl rfl ?_
        refine kv_aload_n C 260 rfl 0 (kdec dk_cX10_restore 164 rfl) rfl rfl ?_
        refine kv_getr C 263 rfl 61 36 rfl rfl inX10 (by decide) mfl_TaleMachineModel_56 rfl rfl (kdec dk_cX10_restore 165 rfl) ?_
        refine kv_iload_n C 264 rfl 3 (kdec dk_cX10_restore 166 rfl) rfl rfl ?_
        refine kv_iconst C 265 rfl 3 (kdec dk_cX10_restore 167 rfl) rfl ?_
        refine kv_iadd C 266 rfl (kdec dk_cX10_restore 168 rfl) (fun x97 q99 h98e h98 h98l h98u => ?_)
        try have h98n : x97.toInt = x65.toInt + (3 : Int32).toInt := by omega
        clear h98 q99
        obtain ⟨x100, e101⟩ : ∃ z : Int32, w93 77 (x97 : Int32).toNatClampNeg = z := ⟨_, rfl⟩
        have b102 : (0 : Int) ≤ x100.toInt ∧ x100.toInt ≤ 65535 := by rw [← e101]; exact I95 77 _
        refine kv_iald C 267 rfl 77 rfl (by omega) (by omega) e101 (kdec dk_cX10_restore 169 rfl) ?_
        have t103 := kSlot_b R195_S (l := l2_195) 3 15 (by decide) (by omega) (show _ < (w 78 8).toInt by rw [e2]; omega) (by omega) ((F96 77 _ rfl).symm.trans e101)
        refine kv_iast C 268 rfl 70 rfl (by omega) (by omega) (kdec dk_cX10_restore 170 rfl) (fun w104 u105 => ?_)
        have I106 : kI false w104 := kI_put u105 I95 (show (0 : Int) ≤ (x100 : Int32).toInt by omega) (show (x100 : Int32).toInt ≤ 15 by omega)
        have F107 : kF [(61, some 12), (61, some 13), (61, some 14), (61, some 19), (61, some 20), (61, some 26), (61, some 27), (64, none), (66, none), (67, none), (68, none), (69, none), (70, none), (71, none)] w w104 := kF_put u105 F96 rfl
        refine kv_iconst C 269 rfl 1 (kdec dk_cX10_restore 171 rfl) rfl ?_
        refine kv_istore C 271 rfl 4 [1, 2, 3, 4, 0] [(0, .ref (ρ 61)), (1, .int 1), (2, .int l2_195), (3, .int x65), (4, .int 1)] (kdec dk_cX10_restore 172 rfl) (by decide) rfl ?_
        have e108 : w104 61 20 = x10 := ((kup_ne u105 rfl : w104 61 20 = w93 61 20).trans ((kup_ne u94 rfl : w93 61 20 = w82 61 20).trans ((kup_ne u83 rfl : w82 61 20 = w72 61 20).trans ((kup_ne u73 rfl : w72 61 20 = w_195 61 20).trans e11))))
        have e109 : w104 61 19 = x13 := ((kup_ne u105 rfl : w104 61 19 = w93 61 19).trans ((kup_ne u94 rfl : w93 61 19 = w82 61 19).trans ((kup_ne u83 rfl : w82 61 19 = w72 61 19).trans ((kup_ne u73 rfl : w72 61 19 = w_195 61 19).trans e14))))
        exact cut271 ((((17 - (1 : Int32).toInt)) : Int).toNat + 1) w104 l2_195 x65 1 I106 F107 (by rw [e108]; try omega) (by omega) (by rw [e2, e5, e8]; try omega) (by rw [e2, e5, e108, e109]; try omega) (by rw [e17]; try omega) R195_S (fun f9 hf9 => (((kup_ne u105 rfl : w104 67 f9 = w93 67 f9).trans ((kup_ne u94 rfl : w93 67 f9 = w82 67 f9).trans (kup_ne u83 rfl : w82 67 f9 = w72 67 f9)))).trans (kC_add R195_C u73 (by omega) (by omega) ((F_195 77 _ rfl).symm.trans e69) f9 hf9)) (by omega)
  have cut162 : ∀ (n_162 : Nat) (w_162 : kw) (l2_162 : Int32), kI false w_162 → kF [(61, some 12), (61, some 13), (61, some 14), (61, some 19), (61, some 20), (61, some 26), (61, some 27), (64, none), (66, none), (67, none), (68, none), (69, none), (70, none), (71, none)] w w_162 → (0 ≤ l2_162.toInt ∧ l2_162.toInt ≤ 120) → (1 ≤ (w 78 8).toInt ∧ (w 78 8).toInt ≤ 20 ∧ (w 78 7).toInt ≤ 120 ∧ (w 78 10).toInt ≤ 4) → ((w_162 61 20).toInt = (w 78 8).toInt ∧ (w_162 61 19).toInt = (w 78 7).toInt) → (¬ (w 61 3).toInt = 0) → (kSlot w 1) → ((121 - l2_162.toInt) : Int) < (n_162 : Int) → kV p l e { frames := 1, cells := 0, slots := 0, locals := 36 } s m args below meth c (kQ below args s D τ ρ (fun o w' => ∃ r : Int32, o = some (.int r) ∧ kI false w' ∧ kF [(61, some 12), (61, some 13), (61, some 14), (61, some 19), (61, some 20), (61, some 26), (61, some 27), (64, none), (66, none), (67, none), (68, none), (69, none), (70, none), (71, none)] w w' ∧ (¬ (w 61 3).toInt = 0 ∨ ((1 : Int32).toInt < 0 ∨ 3 < (1 : Int32).toInt) ∧ r.toInt = -1 ∨ 0 ≤ (1 : Int32).toInt ∧ (1 : Int32).toInt ≤ 3 ∧ r.toInt = -2) ∧ ((w' 61 3).toInt = 0 ∧ (w' 61 12).toInt = 0 ∨ kMoT w'))) 5 D τ ρ 162 [(0, .ref (ρ 61)), (1, .int 1), (2, .int l2_162)] [] w_162 := by
    intro n_162
    induction n_162 with
    | zero => intro w_162 l2_162 I_162 F_162 k162_0 k162_1 k162_2 k162_3 R162_S hmz; exfalso; omega
    | succ n_162 ih162 =>
      intro w_162 l2_162 I_162 F_162 k162_0 k162_1 k162_2 k162_3 R162_S hm162
      have gl2_162 := kf_rng l2_162
      obtain ⟨x110, e111⟩ : ∃ z : Int32, w 78 8 = z := ⟨_, rfl⟩
      have b112 : (0 : Int) ≤ x110.toInt ∧ x110.toInt ≤ 65535 := by rw [← e111]; exact hI 78 8
      obtain ⟨x113, e114⟩ : ∃ z : Int32, w 78 7 = z := ⟨_, rfl⟩
      have b115 : (0 : Int) ≤ x113.toInt ∧ x113.toInt ≤ 65535 := by rw [← e114]; exact hI 78 7
      obtain ⟨x116, e117⟩ : ∃ z : Int32, w 78 10 = z := ⟨_, rfl⟩
      have b118 : (0 : Int) ≤ x116.toInt ∧ x116.toInt ≤ 65535 := by rw [← e117]; exact hI 78 10
      rw [e111, e114, e117] at k162_1
      obtain ⟨x119, e120⟩ : ∃ z : Int32, w_162 61 20 = z := ⟨_, rfl⟩
      have b121 : (0 : Int) ≤ x119.toInt ∧ x119.toInt ≤ 20 := by rw [← e120]; exact I_162 61 20
      obtain ⟨x122, e123⟩ : ∃ z : Int32, w_162 61 19 = z := ⟨_, rfl⟩
      have b124 : (0 : Int) ≤ x122.toInt ∧ x122.toInt ≤ 120 := by rw [← e123]; exact I_162 61 19
      rw [e111, e114, e120, e123] at k162_2
      obtain ⟨x125, e126⟩ : ∃ z : Int32, w 61 3 = z := ⟨_, rfl⟩
      have b127 : (0 : Int) ≤ x125.toInt ∧ x125.toInt ≤ 1 := by rw [← e126]; exact hI 61 3
      rw [e126] at k162_3
      refine kv_iload_n C 163 rfl 2 (kdec dk_cX10_restore 101 rfl) rfl rfl ?_
      refine kv_aload_n C 164 rfl 0 (kdec dk_cX10_restore 102 rfl) rfl rfl ?_
      refine kv_get C 167 rfl 61 19 rfl rfl inX10 (by decide) mfl_TaleMachineModel_136 rfl rfl (kdec dk_cX10_restore 103 rfl) e123 ?_
      refine kv_icmp_ge C 170 rfl 193 (kdec dk_cX10_restore 104 rfl) (by decide) (fun d128 => ?_) (fun d128 => ?_)
      · skip
        refine kv_iconst C 194 rfl 0 (kdec dk_cX10_restore 119 rfl) rfl ?_
        refine kv_istore_n C 195 rfl 2 [1, 2, 0] [(0, .ref (ρ 61)), (1, .int 1), (2, .int 0)] (kdec dk_cX10_restore 120 rfl) rfl (by decide) rfl ?_
        exact cut195 ((((21 - (0 : Int32).toInt)) : Int).toNat + 1) w_162 0 I_162 F_162 (by omega) (by rw [e111, e114, e117]; try omega) (by rw [e111, e114, e120, e123]; try omega) (by rw [e126]; try omega) R162_S (fun f9 hf9 => by exfalso; omega) (by omega)
      · skip
        refine kv_aload_n C 171 rfl 0 (kdec dk_cX10_restore 105 rfl) rfl rfl ?_
        refine kv_getr C 174 rfl 61 18 rfl rfl inX10 (by decide) mfl_TaleMachineModel_22 rfl rfl (kdec dk_cX10_restore 106 rfl) ?_
        refine kv_iload_n C 175 rfl 2 (kdec dk_cX10_restore 107 rfl) rfl rfl ?_
        refine kv_aload_n C 176 rfl 0 (kdec dk_cX10_restore 108 rfl) rfl rfl ?_
        refine kv_getr C 179 rfl 61 35 rfl rfl inX10 (by decide) mfl_TaleMachineModel_53 rfl rfl (kdec dk_cX10_restore 109 rfl) ?_
        refine kv_bipush C 181 rfl 120 (kdec dk_cX10_restore 110 rfl) rfl ?_
        refine kv_iload_n C 182 rfl 1 (kdec dk_cX10_restore 111 rfl) rfl rfl ?_
        refine kv_imul C 183 rfl (kdec dk_cX10_restore 112 rfl) (fun x129 h130e h130l h130u => ?_)
        obtain rfl : x129 = 120 := by rw [h130e]; decide
        refine kv_iload_n C 184 rfl 2 (kdec dk_cX10_restore 113 rfl) rfl rfl ?_
        refine kv_iadd C 185 rfl (kdec dk_cX10_restore 114 rfl) (fun x131 q133 h132e h132 h132l h132u => ?_)
        try have h132n : x131.toInt = (120 : Int32).toInt + l2_162.toInt := by omega
        clear h132 q133
        obtain ⟨x134, e135⟩ : ∃ z : Int32, w_162 76 (x131 : Int32).toNatClampNeg = z := ⟨_, rfl⟩
        have b136 : (0 : Int) ≤ x134.toInt ∧ x134.toInt ≤ 65535 := by rw [← e135]; exact I_162 76 _
        refine kv_iald C 186 rfl 76 rfl (by omega) (by omega) e135 (kdec dk_cX10_restore 115 rfl) ?_
        refine kv_iast C 187 rfl 66 rfl (by omega) (by omega) (kdec dk_cX10_restore 116 rfl) (fun w137 u138 => ?_)
        have I139 : kI false w137 := kI_put u138 I_162 (show (0 : Int) ≤ (x134 : Int32).toInt by omega) (show (x134 : Int32).toInt ≤ 65535 by omega)
        have F140 : kF [(61, some 12), (61, some 13), (61, some 14), (61, some 19), (61, some 20), (61, some 26), (61, some 27), (64, none), (66, none), (67, none), (68, none), (69, none), (70, none), (71, none)] w w137 := kF_put u138 F_162 rfl
        refine kv_iinc C 190 rfl 2 2 [1, 2, 0] (fun v9 => [(0, .ref (ρ 61)), (1, .int 1), (2, .int v9)]) (kdec dk_cX10_restore 117 rfl) rfl (by decide) (fun _ => rfl) 1 rfl (fun x141 q142 h143e h143 h143l h143u => ?_)
        try have h143n : x141.toInt = l2_162.toInt + 1 := by omega
        clear h143 q142
        refine kv_goto C 162 (kdec dk_cX10_restore 118 rfl) (by decide) ?_
        have e144 : w137 61 20 = x119 := ((kup_ne u138 rfl : w137 61 20 = w_162 61 20).trans e120)
        have e145 : w137 61 19 = x122 := ((kup_ne u138 rfl : w137 61 19 = w_162 61 19).trans e123)
        exact ih162 w137 x141 I139 F140 (by omega) (by rw [e111, e114, e117]; try omega) (by rw [e111, e114, e144, e145]; try omega) (by rw [e126]; try omega) R162_S (by omega)
  have cut35 : ∀ (n_35 : Nat) (w_35 : kw) (l2_35 : Int32), kI false w_35 → kF [(61, some 12), (61, some 13), (61, some 14), (61, some 19), (61, some 20), (61, some 26), (61, some 27), (64, none), (66, none), (67, none), (68, none), (69, none), (70, none), (71, none)] w w_35 → (0 ≤ l2_35.toInt ∧ l2_35.toInt ≤ 1024) → (1 ≤ (w 78 8).toInt ∧ (w 78 8).toInt ≤ 20 ∧ (w 78 7).toInt ≤ 120 ∧ (w 78 10).toInt ≤ 4) → (¬ (w 61 3).toInt = 0) → (kSlot w 1) → ((1025 - l2_35.toInt) : Int) < (n_35 : Int) → kV p l e { frames := 1, cells := 0, slots := 0, locals := 36 } s m args below meth c (kQ below args s D τ ρ (fun o w' => ∃ r : Int32, o = some (.int r) ∧ kI false w' ∧ kF [(61, some 12), (61, some 13), (61, some 14), (61, some 19), (61, some 20), (61, some 26), (61, some 27), (64, none), (66, none), (67, none), (68, none), (69, none), (70, none), (71, none)] w w' ∧ (¬ (w 61 3).toInt = 0 ∨ ((1 : Int32).toInt < 0 ∨ 3 < (1 : Int32).toInt) ∧ r.toInt = -1 ∨ 0 ≤ (1 : Int32).toInt ∧ (1 : Int32).toInt ≤ 3 ∧ r.toInt = -2) ∧ ((w' 61 3).toInt = 0 ∧ (w' 61 12).toInt = 0 ∨ kMoT w'))) 5 D τ ρ 35 [(0, .ref (ρ 61)), (1, .int 1), (2, .int l2_35)] [] w_35 := by
    intro n_35
    induction n_35 with
    | zero => intro w_35 l2_35 I_35 F_35 k35_0 k35_1 k35_2 R35_S hmz; exfalso; omega
    | succ n_35 ih35 =>
      intro w_35 l2_35 I_35 F_35 k35_0 k35_1 k35_2 R35_S hm35
      have gl2_35 := kf_rng l2_35
      obtain ⟨x146, e147⟩ : ∃ z : Int32, w 78 8 = z := ⟨_, rfl⟩
      have b148 : (0 : Int) ≤ x146.toInt ∧ x146.toInt ≤ 65535 := by rw [← e147]; exact hI 78 8
      obtain ⟨x149, e150⟩ : ∃ z : Int32, w 78 7 = z := ⟨_, rfl⟩
      have b151 : (0 : Int) ≤ x149.toInt ∧ x149.toInt ≤ 65535 := by rw [← e150]; exact hI 78 7
      obtain ⟨x152, e153⟩ : ∃ z : Int32, w 78 10 = z := ⟨_, rfl⟩
      have b154 : (0 : Int) ≤ x152.toInt ∧ x152.toInt ≤ 65535 := by rw [← e153]; exact hI 78 10
      rw [e147, e150, e153] at k35_1
      obtain ⟨x155, e156⟩ : ∃ z : Int32, w 61 3 = z := ⟨_, rfl⟩
      have b157 : (0 : Int) ≤ x155.toInt ∧ x155.toInt ≤ 1 := by rw [← e156]; exact hI 61 3
      rw [e156] at k35_2
      refine kv_iload_n C 36 rfl 2 (kdec dk_cX10_restore 20 rfl) rfl rfl ?_
      refine kv_aload_n C 37 rfl 0 (kdec dk_cX10_restore 21 rfl) rfl rfl ?_
      obtain ⟨x158, e159⟩ : ∃ z : Int32, w 61 7 = z := ⟨_, rfl⟩
      have b160 : (0 : Int) ≤ x158.toInt ∧ x158.toInt ≤ 1024 := by rw [← e159]; exact hI 61 7
      have e161 : w_35 61 7 = x158 := ((F_35 61 7 rfl : w_35 61 7 = w 61 7).trans e159)
      refine kv_get C 40 rfl 61 7 rfl rfl inX10 (by decide) mfl_TaleMachineModel_118 rfl rfl (kdec dk_cX10_restore 22 rfl) e161 ?_
      refine kv_icmp_ge C 43 rfl 67 (kdec dk_cX10_restore 23 rfl) (by decide) (fun d162 => ?_) (fun d162 => ?_)
      · skip
        refine kv_aload_n C 68 rfl 0 (kdec dk_cX10_restore 38 rfl) rfl rfl ?_
        refine kv_aload_n C 69 rfl 0 (kdec dk_cX10_restore 39 rfl) rfl rfl ?_
        refine kv_getr C 72 rfl 61 37 rfl rfl inX10 (by decide) mfl_TaleMachineModel_59 rfl rfl (kdec dk_cX10_restore 40 rfl) ?_
        refine kv_bipush C 74 rfl 7 (kdec dk_cX10_restore 41 rfl) rfl ?_
        refine kv_iload_n C 75 rfl 1 (kdec dk_cX10_restore 42 rfl) rfl rfl ?_
        refine kv_imul C 76 rfl (kdec dk_cX10_restore 43 rfl) (fun x163 h164e h164l h164u => ?_)
        obtain rfl : x163 = 7 := by rw [h164e]; decide
        have e165 : w_35 78 7 = x149 := ((F_35 78 7 rfl : w_35 78 7 = w 78 7).trans e150)
        refine kv_iald C 77 rfl 78 rfl (by omega) (by omega) (show w_35 78 (7 : Int32).toNatClampNeg = x149 from e165) (kdec dk_cX10_restore 44 rfl) ?_
        refine kv_put C 80 rfl 61 19 rfl rfl inX10 (by decide) mfl_TaleMachineModel_136 rfl tyX10 tyX10_ok nmX10 rfl rfl (kdec dk_cX10_restore 45 rfl) rfl rfl (fun w166 u167 => ?_)
        have I168 : kI false w166 := kI_put u167 I_35 (show (0 : Int) ≤ (x149 : Int32).toInt by omega) (show (x149 : Int32).toInt ≤ 120 by omega)
        have F169 : kF [(61, some 12), (61, some 13), (61, some 14), (61, some 19), (61, some 20), (61, some 26), (61, some 27), (64, none), (66, none), (67, none), (68, none), (69, none), (70, none), (71, none)] w w166 := kF_put u167 F_35 rfl
        refine kv_aload_n C 81 rfl 0 (kdec dk_cX10_restore 46 rfl) rfl rfl ?_
        refine kv_aload_n C 82 rfl 0 (kdec dk_cX10_restore 47 rfl) rfl rfl ?_
        refine kv_getr C 85 rfl 61 37 rfl rfl inX10 (by decide) mfl_TaleMachineModel_59 rfl rfl (kdec dk_cX10_restore 48 rfl) ?_
        refine kv_bipush C 87 rfl 7 (kdec dk_cX10_restore 49 rfl) rfl ?_
        refine kv_iload_n C 88 rfl 1 (kdec dk_cX10_restore 50 rfl) rfl rfl ?_
        refine kv_imul C 89 rfl (kdec dk_cX10_restore 51 rfl) (fun x170 h171e h171l h171u => ?_)
        obtain rfl : x170 = 7 := by rw [h171e]; decide
        refine kv_iconst C 90 rfl 1 (kdec dk_cX10_restore 52 rfl) rfl ?_
        refine kv_iadd C 91 rfl (kdec dk_cX10_restore 53 rfl) (fun x172 q174 h173e h173 h173l h173u => ?_)
        try have h173n : x172.toInt = (7 : Int32).toInt + (1 : Int32).toInt := by omega
        clear h173 q174
        obtain rfl : x172 = 8 := by rw [h173e]; decide
        have e175 : w166 78 8 = x146 := ((kup_ne u167 rfl : w166 78 8 = w_35 78 8).trans ((F_35 78 8 rfl : w_35 78 8 = w 78 8).trans e147))
        refine kv_iald C 92 rfl 78 rfl (by omega) (by omega) (show w166 78 (8 : Int32).toNatClampNeg = x146 from e175) (kdec dk_cX10_restore 54 rfl) ?_
        refine kv_put C 95 rfl 61 20 rfl rfl inX10 (by decide) mfl_TaleMachineModel_139 rfl tyX10 tyX10_ok nmX10 rfl rfl (kdec dk_cX10_restore 55 rfl) rfl rfl (fun w176 u177 => ?_)
        have I178 : kI false w176 := kI_put u177 I168 (show (0 : Int) ≤ (x146 : Int32).toInt by omega) (show (x146 : Int32).toInt ≤ 20 by omega)
        have F179 : kF [(61, some 12), (61, some 13), (61, some 14), (61, some 19), (61, some 20), (61, some 26), (61, some 27), (64, none), (66, none), (67, none), (68, none), (69, none), (70, none), (71, none)] w w176 := kF_put u177 F169 rfl
        refine kv_aload_n C 96 rfl 0 (kdec dk_cX10_restore 56 rfl) rfl rfl ?_
        refine kv_aload_n C 97 rfl 0 (kdec dk_cX10_restore 57 rfl) rfl rfl ?_
        refine kv_getr C 100 rfl 61 37 rfl rfl inX10 (by decide) mfl_TaleMachineModel_59 rfl rfl (kdec dk_cX10_restore 58 rfl) ?_
        refine kv_bipush C 102 rfl 7 (kdec dk_cX10_restore 59 rfl) rfl ?_
        refine kv_iload_n C 103 rfl 1 (kdec dk_cX10_restore 60 rfl) rfl rfl ?_
        refine kv_imul C 104 rfl (kdec dk_cX10_restore 61 rfl) (fun x180 h181e h181l h181u => ?_)
        obtain rfl : x180 = 7 := by rw [h181e]; decide
        refine kv_iconst C 105 rfl 2 (kdec dk_cX10_restore 62 rfl) rfl ?_
        refine kv_iadd C 106 rfl (kdec dk_cX10_restore 63 rfl) (fun x182 q184 h183e h183 h183l h183u => ?_)
        try have h183n : x182.toInt = (7 : Int32).toInt + (2 : Int32).toInt := by omega
        clear h183 q184
        obtain rfl : x182 = 9 := by rw [h183e]; decide
        obtain ⟨x185, e186⟩ : ∃ z : Int32, w 78 9 = z := ⟨_, rfl⟩
        have b187 : (0 : Int) ≤ x185.toInt ∧ x185.toInt ≤ 65535 := by rw [← e186]; exact hI 78 9
        have e188 : w176 78 9 = x185 := ((kup_ne u177 rfl : w176 78 9 = w166 78 9).trans ((kup_ne u167 rfl : w166 78 9 = w_35 78 9).trans ((F_35 78 9 rfl : w_35 78 9 = w 78 9).trans e186)))
        refine kv_iald C 107 rfl 78 rfl (by omega) (by omega) (show w176 78 (9 : Int32).toNatClampNeg = x185 from e188) (kdec dk_cX10_restore 64 rfl) ?_
        refine kv_put C 110 rfl 61 14 rfl rfl inX10 (by decide) mfl_TaleMachineModel_142 rfl tyX10 tyX10_ok nmX10 rfl rfl (kdec dk_cX10_restore 65 rfl) rfl rfl (fun w189 u190 => ?_)
        have I191 : kI false w189 := kI_put u190 I178 (show (0 : Int) ≤ (x185 : Int32).toInt by omega) (show (x185 : Int32).toInt ≤ 65535 by omega)
        have F192 : kF [(61, some 12), (61, some 13), (61, some 14), (61, some 19), (61, some 20), (61, some 26), (61, some 27), (64, none), (66, none), (67, none), (68, none), (69, none), (70, none), (71, none)] w w189 := kF_put u190 F179 rfl
        refine kv_aload_n C 111 rfl 0 (kdec dk_cX10_restore 66 rfl) rfl rfl ?_
        refine kv_aload_n C 112 rfl 0 (kdec dk_cX10_restore 67 rfl) rfl rfl ?_
        refine kv_getr C 115 rfl 61 37 rfl rfl inX10 (by decide) mfl_TaleMachineModel_59 rfl rfl (kdec dk_cX10_restore 68 rfl) ?_
        refine kv_bipush C 117 rfl 7 (kdec dk_cX10_restore 69 rfl) rfl ?_
        refine kv_iload_n C 118 rfl 1 (kdec dk_cX10_restore 70 rfl) rfl rfl ?_
        refine kv_imul C 119 rfl (kdec dk_cX10_restore 71 rfl) (fun x193 h194e h194l h194u => ?_)
        obtain rfl : x193 = 7 := by rw [h194e]; decide
        refine kv_iconst C 120 rfl 3 (kdec dk_cX10_restore 72 rfl) rfl ?_
        refine kv_iadd C 121 rfl (kdec dk_cX10_restore 73 rfl) (fun x195 q197 h196e h196 h196l h196u => ?_)
        try have h196n : x195.toInt = (7 : Int32).toInt + (3 : Int32).toInt := by omega
        clear h196 q197
        obtain rfl : x195 = 10 := by rw [h196e]; decide
        have e198 : w189 78 10 = x152 := ((kup_ne u190 rfl : w189 78 10 = w176 78 10).trans ((kup_ne u177 rfl : w176 78 10 = w166 78 10).trans ((kup_ne u167 rfl : w166 78 10 = w_35 78 10).trans ((F_35 78 10 rfl : w_35 78 10 = w 78 10).trans e153))))
        refine kv_iald C 122 rfl 78 rfl (by omega) (by omega) (show w189 78 (10 : Int32).toNatClampNeg = x152 from e198) (kdec dk_cX10_restore 74 rfl) ?_
        refine kv_put C 125 rfl 61 12 rfl rfl inX10 (by decide) mfl_TaleMachineModel_112 rfl tyX10 tyX10_ok nmX10 rfl rfl (kdec dk_cX10_restore 75 rfl) rfl rfl (fun w199 u200 => ?_)
        have I201 : kI false w199 := kI_put u200 I191 (show (0 : Int) ≤ (x152 : Int32).toInt by omega) (show (x152 : Int32).toInt ≤ 4 by omega)
        have F202 : kF [(61, some 12), (61, some 13), (61, some 14), (61, some 19), (61, some 20), (61, some 26), (61, some 27), (64, none), (66, none), (67, none), (68, none), (69, none), (70, none), (71, none)] w w199 := kF_put u200 F192 rfl
        refine kv_aload_n C 126 rfl 0 (kdec dk_cX10_restore 76 rfl) rfl rfl ?_
        refine kv_aload_n C 127 rfl 0 (kdec dk_cX10_restore 77 rfl) rfl rfl ?_
        refine kv_getr C 130 rfl 61 37 rfl rfl inX10 (by decide) mfl_TaleMachineModel_59 rfl rfl (kdec dk_cX10_restore 78 rfl) ?_
        refine kv_bipush C 132 rfl 7 (kdec dk_cX10_restore 79 rfl) rfl ?_
        refine kv_iload_n C 133 rfl 1 (kdec dk_cX10_restore 80 rfl) rfl rfl ?_
        refine kv_imul C 134 rfl (kdec dk_cX10_restore 81 rfl) (fun x203 h204e h204l h204u => ?_)
        obtain rfl : x203 = 7 := by rw [h204e]; decide
        refine kv_iconst C 135 rfl 4 (kdec dk_cX10_restore 82 rfl) rfl ?_
        refine kv_iadd C 136 rfl (kdec dk_cX10_restore 83 rfl) (fun x205 q207 h206e h206 h206l h206u => ?_)
        try have h206n : x205.toInt = (7 : Int32).toInt + (4 : Int32).toInt := by omega
        clear h206 q207
        obtain rfl : x205 = 11 := by rw [h206e]; decide
        obtain ⟨x208, e209⟩ : ∃ z : Int32, w 78 11 = z := ⟨_, rfl⟩
        have b210 : (0 : Int) ≤ x208.toInt ∧ x208.toInt ≤ 65535 := by rw [← e209]; exact hI 78 11
        have e211 : w199 78 11 = x208 := ((kup_ne u200 rfl : w199 78 11 = w189 78 11).trans ((kup_ne u190 rfl : w189 78 11 = w176 78 11).trans ((kup_ne u177 rfl : w176 78 11 = w166 78 11).trans ((kup_ne u167 rfl : w166 78 11 = w_35 78 11).trans ((F_35 78 11 rfl : w_35 78 11 = w 78 11).trans e209)))))
        refine kv_iald C 137 rfl 78 rfl (by omega) (by omega) (show w199 78 (11 : Int32).toNatClampNeg = x208 from e211) (kdec dk_cX10_restore 84 rfl) ?_
        refine kv_put C 140 rfl 61 26 rfl rfl inX10 (by decide) mfl_TaleMachineModel_323 rfl tyX10 tyX10_ok nmX10 rfl rfl (kdec dk_cX10_restore 85 rfl) rfl rfl (fun w212 u213 => ?_)
        have I214 : kI false w212 := kI_put u213 I201 (show (0 : Int) ≤ (x208 : Int32).toInt by omega) (show (x208 : Int32).toInt ≤ 65535 by omega)
        have F215 : kF [(61, some 12), (61, some 13), (61, some 14), (61, some 19), (61, some 20), (61, some 26), (61, some 27), (64, none), (66, none), (67, none), (68, none), (69, none), (70, none), (71, none)] w w212 := kF_put u213 F202 rfl
        refine kv_aload_n C 141 rfl 0 (kdec dk_cX10_restore 86 rfl) rfl rfl ?_
        refine kv_aload_n C 142 rfl 0 (kdec dk_cX10_restore 87 rfl) rfl rfl ?_
        refine kv_getr C 145 rfl 61 37 rfl rfl inX10 (by decide) mfl_TaleMachineModel_59 rfl rfl (kdec dk_cX10_restore 88 rfl) ?_
        refine kv_bipush C 147 rfl 7 (kdec dk_cX10_restore 89 rfl) rfl ?_
        refine kv_iload_n C 148 rfl 1 (kdec dk_cX10_restore 90 rfl) rfl rfl ?_
        refine kv_imul C 149 rfl (kdec dk_cX10_restore 91 rfl) (fun x216 h217e h217l h217u => ?_)
        obtain rfl : x216 = 7 := by rw [h217e]; decide
        refine kv_iconst C 150 rfl 5 (kdec dk_cX10_restore 92 rfl) rfl ?_
        refine kv_iadd C 151 rfl (kdec dk_cX10_restore 93 rfl) (fun x218 q220 h219e h219 h219l h219u => ?_)
        try have h219n : x218.toInt = (7 : Int32).toInt + (5 : Int32).toInt := by omega
        clear h219 q220
        obtain rfl : x218 = 12 := by rw [h219e]; decide
        obtain ⟨x221, e222⟩ : ∃ z : Int32, w 78 12 = z := ⟨_, rfl⟩
        have b223 : (0 : Int) ≤ x221.toInt ∧ x221.toInt ≤ 65535 := by rw [← e222]; exact hI 78 12
        have e224 : w212 78 12 = x221 := ((kup_ne u213 rfl : w212 78 12 = w199 78 12).trans ((kup_ne u200 rfl : w199 78 12 = w189 78 12).trans ((kup_ne u190 rfl : w189 78 12 = w176 78 12).trans ((kup_ne u177 rfl : w176 78 12 = w166 78 12).trans ((kup_ne u167 rfl : w166 78 12 = w_35 78 12).trans ((F_35 78 12 rfl : w_35 78 12 = w 78 12).trans e222))))))
        refine kv_iald C 152 rfl 78 rfl (by omega) (by omega) (show w212 78 (12 : Int32).toNatClampNeg = x221 from e224) (kdec dk_cX10_restore 94 rfl) ?_
        refine kv_put C 155 rfl 61 27 rfl rfl inX10 (by decide) mfl_TaleMachineModel_326 rfl tyX10 tyX10_ok nmX10 rfl rfl (kdec dk_cX10_restore 95 rfl) rfl rfl (fun w225 u226 => ?_)
        have I227 : kI false w225 := kI_put u226 I214 (show (0 : Int) ≤ (x221 : Int32).toInt by omega) (show (x221 : Int32).toInt ≤ 65535 by omega)
        have F228 : kF [(61, some 12), (61, some 13), (61, some 14), (61, some 19), (61, some 20), (61, some 26), (61, some 27), (64, none), (66, none), (67, none), (68, none), (69, none), (70, none), (71, none)] w w225 := kF_put u226 F215 rfl
        refine kv_aload_n C 156 rfl 0 (kdec dk_cX10_restore 96 rfl) rfl rfl ?_
        refine kv_iconst C 157 rfl 0 (kdec dk_cX10_restore 97 rfl) rfl ?_
        refine kv_put C 160 rfl 61 13 rfl rfl inX10 (by decide) mfl_TaleMachineModel_148 rfl tyX10 tyX10_ok nmX10 rfl rfl (kdec dk_cX10_restore 98 rfl) rfl rfl (fun w229 u230 => ?_)
        have I231 : kI false w229 := kI_put u230 I227 (show (0 : Int) ≤ (0 : Int32).toInt by omega) (show (0 : Int32).toInt ≤ 13 by omega)
        have F232 : kF [(61, some 12), (61, some 13), (61, some 14), (61, some 19), (61, some 20), (61, some 26), (61, some 27), (64, none), (66, none), (67, none), (68, none), (69, none), (70, none), (71, none)] w w229 := kF_put u230 F228 rfl
        refine kv_iconst C 161 rfl 0 (kdec dk_cX10_restore 99 rfl) rfl ?_
        refine kv_istore_n C 162 rfl 2 [1, 2, 0] [(0, .ref (ρ 61)), (1, .int 1), (2, .int 0)] (kdec dk_cX10_restore 100 rfl) rfl (by decide) rfl ?_
        have e233 : w229 61 20 = x146 := ((kup_ne u230 rfl : w229 61 20 = w225 61 20).trans ((kup_ne u226 rfl : w225 61 20 = w212 61 20).trans ((kup_ne u213 rfl : w212 61 20 = w199 61 20).trans ((kup_ne u200 rfl : w199 61 20 = w189 61 20).trans ((kup_ne u190 rfl : w189 61 20 = w176 61 20).trans (kup_eq u177))))))
        have e234 : w229 61 19 = x149 := ((kup_ne u230 rfl : w229 61 19 = w225 61 19).trans ((kup_ne u226 rfl : w225 61 19 = w212 61 19).trans ((kup_ne u213 rfl : w212 61 19 = w199 61 19).trans ((kup_ne u200 rfl : w199 61 19 = w189 61 19).trans ((kup_ne u190 rfl : w189 61 19 = w176 61 19).trans ((kup_ne u177 rfl : w176 61 19 = w166 61 19).trans (kup_eq u167)))))))
        exact cut162 ((((121 - (0 : Int32).toInt)) : Int).toNat + 1) w229 0 I231 F232 (by omega) (by rw [e147, e150, e153]; try omega) (by rw [e147, e150, e233, e234]; try omega) (by rw [e156]; try omega) R35_S (by omega)
      · skip
        refine kv_aload_n C 44 rfl 0 (kdec dk_cX10_restore 24 rfl) rfl rfl ?_
        refine kv_getr C 47 rfl 61 4 rfl rfl inX10 (by decide) mfl_TaleMachineModel_16 rfl rfl (kdec dk_cX10_restore 25 rfl) ?_
        refine kv_iload_n C 48 rfl 2 (kdec dk_cX10_restore 26 rfl) rfl rfl ?_
        refine kv_aload_n C 49 rfl 0 (kdec dk_cX10_restore 27 rfl) rfl rfl ?_
        refine kv_getr C 52 rfl 61 34 rfl rfl inX10 (by decide) mfl_TaleMachineModel_50 rfl rfl (kdec dk_cX10_restore 28 rfl) ?_
        refine kv_sipush C 55 rfl 1024 (kdec dk_cX10_restore 29 rfl) rfl ?_
        refine kv_iload_n C 56 rfl 1 (kdec dk_cX10_restore 30 rfl) rfl rfl ?_
        refine kv_imul C 57 rfl (kdec dk_cX10_restore 31 rfl) (fun x235 h236e h236l h236u => ?_)
        obtain rfl : x235 = 1024 := by rw [h236e]; decide
        refine kv_iload_n C 58 rfl 2 (kdec dk_cX10_restore 32 rfl) rfl rfl ?_
        refine kv_iadd C 59 rfl (kdec dk_cX10_restore 33 rfl) (fun x237 q239 h238e h238 h238l h238u => ?_)
        try have h238n : x237.toInt = (1024 : Int32).toInt + l2_35.toInt := by omega
        clear h238 q239
        obtain ⟨x240, e241⟩ : ∃ z : Int32, w_35 75 (x237 : Int32).toNatClampNeg = z := ⟨_, rfl⟩
        have b242 : (0 : Int) ≤ x240.toInt ∧ x240.toInt ≤ 255 := by rw [← e241]; exact I_35 75 _
        refine kv_iald C 60 rfl 75 rfl (by omega) (by omega) e241 (kdec dk_cX10_restore 34 rfl) ?_
        refine kv_iast C 61 rfl 64 rfl (by omega) (by omega) (kdec dk_cX10_restore 35 rfl) (fun w243 u244 => ?_)
        have I245 : kI false w243 := kI_put u244 I_35 (show (0 : Int) ≤ (x240 : Int32).toInt by omega) (show (x240 : Int32).toInt ≤ 255 by omega)
        have F246 : kF [(61, some 12), (61, some 13), (61, some 14), (61, some 19), (61, some 20), (61, some 26), (61, some 27), (64, none), (66, none), (67, none), (68, none), (69, none), (70, none), (71, none)] w w243 := kF_put u244 F_35 rfl
        refine kv_iinc C 64 rfl 2 2 [1, 2, 0] (fun v9 => [(0, .ref (ρ 61)), (1, .int 1), (2, .int v9)]) (kdec dk_cX10_restore 36 rfl) rfl (by decide) (fun _ => rfl) 1 rfl (fun x247 q248 h249e h249 h249l h249u => ?_)
        try have h249n : x247.toInt = l2_35.toInt + 1 := by omega
        clear h249 q248
        refine kv_goto C 35 (kdec dk_cX10_restore 37 rfl) (by decide) ?_
        exact ih35 w243 x247 I245 F246 (by omega) (by rw [e147, e150, e153]; try omega) (by rw [e156]; try omega) R35_S (by omega)
  refine kv_iload_n C 1 rfl 1 (kdec dk_cX10_restore 0 rfl) rfl rfl ?_
  refine kv_i2l C 2 rfl (kdec dk_cX10_restore 1 rfl) ?_
  have h250 := kf_i2l 1
  refine kv_lconst C 3 rfl 0 (kdec dk_cX10_restore 2 rfl) rfl ?_
  have h251 : (0 : Int64).toInt = 0 := by decide
  refine kv_ldc2 C 6 rfl 3 (kdec dk_cX10_restore 3 rfl) mcl_TaleMachineModel_259 ?_
  have h252 : (3 : Int64).toInt = 3 := by decide
  refine kv_callSi (As := [.long (1 : Int32).toInt64, .long (0 : Int64), .long (3 : Int64)]) (rest := []) C 9 rfl (k_x_in l D τ ρ σ w (1 : Int32).toInt64 (0 : Int64) (3 : Int64) hI ) mml_TaleMachineModel_94 mst_yX10_in mcd_yX10_in min_yX10_in hd_yX10_in rfl rfl rfl (by decide) rfl (Nat.le_of_ble_eq_true rfl) (kdec dk_cX10_restore 4 rfl) (fun x257 w253 h254 => ?_)
  obtain ⟨I255, f256, p258, p259⟩ := h254
  have F260 : kF [(61, some 12), (61, some 13), (61, some 14), (61, some 19), (61, some 20), (61, some 26), (61, some 27), (64, none), (66, none), (67, none), (68, none), (69, none), (70, none), (71, none)] w w253 := kF_call hF0 f256 (by decide)
  have M261 : ((w253 61 3).toInt = 0 ∧ (w253 61 12).toInt = 0 ∨ kMoT w253) := kMoP_kF f256 hMp rfl rfl rfl rfl (fun _ => rfl)
  have g262 := kf_rng x257
  refine kv_if_ne C 12 rfl 14 (kdec dk_cX10_restore 5 rfl) (by decide) (fun d263 => ?_) (fun d263 => ?_)
  · skip
    refine kv_aload_n C 15 rfl 0 (kdec dk_cX10_restore 8 rfl) rfl rfl ?_
    obtain ⟨x264, e265⟩ : ∃ z : Int32, w 61 3 = z := ⟨_, rfl⟩
    have b266 : (0 : Int) ≤ x264.toInt ∧ x264.toInt ≤ 1 := by rw [← e265]; exact hI 61 3
    have e267 : w253 61 3 = x264 := ((f256 61 3 rfl : w253 61 3 = w 61 3).trans e265)
    refine kv_get C 18 rfl 61 3 rfl rfl inX10 (by decide) mfl_TaleMachineModel_108 rfl rfl (kdec dk_cX10_restore 9 rfl) e267 ?_
    refine kv_if_eq C 21 rfl 30 (kdec dk_cX10_restore 10 rfl) (by decide) (fun d268 => ?_) (fun d268 => ?_)
    · skip
      refine kv_bipush C 32 rfl (-2) (kdec dk_cX10_restore 16 rfl) rfl ?_
      exact kv_iret C hr hlk (kdec dk_cX10_restore 17 rfl) ⟨_, rfl, I255, F260, (by rw [e265]; try omega), M261⟩
    · skip
      refine kv_aload_n C 22 rfl 0 (kdec dk_cX10_restore 11 rfl) rfl rfl ?_
      refine kv_getr C 25 rfl 61 33 rfl rfl inX10 (by decide) mfl_TaleMachineModel_46 rfl rfl (kdec dk_cX10_restore 12 rfl) ?_
      refine kv_iload_n C 26 rfl 1 (kdec dk_cX10_restore 13 rfl) rfl rfl ?_
      obtain ⟨x269, e270⟩ : ∃ z : Int32, w 74 1 = z := ⟨_, rfl⟩
      have b271 : (0 : Int) ≤ x269.toInt ∧ x269.toInt ≤ 1 := by rw [← e270]; exact hI 74 1
      have e272 : w253 74 1 = x269 := ((f256 74 1 rfl : w253 74 1 = w 74 1).trans e270)
      refine kv_zald C 27 rfl 74 rfl (by omega) (by omega) (show w253 74 (1 : Int32).toNatClampNeg = x269 from e272) (kdec dk_cX10_restore 14 rfl) ?_
      refine kv_if_ne C 30 rfl 33 (kdec dk_cX10_restore 15 rfl) (by decide) (fun d273 => ?_) (fun d273 => ?_)
      · skip
        have hSl : kSlot w 1 := hS 1 (by decide) (by rw [e270]; omega)
        obtain ⟨x274, e275⟩ : ∃ z : Int32, w 78 7 = z := ⟨_, rfl⟩
        have b276 : (0 : Int) ≤ x274.toInt ∧ x274.toInt ≤ 65535 := by rw [← e275]; exact hI 78 7
        obtain ⟨x277, e278⟩ : ∃ z : Int32, w 78 8 = z := ⟨_, rfl⟩
        have b279 : (0 : Int) ≤ x277.toInt ∧ x277.toInt ≤ 65535 := by rw [← e278]; exact hI 78 8
        obtain ⟨x280, e281⟩ : ∃ z : Int32, w 78 10 = z := ⟨_, rfl⟩
        have b282 : (0 : Int) ≤ x280.toInt ∧ x280.toInt ≤ 65535 := by rw [← e281]; exact hI 78 10
        have hSf : 1 ≤ x277.toInt ∧ x277.toInt ≤ 20 ∧ x274.toInt ≤ 120 ∧ x280.toInt ≤ 4 := by rw [← e275, ← e278, ← e281]; exact hSl.1
        refine kv_iconst C 34 rfl 0 (kdec dk_cX10_restore 18 rfl) rfl ?_
        refine kv_istore_n C 35 rfl 2 [1, 2, 0] [(0, .ref (ρ 61)), (1, .int 1), (2, .int 0)] (kdec dk_cX10_restore 19 rfl) rfl (by decide) rfl ?_
        exact cut35 ((((1025 - (0 : Int32).toInt)) : Int).toNat + 1) w253 0 I255 F260 (by omega) (by rw [e278, e275, e281]; try omega) (by rw [e265]; try omega) hSl (by omega)
      · skip
        refine kv_bipush C 32 rfl (-2) (kdec dk_cX10_restore 16 rfl) rfl ?_
        exact kv_iret C hr hlk (kdec dk_cX10_restore 17 rfl) ⟨_, rfl, I255, F260, (by rw [e265]; try omega), M261⟩
  · skip
    refine kv_iconst C 13 rfl (-1) (kdec dk_cX10_restore 6 rfl) rfl ?_
    obtain ⟨x283, e284⟩ : ∃ z : Int32, w 61 3 = z := ⟨_, rfl⟩
    have b285 : (0 : Int) ≤ x283.toInt ∧ x283.toInt ≤ 1 := by rw [← e284]; exact hI 61 3
    exact kv_iret C hr hlk (kdec dk_cX10_restore 7 rfl) ⟨_, rfl, I255, F260, (by rw [e284]; try omega), M261⟩

set_option maxHeartbeats 4000000 in
set_option maxRecDepth 100000 in
theorem k_x_restore2 (l : Launch) (D : va_G) (τ : Nat → ClassId) (ρ σ : Nat → Nat) (w : kw)  (hI : kI false w) (hMp : ((w 61 3).toInt = 0 ∧ (w 61 12).toInt = 0 ∨ kMoT w)) (hS : kSl w) :
    kM l D τ ρ σ yX10_restore cX10_restore 5 (some .int) { frames := 1, cells := 0, slots := 0, locals := 36 } [.ref (ρ 61), .int 2] w
      (fun o w' => ∃ r : Int32, o = some (.int r) ∧ kI false w' ∧ kF [(61, some 12), (61, some 13), (61, some 14), (61, some 19), (61, some 20), (61, some 26), (61, some 27), (64, none), (66, none), (67, none), (68, none), (69, none), (70, none), (71, none)] w w' ∧ (¬ (w 61 3).toInt = 0 ∨ ((2 : Int32).toInt < 0 ∨ 3 < (2 : Int32).toInt) ∧ r.toInt = -1 ∨ 0 ≤ (2 : Int32).toInt ∧ (2 : Int32).toInt ≤ 3 ∧ r.toInt = -2) ∧ ((w' 61 3).toInt = 0 ∧ (w' 61 12).toInt = 0 ∨ kMoT w')) := by
  refine kM_of (own := "TaleMachineModel") rfl (by decide) (Nat.le_of_ble_eq_true rfl) ?_
  intro p e s m args below meth c C hr hlk
  have hF0 : kF [(61, some 12), (61, some 13), (61, some 14), (61, some 19), (61, some 20), (61, some 26), (61, some 27), (64, none), (66, none), (67, none), (68, none), (69, none), (70, none), (71, none)] w w := kF.rf
  have c_m2 : (-2 : Int32).toInt = -2 := by decide
  have c_m1 : (-1 : Int32).toInt = -1 := by decide
  have c_0 : (0 : Int32).toInt = 0 := by decide
  have c_1 : (1 : Int32).toInt = 1 := by decide
  have c_2 : (2 : Int32).toInt = 2 := by decide
  have c_3 : (3 : Int32).toInt = 3 := by decide
  have c_4 : (4 : Int32).toInt = 4 := by decide
  have c_5 : (5 : Int32).toInt = 5 := by decide
  have c_7 : (7 : Int32).toInt = 7 := by decide
  have c_14 : (14 : Int32).toInt = 14 := by decide
  have c_15 : (15 : Int32).toInt = 15 := by decide
  have c_16 : (16 : Int32).toInt = 16 := by decide
  have c_17 : (17 : Int32).toInt = 17 := by decide
  have c_18 : (18 : Int32).toInt = 18 := by decide
  have c_19 : (19 : Int32).toInt = 19 := by decide
  have c_24 : (24 : Int32).toInt = 24 := by decide
  have c_120 : (120 : Int32).toInt = 120 := by decide
  have c_240 : (240 : Int32).toInt = 240 := by decide
  have c_1024 : (1024 : Int32).toInt = 1024 := by decide
  have c_1920 : (1920 : Int32).toInt = 1920 := by decide
  have c_2048 : (2048 : Int32).toInt = 2048 := by decide
  have c_3840 : (3840 : Int32).toInt = 3840 := by decide
  refine kV.L (L' := [(0, .ref (ρ 61)), (1, .int 2)]) rfl ?_
  have cut195 : ∀ (n_195 : Nat) (w_195 : kw) (l2_195 : Int32), kI false w_195 → kF [(61, some 12), (61, some 13), (61, some 14), (61, some 19), (61, some 20), (61, some 26), (61, some 27), (64, none), (66, none), (67, none), (68, none), (69, none), (70, none), (71, none)] w w_195 → (0 ≤ l2_195.toInt ∧ l2_195.toInt ≤ 20) → (1 ≤ (w 78 15).toInt ∧ (w 78 15).toInt ≤ 20 ∧ (w 78 14).toInt ≤ 120 ∧ (w 78 17).toInt ≤ 4) → ((w_195 61 20).toInt = (w 78 15).toInt ∧ (w_195 61 19).toInt = (w 78 14).toInt) → (¬ (w 61 3).toInt = 0) → (kSlot w 2) → (∀ f9 : Nat, (f9 : Int) < l2_195.toInt → w_195 67 f9 = w 77 (3840 + 24 * f9)) → ((21 - l2_195.toInt) : Int) < (n_195 : Int) → kV p l e { frames := 1, cells := 0, slots := 0, locals := 36 } s m args below meth c (kQ below args s D τ ρ (fun o w' => ∃ r : Int32, o = some (.int r) ∧ kI false w' ∧ kF [(61, some 12), (61, some 13), (61, some 14), (61, some 19), (61, some 20), (61, some 26), (61, some 27), (64, none), (66, none), (67, none), (68, none), (69, none), (70, none), (71, none)] w w' ∧ (¬ (w 61 3).toInt = 0 ∨ ((2 : Int32).toInt < 0 ∨ 3 < (2 : Int32).toInt) ∧ r.toInt = -1 ∨ 0 ≤ (2 : Int32).toInt ∧ (2 : Int32).toInt ≤ 3 ∧ r.toInt = -2) ∧ ((w' 61 3).toInt = 0 ∧ (w' 61 12).toInt = 0 ∨ kMoT w'))) 5 D τ ρ 195 [(0, .ref (ρ 61)), (1, .int 2), (2, .int l2_195)] [] w_195 := by
    intro n_195
    induction n_195 with
    | zero => intro w_195 l2_195 I_195 F_195 k195_0 k195_1 k195_2 k195_3 R195_S R195_C hmz; exfalso; omega
    | succ n_195 ih195 =>
      intro w_195 l2_195 I_195 F_195 k195_0 k195_1 k195_2 k195_3 R195_S R195_C hm195
      have gl2_195 := kf_rng l2_195
      obtain ⟨x1, e2⟩ : ∃ z : Int32, w 78 15 = z := ⟨_, rfl⟩
      have b3 : (0 : Int) ≤ x1.toInt ∧ x1.toInt ≤ 65535 := by rw [← e2]; exact hI 78 15
      obtain ⟨x4, e5⟩ : ∃ z : Int32, w 78 14 = z := ⟨_, rfl⟩
      have b6 : (0 : Int) ≤ x4.toInt ∧ x4.toInt ≤ 65535 := by rw [← e5]; exact hI 78 14
      obtain ⟨x7, e8⟩ : ∃ z : Int32, w 78 17 = z := ⟨_, rfl⟩
      have b9 : (0 : Int) ≤ x7.toInt ∧ x7.toInt ≤ 65535 := by rw [← e8]; exact hI 78 17
      rw [e2, e5, e8] at k195_1
      obtain ⟨x10, e11⟩ : ∃ z : Int32, w_195 61 20 = z := ⟨_, rfl⟩
      have b12 : (0 : Int) ≤ x10.toInt ∧ x10.toInt ≤ 20 := by rw [← e11]; exact I_195 61 20
      obtain ⟨x13, e14⟩ : ∃ z : Int32, w_195 61 19 = z := ⟨_, rfl⟩
      have b15 : (0 : Int) ≤ x13.toInt ∧ x13.toInt ≤ 120 := by rw [← e14]; exact I_195 61 19
      rw [e2, e5, e11, e14] at k195_2
      obtain ⟨x16, e17⟩ : ∃ z : Int32, w 61 3 = z := ⟨_, rfl⟩
      have b18 : (0 : Int) ≤ x16.toInt ∧ x16.toInt ≤ 1 := by rw [← e17]; exact hI 61 3
      rw [e17] at k195_3
      have cut271 : ∀ (n_271 : Nat) (w_271 : kw) (l2_271 l3_271 l4_271 : Int32), kI false w_271 → kF [(61, some 12), (61, some 13), (61, some 14), (61, some 19), (61, some 20), (61, some 26), (61, some 27), (64, none), (66, none), (67, none), (68, none), (69, none), (70, none), (71, none)] w w_271 → (0 ≤ l2_271.toInt ∧ l2_271.toInt < (w_271 61 20).toInt ∧ l2_271.toInt = l2_195.toInt ∧ l3_271.toInt = 3840 + 24 * l2_271.toInt) → (1 ≤ l4_271.toInt ∧ l4_271.toInt ≤ 16) → (1 ≤ (w 78 15).toInt ∧ (w 78 15).toInt ≤ 20 ∧ (w 78 14).toInt ≤ 120 ∧ (w 78 17).toInt ≤ 4) → ((w_271 61 20).toInt = (w 78 15).toInt ∧ (w_271 61 19).toInt = (w 78 14).toInt) → (¬ (w 61 3).toInt = 0) → (kSlot w 2) → (∀ f9 : Nat, (f9 : Int) ≤ l2_271.toInt → w_271 67 f9 = w 77 (3840 + 24 * f9)) → ((17 - l4_271.toInt) : Int) < (n_271 : Int) → kV p l e { frames := 1, cells := 0, slots := 0, locals := 36 } s m args below meth c (kQ below args s D τ ρ (fun o w' => ∃ r : Int32, o = some (.int r) ∧ kI false w' ∧ kF [(61, some 12), (61, some 13), (61, some 14), (61, some 19), (61, some 20), (61, some 26), (61, some 27), (64, none), (66, none), (67, none), (68, none), (69, none), (70, none), (71, none)] w w' ∧ (¬ (w 61 3).toInt = 0 ∨ ((2 : Int32).toInt < 0 ∨ 3 < (2 : Int32).toInt) ∧ r.toInt = -1 ∨ 0 ≤ (2 : Int32).toInt ∧ (2 : Int32).toInt ≤ 3 ∧ r.toInt = -2) ∧ ((w' 61 3).toInt = 0 ∧ (w' 61 12).toInt = 0 ∨ kMoT w'))) 5 D τ ρ 271 [(0, .ref (ρ 61)), (1, .int 2), (2, .int l2_271), (3, .int l3_271), (4, .int l4_271)] [] w_271 := by
        intro n_271
        induction n_271 with
        | zero => intro w_271 l2_271 l3_271 l4_271 I_271 F_271 k271_0 k271_1 k271_2 k271_3 k271_4 R271_S R271_C hmz; exfalso; omega
        | succ n_271 ih271 =>
          intro w_271 l2_271 l3_271 l4_271 I_271 F_271 k271_0 k271_1 k271_2 k271_3 k271_4 R271_S R271_C hm271
          have gl2_271 := kf_rng l2_271
          have gl3_271 := kf_rng l3_271
          have gl4_271 := kf_rng l4_271
          obtain ⟨x19, e20⟩ : ∃ z : Int32, w_271 61 20 = z := ⟨_, rfl⟩
          have b21 : (0 : Int) ≤ x19.toInt ∧ x19.toInt ≤ 20 := by rw [← e20]; exact I_271 61 20
          rw [e20] at k271_0
          rw [e2, e5, e8] at k271_2
          obtain ⟨x22, e23⟩ : ∃ z : Int32, w_271 61 19 = z := ⟨_, rfl⟩
          have b24 : (0 : Int) ≤ x22.toInt ∧ x22.toInt ≤ 120 := by rw [← e23]; exact I_271 61 19
          rw [e2, e5, e20, e23] at k271_3
          rw [e17] at k271_4
          refine kv_iload C 273 rfl 4 (kdec dk_cX10_restore 173 rfl) rfl ?_
          refine kv_aload_n C 274 rfl 0 (kdec dk_cX10_restore 174 rfl) rfl rfl ?_
          refine kv_getr C 277 rfl 61 24 rfl rfl inX10 (by decide) mfl_TaleMachineModel_34 rfl rfl (kdec dk_cX10_restore 175 rfl) ?_
          refine kv_iload_n C 278 rfl 2 (kdec dk_cX10_restore 176 rfl) rfl rfl ?_
          obtain ⟨x25, e26⟩ : ∃ z : Int32, w_271 70 (l2_271 : Int32).toNatClampNeg = z := ⟨_, rfl⟩
          have b27 : (0 : Int) ≤ x25.toInt ∧ x25.toInt ≤ 15 := by rw [← e26]; exact I_271 70 _
          refine kv_iald C 279 rfl 70 rfl (by omega) (by omega) e26 (kdec dk_cX10_restore 177 rfl) ?_
          refine kv_icmp_gt C 282 rfl 311 (kdec dk_cX10_restore 178 rfl) (by decide) (fun d28 => ?_) (fun d28 => ?_)
          · skip
            refine kv_iinc C 314 rfl 2 2 [1, 2, 0, 3, 4] (fun v9 => [(0, .ref (ρ 61)), (1, .int 2), (2, .int v9), (3, .int l3_271), (4, .int l4_271)]) (kdec dk_cX10_restore 197 rfl) rfl (by decide) (fun _ => rfl) 1 rfl (fun x29 q30 h31e h31 h31l h31u => ?_)
            try have h31n : x29.toInt = l2_271.toInt + 1 := by omega
            clear h31 q30
            refine kv_goto C 195 (kdec dk_cX10_restore 198 rfl) (by decide) ?_
            refine kV.sub [0, 1, 2] (L' := [(0, .ref (ρ 61)), (1, .int 2), (2, .int x29)]) rfl ?_
            exact ih195 w_271 x29 I_271 F_271 (by omega) (by rw [e2, e5, e8]; try omega) (by rw [e2, e5, e20, e23]; try omega) (by rw [e17]; try omega) R271_S (fun f9 hf9 => R271_C f9 (by omega)) (by omega)
          · skip
            refine kv_aload_n C 283 rfl 0 (kdec dk_cX10_restore 179 rfl) rfl rfl ?_
            refine kv_getr C 286 rfl 61 25 rfl rfl inX10 (by decide) mfl_TaleMachineModel_37 rfl rfl (kdec dk_cX10_restore 180 rfl) ?_
            refine kv_bipush C 288 rfl 16 (kdec dk_cX10_restore 181 rfl) rfl ?_
            refine kv_iload_n C 289 rfl 2 (kdec dk_cX10_restore 182 rfl) rfl rfl ?_
            refine kv_imul C 290 rfl (kdec dk_cX10_restore 183 rfl) (fun x32 h33e h33l h33u => ?_)
            obtain ⟨q34, g35⟩ := kf_mul 16 l2_271
            rw [← h33e, c_16] at g35
            try have h33n : x32.toInt = 16 * l2_271.toInt := by omega
            clear g35 q34
            refine kv_iload C 292 rfl 4 (kdec dk_cX10_restore 184 rfl) rfl ?_
            refine kv_iadd C 293 rfl (kdec dk_cX10_restore 185 rfl) (fun x36 q38 h37e h37 h37l h37u => ?_)
            try have h37n : x36.toInt = x32.toInt + l4_271.toInt := by omega
            clear h37 q38
            refine kv_aload_n C 294 rfl 0 (kdec dk_cX10_restore 186 rfl) rfl rfl ?_
            refine kv_getr C 297 rfl 61 36 rfl rfl inX10 (by decide) mfl_TaleMachineModel_56 rfl rfl (kdec dk_cX10_restore 187 rfl) ?_
            refine kv_iload_n C 298 rfl 3 (kdec dk_cX10_restore 188 rfl) rfl rfl ?_
            refine kv_iconst C 299 rfl 4 (kdec dk_cX10_restore 189 rfl) rfl ?_
            refine kv_iadd C 300 rfl (kdec dk_cX10_restore 190 rfl) (fun x39 q41 h40e h40 h40l h40u => ?_)
            try have h40n : x39.toInt = l3_271.toInt + (4 : Int32).toInt := by omega
            clear h40 q41
            refine kv_iload C 302 rfl 4 (kdec dk_cX10_restore 191 rfl) rfl ?_
            refine kv_iadd C 303 rfl (kdec dk_cX10_restore 192 rfl) (fun x42 q44 h43e h43 h43l h43u => ?_)
            try have h43n : x42.toInt = x39.toInt + l4_271.toInt := by omega
            clear h43 q44
            obtain ⟨x45, e46⟩ : ∃ z : Int32, w_271 77 (x42 : Int32).toNatClampNeg = z := ⟨_, rfl⟩
            have b47 : (0 : Int) ≤ x45.toInt ∧ x45.toInt ≤ 65535 := by rw [← e46]; exact I_271 77 _
            refine kv_iald C 304 rfl 77 rfl (by omega) (by omega) e46 (kdec dk_cX10_restore 193 rfl) ?_
            refine kv_iast C 305 rfl 71 rfl (by omega) (by omega) (kdec dk_cX10_restore 194 rfl) (fun w48 u49 => ?_)
            have I50 : kI false w48 := kI_put u49 I_271 (show (0 : Int) ≤ (x45 : Int32).toInt by omega) (show (x45 : Int32).toInt ≤ 65535 by omega)
            have F51 : kF [(61, some 12), (61, some 13), (61, some 14), (61, some 19), (61, some 20), (61, some 26), (61, some 27), (64, none), (66, none), (67, none), (68, none), (69, none), (70, none), (71, none)] w w48 := kF_put u49 F_271 rfl
            refine kv_iinc C 308 rfl 4 4 [1, 2, 3, 4, 0] (fun v9 => [(0, .ref (ρ 61)), (1, .int 2), (2, .int l2_271), (3, .int l3_271), (4, .int v9)]) (kdec dk_cX10_restore 195 rfl) rfl (by decide) (fun _ => rfl) 1 rfl (fun x52 q53 h54e h54 h54l h54u => ?_)
            try have h54n : x52.toInt = l4_271.toInt + 1 := by omega
            clear h54 q53
            refine kv_goto C 271 (kdec dk_cX10_restore 196 rfl) (by decide) ?_
            have e55 : w48 61 20 = x19 := ((kup_ne u49 rfl : w48 61 20 = w_271 61 20).trans e20)
            have e56 : w48 61 19 = x22 := ((kup_ne u49 rfl : w48 61 19 = w_271 61 19).trans e23)
            exact ih271 w48 l2_271 l3_271 x52 I50 F51 (by rw [e55]; try omega) (by omega) (by rw [e2, e5, e8]; try omega) (by rw [e2, e5, e55, e56]; try omega) (by rw [e17]; try omega) R271_S (fun f9 hf9 => ((kup_ne u49 rfl : w48 67 f9 = w_271 67 f9)).trans (R271_C f9 hf9)) (by omega)
      refine kv_iload_n C 196 rfl 2 (kdec dk_cX10_restore 121 rfl) rfl rfl ?_
      refine kv_aload_n C 197 rfl 0 (kdec dk_cX10_restore 122 rfl) rfl rfl ?_
      refine kv_get C 200 rfl 61 20 rfl rfl inX10 (by decide) mfl_TaleMachineModel_139 rfl rfl (kdec dk_cX10_restore 123 rfl) e11 ?_
      refine kv_icmp_ge C 203 rfl 317 (kdec dk_cX10_restore 124 rfl) (by decide) (fun d57 => ?_) (fun d57 => ?_)
      · skip
        have M58 : kMoT w_195 := kMoT_rest (k := 2) R195_S (fun f9 hf9 => R195_C f9 (by rw [show w 78 (7 * 2 + 1) = _ from e2] at hf9; omega)) (Int32.toInt_inj.mp (by rw [e11, show w 78 (7 * 2 + 1) = _ from e2]; omega)) (Int32.toInt_inj.mp (by rw [e14, show w 78 (7 * 2) = _ from e5]; omega))
        refine kv_iconst C 318 rfl 1 (kdec dk_cX10_restore 199 rfl) rfl ?_
        exact kv_iret C hr hlk (kdec dk_cX10_restore 200 rfl) ⟨_, rfl, I_195, F_195, (by rw [e17]; try omega), (Or.inr M58)⟩
      · skip
        refine kv_sipush C 206 rfl 1920 (kdec dk_cX10_restore 125 rfl) rfl ?_
        refine kv_iload_n C 207 rfl 1 (kdec dk_cX10_restore 126 rfl) rfl rfl ?_
        refine kv_imul C 208 rfl (kdec dk_cX10_restore 127 rfl) (fun x59 h60e h60l h60u => ?_)
        obtain rfl : x59 = 3840 := by rw [h60e]; decide
        refine kv_bipush C 210 rfl 24 (kdec dk_cX10_restore 128 rfl) rfl ?_
        refine kv_iload_n C 211 rfl 2 (kdec dk_cX10_restore 129 rfl) rfl rfl ?_
        refine kv_imul C 212 rfl (kdec dk_cX10_restore 130 rfl) (fun x61 h62e h62l h62u => ?_)
        obtain ⟨q63, g64⟩ := kf_mul 24 l2_195
        rw [← h62e, c_24] at g64
        try have h62n : x61.toInt = 24 * l2_195.toInt := by omega
        clear g64 q63
        refine kv_iadd C 213 rfl (kdec dk_cX10_restore 131 rfl) (fun x65 q67 h66e h66 h66l h66u => ?_)
        try have h66n : x65.toInt = (3840 : Int32).toInt + x61.toInt := by omega
        clear h66 q67
        refine kv_istore_n C 214 rfl 3 [1, 2, 3, 0] [(0, .ref (ρ 61)), (1, .int 2), (2, .int l2_195), (3, .int x65)] (kdec dk_cX10_restore 132 rfl) rfl (by decide) rfl ?_
        refine kv_aload_n C 215 rfl 0 (kdec dk_cX10_restore 133 rfl) rfl rfl ?_
        refine kv_getr C 218 rfl 61 21 rfl rfl inX10 (by decide) mfl_TaleMachineModel_25 rfl rfl (kdec dk_cX10_restore 134 rfl) ?_
        refine kv_iload_n C 219 rfl 2 (kdec dk_cX10_restore 135 rfl) rfl rfl ?_
        refine kv_aload_n C 220 rfl 0 (kdec dk_cX10_restore 136 rfl) rfl rfl ?_
        refine kv_getr C 223 rfl 61 36 rfl rfl inX10 (by decide) mfl_TaleMachineModel_56 rfl rfl (kdec dk_cX10_restore 137 rfl) ?_
        refine kv_iload_n C 224 rfl 3 (kdec dk_cX10_restore 138 rfl) rfl rfl ?_
        obtain ⟨x68, e69⟩ : ∃ z : Int32, w_195 77 (x65 : Int32).toNatClampNeg = z := ⟨_, rfl⟩
        have b70 : (0 : Int) ≤ x68.toInt ∧ x68.toInt ≤ 65535 := by rw [← e69]; exact I_195 77 _
        refine kv_iald C 225 rfl 77 rfl (by omega) (by omega) e69 (kdec dk_cX10_restore 139 rfl) ?_
        have t71 := kSlot_b R195_S (l := l2_195) 0 120 (by decide) (by omega) (show _ < (w 78 15).toInt by rw [e2]; omega) (by omega) ((F_195 77 _ rfl).symm.trans e69)
        refine kv_iast C 226 rfl 67 rfl (by omega) (by omega) (kdec dk_cX10_restore 140 rfl) (fun w72 u73 => ?_)
        have I74 : kI false w72 := kI_put u73 I_195 (show (0 : Int) ≤ (x68 : Int32).toInt by omega) (show (x68 : Int32).toInt ≤ 120 by omega)
        have F75 : kF [(61, some 12), (61, some 13), (61, some 14), (61, some 19), (61, some 20), (61, some 26), (61, some 27), (64, none), (66, none), (67, none), (68, none), (69, none), (70, none), (71, none)] w w72 := kF_put u73 F_195 rfl
        refine kv_aload_n C 227 rfl 0 (kdec dk_cX10_restore 141 rfl) rfl rfl ?_
        refine kv_getr C 230 rfl 61 22 rfl rfl inX10 (by decide) mfl_TaleMachineModel_28 rfl rfl (kdec dk_cX10_restore 142 rfl) ?_
        refine kv_iload_n C 231 rfl 2 (kdec dk_cX10_restore 143 rfl) rfl rfl ?_
        refine kv_aload_n C 232 rfl 0 (kdec dk_cX10_restore 144 rfl) rfl rfl ?_
        refine kv_getr C 235 rfl 61 36 rfl rfl inX10 (by decide) mfl_TaleMachineModel_56 rfl rfl (kdec dk_cX10_restore 145 rfl) ?_
        refine kv_iload_n C 236 rfl 3 (kdec dk_cX10_restore 146 rfl) rfl rfl ?_
        refine kv_iconst C 237 rfl 1 (kdec dk_cX10_restore 147 rfl) rfl ?_
        refine kv_iadd C 238 rfl (kdec dk_cX10_restore 148 rfl) (fun x76 q78 h77e h77 h77l h77u => ?_)
        try have h77n : x76.toInt = x65.toInt + (1 : Int32).toInt := by omega
        clear h77 q78
        obtain ⟨x79, e80⟩ : ∃ z : Int32, w72 77 (x76 : Int32).toNatClampNeg = z := ⟨_, rfl⟩
        have b81 : (0 : Int) ≤ x79.toInt ∧ x79.toInt ≤ 65535 := by rw [← e80]; exact I74 77 _
        refine kv_iald C 239 rfl 77 rfl (by omega) (by omega) e80 (kdec dk_cX10_restore 149 rfl) ?_
        refine kv_iast C 240 rfl 68 rfl (by omega) (by omega) (kdec dk_cX10_restore 150 rfl) (fun w82 u83 => ?_)
        have I84 : kI false w82 := kI_put u83 I74 (show (0 : Int) ≤ (x79 : Int32).toInt by omega) (show (x79 : Int32).toInt ≤ 65535 by omega)
        have F85 : kF [(61, some 12), (61, some 13), (61, some 14), (61, some 19), (61, some 20), (61, some 26), (61, some 27), (64, none), (66, none), (67, none), (68, none), (69, none), (70, none), (71, none)] w w82 := kF_put u83 F75 rfl
        refine kv_aload_n C 241 rfl 0 (kdec dk_cX10_restore 151 rfl) rfl rfl ?_
        refine kv_getr C 244 rfl 61 23 rfl rfl inX10 (by decide) mfl_TaleMachineModel_31 rfl rfl (kdec dk_cX10_restore 152 rfl) ?_
        refine kv_iload_n C 245 rfl 2 (kdec dk_cX10_restore 153 rfl) rfl rfl ?_
        refine kv_aload_n C 246 rfl 0 (kdec dk_cX10_restore 154 rfl) rfl rfl ?_
        refine kv_getr C 249 rfl 61 36 rfl rfl inX10 (by decide) mfl_TaleMachineModel_56 rfl rfl (kdec dk_cX10_restore 155 rfl) ?_
        refine kv_iload_n C 250 rfl 3 (kdec dk_cX10_restore 156 rfl) rfl rfl ?_
        refine kv_iconst C 251 rfl 2 (kdec dk_cX10_restore 157 rfl) rfl ?_
        refine kv_iadd C 252 rfl (kdec dk_cX10_restore 158 rfl) (fun x86 q88 h87e h87 h87l h87u => ?_)
        try have h87n : x86.toInt = x65.toInt + (2 : Int32).toInt := by omega
        clear h87 q88
        obtain ⟨x89, e90⟩ : ∃ z : Int32, w82 77 (x86 : Int32).toNatClampNeg = z := ⟨_, rfl⟩
        have b91 : (0 : Int) ≤ x89.toInt ∧ x89.toInt ≤ 65535 := by rw [← e90]; exact I84 77 _
        refine kv_iald C 253 rfl 77 rfl (by omega) (by omega) e90 (kdec dk_cX10_restore 159 rfl) ?_
        have t92 := kSlot_b R195_S (l := l2_195) 2 255 (by decide) (by omega) (show _ < (w 78 15).toInt by rw [e2]; omega) (by omega) ((F85 77 _ rfl).symm.trans e90)
        refine kv_iast C 254 rfl 69 rfl (by omega) (by omega) (kdec dk_cX10_restore 160 rfl) (fun w93 u94 => ?_)
        have I95 : kI false w93 := kI_put u94 I84 (show (0 : Int) ≤ (x89 : Int32).toInt by omega) (show (x89 : Int32).toInt ≤ 255 by omega)
        have F96 : kF [(61, some 12), (61, some 13), (61, some 14), (61, some 19), (61, some 20), (61, some 26), (61, some 27), (64, none), (66, none), (67, none), (68, none), (69, none), (70, none), (71, none)] w w93 := kF_put u94 F85 rfl
        refine kv_aload_n C 255 rfl 0 (kdec dk_cX10_restore 161 rfl) rfl rfl ?_
        refine kv_getr C 258 rfl 61 24 rfl rfl inX10 (by decide) mfl_TaleMachineModel_34 rfl rfl (kdec dk_cX10_restore 162 rfl) ?_
        refine kv_iload_n C 259 rfl 2 (kdec dk_cX10_restore 163 rfl) rfl rfl ?_
        refine kv_aload_n C 260 rfl 0 (kdec dk_cX10_restore 164 rfl) rfl rfl ?_
        refine kv_getr C 263 rfl 61 36 rfl rfl inX10 (by decide) mfl_TaleMachineModel_56 rfl rfl (kdec dk_cX10_restore 165 rfl) ?_
        refine kv_iload_n C 264 rfl 3 (kdec dk_cX10_restore 166 rfl) rfl rfl ?_
        refine kv_iconst C 265 rfl 3 (kdec dk_cX10_restore 167 rfl) rfl ?_
        refine kv_iadd C 266 rfl (kdec dk_cX10_restore 168 rfl) (fun x97 q99 h98e h98 h98l h98u => ?_)
        try have h98n : x97.toInt = x65.toInt + (3 : Int32).toInt := by omega
        clear h98 q99
        obtain ⟨x100, e101⟩ : ∃ z : Int32, w93 77 (x97 : Int32).toNatClampNeg = z := ⟨_, rfl⟩
        have b102 : (0 : Int) ≤ x100.toInt ∧ x100.toInt ≤ 65535 := by rw [← e101]; exact I95 77 _
        refine kv_iald C 267 rfl 77 rfl (by omega) (by omega) e101 (kdec dk_cX10_restore 169 rfl) ?_
        have t103 := kSlot_b R195_S (l := l2_195) 3 15 (by decide) (by omega) (show _ < (w 78 15).toInt by rw [e2]; omega) (by omega) ((F96 77 _ rfl).symm.trans e101)
        refine kv_iast C 268 rfl 70 rfl (by omega) (by omega) (kdec dk_cX10_restore 170 rfl) (fun w104 u105 => ?_)
        have I106 : kI false w104 := kI_put u105 I95 (show (0 : Int) ≤ (x100 : Int32).toInt by omega) (show (x100 : Int32).toInt ≤ 15 by omega)
        have F107 : kF [(61, some 12), (61, some 13), (61, some 14), (61, some 19), (61, some 20), (61, some 26), (61, some 27), (64, none), (66, none), (67, none), (68, none), (69, none), (70, none), (71, none)] w w104 := kF_put u105 F96 rfl
        refine kv_iconst C 269 rfl 1 (kdec dk_cX10_restore 171 rfl) rfl ?_
        refine kv_istore C 271 rfl 4 [1, 2, 3, 4, 0] [(0, .ref (ρ 61)), (1, .int 2), (2, .int l2_195), (3, .int x65), (4, .int 1)] (kdec dk_cX10_restore 172 rfl) (by decide) rfl ?_
        have e108 : w104 61 20 = x10 := ((kup_ne u105 rfl : w104 61 20 = w93 61 20).trans ((kup_ne u94 rfl : w93 61 20 = w82 61 20).trans ((kup_ne u83 rfl : w82 61 20 = w72 61 20).trans ((kup_ne u73 rfl : w72 61 20 = w_195 61 20).trans e11))))
        have e109 : w104 61 19 = x13 := ((kup_ne u105 rfl : w104 61 19 = w93 61 19).trans ((kup_ne u94 rfl : w93 61 19 = w82 61 19).trans ((kup_ne u83 rfl : w82 61 19 = w72 61 19).trans ((kup_ne u73 rfl : w72 61 19 = w_195 61 19).trans e14))))
        exact cut271 ((((17 - (1 : Int32).toInt)) : Int).toNat + 1) w104 l2_195 x65 1 I106 F107 (by rw [e108]; try omega) (by omega) (by rw [e2, e5, e8]; try omega) (by rw [e2, e5, e108, e109]; try omega) (by rw [e17]; try omega) R195_S (fun f9 hf9 => (((kup_ne u105 rfl : w104 67 f9 = w93 67 f9).trans ((kup_ne u94 rfl : w93 67 f9 = w82 67 f9).trans (kup_ne u83 rfl : w82 67 f9 = w72 67 f9)))).trans (kC_add R195_C u73 (by omega) (by omega) ((F_195 77 _ rfl).symm.trans e69) f9 hf9)) (by omega)
  have cut162 : ∀ (n_162 : Nat) (w_162 : kw) (l2_162 : Int32), kI false w_162 → kF [(61, some 12), (61, some 13), (61, some 14), (61, some 19), (61, some 20), (61, some 26), (61, some 27), (64, none), (66, none), (67, none), (68, none), (69, none), (70, none), (71, none)] w w_162 → (0 ≤ l2_162.toInt ∧ l2_162.toInt ≤ 120) → (1 ≤ (w 78 15).toInt ∧ (w 78 15).toInt ≤ 20 ∧ (w 78 14).toInt ≤ 120 ∧ (w 78 17).toInt ≤ 4) → ((w_162 61 20).toInt = (w 78 15).toInt ∧ (w_162 61 19).toInt = (w 78 14).toInt) → (¬ (w 61 3).toInt = 0) → (kSlot w 2) → ((121 - l2_162.toInt) : Int) < (n_162 : Int) → kV p l e { frames := 1, cells := 0, slots := 0, locals := 36 } s m args below meth c (kQ below args s D τ ρ (fun o w' => ∃ r : Int32, o = some (.int r) ∧ kI false w' ∧ kF [(61, some 12), (61, some 13), (61, some 14), (61, some 19), (61, some 20), (61, some 26), (61, some 27), (64, none), (66, none), (67, none), (68, none), (69, none), (70, none), (71, none)] w w' ∧ (¬ (w 61 3).toInt = 0 ∨ ((2 : Int32).toInt < 0 ∨ 3 < (2 : Int32).toInt) ∧ r.toInt = -1 ∨ 0 ≤ (2 : Int32).toInt ∧ (2 : Int32).toInt ≤ 3 ∧ r.toInt = -2) ∧ ((w' 61 3).toInt = 0 ∧ (w' 61 12).toInt = 0 ∨ kMoT w'))) 5 D τ ρ 162 [(0, .ref (ρ 61)), (1, .int 2), (2, .int l2_162)] [] w_162 := by
    intro n_162
    induction n_162 with
    | zero => intro w_162 l2_162 I_162 F_162 k162_0 k162_1 k162_2 k162_3 R162_S hmz; exfalso; omega
    | succ n_162 ih162 =>
      intro w_162 l2_162 I_162 F_162 k162_0 k162_1 k162_2 k162_3 R162_S hm162
      have gl2_162 := kf_rng l2_162
      obtain ⟨x110, e111⟩ : ∃ z : Int32, w 78 15 = z := ⟨_, rfl⟩
      have b112 : (0 : Int) ≤ x110.toInt ∧ x110.toInt ≤ 65535 := by rw [← e111]; exact hI 78 15
      obtain ⟨x113, e114⟩ : ∃ z : Int32, w 78 14 = z := ⟨_, rfl⟩
      have b115 : (0 : Int) ≤ x113.toInt ∧ x113.toInt ≤ 65535 := by rw [← e114]; exact hI 78 14
      obtain ⟨x116, e117⟩ : ∃ z : Int32, w 78 17 = z := ⟨_, rfl⟩
      have b118 : (0 : Int) ≤ x116.toInt ∧ x116.toInt ≤ 65535 := by rw [← e117]; exact hI 78 17
      rw [e111, e114, e117] at k162_1
      obtain ⟨x119, e120⟩ : ∃ z : Int32, w_162 61 20 = z := ⟨_, rfl⟩
      have b121 : (0 : Int) ≤ x119.toInt ∧ x119.toInt ≤ 20 := by rw [← e120]; exact I_162 61 20
      obtain ⟨x122, e123⟩ : ∃ z : Int32, w_162 61 19 = z := ⟨_, rfl⟩
      have b124 : (0 : Int) ≤ x122.toInt ∧ x122.toInt ≤ 120 := by rw [← e123]; exact I_162 61 19
      rw [e111, e114, e120, e123] at k162_2
      obtain ⟨x125, e126⟩ : ∃ z : Int32, w 61 3 = z := ⟨_, rfl⟩
      have b127 : (0 : Int) ≤ x125.toInt ∧ x125.toInt ≤ 1 := by rw [← e126]; exact hI 61 3
      rw [e126] at k162_3
      refine kv_iload_n C 163 rfl 2 (kdec dk_cX10_restore 101 rfl) rfl rfl ?_
      refine kv_aload_n C 164 rfl 0 (kdec dk_cX10_restore 102 rfl) rfl rfl ?_
      refine kv_get C 167 rfl 61 19 rfl rfl inX10 (by decide) mfl_TaleMachineModel_136 rfl rfl (kdec dk_cX10_restore 103 rfl) e123 ?_
      refine kv_icmp_ge C 170 rfl 193 (kdec dk_cX10_restore 104 rfl) (by decide) (fun d128 => ?_) (fun d128 => ?_)
      · skip
        refine kv_iconst C 194 rfl 0 (kdec dk_cX10_restore 119 rfl) rfl ?_
        refine kv_istore_n C 195 rfl 2 [1, 2, 0] [(0, .ref (ρ 61)), (1, .int 2), (2, .int 0)] (kdec dk_cX10_restore 120 rfl) rfl (by decide) rfl ?_
        exact cut195 ((((21 - (0 : Int32).toInt)) : Int).toNat + 1) w_162 0 I_162 F_162 (by omega) (by rw [e111, e114, e117]; try omega) (by rw [e111, e114, e120, e123]; try omega) (by rw [e126]; try omega) R162_S (fun f9 hf9 => by exfalso; omega) (by omega)
      · skip
        refine kv_aload_n C 171 rfl 0 (kdec dk_cX10_restore 105 rfl) rfl rfl ?_
        refine kv_getr C 174 rfl 61 18 rfl rfl inX10 (by decide) mfl_TaleMachineModel_22 rfl rfl (kdec dk_cX10_restore 106 rfl) ?_
        refine kv_iload_n C 175 rfl 2 (kdec dk_cX10_restore 107 rfl) rfl rfl ?_
        refine kv_aload_n C 176 rfl 0 (kdec dk_cX10_restore 108 rfl) rfl rfl ?_
        refine kv_getr C 179 rfl 61 35 rfl rfl inX10 (by decide) mfl_TaleMachineModel_53 rfl rfl (kdec dk_cX10_restore 109 rfl) ?_
        refine kv_bipush C 181 rfl 120 (kdec dk_cX10_restore 110 rfl) rfl ?_
        refine kv_iload_n C 182 rfl 1 (kdec dk_cX10_restore 111 rfl) rfl rfl ?_
        refine kv_imul C 183 rfl (kdec dk_cX10_restore 112 rfl) (fun x129 h130e h130l h130u => ?_)
        obtain rfl : x129 = 240 := by rw [h130e]; decide
        refine kv_iload_n C 184 rfl 2 (kdec dk_cX10_restore 113 rfl) rfl rfl ?_
        refine kv_iadd C 185 rfl (kdec dk_cX10_restore 114 rfl) (fun x131 q133 h132e h132 h132l h132u => ?_)
        try have h132n : x131.toInt = (240 : Int32).toInt + l2_162.toInt := by omega
        clear h132 q133
        obtain ⟨x134, e135⟩ : ∃ z : Int32, w_162 76 (x131 : Int32).toNatClampNeg = z := ⟨_, rfl⟩
        have b136 : (0 : Int) ≤ x134.toInt ∧ x134.toInt ≤ 65535 := by rw [← e135]; exact I_162 76 _
        refine kv_iald C 186 rfl 76 rfl (by omega) (by omega) e135 (kdec dk_cX10_restore 115 rfl) ?_
        refine kv_iast C 187 rfl 66 rfl (by omega) (by omega) (kdec dk_cX10_restore 116 rfl) (fun w137 u138 => ?_)
        have I139 : kI false w137 := kI_put u138 I_162 (show (0 : Int) ≤ (x134 : Int32).toInt by omega) (show (x134 : Int32).toInt ≤ 65535 by omega)
        have F140 : kF [(61, some 12), (61, some 13), (61, some 14), (61, some 19), (61, some 20), (61, some 26), (61, some 27), (64, none), (66, none), (67, none), (68, none), (69, none), (70, none), (71, none)] w w137 := kF_put u138 F_162 rfl
        refine kv_iinc C 190 rfl 2 2 [1, 2, 0] (fun v9 => [(0, .ref (ρ 61)), (1, .int 2), (2, .int v9)]) (kdec dk_cX10_restore 117 rfl) rfl (by decide) (fun _ => rfl) 1 rfl (fun x141 q142 h143e h143 h143l h143u => ?_)
        try have h143n : x141.toInt = l2_162.toInt + 1 := by omega
        clear h143 q142
        refine kv_goto C 162 (kdec dk_cX10_restore 118 rfl) (by decide) ?_
        have e144 : w137 61 20 = x119 := ((kup_ne u138 rfl : w137 61 20 = w_162 61 20).trans e120)
        have e145 : w137 61 19 = x122 := ((kup_ne u138 rfl : w137 61 19 = w_162 61 19).trans e123)
        exact ih162 w137 x141 I139 F140 (by omega) (by rw [e111, e114, e117]; try omega) (by rw [e111, e114, e144, e145]; try omega) (by rw [e126]; try omega) R162_S (by omega)
  have cut35 : ∀ (n_35 : Nat) (w_35 : kw) (l2_35 : Int32), kI false w_35 → kF [(61, some 12), (61, some 13), (61, some 14), (61, some 19), (61, some 20), (61, some 26), (61, some 27), (64, none), (66, none), (67, none), (68, none), (69, none), (70, none), (71, none)] w w_35 → (0 ≤ l2_35.toInt ∧ l2_35.toInt ≤ 1024) → (1 ≤ (w 78 15).toInt ∧ (w 78 15).toInt ≤ 20 ∧ (w 78 14).toInt ≤ 120 ∧ (w 78 17).toInt ≤ 4) → (¬ (w 61 3).toInt = 0) → (kSlot w 2) → ((1025 - l2_35.toInt) : Int) < (n_35 : Int) → kV p l e { frames := 1, cells := 0, slots := 0, locals := 36 } s m args below meth c (kQ below args s D τ ρ (fun o w' => ∃ r : Int32, o = some (.int r) ∧ kI false w' ∧ kF [(61, some 12), (61, some 13), (61, some 14), (61, some 19), (61, some 20), (61, some 26), (61, some 27), (64, none), (66, none), (67, none), (68, none), (69, none), (70, none), (71, none)] w w' ∧ (¬ (w 61 3).toInt = 0 ∨ ((2 : Int32).toInt < 0 ∨ 3 < (2 : Int32).toInt) ∧ r.toInt = -1 ∨ 0 ≤ (2 : Int32).toInt ∧ (2 : Int32).toInt ≤ 3 ∧ r.toInt = -2) ∧ ((w' 61 3).toInt = 0 ∧ (w' 61 12).toInt = 0 ∨ kMoT w'))) 5 D τ ρ 35 [(0, .ref (ρ 61)), (1, .int 2), (2, .int l2_35)] [] w_35 := by
    intro n_35
    induction n_35 with
    | zero => intro w_35 l2_35 I_35 F_35 k35_0 k35_1 k35_2 R35_S hmz; exfalso; omega
    | succ n_35 ih35 =>
      intro w_35 l2_35 I_35 F_35 k35_0 k35_1 k35_2 R35_S hm35
      have gl2_35 := kf_rng l2_35
      obtain ⟨x146, e147⟩ : ∃ z : Int32, w 78 15 = z := ⟨_, rfl⟩
      have b148 : (0 : Int) ≤ x146.toInt ∧ x146.toInt ≤ 65535 := by rw [← e147]; exact hI 78 15
      obtain ⟨x149, e150⟩ : ∃ z : Int32, w 78 14 = z := ⟨_, rfl⟩
      have b151 : (0 : Int) ≤ x149.toInt ∧ x149.toInt ≤ 65535 := by rw [← e150]; exact hI 78 14
      obtain ⟨x152, e153⟩ : ∃ z : Int32, w 78 17 = z := ⟨_, rfl⟩
      have b154 : (0 : Int) ≤ x152.toInt ∧ x152.toInt ≤ 65535 := by rw [← e153]; exact hI 78 17
      rw [e147, e150, e153] at k35_1
      obtain ⟨x155, e156⟩ : ∃ z : Int32, w 61 3 = z := ⟨_, rfl⟩
      have b157 : (0 : Int) ≤ x155.toInt ∧ x155.toInt ≤ 1 := by rw [← e156]; exact hI 61 3
      rw [e156] at k35_2
      refine kv_iload_n C 36 rfl 2 (kdec dk_cX10_restore 20 rfl) rfl rfl ?_
      refine kv_aload_n C 37 rfl 0 (kdec dk_cX10_restore 21 rfl) rfl rfl ?_
      obtain ⟨x158, e159⟩ : ∃ z : Int32, w 61 7 = z := ⟨_, rfl⟩
      have b160 : (0 : Int) ≤ x158.toInt ∧ x158.toInt ≤ 1024 := by rw [← e159]; exact hI 61 7
      have e161 : w_35 61 7 = x158 := ((F_35 61 7 rfl : w_35 61 7 = w 61 7).trans e159)
      refine kv_get C 40 rfl 61 7 rfl rfl inX10 (by decide) mfl_TaleMachineModel_118 rfl rfl (kdec dk_cX10_restore 22 rfl) e161 ?_
      refine kv_icmp_ge C 43 rfl 67 (kdec dk_cX10_restore 23 rfl) (by decide) (fun d162 => ?_) (fun d162 => ?_)
      · skip
        refine kv_aload_n C 68 rfl 0 (kdec dk_cX10_restore 38 rfl) rfl rfl ?_
        refine kv_aload_n C 69 rfl 0 (kdec dk_cX10_restore 39 rfl) rfl rfl ?_
        refine kv_getr C 72 rfl 61 37 rfl rfl inX10 (by decide) mfl_TaleMachineModel_59 rfl rfl (kdec dk_cX10_restore 40 rfl) ?_
        refine kv_bipush C 74 rfl 7 (kdec dk_cX10_restore 41 rfl) rfl ?_
        refine kv_iload_n C 75 rfl 1 (kdec dk_cX10_restore 42 rfl) rfl rfl ?_
        refine kv_imul C 76 rfl (kdec dk_cX10_restore 43 rfl) (fun x163 h164e h164l h164u => ?_)
        obtain rfl : x163 = 14 := by rw [h164e]; decide
        have e165 : w_35 78 14 = x149 := ((F_35 78 14 rfl : w_35 78 14 = w 78 14).trans e150)
        refine kv_iald C 77 rfl 78 rfl (by omega) (by omega) (show w_35 78 (14 : Int32).toNatClampNeg = x149 from e165) (kdec dk_cX10_restore 44 rfl) ?_
        refine kv_put C 80 rfl 61 19 rfl rfl inX10 (by decide) mfl_TaleMachineModel_136 rfl tyX10 tyX10_ok nmX10 rfl rfl (kdec dk_cX10_restore 45 rfl) rfl rfl (fun w166 u167 => ?_)
        have I168 : kI false w166 := kI_put u167 I_35 (show (0 : Int) ≤ (x149 : Int32).toInt by omega) (show (x149 : Int32).toInt ≤ 120 by omega)
        have F169 : kF [(61, some 12), (61, some 13), (61, some 14), (61, some 19), (61, some 20), (61, some 26), (61, some 27), (64, none), (66, none), (67, none), (68, none), (69, none), (70, none), (71, none)] w w166 := kF_put u167 F_35 rfl
        refine kv_aload_n C 81 rfl 0 (kdec dk_cX10_restore 46 rfl) rfl rfl ?_
        refine kv_aload_n C 82 rfl 0 (kdec dk_cX10_restore 47 rfl) rfl rfl ?_
        refine kv_getr C 85 rfl 61 37 rfl rfl inX10 (by decide) mfl_TaleMachineModel_59 rfl rfl (kdec dk_cX10_restore 48 rfl) ?_
        refine kv_bipush C 87 rfl 7 (kdec dk_cX10_restore 49 rfl) rfl ?_
        refine kv_iload_n C 88 rfl 1 (kdec dk_cX10_restore 50 rfl) rfl rfl ?_
        refine kv_imul C 89 rfl (kdec dk_cX10_restore 51 rfl) (fun x170 h171e h171l h171u => ?_)
        obtain rfl : x170 = 14 := by rw [h171e]; decide
        refine kv_iconst C 90 rfl 1 (kdec dk_cX10_restore 52 rfl) rfl ?_
        refine kv_iadd C 91 rfl (kdec dk_cX10_restore 53 rfl) (fun x172 q174 h173e h173 h173l h173u => ?_)
        try have h173n : x172.toInt = (14 : Int32).toInt + (1 : Int32).toInt := by omega
        clear h173 q174
        obtain rfl : x172 = 15 := by rw [h173e]; decide
        have e175 : w166 78 15 = x146 := ((kup_ne u167 rfl : w166 78 15 = w_35 78 15).trans ((F_35 78 15 rfl : w_35 78 15 = w 78 15).trans e147))
        refine kv_iald C 92 rfl 78 rfl (by omega) (by omega) (show w166 78 (15 : Int32).toNatClampNeg = x146 from e175) (kdec dk_cX10_restore 54 rfl) ?_
        refine kv_put C 95 rfl 61 20 rfl rfl inX10 (by decide) mfl_TaleMachineModel_139 rfl tyX10 tyX10_ok nmX10 rfl rfl (kdec dk_cX10_restore 55 rfl) rfl rfl (fun w176 u177 => ?_)
        have I178 : kI false w176 := kI_put u177 I168 (show (0 : Int) ≤ (x146 : Int32).toInt by omega) (show (x146 : Int32).toInt ≤ 20 by omega)
        have F179 : kF [(61, some 12), (61, some 13), (61, some 14), (61, some 19), (61, some 20), (61, some 26), (61, some 27), (64, none), (66, none), (67, none), (68, none), (69, none), (70, none), (71, none)] w w176 := kF_put u177 F169 rfl
        refine kv_aload_n C 96 rfl 0 (kdec dk_cX10_restore 56 rfl) rfl rfl ?_
        refine kv_aload_n C 97 rfl 0 (kdec dk_cX10_restore 57 rfl) rfl rfl ?_
        refine kv_getr C 100 rfl 61 37 rfl rfl inX10 (by decide) mfl_TaleMachineModel_59 rfl rfl (kdec dk_cX10_restore 58 rfl) ?_
        refine kv_bipush C 102 rfl 7 (kdec dk_cX10_restore 59 rfl) rfl ?_
        refine kv_iload_n C 103 rfl 1 (kdec dk_cX10_restore 60 rfl) rfl rfl ?_
        refine kv_imul C 104 rfl (kdec dk_cX10_restore 61 rfl) (fun x180 h181e h181l h181u => ?_)
        obtain rfl : x180 = 14 := by rw [h181e]; decide
        refine kv_iconst C 105 rfl 2 (kdec dk_cX10_restore 62 rfl) rfl ?_
        refine kv_iadd C 106 rfl (kdec dk_cX10_restore 63 rfl) (fun x182 q184 h183e h183 h183l h183u => ?_)
        try have h183n : x182.toInt = (14 : Int32).toInt + (2 : Int32).toInt := by omega
        clear h183 q184
        obtain rfl : x182 = 16 := by rw [h183e]; decide
        obtain ⟨x185, e186⟩ : ∃ z : Int32, w 78 16 = z := ⟨_, rfl⟩
        have b187 : (0 : Int) ≤ x185.toInt ∧ x185.toInt ≤ 65535 := by rw [← e186]; exact hI 78 16
        have e188 : w176 78 16 = x185 := ((kup_ne u177 rfl : w176 78 16 = w166 78 16).trans ((kup_ne u167 rfl : w166 78 16 = w_35 78 16).trans ((F_35 78 16 rfl : w_35 78 16 = w 78 16).trans e186)))
        refine kv_iald C 107 rfl 78 rfl (by omega) (by omega) (show w176 78 (16 : Int32).toNatClampNeg = x185 from e188) (kdec dk_cX10_restore 64 rfl) ?_
        refine kv_put C 110 rfl 61 14 rfl rfl inX10 (by decide) mfl_TaleMachineModel_142 rfl tyX10 tyX10_ok nmX10 rfl rfl (kdec dk_cX10_restore 65 rfl) rfl rfl (fun w189 u190 => ?_)
        have I191 : kI false w189 := kI_put u190 I178 (show (0 : Int) ≤ (x185 : Int32).toInt by omega) (show (x185 : Int32).toInt ≤ 65535 by omega)
        have F192 : kF [(61, some 12), (61, some 13), (61, some 14), (61, some 19), (61, some 20), (61, some 26), (61, some 27), (64, none), (66, none), (67, none), (68, none), (69, none), (70, none), (71, none)] w w189 := kF_put u190 F179 rfl
        refine kv_aload_n C 111 rfl 0 (kdec dk_cX10_restore 66 rfl) rfl rfl ?_
        refine kv_aload_n C 112 rfl 0 (kdec dk_cX10_restore 67 rfl) rfl rfl ?_
        refine kv_getr C 115 rfl 61 37 rfl rfl inX10 (by decide) mfl_TaleMachineModel_59 rfl rfl (kdec dk_cX10_restore 68 rfl) ?_
        refine kv_bipush C 117 rfl 7 (kdec dk_cX10_restore 69 rfl) rfl ?_
        refine kv_iload_n C 118 rfl 1 (kdec dk_cX10_restore 70 rfl) rfl rfl ?_
        refine kv_imul C 119 rfl (kdec dk_cX10_restore 71 rfl) (fun x193 h194e h194l h194u => ?_)
        obtain rfl : x193 = 14 := by rw [h194e]; decide
        refine kv_iconst C 120 rfl 3 (kdec dk_cX10_restore 72 rfl) rfl ?_
        refine kv_iadd C 121 rfl (kdec dk_cX10_restore 73 rfl) (fun x195 q197 h196e h196 h196l h196u => ?_)
        try have h196n : x195.toInt = (14 : Int32).toInt + (3 : Int32).toInt := by omega
        clear h196 q197
        obtain rfl : x195 = 17 := by rw [h196e]; decide
        have e198 : w189 78 17 = x152 := ((kup_ne u190 rfl : w189 78 17 = w176 78 17).trans ((kup_ne u177 rfl : w176 78 17 = w166 78 17).trans ((kup_ne u167 rfl : w166 78 17 = w_35 78 17).trans ((F_35 78 17 rfl : w_35 78 17 = w 78 17).trans e153))))
        refine kv_iald C 122 rfl 78 rfl (by omega) (by omega) (show w189 78 (17 : Int32).toNatClampNeg = x152 from e198) (kdec dk_cX10_restore 74 rfl) ?_
        refine kv_put C 125 rfl 61 12 rfl rfl inX10 (by decide) mfl_TaleMachineModel_112 rfl tyX10 tyX10_ok nmX10 rfl rfl (kdec dk_cX10_restore 75 rfl) rfl rfl (fun w199 u200 => ?_)
        have I201 : kI false w199 := kI_put u200 I191 (show (0 : Int) ≤ (x152 : Int32).toInt by omega) (show (x152 : Int32).toInt ≤ 4 by omega)
        have F202 : kF [(61, some 12), (61, some 13), (61, some 14), (61, some 19), (61, some 20), (61, some 26), (61, some 27), (64, none), (66, none), (67, none), (68, none), (69, none), (70, none), (71, none)] w w199 := kF_put u200 F192 rfl
        refine kv_aload_n C 126 rfl 0 (kdec dk_cX10_restore 76 rfl) rfl rfl ?_
        refine kv_aload_n C 127 rfl 0 (kdec dk_cX10_restore 77 rfl) rfl rfl ?_
        refine kv_getr C 130 rfl 61 37 rfl rfl inX10 (by decide) mfl_TaleMachineModel_59 rfl rfl (kdec dk_cX10_restore 78 rfl) ?_
        refine kv_bipush C 132 rfl 7 (kdec dk_cX10_restore 79 rfl) rfl ?_
        refine kv_iload_n C 133 rfl 1 (kdec dk_cX10_restore 80 rfl) rfl rfl ?_
        refine kv_imul C 134 rfl (kdec dk_cX10_restore 81 rfl) (fun x203 h204e h204l h204u => ?_)
        obtain rfl : x203 = 14 := by rw [h204e]; decide
        refine kv_iconst C 135 rfl 4 (kdec dk_cX10_restore 82 rfl) rfl ?_
        refine kv_iadd C 136 rfl (kdec dk_cX10_restore 83 rfl) (fun x205 q207 h206e h206 h206l h206u => ?_)
        try have h206n : x205.toInt = (14 : Int32).toInt + (4 : Int32).toInt := by omega
        clear h206 q207
        obtain rfl : x205 = 18 := by rw [h206e]; decide
        obtain ⟨x208, e209⟩ : ∃ z : Int32, w 78 18 = z := ⟨_, rfl⟩
        have b210 : (0 : Int) ≤ x208.toInt ∧ x208.toInt ≤ 65535 := by rw [← e209]; exact hI 78 18
        have e211 : w199 78 18 = x208 := ((kup_ne u200 rfl : w199 78 18 = w189 78 18).trans ((kup_ne u190 rfl : w189 78 18 = w176 78 18).trans ((kup_ne u177 rfl : w176 78 18 = w166 78 18).trans ((kup_ne u167 rfl : w166 78 18 = w_35 78 18).trans ((F_35 78 18 rfl : w_35 78 18 = w 78 18).trans e209)))))
        refine kv_iald C 137 rfl 78 rfl (by omega) (by omega) (show w199 78 (18 : Int32).toNatClampNeg = x208 from e211) (kdec dk_cX10_restore 84 rfl) ?_
        refine kv_put C 140 rfl 61 26 rfl rfl inX10 (by decide) mfl_TaleMachineModel_323 rfl tyX10 tyX10_ok nmX10 rfl rfl (kdec dk_cX10_restore 85 rfl) rfl rfl (fun w212 u213 => ?_)
        have I214 : kI false w212 := kI_put u213 I201 (show (0 : Int) ≤ (x208 : Int32).toInt by omega) (show (x208 : Int32).toInt ≤ 65535 by omega)
        have F215 : kF [(61, some 12), (61, some 13), (61, some 14), (61, some 19), (61, some 20), (61, some 26), (61, some 27), (64, none), (66, none), (67, none), (68, none), (69, none), (70, none), (71, none)] w w212 := kF_put u213 F202 rfl
        refine kv_aload_n C 141 rfl 0 (kdec dk_cX10_restore 86 rfl) rfl rfl ?_
        refine kv_aload_n C 142 rfl 0 (kdec dk_cX10_restore 87 rfl) rfl rfl ?_
        refine kv_getr C 145 rfl 61 37 rfl rfl inX10 (by decide) mfl_TaleMachineModel_59 rfl rfl (kdec dk_cX10_restore 88 rfl) ?_
        refine kv_bipush C 147 rfl 7 (kdec dk_cX10_restore 89 rfl) rfl ?_
        refine kv_iload_n C 148 rfl 1 (kdec dk_cX10_restore 90 rfl) rfl rfl ?_
        refine kv_imul C 149 rfl (kdec dk_cX10_restore 91 rfl) (fun x216 h217e h217l h217u => ?_)
        obtain rfl : x216 = 14 := by rw [h217e]; decide
        refine kv_iconst C 150 rfl 5 (kdec dk_cX10_restore 92 rfl) rfl ?_
        refine kv_iadd C 151 rfl (kdec dk_cX10_restore 93 rfl) (fun x218 q220 h219e h219 h219l h219u => ?_)
        try have h219n : x218.toInt = (14 : Int32).toInt + (5 : Int32).toInt := by omega
        clear h219 q220
        obtain rfl : x218 = 19 := by rw [h219e]; decide
        obtain ⟨x221, e222⟩ : ∃ z : Int32, w 78 19 = z := ⟨_, rfl⟩
        have b223 : (0 : Int) ≤ x221.toInt ∧ x221.toInt ≤ 65535 := by rw [← e222]; exact hI 78 19
        have e224 : w212 78 19 = x221 := ((kup_ne u213 rfl : w212 78 19 = w199 78 19).trans ((kup_ne u200 rfl : w199 78 19 = w189 78 19).trans ((kup_ne u190 rfl : w189 78 19 = w176 78 19).trans ((kup_ne u177 rfl : w176 78 19 = w166 78 19).trans ((kup_ne u167 rfl : w166 78 19 = w_35 78 19).trans ((F_35 78 19 rfl : w_35 78 19 = w 78 19).trans e222))))))
        refine kv_iald C 152 rfl 78 rfl (by omega) (by omega) (show w212 78 (19 : Int32).toNatClampNeg = x221 from e224) (kdec dk_cX10_restore 94 rfl) ?_
        refine kv_put C 155 rfl 61 27 rfl rfl inX10 (by decide) mfl_TaleMachineModel_326 rfl tyX10 tyX10_ok nmX10 rfl rfl (kdec dk_cX10_restore 95 rfl) rfl rfl (fun w225 u226 => ?_)
        have I227 : kI false w225 := kI_put u226 I214 (show (0 : Int) ≤ (x221 : Int32).toInt by omega) (show (x221 : Int32).toInt ≤ 65535 by omega)
        have F228 : kF [(61, some 12), (61, some 13), (61, some 14), (61, some 19), (61, some 20), (61, some 26), (61, some 27), (64, none), (66, none), (67, none), (68, none), (69, none), (70, none), (71, none)] w w225 := kF_put u226 F215 rfl
        refine kv_aload_n C 156 rfl 0 (kdec dk_cX10_restore 96 rfl) rfl rfl ?_
        refine kv_iconst C 157 rfl 0 (kdec dk_cX10_restore 97 rfl) rfl ?_
        refine kv_put C 160 rfl 61 13 rfl rfl inX10 (by decide) mfl_TaleMachineModel_148 rfl tyX10 tyX10_ok nmX10 rfl rfl (kdec dk_cX10_restore 98 rfl) rfl rfl (fun w229 u230 => ?_)
        have I231 : kI false w229 := kI_put u230 I227 (show (0 : Int) ≤ (0 : Int32).toInt by omega) (show (0 : Int32).toInt ≤ 13 by omega)
        have F232 : kF [(61, some 12), (61, some 13), (61, some 14), (61, some 19), (61, some 20), (61, some 26), (61, some 27), (64, none), (66, none), (67, none), (68, none), (69, none), (70, none), (71, none)] w w229 := kF_put u230 F228 rfl
        refine kv_iconst C 161 rfl 0 (kdec dk_cX10_restore 99 rfl) rfl ?_
        refine kv_istore_n C 162 rfl 2 [1, 2, 0] [(0, .ref (ρ 61)), (1, .int 2), (2, .int 0)] (kdec dk_cX10_restore 100 rfl) rfl (by decide) rfl ?_
        have e233 : w229 61 20 = x146 := ((kup_ne u230 rfl : w229 61 20 = w225 61 20).trans ((kup_ne u226 rfl : w225 61 20 = w212 61 20).trans ((kup_ne u213 rfl : w212 61 20 = w199 61 20).trans ((kup_ne u200 rfl : w199 61 20 = w189 61 20).trans ((kup_ne u190 rfl : w189 61 20 = w176 61 20).trans (kup_eq u177))))))
        have e234 : w229 61 19 = x149 := ((kup_ne u230 rfl : w229 61 19 = w225 61 19).trans ((kup_ne u226 rfl : w225 61 19 = w212 61 19).trans ((kup_ne u213 rfl : w212 61 19 = w199 61 19).trans ((kup_ne u200 rfl : w199 61 19 = w189 61 19).trans ((kup_ne u190 rfl : w189 61 19 = w176 61 19).trans ((kup_ne u177 rfl : w176 61 19 = w166 61 19).trans (kup_eq u167)))))))
        exact cut162 ((((121 - (0 : Int32).toInt)) : Int).toNat + 1) w229 0 I231 F232 (by omega) (by rw [e147, e150, e153]; try omega) (by rw [e147, e150, e233, e234]; try omega) (by rw [e156]; try omega) R35_S (by omega)
      · skip
        refine kv_aload_n C 44 rfl 0 (kdec dk_cX10_restore 24 rfl) rfl rfl ?_
        refine kv_getr C 47 rfl 61 4 rfl rfl inX10 (by decide) mfl_TaleMachineModel_16 rfl rfl (kdec dk_cX10_restore 25 rfl) ?_
        refine kv_iload_n C 48 rfl 2 (kdec dk_cX10_restore 26 rfl) rfl rfl ?_
        refine kv_aload_n C 49 rfl 0 (kdec dk_cX10_restore 27 rfl) rfl rfl ?_
        refine kv_getr C 52 rfl 61 34 rfl rfl inX10 (by decide) mfl_TaleMachineModel_50 rfl rfl (kdec dk_cX10_restore 28 rfl) ?_
        refine kv_sipush C 55 rfl 1024 (kdec dk_cX10_restore 29 rfl) rfl ?_
        refine kv_iload_n C 56 rfl 1 (kdec dk_cX10_restore 30 rfl) rfl rfl ?_
        refine kv_imul C 57 rfl (kdec dk_cX10_restore 31 rfl) (fun x235 h236e h236l h236u => ?_)
        obtain rfl : x235 = 2048 := by rw [h236e]; decide
        refine kv_iload_n C 58 rfl 2 (kdec dk_cX10_restore 32 rfl) rfl rfl ?_
        refine kv_iadd C 59 rfl (kdec dk_cX10_restore 33 rfl) (fun x237 q239 h238e h238 h238l h238u => ?_)
        try have h238n : x237.toInt = (2048 : Int32).toInt + l2_35.toInt := by omega
        clear h238 q239
        obtain ⟨x240, e241⟩ : ∃ z : Int32, w_35 75 (x237 : Int32).toNatClampNeg = z := ⟨_, rfl⟩
        have b242 : (0 : Int) ≤ x240.toInt ∧ x240.toInt ≤ 255 := by rw [← e241]; exact I_35 75 _
        refine kv_iald C 60 rfl 75 rfl (by omega) (by omega) e241 (kdec dk_cX10_restore 34 rfl) ?_
        refine kv_iast C 61 rfl 64 rfl (by omega) (by omega) (kdec dk_cX10_restore 35 rfl) (fun w243 u244 => ?_)
        have I245 : kI false w243 := kI_put u244 I_35 (show (0 : Int) ≤ (x240 : Int32).toInt by omega) (show (x240 : Int32).toInt ≤ 255 by omega)
        have F246 : kF [(61, some 12), (61, some 13), (61, some 14), (61, some 19), (61, some 20), (61, some 26), (61, some 27), (64, none), (66, none), (67, none), (68, none), (69, none), (70, none), (71, none)] w w243 := kF_put u244 F_35 rfl
        refine kv_iinc C 64 rfl 2 2 [1, 2, 0] (fun v9 => [(0, .ref (ρ 61)), (1, .int 2), (2, .int v9)]) (kdec dk_cX10_restore 36 rfl) rfl (by decide) (fun _ => rfl) 1 rfl (fun x247 q248 h249e h249 h249l h249u => ?_)
        try have h249n : x247.toInt = l2_35.toInt + 1 := by omega
        clear h249 q248
        refine kv_goto C 35 (kdec dk_cX10_restore 37 rfl) (by decide) ?_
        exact ih35 w243 x247 I245 F246 (by omega) (by rw [e147, e150, e153]; try omega) (by rw [e156]; try omega) R35_S (by omega)
  refine kv_iload_n C 1 rfl 1 (kdec dk_cX10_restore 0 rfl) rfl rfl ?_
  refine kv_i2l C 2 rfl (kdec dk_cX10_restore 1 rfl) ?_
  have h250 := kf_i2l 2
  refine kv_lconst C 3 rfl 0 (kdec dk_cX10_restore 2 rfl) rfl ?_
  have h251 : (0 : Int64).toInt = 0 := by decide
  refine kv_ldc2 C 6 rfl 3 (kdec dk_cX10_restore 3 rfl) mcl_TaleMachineModel_259 ?_
  have h252 : (3 : Int64).toInt = 3 := by decide
  refine kv_callSi (As := [.long (2 : Int32).toInt64, .long (0 : Int64), .long (3 : Int64)]) (rest := []) C 9 rfl (k_x_in l D τ ρ σ w (2 : Int32).toInt64 (0 : Int64) (3 : Int64) hI ) mml_TaleMachineModel_94 mst_yX10_in mcd_yX10_in min_yX10_in hd_yX10_in rfl rfl rfl (by decide) rfl (Nat.le_of_ble_eq_true rfl) (kdec dk_cX10_restore 4 rfl) (fun x257 w253 h254 => ?_)
  obtain ⟨I255, f256, p258, p259⟩ := h254
  have F260 : kF [(61, some 12), (61, some 13), (61, some 14), (61, some 19), (61, some 20), (61, some 26), (61, some 27), (64, none), (66, none), (67, none), (68, none), (69, none), (70, none), (71, none)] w w253 := kF_call hF0 f256 (by decide)
  have M261 : ((w253 61 3).toInt = 0 ∧ (w253 61 12).toInt = 0 ∨ kMoT w253) := kMoP_kF f256 hMp rfl rfl rfl rfl (fun _ => rfl)
  have g262 := kf_rng x257
  refine kv_if_ne C 12 rfl 14 (kdec dk_cX10_restore 5 rfl) (by decide) (fun d263 => ?_) (fun d263 => ?_)
  · skip
    refine kv_aload_n C 15 rfl 0 (kdec dk_cX10_restore 8 rfl) rfl rfl ?_
    obtain ⟨x264, e265⟩ : ∃ z : Int32, w 61 3 = z := ⟨_, rfl⟩
    have b266 : (0 : Int) ≤ x264.toInt ∧ x264.toInt ≤ 1 := by rw [← e265]; exact hI 61 3
    have e267 : w253 61 3 = x264 := ((f256 61 3 rfl : w253 61 3 = w 61 3).trans e265)
    refine kv_get C 18 rfl 61 3 rfl rfl inX10 (by decide) mfl_TaleMachineModel_108 rfl rfl (kdec dk_cX10_restore 9 rfl) e267 ?_
    refine kv_if_eq C 21 rfl 30 (kdec dk_cX10_restore 10 rfl) (by decide) (fun d268 => ?_) (fun d268 => ?_)
    · skip
      refine kv_bipush C 32 rfl (-2) (kdec dk_cX10_restore 16 rfl) rfl ?_
      exact kv_iret C hr hlk (kdec dk_cX10_restore 17 rfl) ⟨_, rfl, I255, F260, (by rw [e265]; try omega), M261⟩
    · skip
      refine kv_aload_n C 22 rfl 0 (kdec dk_cX10_restore 11 rfl) rfl rfl ?_
      refine kv_getr C 25 rfl 61 33 rfl rfl inX10 (by decide) mfl_TaleMachineModel_46 rfl rfl (kdec dk_cX10_restore 12 rfl) ?_
      refine kv_iload_n C 26 rfl 1 (kdec dk_cX10_restore 13 rfl) rfl rfl ?_
      obtain ⟨x269, e270⟩ : ∃ z : Int32, w 74 2 = z := ⟨_, rfl⟩
      have b271 : (0 : Int) ≤ x269.toInt ∧ x269.toInt ≤ 1 := by rw [← e270]; exact hI 74 2
      have e272 : w253 74 2 = x269 := ((f256 74 2 rfl : w253 74 2 = w 74 2).trans e270)
      refine kv_zald C 27 rfl 74 rfl (by omega) (by omega) (show w253 74 (2 : Int32).toNatClampNeg = x269 from e272) (kdec dk_cX10_restore 14 rfl) ?_
      refine kv_if_ne C 30 rfl 33 (kdec dk_cX10_restore 15 rfl) (by decide) (fun d273 => ?_) (fun d273 => ?_)
      · skip
        have hSl : kSlot w 2 := hS 2 (by decide) (by rw [e270]; omega)
        obtain ⟨x274, e275⟩ : ∃ z : Int32, w 78 14 = z := ⟨_, rfl⟩
        have b276 : (0 : Int) ≤ x274.toInt ∧ x274.toInt ≤ 65535 := by rw [← e275]; exact hI 78 14
        obtain ⟨x277, e278⟩ : ∃ z : Int32, w 78 15 = z := ⟨_, rfl⟩
        have b279 : (0 : Int) ≤ x277.toInt ∧ x277.toInt ≤ 65535 := by rw [← e278]; exact hI 78 15
        obtain ⟨x280, e281⟩ : ∃ z : Int32, w 78 17 = z := ⟨_, rfl⟩
        have b282 : (0 : Int) ≤ x280.toInt ∧ x280.toInt ≤ 65535 := by rw [← e281]; exact hI 78 17
        have hSf : 1 ≤ x277.toInt ∧ x277.toInt ≤ 20 ∧ x274.toInt ≤ 120 ∧ x280.toInt ≤ 4 := by rw [← e275, ← e278, ← e281]; exact hSl.1
        refine kv_iconst C 34 rfl 0 (kdec dk_cX10_restore 18 rfl) rfl ?_
        refine kv_istore_n C 35 rfl 2 [1, 2, 0] [(0, .ref (ρ 61)), (1, .int 2), (2, .int 0)] (kdec dk_cX10_restore 19 rfl) rfl (by decide) rfl ?_
        exact cut35 ((((1025 - (0 : Int32).toInt)) : Int).toNat + 1) w253 0 I255 F260 (by omega) (by rw [e278, e275, e281]; try omega) (by rw [e265]; try omega) hSl (by omega)
      · skip
        refine kv_bipush C 32 rfl (-2) (kdec dk_cX10_restore 16 rfl) rfl ?_
        exact kv_iret C hr hlk (kdec dk_cX10_restore 17 rfl) ⟨_, rfl, I255, F260, (by rw [e265]; try omega), M261⟩
  · skip
    refine kv_iconst C 13 rfl (-1) (kdec dk_cX10_restore 6 rfl) rfl ?_
    obtain ⟨x283, e284⟩ : ∃ z : Int32, w 61 3 = z := ⟨_, rfl⟩
    have b285 : (0 : Int) ≤ x283.toInt ∧ x283.toInt ≤ 1 := by rw [← e284]; exact hI 61 3
    exact kv_iret C hr hlk (kdec dk_cX10_restore 7 rfl) ⟨_, rfl, I255, F260, (by rw [e284]; try omega), M261⟩

set_option maxHeartbeats 4000000 in
set_option maxRecDepth 100000 in
theorem k_x_restore3 (l : Launch) (D : va_G) (τ : Nat → ClassId) (ρ σ : Nat → Nat) (w : kw)  (hI : kI false w) (hMp : ((w 61 3).toInt = 0 ∧ (w 61 12).toInt = 0 ∨ kMoT w)) (hS : kSl w) :
    kM l D τ ρ σ yX10_restore cX10_restore 5 (some .int) { frames := 1, cells := 0, slots := 0, locals := 36 } [.ref (ρ 61), .int 3] w
      (fun o w' => ∃ r : Int32, o = some (.int r) ∧ kI false w' ∧ kF [(61, some 12), (61, some 13), (61, some 14), (61, some 19), (61, some 20), (61, some 26), (61, some 27), (64, none), (66, none), (67, none), (68, none), (69, none), (70, none), (71, none)] w w' ∧ (¬ (w 61 3).toInt = 0 ∨ ((3 : Int32).toInt < 0 ∨ 3 < (3 : Int32).toInt) ∧ r.toInt = -1 ∨ 0 ≤ (3 : Int32).toInt ∧ (3 : Int32).toInt ≤ 3 ∧ r.toInt = -2) ∧ ((w' 61 3).toInt = 0 ∧ (w' 61 12).toInt = 0 ∨ kMoT w')) := by
  refine kM_of (own := "TaleMachineModel") rfl (by decide) (Nat.le_of_ble_eq_true rfl) ?_
  intro p e s m args below meth c C hr hlk
  have hF0 : kF [(61, some 12), (61, some 13), (61, some 14), (61, some 19), (61, some 20), (61, some 26), (61, some 27), (64, none), (66, none), (67, none), (68, none), (69, none), (70, none), (71, none)] w w := kF.rf
  have c_m2 : (-2 : Int32).toInt = -2 := by decide
  have c_m1 : (-1 : Int32).toInt = -1 := by decide
  have c_0 : (0 : Int32).toInt = 0 := by decide
  have c_1 : (1 : Int32).toInt = 1 := by decide
  have c_2 : (2 : Int32).toInt = 2 := by decide
  have c_3 : (3 : Int32).toInt = 3 := by decide
  have c_4 : (4 : Int32).toInt = 4 := by decide
  have c_5 : (5 : Int32).toInt = 5 := by decide
  have c_7 : (7 : Int32).toInt = 7 := by decide
  have c_16 : (16 : Int32).toInt = 16 := by decide
  have c_21 : (21 : Int32).toInt = 21 := by decide
  have c_22 : (22 : Int32).toInt = 22 := by decide
  have c_23 : (23 : Int32).toInt = 23 := by decide
  have c_24 : (24 : Int32).toInt = 24 := by decide
  have c_25 : (25 : Int32).toInt = 25 := by decide
  have c_26 : (26 : Int32).toInt = 26 := by decide
  have c_120 : (120 : Int32).toInt = 120 := by decide
  have c_360 : (360 : Int32).toInt = 360 := by decide
  have c_1024 : (1024 : Int32).toInt = 1024 := by decide
  have c_1920 : (1920 : Int32).toInt = 1920 := by decide
  have c_3072 : (3072 : Int32).toInt = 3072 := by decide
  have c_5760 : (5760 : Int32).toInt = 5760 := by decide
  refine kV.L (L' := [(0, .ref (ρ 61)), (1, .int 3)]) rfl ?_
  have cut195 : ∀ (n_195 : Nat) (w_195 : kw) (l2_195 : Int32), kI false w_195 → kF [(61, some 12), (61, some 13), (61, some 14), (61, some 19), (61, some 20), (61, some 26), (61, some 27), (64, none), (66, none), (67, none), (68, none), (69, none), (70, none), (71, none)] w w_195 → (0 ≤ l2_195.toInt ∧ l2_195.toInt ≤ 20) → (1 ≤ (w 78 22).toInt ∧ (w 78 22).toInt ≤ 20 ∧ (w 78 21).toInt ≤ 120 ∧ (w 78 24).toInt ≤ 4) → ((w_195 61 20).toInt = (w 78 22).toInt ∧ (w_195 61 19).toInt = (w 78 21).toInt) → (¬ (w 61 3).toInt = 0) → (kSlot w 3) → (∀ f9 : Nat, (f9 : Int) < l2_195.toInt → w_195 67 f9 = w 77 (5760 + 24 * f9)) → ((21 - l2_195.toInt) : Int) < (n_195 : Int) → kV p l e { frames := 1, cells := 0, slots := 0, locals := 36 } s m args below meth c (kQ below args s D τ ρ (fun o w' => ∃ r : Int32, o = some (.int r) ∧ kI false w' ∧ kF [(61, some 12), (61, some 13), (61, some 14), (61, some 19), (61, some 20), (61, some 26), (61, some 27), (64, none), (66, none), (67, none), (68, none), (69, none), (70, none), (71, none)] w w' ∧ (¬ (w 61 3).toInt = 0 ∨ ((3 : Int32).toInt < 0 ∨ 3 < (3 : Int32).toInt) ∧ r.toInt = -1 ∨ 0 ≤ (3 : Int32).toInt ∧ (3 : Int32).toInt ≤ 3 ∧ r.toInt = -2) ∧ ((w' 61 3).toInt = 0 ∧ (w' 61 12).toInt = 0 ∨ kMoT w'))) 5 D τ ρ 195 [(0, .ref (ρ 61)), (1, .int 3), (2, .int l2_195)] [] w_195 := by
    intro n_195
    induction n_195 with
    | zero => intro w_195 l2_195 I_195 F_195 k195_0 k195_1 k195_2 k195_3 R195_S R195_C hmz; exfalso; omega
    | succ n_195 ih195 =>
      intro w_195 l2_195 I_195 F_195 k195_0 k195_1 k195_2 k195_3 R195_S R195_C hm195
      have gl2_195 := kf_rng l2_195
      obtain ⟨x1, e2⟩ : ∃ z : Int32, w 78 22 = z := ⟨_, rfl⟩
      have b3 : (0 : Int) ≤ x1.toInt ∧ x1.toInt ≤ 65535 := by rw [← e2]; exact hI 78 22
      obtain ⟨x4, e5⟩ : ∃ z : Int32, w 78 21 = z := ⟨_, rfl⟩
      have b6 : (0 : Int) ≤ x4.toInt ∧ x4.toInt ≤ 65535 := by rw [← e5]; exact hI 78 21
      obtain ⟨x7, e8⟩ : ∃ z : Int32, w 78 24 = z := ⟨_, rfl⟩
      have b9 : (0 : Int) ≤ x7.toInt ∧ x7.toInt ≤ 65535 := by rw [← e8]; exact hI 78 24
      rw [e2, e5, e8] at k195_1
      obtain ⟨x10, e11⟩ : ∃ z : Int32, w_195 61 20 = z := ⟨_, rfl⟩
      have b12 : (0 : Int) ≤ x10.toInt ∧ x10.toInt ≤ 20 := by rw [← e11]; exact I_195 61 20
      obtain ⟨x13, e14⟩ : ∃ z : Int32, w_195 61 19 = z := ⟨_, rfl⟩
      have b15 : (0 : Int) ≤ x13.toInt ∧ x13.toInt ≤ 120 := by rw [← e14]; exact I_195 61 19
      rw [e2, e5, e11, e14] at k195_2
      obtain ⟨x16, e17⟩ : ∃ z : Int32, w 61 3 = z := ⟨_, rfl⟩
      have b18 : (0 : Int) ≤ x16.toInt ∧ x16.toInt ≤ 1 := by rw [← e17]; exact hI 61 3
      rw [e17] at k195_3
      have cut271 : ∀ (n_271 : Nat) (w_271 : kw) (l2_271 l3_271 l4_271 : Int32), kI false w_271 → kF [(61, some 12), (61, some 13), (61, some 14), (61, some 19), (61, some 20), (61, some 26), (61, some 27), (64, none), (66, none), (67, none), (68, none), (69, none), (70, none), (71, none)] w w_271 → (0 ≤ l2_271.toInt ∧ l2_271.toInt < (w_271 61 20).toInt ∧ l2_271.toInt = l2_195.toInt ∧ l3_271.toInt = 5760 + 24 * l2_271.toInt) → (1 ≤ l4_271.toInt ∧ l4_271.toInt ≤ 16) → (1 ≤ (w 78 22).toInt ∧ (w 78 22).toInt ≤ 20 ∧ (w 78 21).toInt ≤ 120 ∧ (w 78 24).toInt ≤ 4) → ((w_271 61 20).toInt = (w 78 22).toInt ∧ (w_271 61 19).toInt = (w 78 21).toInt) → (¬ (w 61 3).toInt = 0) → (kSlot w 3) → (∀ f9 : Nat, (f9 : Int) ≤ l2_271.toInt → w_271 67 f9 = w 77 (5760 + 24 * f9)) → ((17 - l4_271.toInt) : Int) < (n_271 : Int) → kV p l e { frames := 1, cells := 0, slots := 0, locals := 36 } s m args below meth c (kQ below args s D τ ρ (fun o w' => ∃ r : Int32, o = some (.int r) ∧ kI false w' ∧ kF [(61, some 12), (61, some 13), (61, some 14), (61, some 19), (61, some 20), (61, some 26), (61, some 27), (64, none), (66, none), (67, none), (68, none), (69, none), (70, none), (71, none)] w w' ∧ (¬ (w 61 3).toInt = 0 ∨ ((3 : Int32).toInt < 0 ∨ 3 < (3 : Int32).toInt) ∧ r.toInt = -1 ∨ 0 ≤ (3 : Int32).toInt ∧ (3 : Int32).toInt ≤ 3 ∧ r.toInt = -2) ∧ ((w' 61 3).toInt = 0 ∧ (w' 61 12).toInt = 0 ∨ kMoT w'))) 5 D τ ρ 271 [(0, .ref (ρ 61)), (1, .int 3), (2, .int l2_271), (3, .int l3_271), (4, .int l4_271)] [] w_271 := by
        intro n_271
        induction n_271 with
        | zero => intro w_271 l2_271 l3_271 l4_271 I_271 F_271 k271_0 k271_1 k271_2 k271_3 k271_4 R271_S R271_C hmz; exfalso; omega
        | succ n_271 ih271 =>
          intro w_271 l2_271 l3_271 l4_271 I_271 F_271 k271_0 k271_1 k271_2 k271_3 k271_4 R271_S R271_C hm271
          have gl2_271 := kf_rng l2_271
          have gl3_271 := kf_rng l3_271
          have gl4_271 := kf_rng l4_271
          obtain ⟨x19, e20⟩ : ∃ z : Int32, w_271 61 20 = z := ⟨_, rfl⟩
          have b21 : (0 : Int) ≤ x19.toInt ∧ x19.toInt ≤ 20 := by rw [← e20]; exact I_271 61 20
          rw [e20] at k271_0
          rw [e2, e5, e8] at k271_2
          obtain ⟨x22, e23⟩ : ∃ z : Int32, w_271 61 19 = z := ⟨_, rfl⟩
          have b24 : (0 : Int) ≤ x22.toInt ∧ x22.toInt ≤ 120 := by rw [← e23]; exact I_271 61 19
          rw [e2, e5, e20, e23] at k271_3
          rw [e17] at k271_4
          refine kv_iload C 273 rfl 4 (kdec dk_cX10_restore 173 rfl) rfl ?_
          refine kv_aload_n C 274 rfl 0 (kdec dk_cX10_restore 174 rfl) rfl rfl ?_
          refine kv_getr C 277 rfl 61 24 rfl rfl inX10 (by decide) mfl_TaleMachineModel_34 rfl rfl (kdec dk_cX10_restore 175 rfl) ?_
          refine kv_iload_n C 278 rfl 2 (kdec dk_cX10_restore 176 rfl) rfl rfl ?_
          obtain ⟨x25, e26⟩ : ∃ z : Int32, w_271 70 (l2_271 : Int32).toNatClampNeg = z := ⟨_, rfl⟩
          have b27 : (0 : Int) ≤ x25.toInt ∧ x25.toInt ≤ 15 := by rw [← e26]; exact I_271 70 _
          refine kv_iald C 279 rfl 70 rfl (by omega) (by omega) e26 (kdec dk_cX10_restore 177 rfl) ?_
          refine kv_icmp_gt C 282 rfl 311 (kdec dk_cX10_restore 178 rfl) (by decide) (fun d28 => ?_) (fun d28 => ?_)
          · skip
            refine kv_iinc C 314 rfl 2 2 [1, 2, 0, 3, 4] (fun v9 => [(0, .ref (ρ 61)), (1, .int 3), (2, .int v9), (3, .int l3_271), (4, .int l4_271)]) (kdec dk_cX10_restore 197 rfl) rfl (by decide) (fun _ => rfl) 1 rfl (fun x29 q30 h31e h31 h31l h31u => ?_)
            try have h31n : x29.toInt = l2_271.toInt + 1 := by omega
            clear h31 q30
            refine kv_goto C 195 (kdec dk_cX10_restore 198 rfl) (by decide) ?_
            refine kV.sub [0, 1, 2] (L' := [(0, .ref (ρ 61)), (1, .int 3), (2, .int x29)]) rfl ?_
            exact ih195 w_271 x29 I_271 F_271 (by omega) (by rw [e2, e5, e8]; try omega) (by rw [e2, e5, e20, e23]; try omega) (by rw [e17]; try omega) R271_S (fun f9 hf9 => R271_C f9 (by omega)) (by omega)
          · skip
            refine kv_aload_n C 283 rfl 0 (kdec dk_cX10_restore 179 rfl) rfl rfl ?_
            refine kv_getr C 286 rfl 61 25 rfl rfl inX10 (by decide) mfl_TaleMachineModel_37 rfl rfl (kdec dk_cX10_restore 180 rfl) ?_
            refine kv_bipush C 288 rfl 16 (kdec dk_cX10_restore 181 rfl) rfl ?_
            refine kv_iload_n C 289 rfl 2 (kdec dk_cX10_restore 182 rfl) rfl rfl ?_
            refine kv_imul C 290 rfl (kdec dk_cX10_restore 183 rfl) (fun x32 h33e h33l h33u => ?_)
            obtain ⟨q34, g35⟩ := kf_mul 16 l2_271
            rw [← h33e, c_16] at g35
            try have h33n : x32.toInt = 16 * l2_271.toInt := by omega
            clear g35 q34
            refine kv_iload C 292 rfl 4 (kdec dk_cX10_restore 184 rfl) rfl ?_
            refine kv_iadd C 293 rfl (kdec dk_cX10_restore 185 rfl) (fun x36 q38 h37e h37 h37l h37u => ?_)
            try have h37n : x36.toInt = x32.toInt + l4_271.toInt := by omega
            clear h37 q38
            refine kv_aload_n C 294 rfl 0 (kdec dk_cX10_restore 186 rfl) rfl rfl ?_
            refine kv_getr C 297 rfl 61 36 rfl rfl inX10 (by decide) mfl_TaleMachineModel_56 rfl rfl (kdec dk_cX10_restore 187 rfl) ?_
            refine kv_iload_n C 298 rfl 3 (kdec dk_cX10_restore 188 rfl) rfl rfl ?_
            refine kv_iconst C 299 rfl 4 (kdec dk_cX10_restore 189 rfl) rfl ?_
            refine kv_iadd C 300 rfl (kdec dk_cX10_restore 190 rfl) (fun x39 q41 h40e h40 h40l h40u => ?_)
            try have h40n : x39.toInt = l3_271.toInt + (4 : Int32).toInt := by omega
            clear h40 q41
            refine kv_iload C 302 rfl 4 (kdec dk_cX10_restore 191 rfl) rfl ?_
            refine kv_iadd C 303 rfl (kdec dk_cX10_restore 192 rfl) (fun x42 q44 h43e h43 h43l h43u => ?_)
            try have h43n : x42.toInt = x39.toInt + l4_271.toInt := by omega
            clear h43 q44
            obtain ⟨x45, e46⟩ : ∃ z : Int32, w_271 77 (x42 : Int32).toNatClampNeg = z := ⟨_, rfl⟩
            have b47 : (0 : Int) ≤ x45.toInt ∧ x45.toInt ≤ 65535 := by rw [← e46]; exact I_271 77 _
            refine kv_iald C 304 rfl 77 rfl (by omega) (by omega) e46 (kdec dk_cX10_restore 193 rfl) ?_
            refine kv_iast C 305 rfl 71 rfl (by omega) (by omega) (kdec dk_cX10_restore 194 rfl) (fun w48 u49 => ?_)
            have I50 : kI false w48 := kI_put u49 I_271 (show (0 : Int) ≤ (x45 : Int32).toInt by omega) (show (x45 : Int32).toInt ≤ 65535 by omega)
            have F51 : kF [(61, some 12), (61, some 13), (61, some 14), (61, some 19), (61, some 20), (61, some 26), (61, some 27), (64, none), (66, none), (67, none), (68, none), (69, none), (70, none), (71, none)] w w48 := kF_put u49 F_271 rfl
            refine kv_iinc C 308 rfl 4 4 [1, 2, 3, 4, 0] (fun v9 => [(0, .ref (ρ 61)), (1, .int 3), (2, .int l2_271), (3, .int l3_271), (4, .int v9)]) (kdec dk_cX10_restore 195 rfl) rfl (by decide) (fun _ => rfl) 1 rfl (fun x52 q53 h54e h54 h54l h54u => ?_)
            try have h54n : x52.toInt = l4_271.toInt + 1 := by omega
            clear h54 q53
            refine kv_goto C 271 (kdec dk_cX10_restore 196 rfl) (by decide) ?_
            have e55 : w48 61 20 = x19 := ((kup_ne u49 rfl : w48 61 20 = w_271 61 20).trans e20)
            have e56 : w48 61 19 = x22 := ((kup_ne u49 rfl : w48 61 19 = w_271 61 19).trans e23)
            exact ih271 w48 l2_271 l3_271 x52 I50 F51 (by rw [e55]; try omega) (by omega) (by rw [e2, e5, e8]; try omega) (by rw [e2, e5, e55, e56]; try omega) (by rw [e17]; try omega) R271_S (fun f9 hf9 => ((kup_ne u49 rfl : w48 67 f9 = w_271 67 f9)).trans (R271_C f9 hf9)) (by omega)
      refine kv_iload_n C 196 rfl 2 (kdec dk_cX10_restore 121 rfl) rfl rfl ?_
      refine kv_aload_n C 197 rfl 0 (kdec dk_cX10_restore 122 rfl) rfl rfl ?_
      refine kv_get C 200 rfl 61 20 rfl rfl inX10 (by decide) mfl_TaleMachineModel_139 rfl rfl (kdec dk_cX10_restore 123 rfl) e11 ?_
      refine kv_icmp_ge C 203 rfl 317 (kdec dk_cX10_restore 124 rfl) (by decide) (fun d57 => ?_) (fun d57 => ?_)
      · skip
        have M58 : kMoT w_195 := kMoT_rest (k := 3) R195_S (fun f9 hf9 => R195_C f9 (by rw [show w 78 (7 * 3 + 1) = _ from e2] at hf9; omega)) (Int32.toInt_inj.mp (by rw [e11, show w 78 (7 * 3 + 1) = _ from e2]; omega)) (Int32.toInt_inj.mp (by rw [e14, show w 78 (7 * 3) = _ from e5]; omega))
        refine kv_iconst C 318 rfl 1 (kdec dk_cX10_restore 199 rfl) rfl ?_
        exact kv_iret C hr hlk (kdec dk_cX10_restore 200 rfl) ⟨_, rfl, I_195, F_195, (by rw [e17]; try omega), (Or.inr M58)⟩
      · skip
        refine kv_sipush C 206 rfl 1920 (kdec dk_cX10_restore 125 rfl) rfl ?_
        refine kv_iload_n C 207 rfl 1 (kdec dk_cX10_restore 126 rfl) rfl rfl ?_
        refine kv_imul C 208 rfl (kdec dk_cX10_restore 127 rfl) (fun x59 h60e h60l h60u => ?_)
        obtain rfl : x59 = 5760 := by rw [h60e]; decide
        refine kv_bipush C 210 rfl 24 (kdec dk_cX10_restore 128 rfl) rfl ?_
        refine kv_iload_n C 211 rfl 2 (kdec dk_cX10_restore 129 rfl) rfl rfl ?_
        refine kv_imul C 212 rfl (kdec dk_cX10_restore 130 rfl) (fun x61 h62e h62l h62u => ?_)
        obtain ⟨q63, g64⟩ := kf_mul 24 l2_195
        rw [← h62e, c_24] at g64
        try have h62n : x61.toInt = 24 * l2_195.toInt := by omega
        clear g64 q63
        refine kv_iadd C 213 rfl (kdec dk_cX10_restore 131 rfl) (fun x65 q67 h66e h66 h66l h66u => ?_)
        try have h66n : x65.toInt = (5760 : Int32).toInt + x61.toInt := by omega
        clear h66 q67
        refine kv_istore_n C 214 rfl 3 [1, 2, 3, 0] [(0, .ref (ρ 61)), (1, .int 3), (2, .int l2_195), (3, .int x65)] (kdec dk_cX10_restore 132 rfl) rfl (by decide) rfl ?_
        refine kv_aload_n C 215 rfl 0 (kdec dk_cX10_restore 133 rfl) rfl rfl ?_
        refine kv_getr C 218 rfl 61 21 rfl rfl inX10 (by decide) mfl_TaleMachineModel_25 rfl rfl (kdec dk_cX10_restore 134 rfl) ?_
        refine kv_iload_n C 219 rfl 2 (kdec dk_cX10_restore 135 rfl) rfl rfl ?_
        refine kv_aload_n C 220 rfl 0 (kdec dk_cX10_restore 136 rfl) rfl rfl ?_
        refine kv_getr C 223 rfl 61 36 rfl rfl inX10 (by decide) mfl_TaleMachineModel_56 rfl rfl (kdec dk_cX10_restore 137 rfl) ?_
        refine kv_iload_n C 224 rfl 3 (kdec dk_cX10_restore 138 rfl) rfl rfl ?_
        obtain ⟨x68, e69⟩ : ∃ z : Int32, w_195 77 (x65 : Int32).toNatClampNeg = z := ⟨_, rfl⟩
        have b70 : (0 : Int) ≤ x68.toInt ∧ x68.toInt ≤ 65535 := by rw [← e69]; exact I_195 77 _
        refine kv_iald C 225 rfl 77 rfl (by omega) (by omega) e69 (kdec dk_cX10_restore 139 rfl) ?_
        have t71 := kSlot_b R195_S (l := l2_195) 0 120 (by decide) (by omega) (show _ < (w 78 22).toInt by rw [e2]; omega) (by omega) ((F_195 77 _ rfl).symm.trans e69)
        refine kv_iast C 226 rfl 67 rfl (by omega) (by omega) (kdec dk_cX10_restore 140 rfl) (fun w72 u73 => ?_)
        have I74 : kI false w72 := kI_put u73 I_195 (show (0 : Int) ≤ (x68 : Int32).toInt by omega) (show (x68 : Int32).toInt ≤ 120 by omega)
        have F75 : kF [(61, some 12), (61, some 13), (61, some 14), (61, some 19), (61, some 20), (61, some 26), (61, some 27), (64, none), (66, none), (67, none), (68, none), (69, none), (70, none), (71, none)] w w72 := kF_put u73 F_195 rfl
        refine kv_aload_n C 227 rfl 0 (kdec dk_cX10_restore 141 rfl) rfl rfl ?_
        refine kv_getr C 230 rfl 61 22 rfl rfl inX10 (by decide) mfl_TaleMachineModel_28 rfl rfl (kdec dk_cX10_restore 142 rfl) ?_
        refine kv_iload_n C 231 rfl 2 (kdec dk_cX10_restore 143 rfl) rfl rfl ?_
        refine kv_aload_n C 232 rfl 0 (kdec dk_cX10_restore 144 rfl) rfl rfl ?_
        refine kv_getr C 235 rfl 61 36 rfl rfl inX10 (by decide) mfl_TaleMachineModel_56 rfl rfl (kdec dk_cX10_restore 145 rfl) ?_
        refine kv_iload_n C 236 rfl 3 (kdec dk_cX10_restore 146 rfl) rfl rfl ?_
        refine kv_iconst C 237 rfl 1 (kdec dk_cX10_restore 147 rfl) rfl ?_
        refine kv_iadd C 238 rfl (kdec dk_cX10_restore 148 rfl) (fun x76 q78 h77e h77 h77l h77u => ?_)
        try have h77n : x76.toInt = x65.toInt + (1 : Int32).toInt := by omega
        clear h77 q78
        obtain ⟨x79, e80⟩ : ∃ z : Int32, w72 77 (x76 : Int32).toNatClampNeg = z := ⟨_, rfl⟩
        have b81 : (0 : Int) ≤ x79.toInt ∧ x79.toInt ≤ 65535 := by rw [← e80]; exact I74 77 _
        refine kv_iald C 239 rfl 77 rfl (by omega) (by omega) e80 (kdec dk_cX10_restore 149 rfl) ?_
        refine kv_iast C 240 rfl 68 rfl (by omega) (by omega) (kdec dk_cX10_restore 150 rfl) (fun w82 u83 => ?_)
        have I84 : kI false w82 := kI_put u83 I74 (show (0 : Int) ≤ (x79 : Int32).toInt by omega) (show (x79 : Int32).toInt ≤ 65535 by omega)
        have F85 : kF [(61, some 12), (61, some 13), (61, some 14), (61, some 19), (61, some 20), (61, some 26), (61, some 27), (64, none), (66, none), (67, none), (68, none), (69, none), (70, none), (71, none)] w w82 := kF_put u83 F75 rfl
        refine kv_aload_n C 241 rfl 0 (kdec dk_cX10_restore 151 rfl) rfl rfl ?_
        refine kv_getr C 244 rfl 61 23 rfl rfl inX10 (by decide) mfl_TaleMachineModel_31 rfl rfl (kdec dk_cX10_restore 152 rfl) ?_
        refine kv_iload_n C 245 rfl 2 (kdec dk_cX10_restore 153 rfl) rfl rfl ?_
        refine kv_aload_n C 246 rfl 0 (kdec dk_cX10_restore 154 rfl) rfl rfl ?_
        refine kv_getr C 249 rfl 61 36 rfl rfl inX10 (by decide) mfl_TaleMachineModel_56 rfl rfl (kdec dk_cX10_restore 155 rfl) ?_
        refine kv_iload_n C 250 rfl 3 (kdec dk_cX10_restore 156 rfl) rfl rfl ?_
        refine kv_iconst C 251 rfl 2 (kdec dk_cX10_restore 157 rfl) rfl ?_
        refine kv_iadd C 252 rfl (kdec dk_cX10_restore 158 rfl) (fun x86 q88 h87e h87 h87l h87u => ?_)
        try have h87n : x86.toInt = x65.toInt + (2 : Int32).toInt := by omega
        clear h87 q88
        obtain ⟨x89, e90⟩ : ∃ z : Int32, w82 77 (x86 : Int32).toNatClampNeg = z := ⟨_, rfl⟩
        have b91 : (0 : Int) ≤ x89.toInt ∧ x89.toInt ≤ 65535 := by rw [← e90]; exact I84 77 _
        refine kv_iald C 253 rfl 77 rfl (by omega) (by omega) e90 (kdec dk_cX10_restore 159 rfl) ?_
        have t92 := kSlot_b R195_S (l := l2_195) 2 255 (by decide) (by omega) (show _ < (w 78 22).toInt by rw [e2]; omega) (by omega) ((F85 77 _ rfl).symm.trans e90)
        refine kv_iast C 254 rfl 69 rfl (by omega) (by omega) (kdec dk_cX10_restore 160 rfl) (fun w93 u94 => ?_)
        have I95 : kI false w93 := kI_put u94 I84 (show (0 : Int) ≤ (x89 : Int32).toInt by omega) (show (x89 : Int32).toInt ≤ 255 by omega)
        have F96 : kF [(61, some 12), (61, some 13), (61, some 14), (61, some 19), (61, some 20), (61, some 26), (61, some 27), (64, none), (66, none), (67, none), (68, none), (69, none), (70, none), (71, none)] w w93 := kF_put u94 F85 rfl
        refine kv_aload_n C 255 rfl 0 (kdec dk_cX10_restore 161 rfl) rfl rfl ?_
        refine kv_getr C 258 rfl 61 24 rfl rfl inX10 (by decide) mfl_TaleMachineModel_34 rfl rfl (kdec dk_cX10_restore 162 rfl) ?_
        refine kv_iload_n C 259 rfl 2 (kdec dk_cX10_restore 163 rfl) rfl rfl ?_
        refine kv_aload_n C 260 rfl 0 (kdec dk_cX10_restore 164 rfl) rfl rfl ?_
        refine kv_getr C 263 rfl 61 36 rfl rfl inX10 (by decide) mfl_TaleMachineModel_56 rfl rfl (kdec dk_cX10_restore 165 rfl) ?_
        refine kv_iload_n C 264 rfl 3 (kdec dk_cX10_restore 166 rfl) rfl rfl ?_
        refine kv_iconst C 265 rfl 3 (kdec dk_cX10_restore 167 rfl) rfl ?_
        refine kv_iadd C 266 rfl (kdec dk_cX10_restore 168 rfl) (fun x97 q99 h98e h98 h98l h98u => ?_)
        try have h98n : x97.toInt = x65.toInt + (3 : Int32).toInt := by omega
        clear h98 q99
        obtain ⟨x100, e101⟩ : ∃ z : Int32, w93 77 (x97 : Int32).toNatClampNeg = z := ⟨_, rfl⟩
        have b102 : (0 : Int) ≤ x100.toInt ∧ x100.toInt ≤ 65535 := by rw [← e101]; exact I95 77 _
        refine kv_iald C 267 rfl 77 rfl (by omega) (by omega) e101 (kdec dk_cX10_restore 169 rfl) ?_
        have t103 := kSlot_b R195_S (l := l2_195) 3 15 (by decide) (by omega) (show _ < (w 78 22).toInt by rw [e2]; omega) (by omega) ((F96 77 _ rfl).symm.trans e101)
        refine kv_iast C 268 rfl 70 rfl (by omega) (by omega) (kdec dk_cX10_restore 170 rfl) (fun w104 u105 => ?_)
        have I106 : kI false w104 := kI_put u105 I95 (show (0 : Int) ≤ (x100 : Int32).toInt by omega) (show (x100 : Int32).toInt ≤ 15 by omega)
        have F107 : kF [(61, some 12), (61, some 13), (61, some 14), (61, some 19), (61, some 20), (61, some 26), (61, some 27), (64, none), (66, none), (67, none), (68, none), (69, none), (70, none), (71, none)] w w104 := kF_put u105 F96 rfl
        refine kv_iconst C 269 rfl 1 (kdec dk_cX10_restore 171 rfl) rfl ?_
        refine kv_istore C 271 rfl 4 [1, 2, 3, 4, 0] [(0, .ref (ρ 61)), (1, .int 3), (2, .int l2_195), (3, .int x65), (4, .int 1)] (kdec dk_cX10_restore 172 rfl) (by decide) rfl ?_
        have e108 : w104 61 20 = x10 := ((kup_ne u105 rfl : w104 61 20 = w93 61 20).trans ((kup_ne u94 rfl : w93 61 20 = w82 61 20).trans ((kup_ne u83 rfl : w82 61 20 = w72 61 20).trans ((kup_ne u73 rfl : w72 61 20 = w_195 61 20).trans e11))))
        have e109 : w104 61 19 = x13 := ((kup_ne u105 rfl : w104 61 19 = w93 61 19).trans ((kup_ne u94 rfl : w93 61 19 = w82 61 19).trans ((kup_ne u83 rfl : w82 61 19 = w72 61 19).trans ((kup_ne u73 rfl : w72 61 19 = w_195 61 19).trans e14))))
        exact cut271 ((((17 - (1 : Int32).toInt)) : Int).toNat + 1) w104 l2_195 x65 1 I106 F107 (by rw [e108]; try omega) (by omega) (by rw [e2, e5, e8]; try omega) (by rw [e2, e5, e108, e109]; try omega) (by rw [e17]; try omega) R195_S (fun f9 hf9 => (((kup_ne u105 rfl : w104 67 f9 = w93 67 f9).trans ((kup_ne u94 rfl : w93 67 f9 = w82 67 f9).trans (kup_ne u83 rfl : w82 67 f9 = w72 67 f9)))).trans (kC_add R195_C u73 (by omega) (by omega) ((F_195 77 _ rfl).symm.trans e69) f9 hf9)) (by omega)
  have cut162 : ∀ (n_162 : Nat) (w_162 : kw) (l2_162 : Int32), kI false w_162 → kF [(61, some 12), (61, some 13), (61, some 14), (61, some 19), (61, some 20), (61, some 26), (61, some 27), (64, none), (66, none), (67, none), (68, none), (69, none), (70, none), (71, none)] w w_162 → (0 ≤ l2_162.toInt ∧ l2_162.toInt ≤ 120) → (1 ≤ (w 78 22).toInt ∧ (w 78 22).toInt ≤ 20 ∧ (w 78 21).toInt ≤ 120 ∧ (w 78 24).toInt ≤ 4) → ((w_162 61 20).toInt = (w 78 22).toInt ∧ (w_162 61 19).toInt = (w 78 21).toInt) → (¬ (w 61 3).toInt = 0) → (kSlot w 3) → ((121 - l2_162.toInt) : Int) < (n_162 : Int) → kV p l e { frames := 1, cells := 0, slots := 0, locals := 36 } s m args below meth c (kQ below args s D τ ρ (fun o w' => ∃ r : Int32, o = some (.int r) ∧ kI false w' ∧ kF [(61, some 12), (61, some 13), (61, some 14), (61, some 19), (61, some 20), (61, some 26), (61, some 27), (64, none), (66, none), (67, none), (68, none), (69, none), (70, none), (71, none)] w w' ∧ (¬ (w 61 3).toInt = 0 ∨ ((3 : Int32).toInt < 0 ∨ 3 < (3 : Int32).toInt) ∧ r.toInt = -1 ∨ 0 ≤ (3 : Int32).toInt ∧ (3 : Int32).toInt ≤ 3 ∧ r.toInt = -2) ∧ ((w' 61 3).toInt = 0 ∧ (w' 61 12).toInt = 0 ∨ kMoT w'))) 5 D τ ρ 162 [(0, .ref (ρ 61)), (1, .int 3), (2, .int l2_162)] [] w_162 := by
    intro n_162
    induction n_162 with
    | zero => intro w_162 l2_162 I_162 F_162 k162_0 k162_1 k162_2 k162_3 R162_S hmz; exfalso; omega
    | succ n_162 ih162 =>
      intro w_162 l2_162 I_162 F_162 k162_0 k162_1 k162_2 k162_3 R162_S hm162
      have gl2_162 := kf_rng l2_162
      obtain ⟨x110, e111⟩ : ∃ z : Int32, w 78 22 = z := ⟨_, rfl⟩
      have b112 : (0 : Int) ≤ x110.toInt ∧ x110.toInt ≤ 65535 := by rw [← e111]; exact hI 78 22
      obtain ⟨x113, e114⟩ : ∃ z : Int32, w 78 21 = z := ⟨_, rfl⟩
      have b115 : (0 : Int) ≤ x113.toInt ∧ x113.toInt ≤ 65535 := by rw [← e114]; exact hI 78 21
      obtain ⟨x116, e117⟩ : ∃ z : Int32, w 78 24 = z := ⟨_, rfl⟩
      have b118 : (0 : Int) ≤ x116.toInt ∧ x116.toInt ≤ 65535 := by rw [← e117]; exact hI 78 24
      rw [e111, e114, e117] at k162_1
      obtain ⟨x119, e120⟩ : ∃ z : Int32, w_162 61 20 = z := ⟨_, rfl⟩
      have b121 : (0 : Int) ≤ x119.toInt ∧ x119.toInt ≤ 20 := by rw [← e120]; exact I_162 61 20
      obtain ⟨x122, e123⟩ : ∃ z : Int32, w_162 61 19 = z := ⟨_, rfl⟩
      have b124 : (0 : Int) ≤ x122.toInt ∧ x122.toInt ≤ 120 := by rw [← e123]; exact I_162 61 19
      rw [e111, e114, e120, e123] at k162_2
      obtain ⟨x125, e126⟩ : ∃ z : Int32, w 61 3 = z := ⟨_, rfl⟩
      have b127 : (0 : Int) ≤ x125.toInt ∧ x125.toInt ≤ 1 := by rw [← e126]; exact hI 61 3
      rw [e126] at k162_3
      refine kv_iload_n C 163 rfl 2 (kdec dk_cX10_restore 101 rfl) rfl rfl ?_
      refine kv_aload_n C 164 rfl 0 (kdec dk_cX10_restore 102 rfl) rfl rfl ?_
      refine kv_get C 167 rfl 61 19 rfl rfl inX10 (by decide) mfl_TaleMachineModel_136 rfl rfl (kdec dk_cX10_restore 103 rfl) e123 ?_
      refine kv_icmp_ge C 170 rfl 193 (kdec dk_cX10_restore 104 rfl) (by decide) (fun d128 => ?_) (fun d128 => ?_)
      · skip
        refine kv_iconst C 194 rfl 0 (kdec dk_cX10_restore 119 rfl) rfl ?_
        refine kv_istore_n C 195 rfl 2 [1, 2, 0] [(0, .ref (ρ 61)), (1, .int 3), (2, .int 0)] (kdec dk_cX10_restore 120 rfl) rfl (by decide) rfl ?_
        exact cut195 ((((21 - (0 : Int32).toInt)) : Int).toNat + 1) w_162 0 I_162 F_162 (by omega) (by rw [e111, e114, e117]; try omega) (by rw [e111, e114, e120, e123]; try omega) (by rw [e126]; try omega) R162_S (fun f9 hf9 => by exfalso; omega) (by omega)
      · skip
        refine kv_aload_n C 171 rfl 0 (kdec dk_cX10_restore 105 rfl) rfl rfl ?_
        refine kv_getr C 174 rfl 61 18 rfl rfl inX10 (by decide) mfl_TaleMachineModel_22 rfl rfl (kdec dk_cX10_restore 106 rfl) ?_
        refine kv_iload_n C 175 rfl 2 (kdec dk_cX10_restore 107 rfl) rfl rfl ?_
        refine kv_aload_n C 176 rfl 0 (kdec dk_cX10_restore 108 rfl) rfl rfl ?_
        refine kv_getr C 179 rfl 61 35 rfl rfl inX10 (by decide) mfl_TaleMachineModel_53 rfl rfl (kdec dk_cX10_restore 109 rfl) ?_
        refine kv_bipush C 181 rfl 120 (kdec dk_cX10_restore 110 rfl) rfl ?_
        refine kv_iload_n C 182 rfl 1 (kdec dk_cX10_restore 111 rfl) rfl rfl ?_
        refine kv_imul C 183 rfl (kdec dk_cX10_restore 112 rfl) (fun x129 h130e h130l h130u => ?_)
        obtain rfl : x129 = 360 := by rw [h130e]; decide
        refine kv_iload_n C 184 rfl 2 (kdec dk_cX10_restore 113 rfl) rfl rfl ?_
        refine kv_iadd C 185 rfl (kdec dk_cX10_restore 114 rfl) (fun x131 q133 h132e h132 h132l h132u => ?_)
        try have h132n : x131.toInt = (360 : Int32).toInt + l2_162.toInt := by omega
        clear h132 q133
        obtain ⟨x134, e135⟩ : ∃ z : Int32, w_162 76 (x131 : Int32).toNatClampNeg = z := ⟨_, rfl⟩
        have b136 : (0 : Int) ≤ x134.toInt ∧ x134.toInt ≤ 65535 := by rw [← e135]; exact I_162 76 _
        refine kv_iald C 186 rfl 76 rfl (by omega) (by omega) e135 (kdec dk_cX10_restore 115 rfl) ?_
        refine kv_iast C 187 rfl 66 rfl (by omega) (by omega) (kdec dk_cX10_restore 116 rfl) (fun w137 u138 => ?_)
        have I139 : kI false w137 := kI_put u138 I_162 (show (0 : Int) ≤ (x134 : Int32).toInt by omega) (show (x134 : Int32).toInt ≤ 65535 by omega)
        have F140 : kF [(61, some 12), (61, some 13), (61, some 14), (61, some 19), (61, some 20), (61, some 26), (61, some 27), (64, none), (66, none), (67, none), (68, none), (69, none), (70, none), (71, none)] w w137 := kF_put u138 F_162 rfl
        refine kv_iinc C 190 rfl 2 2 [1, 2, 0] (fun v9 => [(0, .ref (ρ 61)), (1, .int 3), (2, .int v9)]) (kdec dk_cX10_restore 117 rfl) rfl (by decide) (fun _ => rfl) 1 rfl (fun x141 q142 h143e h143 h143l h143u => ?_)
        try have h143n : x141.toInt = l2_162.toInt + 1 := by omega
        clear h143 q142
        refine kv_goto C 162 (kdec dk_cX10_restore 118 rfl) (by decide) ?_
        have e144 : w137 61 20 = x119 := ((kup_ne u138 rfl : w137 61 20 = w_162 61 20).trans e120)
        have e145 : w137 61 19 = x122 := ((kup_ne u138 rfl : w137 61 19 = w_162 61 19).trans e123)
        exact ih162 w137 x141 I139 F140 (by omega) (by rw [e111, e114, e117]; try omega) (by rw [e111, e114, e144, e145]; try omega) (by rw [e126]; try omega) R162_S (by omega)
  have cut35 : ∀ (n_35 : Nat) (w_35 : kw) (l2_35 : Int32), kI false w_35 → kF [(61, some 12), (61, some 13), (61, some 14), (61, some 19), (61, some 20), (61, some 26), (61, some 27), (64, none), (66, none), (67, none), (68, none), (69, none), (70, none), (71, none)] w w_35 → (0 ≤ l2_35.toInt ∧ l2_35.toInt ≤ 1024) → (1 ≤ (w 78 22).toInt ∧ (w 78 22).toInt ≤ 20 ∧ (w 78 21).toInt ≤ 120 ∧ (w 78 24).toInt ≤ 4) → (¬ (w 61 3).toInt = 0) → (kSlot w 3) → ((1025 - l2_35.toInt) : Int) < (n_35 : Int) → kV p l e { frames := 1, cells := 0, slots := 0, locals := 36 } s m args below meth c (kQ below args s D τ ρ (fun o w' => ∃ r : Int32, o = some (.int r) ∧ kI false w' ∧ kF [(61, some 12), (61, some 13), (61, some 14), (61, some 19), (61, some 20), (61, some 26), (61, some 27), (64, none), (66, none), (67, none), (68, none), (69, none), (70, none), (71, none)] w w' ∧ (¬ (w 61 3).toInt = 0 ∨ ((3 : Int32).toInt < 0 ∨ 3 < (3 : Int32).toInt) ∧ r.toInt = -1 ∨ 0 ≤ (3 : Int32).toInt ∧ (3 : Int32).toInt ≤ 3 ∧ r.toInt = -2) ∧ ((w' 61 3).toInt = 0 ∧ (w' 61 12).toInt = 0 ∨ kMoT w'))) 5 D τ ρ 35 [(0, .ref (ρ 61)), (1, .int 3), (2, .int l2_35)] [] w_35 := by
    intro n_35
    induction n_35 with
    | zero => intro w_35 l2_35 I_35 F_35 k35_0 k35_1 k35_2 R35_S hmz; exfalso; omega
    | succ n_35 ih35 =>
      intro w_35 l2_35 I_35 F_35 k35_0 k35_1 k35_2 R35_S hm35
      have gl2_35 := kf_rng l2_35
      obtain ⟨x146, e147⟩ : ∃ z : Int32, w 78 22 = z := ⟨_, rfl⟩
      have b148 : (0 : Int) ≤ x146.toInt ∧ x146.toInt ≤ 65535 := by rw [← e147]; exact hI 78 22
      obtain ⟨x149, e150⟩ : ∃ z : Int32, w 78 21 = z := ⟨_, rfl⟩
      have b151 : (0 : Int) ≤ x149.toInt ∧ x149.toInt ≤ 65535 := by rw [← e150]; exact hI 78 21
      obtain ⟨x152, e153⟩ : ∃ z : Int32, w 78 24 = z := ⟨_, rfl⟩
      have b154 : (0 : Int) ≤ x152.toInt ∧ x152.toInt ≤ 65535 := by rw [← e153]; exact hI 78 24
      rw [e147, e150, e153] at k35_1
      obtain ⟨x155, e156⟩ : ∃ z : Int32, w 61 3 = z := ⟨_, rfl⟩
      have b157 : (0 : Int) ≤ x155.toInt ∧ x155.toInt ≤ 1 := by rw [← e156]; exact hI 61 3
      rw [e156] at k35_2
      refine kv_iload_n C 36 rfl 2 (kdec dk_cX10_restore 20 rfl) rfl rfl ?_
      refine kv_aload_n C 37 rfl 0 (kdec dk_cX10_restore 21 rfl) rfl rfl ?_
      obtain ⟨x158, e159⟩ : ∃ z : Int32, w 61 7 = z := ⟨_, rfl⟩
      have b160 : (0 : Int) ≤ x158.toInt ∧ x158.toInt ≤ 1024 := by rw [← e159]; exact hI 61 7
      have e161 : w_35 61 7 = x158 := ((F_35 61 7 rfl : w_35 61 7 = w 61 7).trans e159)
      refine kv_get C 40 rfl 61 7 rfl rfl inX10 (by decide) mfl_TaleMachineModel_118 rfl rfl (kdec dk_cX10_restore 22 rfl) e161 ?_
      refine kv_icmp_ge C 43 rfl 67 (kdec dk_cX10_restore 23 rfl) (by decide) (fun d162 => ?_) (fun d162 => ?_)
      · skip
        refine kv_aload_n C 68 rfl 0 (kdec dk_cX10_restore 38 rfl) rfl rfl ?_
        refine kv_aload_n C 69 rfl 0 (kdec dk_cX10_restore 39 rfl) rfl rfl ?_
        refine kv_getr C 72 rfl 61 37 rfl rfl inX10 (by decide) mfl_TaleMachineModel_59 rfl rfl (kdec dk_cX10_restore 40 rfl) ?_
        refine kv_bipush C 74 rfl 7 (kdec dk_cX10_restore 41 rfl) rfl ?_
        refine kv_iload_n C 75 rfl 1 (kdec dk_cX10_restore 42 rfl) rfl rfl ?_
        refine kv_imul C 76 rfl (kdec dk_cX10_restore 43 rfl) (fun x163 h164e h164l h164u => ?_)
        obtain rfl : x163 = 21 := by rw [h164e]; decide
        have e165 : w_35 78 21 = x149 := ((F_35 78 21 rfl : w_35 78 21 = w 78 21).trans e150)
        refine kv_iald C 77 rfl 78 rfl (by omega) (by omega) (show w_35 78 (21 : Int32).toNatClampNeg = x149 from e165) (kdec dk_cX10_restore 44 rfl) ?_
        refine kv_put C 80 rfl 61 19 rfl rfl inX10 (by decide) mfl_TaleMachineModel_136 rfl tyX10 tyX10_ok nmX10 rfl rfl (kdec dk_cX10_restore 45 rfl) rfl rfl (fun w166 u167 => ?_)
        have I168 : kI false w166 := kI_put u167 I_35 (show (0 : Int) ≤ (x149 : Int32).toInt by omega) (show (x149 : Int32).toInt ≤ 120 by omega)
        have F169 : kF [(61, some 12), (61, some 13), (61, some 14), (61, some 19), (61, some 20), (61, some 26), (61, some 27), (64, none), (66, none), (67, none), (68, none), (69, none), (70, none), (71, none)] w w166 := kF_put u167 F_35 rfl
        refine kv_aload_n C 81 rfl 0 (kdec dk_cX10_restore 46 rfl) rfl rfl ?_
        refine kv_aload_n C 82 rfl 0 (kdec dk_cX10_restore 47 rfl) rfl rfl ?_
        refine kv_getr C 85 rfl 61 37 rfl rfl inX10 (by decide) mfl_TaleMachineModel_59 rfl rfl (kdec dk_cX10_restore 48 rfl) ?_
        refine kv_bipush C 87 rfl 7 (kdec dk_cX10_restore 49 rfl) rfl ?_
        refine kv_iload_n C 88 rfl 1 (kdec dk_cX10_restore 50 rfl) rfl rfl ?_
        refine kv_imul C 89 rfl (kdec dk_cX10_restore 51 rfl) (fun x170 h171e h171l h171u => ?_)
        obtain rfl : x170 = 21 := by rw [h171e]; decide
        refine kv_iconst C 90 rfl 1 (kdec dk_cX10_restore 52 rfl) rfl ?_
        refine kv_iadd C 91 rfl (kdec dk_cX10_restore 53 rfl) (fun x172 q174 h173e h173 h173l h173u => ?_)
        try have h173n : x172.toInt = (21 : Int32).toInt + (1 : Int32).toInt := by omega
        clear h173 q174
        obtain rfl : x172 = 22 := by rw [h173e]; decide
        have e175 : w166 78 22 = x146 := ((kup_ne u167 rfl : w166 78 22 = w_35 78 22).trans ((F_35 78 22 rfl : w_35 78 22 = w 78 22).trans e147))
        refine kv_iald C 92 rfl 78 rfl (by omega) (by omega) (show w166 78 (22 : Int32).toNatClampNeg = x146 from e175) (kdec dk_cX10_restore 54 rfl) ?_
        refine kv_put C 95 rfl 61 20 rfl rfl inX10 (by decide) mfl_TaleMachineModel_139 rfl tyX10 tyX10_ok nmX10 rfl rfl (kdec dk_cX10_restore 55 rfl) rfl rfl (fun w176 u177 => ?_)
        have I178 : kI false w176 := kI_put u177 I168 (show (0 : Int) ≤ (x146 : Int32).toInt by omega) (show (x146 : Int32).toInt ≤ 20 by omega)
        have F179 : kF [(61, some 12), (61, some 13), (61, some 14), (61, some 19), (61, some 20), (61, some 26), (61, some 27), (64, none), (66, none), (67, none), (68, none), (69, none), (70, none), (71, none)] w w176 := kF_put u177 F169 rfl
        refine kv_aload_n C 96 rfl 0 (kdec dk_cX10_restore 56 rfl) rfl rfl ?_
        refine kv_aload_n C 97 rfl 0 (kdec dk_cX10_restore 57 rfl) rfl rfl ?_
        refine kv_getr C 100 rfl 61 37 rfl rfl inX10 (by decide) mfl_TaleMachineModel_59 rfl rfl (kdec dk_cX10_restore 58 rfl) ?_
        refine kv_bipush C 102 rfl 7 (kdec dk_cX10_restore 59 rfl) rfl ?_
        refine kv_iload_n C 103 rfl 1 (kdec dk_cX10_restore 60 rfl) rfl rfl ?_
        refine kv_imul C 104 rfl (kdec dk_cX10_restore 61 rfl) (fun x180 h181e h181l h181u => ?_)
        obtain rfl : x180 = 21 := by rw [h181e]; decide
        refine kv_iconst C 105 rfl 2 (kdec dk_cX10_restore 62 rfl) rfl ?_
        refine kv_iadd C 106 rfl (kdec dk_cX10_restore 63 rfl) (fun x182 q184 h183e h183 h183l h183u => ?_)
        try have h183n : x182.toInt = (21 : Int32).toInt + (2 : Int32).toInt := by omega
        clear h183 q184
        obtain rfl : x182 = 23 := by rw [h183e]; decide
        obtain ⟨x185, e186⟩ : ∃ z : Int32, w 78 23 = z := ⟨_, rfl⟩
        have b187 : (0 : Int) ≤ x185.toInt ∧ x185.toInt ≤ 65535 := by rw [← e186]; exact hI 78 23
        have e188 : w176 78 23 = x185 := ((kup_ne u177 rfl : w176 78 23 = w166 78 23).trans ((kup_ne u167 rfl : w166 78 23 = w_35 78 23).trans ((F_35 78 23 rfl : w_35 78 23 = w 78 23).trans e186)))
        refine kv_iald C 107 rfl 78 rfl (by omega) (by omega) (show w176 78 (23 : Int32).toNatClampNeg = x185 from e188) (kdec dk_cX10_restore 64 rfl) ?_
        refine kv_put C 110 rfl 61 14 rfl rfl inX10 (by decide) mfl_TaleMachineModel_142 rfl tyX10 tyX10_ok nmX10 rfl rfl (kdec dk_cX10_restore 65 rfl) rfl rfl (fun w189 u190 => ?_)
        have I191 : kI false w189 := kI_put u190 I178 (show (0 : Int) ≤ (x185 : Int32).toInt by omega) (show (x185 : Int32).toInt ≤ 65535 by omega)
        have F192 : kF [(61, some 12), (61, some 13), (61, some 14), (61, some 19), (61, some 20), (61, some 26), (61, some 27), (64, none), (66, none), (67, none), (68, none), (69, none), (70, none), (71, none)] w w189 := kF_put u190 F179 rfl
        refine kv_aload_n C 111 rfl 0 (kdec dk_cX10_restore 66 rfl) rfl rfl ?_
        refine kv_aload_n C 112 rfl 0 (kdec dk_cX10_restore 67 rfl) rfl rfl ?_
        refine kv_getr C 115 rfl 61 37 rfl rfl inX10 (by decide) mfl_TaleMachineModel_59 rfl rfl (kdec dk_cX10_restore 68 rfl) ?_
        refine kv_bipush C 117 rfl 7 (kdec dk_cX10_restore 69 rfl) rfl ?_
        refine kv_iload_n C 118 rfl 1 (kdec dk_cX10_restore 70 rfl) rfl rfl ?_
        refine kv_imul C 119 rfl (kdec dk_cX10_restore 71 rfl) (fun x193 h194e h194l h194u => ?_)
        obtain rfl : x193 = 21 := by rw [h194e]; decide
        refine kv_iconst C 120 rfl 3 (kdec dk_cX10_restore 72 rfl) rfl ?_
        refine kv_iadd C 121 rfl (kdec dk_cX10_restore 73 rfl) (fun x195 q197 h196e h196 h196l h196u => ?_)
        try have h196n : x195.toInt = (21 : Int32).toInt + (3 : Int32).toInt := by omega
        clear h196 q197
        obtain rfl : x195 = 24 := by rw [h196e]; decide
        have e198 : w189 78 24 = x152 := ((kup_ne u190 rfl : w189 78 24 = w176 78 24).trans ((kup_ne u177 rfl : w176 78 24 = w166 78 24).trans ((kup_ne u167 rfl : w166 78 24 = w_35 78 24).trans ((F_35 78 24 rfl : w_35 78 24 = w 78 24).trans e153))))
        refine kv_iald C 122 rfl 78 rfl (by omega) (by omega) (show w189 78 (24 : Int32).toNatClampNeg = x152 from e198) (kdec dk_cX10_restore 74 rfl) ?_
        refine kv_put C 125 rfl 61 12 rfl rfl inX10 (by decide) mfl_TaleMachineModel_112 rfl tyX10 tyX10_ok nmX10 rfl rfl (kdec dk_cX10_restore 75 rfl) rfl rfl (fun w199 u200 => ?_)
        have I201 : kI false w199 := kI_put u200 I191 (show (0 : Int) ≤ (x152 : Int32).toInt by omega) (show (x152 : Int32).toInt ≤ 4 by omega)
        have F202 : kF [(61, some 12), (61, some 13), (61, some 14), (61, some 19), (61, some 20), (61, some 26), (61, some 27), (64, none), (66, none), (67, none), (68, none), (69, none), (70, none), (71, none)] w w199 := kF_put u200 F192 rfl
        refine kv_aload_n C 126 rfl 0 (kdec dk_cX10_restore 76 rfl) rfl rfl ?_
        refine kv_aload_n C 127 rfl 0 (kdec dk_cX10_restore 77 rfl) rfl rfl ?_
        refine kv_getr C 130 rfl 61 37 rfl rfl inX10 (by decide) mfl_TaleMachineModel_59 rfl rfl (kdec dk_cX10_restore 78 rfl) ?_
        refine kv_bipush C 132 rfl 7 (kdec dk_cX10_restore 79 rfl) rfl ?_
        refine kv_iload_n C 133 rfl 1 (kdec dk_cX10_restore 80 rfl) rfl rfl ?_
        refine kv_imul C 134 rfl (kdec dk_cX10_restore 81 rfl) (fun x203 h204e h204l h204u => ?_)
        obtain rfl : x203 = 21 := by rw [h204e]; decide
        refine kv_iconst C 135 rfl 4 (kdec dk_cX10_restore 82 rfl) rfl ?_
        refine kv_iadd C 136 rfl (kdec dk_cX10_restore 83 rfl) (fun x205 q207 h206e h206 h206l h206u => ?_)
        try have h206n : x205.toInt = (21 : Int32).toInt + (4 : Int32).toInt := by omega
        clear h206 q207
        obtain rfl : x205 = 25 := by rw [h206e]; decide
        obtain ⟨x208, e209⟩ : ∃ z : Int32, w 78 25 = z := ⟨_, rfl⟩
        have b210 : (0 : Int) ≤ x208.toInt ∧ x208.toInt ≤ 65535 := by rw [← e209]; exact hI 78 25
        have e211 : w199 78 25 = x208 := ((kup_ne u200 rfl : w199 78 25 = w189 78 25).trans ((kup_ne u190 rfl : w189 78 25 = w176 78 25).trans ((kup_ne u177 rfl : w176 78 25 = w166 78 25).trans ((kup_ne u167 rfl : w166 78 25 = w_35 78 25).trans ((F_35 78 25 rfl : w_35 78 25 = w 78 25).trans e209)))))
        refine kv_iald C 137 rfl 78 rfl (by omega) (by omega) (show w199 78 (25 : Int32).toNatClampNeg = x208 from e211) (kdec dk_cX10_restore 84 rfl) ?_
        refine kv_put C 140 rfl 61 26 rfl rfl inX10 (by decide) mfl_TaleMachineModel_323 rfl tyX10 tyX10_ok nmX10 rfl rfl (kdec dk_cX10_restore 85 rfl) rfl rfl (fun w212 u213 => ?_)
        have I214 : kI false w212 := kI_put u213 I201 (show (0 : Int) ≤ (x208 : Int32).toInt by omega) (show (x208 : Int32).toInt ≤ 65535 by omega)
        have F215 : kF [(61, some 12), (61, some 13), (61, some 14), (61, some 19), (61, some 20), (61, some 26), (61, some 27), (64, none), (66, none), (67, none), (68, none), (69, none), (70, none), (71, none)] w w212 := kF_put u213 F202 rfl
        refine kv_aload_n C 141 rfl 0 (kdec dk_cX10_restore 86 rfl) rfl rfl ?_
        refine kv_aload_n C 142 rfl 0 (kdec dk_cX10_restore 87 rfl) rfl rfl ?_
        refine kv_getr C 145 rfl 61 37 rfl rfl inX10 (by decide) mfl_TaleMachineModel_59 rfl rfl (kdec dk_cX10_restore 88 rfl) ?_
        refine kv_bipush C 147 rfl 7 (kdec dk_cX10_restore 89 rfl) rfl ?_
        refine kv_iload_n C 148 rfl 1 (kdec dk_cX10_restore 90 rfl) rfl rfl ?_
        refine kv_imul C 149 rfl (kdec dk_cX10_restore 91 rfl) (fun x216 h217e h217l h217u => ?_)
        obtain rfl : x216 = 21 := by rw [h217e]; decide
        refine kv_iconst C 150 rfl 5 (kdec dk_cX10_restore 92 rfl) rfl ?_
        refine kv_iadd C 151 rfl (kdec dk_cX10_restore 93 rfl) (fun x218 q220 h219e h219 h219l h219u => ?_)
        try have h219n : x218.toInt = (21 : Int32).toInt + (5 : Int32).toInt := by omega
        clear h219 q220
        obtain rfl : x218 = 26 := by rw [h219e]; decide
        obtain ⟨x221, e222⟩ : ∃ z : Int32, w 78 26 = z := ⟨_, rfl⟩
        have b223 : (0 : Int) ≤ x221.toInt ∧ x221.toInt ≤ 65535 := by rw [← e222]; exact hI 78 26
        have e224 : w212 78 26 = x221 := ((kup_ne u213 rfl : w212 78 26 = w199 78 26).trans ((kup_ne u200 rfl : w199 78 26 = w189 78 26).trans ((kup_ne u190 rfl : w189 78 26 = w176 78 26).trans ((kup_ne u177 rfl : w176 78 26 = w166 78 26).trans ((kup_ne u167 rfl : w166 78 26 = w_35 78 26).trans ((F_35 78 26 rfl : w_35 78 26 = w 78 26).trans e222))))))
        refine kv_iald C 152 rfl 78 rfl (by omega) (by omega) (show w212 78 (26 : Int32).toNatClampNeg = x221 from e224) (kdec dk_cX10_restore 94 rfl) ?_
        refine kv_put C 155 rfl 61 27 rfl rfl inX10 (by decide) mfl_TaleMachineModel_326 rfl tyX10 tyX10_ok nmX10 rfl rfl (kdec dk_cX10_restore 95 rfl) rfl rfl (fun w225 u226 => ?_)
        have I227 : kI false w225 := kI_put u226 I214 (show (0 : Int) ≤ (x221 : Int32).toInt by omega) (show (x221 : Int32).toInt ≤ 65535 by omega)
        have F228 : kF [(61, some 12), (61, some 13), (61, some 14), (61, some 19), (61, some 20), (61, some 26), (61, some 27), (64, none), (66, none), (67, none), (68, none), (69, none), (70, none), (71, none)] w w225 := kF_put u226 F215 rfl
        refine kv_aload_n C 156 rfl 0 (kdec dk_cX10_restore 96 rfl) rfl rfl ?_
        refine kv_iconst C 157 rfl 0 (kdec dk_cX10_restore 97 rfl) rfl ?_
        refine kv_put C 160 rfl 61 13 rfl rfl inX10 (by decide) mfl_TaleMachineModel_148 rfl tyX10 tyX10_ok nmX10 rfl rfl (kdec dk_cX10_restore 98 rfl) rfl rfl (fun w229 u230 => ?_)
        have I231 : kI false w229 := kI_put u230 I227 (show (0 : Int) ≤ (0 : Int32).toInt by omega) (show (0 : Int32).toInt ≤ 13 by omega)
        have F232 : kF [(61, some 12), (61, some 13), (61, some 14), (61, some 19), (61, some 20), (61, some 26), (61, some 27), (64, none), (66, none), (67, none), (68, none), (69, none), (70, none), (71, none)] w w229 := kF_put u230 F228 rfl
        refine kv_iconst C 161 rfl 0 (kdec dk_cX10_restore 99 rfl) rfl ?_
        refine kv_istore_n C 162 rfl 2 [1, 2, 0] [(0, .ref (ρ 61)), (1, .int 3), (2, .int 0)] (kdec dk_cX10_restore 100 rfl) rfl (by decide) rfl ?_
        have e233 : w229 61 20 = x146 := ((kup_ne u230 rfl : w229 61 20 = w225 61 20).trans ((kup_ne u226 rfl : w225 61 20 = w212 61 20).trans ((kup_ne u213 rfl : w212 61 20 = w199 61 20).trans ((kup_ne u200 rfl : w199 61 20 = w189 61 20).trans ((kup_ne u190 rfl : w189 61 20 = w176 61 20).trans (kup_eq u177))))))
        have e234 : w229 61 19 = x149 := ((kup_ne u230 rfl : w229 61 19 = w225 61 19).trans ((kup_ne u226 rfl : w225 61 19 = w212 61 19).trans ((kup_ne u213 rfl : w212 61 19 = w199 61 19).trans ((kup_ne u200 rfl : w199 61 19 = w189 61 19).trans ((kup_ne u190 rfl : w189 61 19 = w176 61 19).trans ((kup_ne u177 rfl : w176 61 19 = w166 61 19).trans (kup_eq u167)))))))
        exact cut162 ((((121 - (0 : Int32).toInt)) : Int).toNat + 1) w229 0 I231 F232 (by omega) (by rw [e147, e150, e153]; try omega) (by rw [e147, e150, e233, e234]; try omega) (by rw [e156]; try omega) R35_S (by omega)
      · skip
        refine kv_aload_n C 44 rfl 0 (kdec dk_cX10_restore 24 rfl) rfl rfl ?_
        refine kv_getr C 47 rfl 61 4 rfl rfl inX10 (by decide) mfl_TaleMachineModel_16 rfl rfl (kdec dk_cX10_restore 25 rfl) ?_
        refine kv_iload_n C 48 rfl 2 (kdec dk_cX10_restore 26 rfl) rfl rfl ?_
        refine kv_aload_n C 49 rfl 0 (kdec dk_cX10_restore 27 rfl) rfl rfl ?_
        refine kv_getr C 52 rfl 61 34 rfl rfl inX10 (by decide) mfl_TaleMachineModel_50 rfl rfl (kdec dk_cX10_restore 28 rfl) ?_
        refine kv_sipush C 55 rfl 1024 (kdec dk_cX10_restore 29 rfl) rfl ?_
        refine kv_iload_n C 56 rfl 1 (kdec dk_cX10_restore 30 rfl) rfl rfl ?_
        refine kv_imul C 57 rfl (kdec dk_cX10_restore 31 rfl) (fun x235 h236e h236l h236u => ?_)
        obtain rfl : x235 = 3072 := by rw [h236e]; decide
        refine kv_iload_n C 58 rfl 2 (kdec dk_cX10_restore 32 rfl) rfl rfl ?_
        refine kv_iadd C 59 rfl (kdec dk_cX10_restore 33 rfl) (fun x237 q239 h238e h238 h238l h238u => ?_)
        try have h238n : x237.toInt = (3072 : Int32).toInt + l2_35.toInt := by omega
        clear h238 q239
        obtain ⟨x240, e241⟩ : ∃ z : Int32, w_35 75 (x237 : Int32).toNatClampNeg = z := ⟨_, rfl⟩
        have b242 : (0 : Int) ≤ x240.toInt ∧ x240.toInt ≤ 255 := by rw [← e241]; exact I_35 75 _
        refine kv_iald C 60 rfl 75 rfl (by omega) (by omega) e241 (kdec dk_cX10_restore 34 rfl) ?_
        refine kv_iast C 61 rfl 64 rfl (by omega) (by omega) (kdec dk_cX10_restore 35 rfl) (fun w243 u244 => ?_)
        have I245 : kI false w243 := kI_put u244 I_35 (show (0 : Int) ≤ (x240 : Int32).toInt by omega) (show (x240 : Int32).toInt ≤ 255 by omega)
        have F246 : kF [(61, some 12), (61, some 13), (61, some 14), (61, some 19), (61, some 20), (61, some 26), (61, some 27), (64, none), (66, none), (67, none), (68, none), (69, none), (70, none), (71, none)] w w243 := kF_put u244 F_35 rfl
        refine kv_iinc C 64 rfl 2 2 [1, 2, 0] (fun v9 => [(0, .ref (ρ 61)), (1, .int 3), (2, .int v9)]) (kdec dk_cX10_restore 36 rfl) rfl (by decide) (fun _ => rfl) 1 rfl (fun x247 q248 h249e h249 h249l h249u => ?_)
        try have h249n : x247.toInt = l2_35.toInt + 1 := by omega
        clear h249 q248
        refine kv_goto C 35 (kdec dk_cX10_restore 37 rfl) (by decide) ?_
        exact ih35 w243 x247 I245 F246 (by omega) (by rw [e147, e150, e153]; try omega) (by rw [e156]; try omega) R35_S (by omega)
  refine kv_iload_n C 1 rfl 1 (kdec dk_cX10_restore 0 rfl) rfl rfl ?_
  refine kv_i2l C 2 rfl (kdec dk_cX10_restore 1 rfl) ?_
  have h250 := kf_i2l 3
  refine kv_lconst C 3 rfl 0 (kdec dk_cX10_restore 2 rfl) rfl ?_
  have h251 : (0 : Int64).toInt = 0 := by decide
  refine kv_ldc2 C 6 rfl 3 (kdec dk_cX10_restore 3 rfl) mcl_TaleMachineModel_259 ?_
  have h252 : (3 : Int64).toInt = 3 := by decide
  refine kv_callSi (As := [.long (3 : Int32).toInt64, .long (0 : Int64), .long (3 : Int64)]) (rest := []) C 9 rfl (k_x_in l D τ ρ σ w (3 : Int32).toInt64 (0 : Int64) (3 : Int64) hI ) mml_TaleMachineModel_94 mst_yX10_in mcd_yX10_in min_yX10_in hd_yX10_in rfl rfl rfl (by decide) rfl (Nat.le_of_ble_eq_true rfl) (kdec dk_cX10_restore 4 rfl) (fun x257 w253 h254 => ?_)
  obtain ⟨I255, f256, p258, p259⟩ := h254
  have F260 : kF [(61, some 12), (61, some 13), (61, some 14), (61, some 19), (61, some 20), (61, some 26), (61, some 27), (64, none), (66, none), (67, none), (68, none), (69, none), (70, none), (71, none)] w w253 := kF_call hF0 f256 (by decide)
  have M261 : ((w253 61 3).toInt = 0 ∧ (w253 61 12).toInt = 0 ∨ kMoT w253) := kMoP_kF f256 hMp rfl rfl rfl rfl (fun _ => rfl)
  have g262 := kf_rng x257
  refine kv_if_ne C 12 rfl 14 (kdec dk_cX10_restore 5 rfl) (by decide) (fun d263 => ?_) (fun d263 => ?_)
  · skip
    refine kv_aload_n C 15 rfl 0 (kdec dk_cX10_restore 8 rfl) rfl rfl ?_
    obtain ⟨x264, e265⟩ : ∃ z : Int32, w 61 3 = z := ⟨_, rfl⟩
    have b266 : (0 : Int) ≤ x264.toInt ∧ x264.toInt ≤ 1 := by rw [← e265]; exact hI 61 3
    have e267 : w253 61 3 = x264 := ((f256 61 3 rfl : w253 61 3 = w 61 3).trans e265)
    refine kv_get C 18 rfl 61 3 rfl rfl inX10 (by decide) mfl_TaleMachineModel_108 rfl rfl (kdec dk_cX10_restore 9 rfl) e267 ?_
    refine kv_if_eq C 21 rfl 30 (kdec dk_cX10_restore 10 rfl) (by decide) (fun d268 => ?_) (fun d268 => ?_)
    · skip
      refine kv_bipush C 32 rfl (-2) (kdec dk_cX10_restore 16 rfl) rfl ?_
      exact kv_iret C hr hlk (kdec dk_cX10_restore 17 rfl) ⟨_, rfl, I255, F260, (by rw [e265]; try omega), M261⟩
    · skip
      refine kv_aload_n C 22 rfl 0 (kdec dk_cX10_restore 11 rfl) rfl rfl ?_
      refine kv_getr C 25 rfl 61 33 rfl rfl inX10 (by decide) mfl_TaleMachineModel_46 rfl rfl (kdec dk_cX10_restore 12 rfl) ?_
      refine kv_iload_n C 26 rfl 1 (kdec dk_cX10_restore 13 rfl) rfl rfl ?_
      obtain ⟨x269, e270⟩ : ∃ z : Int32, w 74 3 = z := ⟨_, rfl⟩
      have b271 : (0 : Int) ≤ x269.toInt ∧ x269.toInt ≤ 1 := by rw [← e270]; exact hI 74 3
      have e272 : w253 74 3 = x269 := ((f256 74 3 rfl : w253 74 3 = w 74 3).trans e270)
      refine kv_zald C 27 rfl 74 rfl (by omega) (by omega) (show w253 74 (3 : Int32).toNatClampNeg = x269 from e272) (kdec dk_cX10_restore 14 rfl) ?_
      refine kv_if_ne C 30 rfl 33 (kdec dk_cX10_restore 15 rfl) (by decide) (fun d273 => ?_) (fun d273 => ?_)
      · skip
        have hSl : kSlot w 3 := hS 3 (by decide) (by rw [e270]; omega)
        obtain ⟨x274, e275⟩ : ∃ z : Int32, w 78 21 = z := ⟨_, rfl⟩
        have b276 : (0 : Int) ≤ x274.toInt ∧ x274.toInt ≤ 65535 := by rw [← e275]; exact hI 78 21
        obtain ⟨x277, e278⟩ : ∃ z : Int32, w 78 22 = z := ⟨_, rfl⟩
        have b279 : (0 : Int) ≤ x277.toInt ∧ x277.toInt ≤ 65535 := by rw [← e278]; exact hI 78 22
        obtain ⟨x280, e281⟩ : ∃ z : Int32, w 78 24 = z := ⟨_, rfl⟩
        have b282 : (0 : Int) ≤ x280.toInt ∧ x280.toInt ≤ 65535 := by rw [← e281]; exact hI 78 24
        have hSf : 1 ≤ x277.toInt ∧ x277.toInt ≤ 20 ∧ x274.toInt ≤ 120 ∧ x280.toInt ≤ 4 := by rw [← e275, ← e278, ← e281]; exact hSl.1
        refine kv_iconst C 34 rfl 0 (kdec dk_cX10_restore 18 rfl) rfl ?_
        refine kv_istore_n C 35 rfl 2 [1, 2, 0] [(0, .ref (ρ 61)), (1, .int 3), (2, .int 0)] (kdec dk_cX10_restore 19 rfl) rfl (by decide) rfl ?_
        exact cut35 ((((1025 - (0 : Int32).toInt)) : Int).toNat + 1) w253 0 I255 F260 (by omega) (by rw [e278, e275, e281]; try omega) (by rw [e265]; try omega) hSl (by omega)
      · skip
        refine kv_bipush C 32 rfl (-2) (kdec dk_cX10_restore 16 rfl) rfl ?_
        exact kv_iret C hr hlk (kdec dk_cX10_restore 17 rfl) ⟨_, rfl, I255, F260, (by rw [e265]; try omega), M261⟩
  · skip
    refine kv_iconst C 13 rfl (-1) (kdec dk_cX10_restore 6 rfl) rfl ?_
    obtain ⟨x283, e284⟩ : ∃ z : Int32, w 61 3 = z := ⟨_, rfl⟩
    have b285 : (0 : Int) ≤ x283.toInt ∧ x283.toInt ≤ 1 := by rw [← e284]; exact hI 61 3
    exact kv_iret C hr hlk (kdec dk_cX10_restore 7 rfl) ⟨_, rfl, I255, F260, (by rw [e284]; try omega), M261⟩

set_option maxHeartbeats 4000000 in
set_option maxRecDepth 100000 in
theorem k_x_restoreo (l : Launch) (D : va_G) (τ : Nat → ClassId) (ρ σ : Nat → Nat) (w : kw) (a1 : Int32) (hI : kI false w) (hp0 : a1.toInt < 0 ∨ 3 < a1.toInt) (hMp : ((w 61 3).toInt = 0 ∧ (w 61 12).toInt = 0 ∨ kMoT w)) (hS : kSl w) :
    kM l D τ ρ σ yX10_restore cX10_restore 5 (some .int) { frames := 1, cells := 0, slots := 0, locals := 36 } [.ref (ρ 61), .int a1] w
      (fun o w' => ∃ r : Int32, o = some (.int r) ∧ kI false w' ∧ kF [(61, some 12), (61, some 13), (61, some 14), (61, some 19), (61, some 20), (61, some 26), (61, some 27), (64, none), (66, none), (67, none), (68, none), (69, none), (70, none), (71, none)] w w' ∧ (¬ (w 61 3).toInt = 0 ∨ (a1.toInt < 0 ∨ 3 < a1.toInt) ∧ r.toInt = -1 ∨ 0 ≤ a1.toInt ∧ a1.toInt ≤ 3 ∧ r.toInt = -2) ∧ ((w' 61 3).toInt = 0 ∧ (w' 61 12).toInt = 0 ∨ kMoT w')) := by
  refine kM_of (own := "TaleMachineModel") rfl (by decide) (Nat.le_of_ble_eq_true rfl) ?_
  intro p e s m args below meth c C hr hlk
  have hF0 : kF [(61, some 12), (61, some 13), (61, some 14), (61, some 19), (61, some 20), (61, some 26), (61, some 27), (64, none), (66, none), (67, none), (68, none), (69, none), (70, none), (71, none)] w w := kF.rf
  have c_m1 : (-1 : Int32).toInt = -1 := by decide
  refine kV.L (L' := [(0, .ref (ρ 61)), (1, .int a1)]) rfl ?_
  have g1 := kf_rng a1
  refine kv_iload_n C 1 rfl 1 (kdec dk_cX10_restore 0 rfl) rfl rfl ?_
  refine kv_i2l C 2 rfl (kdec dk_cX10_restore 1 rfl) ?_
  have h2 := kf_i2l a1
  refine kv_lconst C 3 rfl 0 (kdec dk_cX10_restore 2 rfl) rfl ?_
  have h3 : (0 : Int64).toInt = 0 := by decide
  refine kv_ldc2 C 6 rfl 3 (kdec dk_cX10_restore 3 rfl) mcl_TaleMachineModel_259 ?_
  have h4 : (3 : Int64).toInt = 3 := by decide
  refine kv_callSi (As := [.long (a1 : Int32).toInt64, .long (0 : Int64), .long (3 : Int64)]) (rest := []) C 9 rfl (k_x_in l D τ ρ σ w (a1 : Int32).toInt64 (0 : Int64) (3 : Int64) hI ) mml_TaleMachineModel_94 mst_yX10_in mcd_yX10_in min_yX10_in hd_yX10_in rfl rfl rfl (by decide) rfl (Nat.le_of_ble_eq_true rfl) (kdec dk_cX10_restore 4 rfl) (fun x9 w5 h6 => ?_)
  obtain ⟨I7, f8, p10, p11⟩ := h6
  have F12 : kF [(61, some 12), (61, some 13), (61, some 14), (61, some 19), (61, some 20), (61, some 26), (61, some 27), (64, none), (66, none), (67, none), (68, none), (69, none), (70, none), (71, none)] w w5 := kF_call hF0 f8 (by decide)
  have M13 : ((w5 61 3).toInt = 0 ∧ (w5 61 12).toInt = 0 ∨ kMoT w5) := kMoP_kF f8 hMp rfl rfl rfl rfl (fun _ => rfl)
  have g14 := kf_rng x9
  refine kv_if_ne C 12 rfl 14 (kdec dk_cX10_restore 5 rfl) (by decide) (fun d15 => ?_) (fun d15 => ?_)
  · exfalso; omega
  · skip
    refine kv_iconst C 13 rfl (-1) (kdec dk_cX10_restore 6 rfl) rfl ?_
    obtain ⟨x16, e17⟩ : ∃ z : Int32, w 61 3 = z := ⟨_, rfl⟩
    have b18 : (0 : Int) ≤ x16.toInt ∧ x16.toInt ≤ 1 := by rw [← e17]; exact hI 61 3
    exact kv_iret C hr hlk (kdec dk_cX10_restore 7 rfl) ⟨_, rfl, I7, F12, (by rw [e17]; try omega), M13⟩

set_option maxHeartbeats 4000000 in
set_option maxRecDepth 100000 in
theorem k_x_squeezed (l : Launch) (D : va_G) (τ : Nat → ClassId) (ρ σ : Nat → Nat) (w : kw) (a1 : Int32) (a2 : Int32) (hI : kI false w)  :
    kM l D τ ρ σ yX10_squeezed cX10_squeezed 3 (some .int) { frames := 1, cells := 0, slots := 0, locals := 36 } [.ref (ρ 61), .int a1, .int a2] w
      (fun o w' => ∃ r : Int32, o = some (.int r) ∧ kI false w' ∧ kF [] w w' ∧ (¬ ((w 74 0).toInt = 0 ∧ (w 74 1).toInt = 0 ∧ (w 74 2).toInt = 0 ∧ (w 74 3).toInt = 0) ∨ r.toInt = -1)) := by
  refine kM_of (own := "TaleMachineModel") rfl (by decide) (Nat.le_of_ble_eq_true rfl) ?_
  intro p e s m args below meth c C hr hlk
  have hF0 : kF [] w w := kF.rf
  have c_m1 : (-1 : Int32).toInt = -1 := by decide
  have c_0 : (0 : Int32).toInt = 0 := by decide
  have c_1 : (1 : Int32).toInt = 1 := by decide
  have c_2 : (2 : Int32).toInt = 2 := by decide
  have c_3 : (3 : Int32).toInt = 3 := by decide
  have c_2050 : (2050 : Int32).toInt = 2050 := by decide
  have c_4100 : (4100 : Int32).toInt = 4100 := by decide
  have c_6150 : (6150 : Int32).toInt = 6150 := by decide
  refine kV.L (L' := [(0, .ref (ρ 61)), (1, .int a1), (2, .int a2)]) rfl ?_
  have g1 := kf_rng a1
  have g2 := kf_rng a2
  refine kv_iload_n C 1 rfl 1 (kdec dk_cX10_squeezed 0 rfl) rfl rfl ?_
  refine kv_i2l C 2 rfl (kdec dk_cX10_squeezed 1 rfl) ?_
  have h3 := kf_i2l a1
  refine kv_lconst C 3 rfl 0 (kdec dk_cX10_squeezed 2 rfl) rfl ?_
  have h4 : (0 : Int64).toInt = 0 := by decide
  refine kv_ldc2 C 6 rfl 3 (kdec dk_cX10_squeezed 3 rfl) mcl_TaleMachineModel_259 ?_
  have h5 : (3 : Int64).toInt = 3 := by decide
  refine kv_callSi (As := [.long (a1 : Int32).toInt64, .long (0 : Int64), .long (3 : Int64)]) (rest := []) C 9 rfl (k_x_in l D τ ρ σ w (a1 : Int32).toInt64 (0 : Int64) (3 : Int64) hI ) mml_TaleMachineModel_94 mst_yX10_in mcd_yX10_in min_yX10_in hd_yX10_in rfl rfl rfl (by decide) rfl (Nat.le_of_ble_eq_true rfl) (kdec dk_cX10_squeezed 4 rfl) (fun x10 w6 h7 => ?_)
  obtain ⟨I8, f9, p11, p12⟩ := h7
  have F13 : kF [] w w6 := kF_call hF0 f9 (by decide)
  have g14 := kf_rng x10
  refine kv_if_eq C 12 rfl 54 (kdec dk_cX10_squeezed 5 rfl) (by decide) (fun d15 => ?_) (fun d15 => ?_)
  · skip
    refine kv_iconst C 55 rfl (-1) (kdec dk_cX10_squeezed 32 rfl) rfl ?_
    obtain ⟨x16, e17⟩ : ∃ z : Int32, w 74 0 = z := ⟨_, rfl⟩
    have b18 : (0 : Int) ≤ x16.toInt ∧ x16.toInt ≤ 1 := by rw [← e17]; exact hI 74 0
    obtain ⟨x19, e20⟩ : ∃ z : Int32, w 74 1 = z := ⟨_, rfl⟩
    have b21 : (0 : Int) ≤ x19.toInt ∧ x19.toInt ≤ 1 := by rw [← e20]; exact hI 74 1
    obtain ⟨x22, e23⟩ : ∃ z : Int32, w 74 2 = z := ⟨_, rfl⟩
    have b24 : (0 : Int) ≤ x22.toInt ∧ x22.toInt ≤ 1 := by rw [← e23]; exact hI 74 2
    obtain ⟨x25, e26⟩ : ∃ z : Int32, w 74 3 = z := ⟨_, rfl⟩
    have b27 : (0 : Int) ≤ x25.toInt ∧ x25.toInt ≤ 1 := by rw [← e26]; exact hI 74 3
    exact kv_iret C hr hlk (kdec dk_cX10_squeezed 33 rfl) ⟨_, rfl, I8, F13, (by rw [e17, e20, e23, e26]; try omega)⟩
  · skip
    rcases (show a1.toInt = 0 ∨ a1.toInt = 1 ∨ a1.toInt = 2 ∨ a1.toInt = 3 by omega) with d28 | d28 | d28 | d28
    · obtain rfl := kf_eqc (0) (by decide) d28
      refine kv_aload_n C 13 rfl 0 (kdec dk_cX10_squeezed 6 rfl) rfl rfl ?_
      refine kv_getr C 16 rfl 61 33 rfl rfl inX10 (by decide) mfl_TaleMachineModel_46 rfl rfl (kdec dk_cX10_squeezed 7 rfl) ?_
      refine kv_iload_n C 17 rfl 1 (kdec dk_cX10_squeezed 8 rfl) rfl rfl ?_
      obtain ⟨x29, e30⟩ : ∃ z : Int32, w 74 0 = z := ⟨_, rfl⟩
      have b31 : (0 : Int) ≤ x29.toInt ∧ x29.toInt ≤ 1 := by rw [← e30]; exact hI 74 0
      have e32 : w6 74 0 = x29 := ((f9 74 0 rfl : w6 74 0 = w 74 0).trans e30)
      refine kv_zald C 18 rfl 74 rfl (by omega) (by omega) (show w6 74 (0 : Int32).toNatClampNeg = x29 from e32) (kdec dk_cX10_squeezed 9 rfl) ?_
      refine kv_if_eq C 21 rfl 54 (kdec dk_cX10_squeezed 10 rfl) (by decide) (fun d33 => ?_) (fun d33 => ?_)
      · skip
        refine kv_iconst C 55 rfl (-1) (kdec dk_cX10_squeezed 32 rfl) rfl ?_
        obtain ⟨x34, e35⟩ : ∃ z : Int32, w 74 1 = z := ⟨_, rfl⟩
        have b36 : (0 : Int) ≤ x34.toInt ∧ x34.toInt ≤ 1 := by rw [← e35]; exact hI 74 1
        obtain ⟨x37, e38⟩ : ∃ z : Int32, w 74 2 = z := ⟨_, rfl⟩
        have b39 : (0 : Int) ≤ x37.toInt ∧ x37.toInt ≤ 1 := by rw [← e38]; exact hI 74 2
        obtain ⟨x40, e41⟩ : ∃ z : Int32, w 74 3 = z := ⟨_, rfl⟩
        have b42 : (0 : Int) ≤ x40.toInt ∧ x40.toInt ≤ 1 := by rw [← e41]; exact hI 74 3
        exact kv_iret C hr hlk (kdec dk_cX10_squeezed 33 rfl) ⟨_, rfl, I8, F13, (by rw [e30, e35, e38, e41]; try omega)⟩
      · skip
        refine kv_iload_n C 22 rfl 2 (kdec dk_cX10_squeezed 11 rfl) rfl rfl ?_
        refine kv_i2l C 23 rfl (kdec dk_cX10_squeezed 12 rfl) ?_
        have h43 := kf_i2l a2
        refine kv_lconst C 24 rfl 0 (kdec dk_cX10_squeezed 13 rfl) rfl ?_
        have h44 : (0 : Int64).toInt = 0 := by decide
        refine kv_aload_n C 25 rfl 0 (kdec dk_cX10_squeezed 14 rfl) rfl rfl ?_
        refine kv_getr C 28 rfl 61 39 rfl rfl inX10 (by decide) mfl_TaleMachineModel_65 rfl rfl (kdec dk_cX10_squeezed 15 rfl) ?_
        refine kv_iload_n C 29 rfl 1 (kdec dk_cX10_squeezed 16 rfl) rfl rfl ?_
        obtain ⟨x45, e46⟩ : ∃ z : Int32, w 80 0 = z := ⟨_, rfl⟩
        have b47 : (0 : Int) ≤ x45.toInt ∧ x45.toInt ≤ 2050 := by rw [← e46]; exact hI 80 0
        have e48 : w6 80 0 = x45 := ((f9 80 0 rfl : w6 80 0 = w 80 0).trans e46)
        refine kv_iald C 30 rfl 80 rfl (by omega) (by omega) (show w6 80 (0 : Int32).toNatClampNeg = x45 from e48) (kdec dk_cX10_squeezed 17 rfl) ?_
        refine kv_iconst C 31 rfl 1 (kdec dk_cX10_squeezed 18 rfl) rfl ?_
        refine kv_isub C 32 rfl (kdec dk_cX10_squeezed 19 rfl) (fun x49 q51 h50e h50 h50l h50u => ?_)
        try have h50n : x49.toInt = x45.toInt - (1 : Int32).toInt := by omega
        clear h50 q51
        refine kv_i2l C 33 rfl (kdec dk_cX10_squeezed 20 rfl) ?_
        have h52 := kf_i2l x49
        refine kv_callSi (As := [.long (a2 : Int32).toInt64, .long (0 : Int64), .long (x49 : Int32).toInt64]) (rest := []) C 36 rfl (k_x_in l D τ ρ σ w6 (a2 : Int32).toInt64 (0 : Int64) (x49 : Int32).toInt64 I8 ) mml_TaleMachineModel_94 mst_yX10_in mcd_yX10_in min_yX10_in hd_yX10_in rfl rfl rfl (by decide) rfl (Nat.le_of_ble_eq_true rfl) (kdec dk_cX10_squeezed 21 rfl) (fun x57 w53 h54 => ?_)
        obtain ⟨I55, f56, p58, p59⟩ := h54
        have F60 : kF [] w w53 := kF_call F13 f56 (by decide)
        have g61 := kf_rng x57
        refine kv_if_eq C 39 rfl 54 (kdec dk_cX10_squeezed 22 rfl) (by decide) (fun d62 => ?_) (fun d62 => ?_)
        · skip
          refine kv_iconst C 55 rfl (-1) (kdec dk_cX10_squeezed 32 rfl) rfl ?_
          obtain ⟨x63, e64⟩ : ∃ z : Int32, w 74 1 = z := ⟨_, rfl⟩
          have b65 : (0 : Int) ≤ x63.toInt ∧ x63.toInt ≤ 1 := by rw [← e64]; exact hI 74 1
          obtain ⟨x66, e67⟩ : ∃ z : Int32, w 74 2 = z := ⟨_, rfl⟩
          have b68 : (0 : Int) ≤ x66.toInt ∧ x66.toInt ≤ 1 := by rw [← e67]; exact hI 74 2
          obtain ⟨x69, e70⟩ : ∃ z : Int32, w 74 3 = z := ⟨_, rfl⟩
          have b71 : (0 : Int) ≤ x69.toInt ∧ x69.toInt ≤ 1 := by rw [← e70]; exact hI 74 3
          exact kv_iret C hr hlk (kdec dk_cX10_squeezed 33 rfl) ⟨_, rfl, I55, F60, (by rw [e30, e64, e67, e70]; try omega)⟩
        · skip
          refine kv_aload_n C 40 rfl 0 (kdec dk_cX10_squeezed 23 rfl) rfl rfl ?_
          refine kv_getr C 43 rfl 61 38 rfl rfl inX10 (by decide) mfl_TaleMachineModel_62 rfl rfl (kdec dk_cX10_squeezed 24 rfl) ?_
          refine kv_sipush C 46 rfl 2050 (kdec dk_cX10_squeezed 25 rfl) rfl ?_
          refine kv_iload_n C 47 rfl 1 (kdec dk_cX10_squeezed 26 rfl) rfl rfl ?_
          refine kv_imul C 48 rfl (kdec dk_cX10_squeezed 27 rfl) (fun x72 h73e h73l h73u => ?_)
          obtain rfl : x72 = 0 := by rw [h73e]; decide
          refine kv_iload_n C 49 rfl 2 (kdec dk_cX10_squeezed 28 rfl) rfl rfl ?_
          refine kv_iadd C 50 rfl (kdec dk_cX10_squeezed 29 rfl) (fun x74 q76 h75e h75 h75l h75u => ?_)
          try have h75n : x74.toInt = (0 : Int32).toInt + a2.toInt := by omega
          clear h75 q76
          obtain ⟨x77, e78⟩ : ∃ z : Int32, w53 79 (x74 : Int32).toNatClampNeg = z := ⟨_, rfl⟩
          have b79 : (-2147483648 : Int) ≤ x77.toInt ∧ x77.toInt ≤ 2147483647 := by rw [← e78]; exact I55 79 _
          refine kv_iald C 51 rfl 79 rfl (by omega) (by omega) e78 (kdec dk_cX10_squeezed 30 rfl) ?_
          refine kv_goto C 55 (kdec dk_cX10_squeezed 31 rfl) (by decide) ?_
          obtain ⟨x80, e81⟩ : ∃ z : Int32, w 74 1 = z := ⟨_, rfl⟩
          have b82 : (0 : Int) ≤ x80.toInt ∧ x80.toInt ≤ 1 := by rw [← e81]; exact hI 74 1
          obtain ⟨x83, e84⟩ : ∃ z : Int32, w 74 2 = z := ⟨_, rfl⟩
          have b85 : (0 : Int) ≤ x83.toInt ∧ x83.toInt ≤ 1 := by rw [← e84]; exact hI 74 2
          obtain ⟨x86, e87⟩ : ∃ z : Int32, w 74 3 = z := ⟨_, rfl⟩
          have b88 : (0 : Int) ≤ x86.toInt ∧ x86.toInt ≤ 1 := by rw [← e87]; exact hI 74 3
          exact kv_iret C hr hlk (kdec dk_cX10_squeezed 33 rfl) ⟨_, rfl, I55, F60, (by rw [e30, e81, e84, e87]; try omega)⟩
    · obtain rfl := kf_eqc (1) (by decide) d28
      refine kv_aload_n C 13 rfl 0 (kdec dk_cX10_squeezed 6 rfl) rfl rfl ?_
      refine kv_getr C 16 rfl 61 33 rfl rfl inX10 (by decide) mfl_TaleMachineModel_46 rfl rfl (kdec dk_cX10_squeezed 7 rfl) ?_
      refine kv_iload_n C 17 rfl 1 (kdec dk_cX10_squeezed 8 rfl) rfl rfl ?_
      obtain ⟨x89, e90⟩ : ∃ z : Int32, w 74 1 = z := ⟨_, rfl⟩
      have b91 : (0 : Int) ≤ x89.toInt ∧ x89.toInt ≤ 1 := by rw [← e90]; exact hI 74 1
      have e92 : w6 74 1 = x89 := ((f9 74 1 rfl : w6 74 1 = w 74 1).trans e90)
      refine kv_zald C 18 rfl 74 rfl (by omega) (by omega) (show w6 74 (1 : Int32).toNatClampNeg = x89 from e92) (kdec dk_cX10_squeezed 9 rfl) ?_
      refine kv_if_eq C 21 rfl 54 (kdec dk_cX10_squeezed 10 rfl) (by decide) (fun d93 => ?_) (fun d93 => ?_)
      · skip
        refine kv_iconst C 55 rfl (-1) (kdec dk_cX10_squeezed 32 rfl) rfl ?_
        obtain ⟨x94, e95⟩ : ∃ z : Int32, w 74 0 = z := ⟨_, rfl⟩
        have b96 : (0 : Int) ≤ x94.toInt ∧ x94.toInt ≤ 1 := by rw [← e95]; exact hI 74 0
        obtain ⟨x97, e98⟩ : ∃ z : Int32, w 74 2 = z := ⟨_, rfl⟩
        have b99 : (0 : Int) ≤ x97.toInt ∧ x97.toInt ≤ 1 := by rw [← e98]; exact hI 74 2
        obtain ⟨x100, e101⟩ : ∃ z : Int32, w 74 3 = z := ⟨_, rfl⟩
        have b102 : (0 : Int) ≤ x100.toInt ∧ x100.toInt ≤ 1 := by rw [← e101]; exact hI 74 3
        exact kv_iret C hr hlk (kdec dk_cX10_squeezed 33 rfl) ⟨_, rfl, I8, F13, (by rw [e95, e90, e98, e101]; try omega)⟩
      · skip
        refine kv_iload_n C 22 rfl 2 (kdec dk_cX10_squeezed 11 rfl) rfl rfl ?_
        refine kv_i2l C 23 rfl (kdec dk_cX10_squeezed 12 rfl) ?_
        have h103 := kf_i2l a2
        refine kv_lconst C 24 rfl 0 (kdec dk_cX10_squeezed 13 rfl) rfl ?_
        have h104 : (0 : Int64).toInt = 0 := by decide
        refine kv_aload_n C 25 rfl 0 (kdec dk_cX10_squeezed 14 rfl) rfl rfl ?_
        refine kv_getr C 28 rfl 61 39 rfl rfl inX10 (by decide) mfl_TaleMachineModel_65 rfl rfl (kdec dk_cX10_squeezed 15 rfl) ?_
        refine kv_iload_n C 29 rfl 1 (kdec dk_cX10_squeezed 16 rfl) rfl rfl ?_
        obtain ⟨x105, e106⟩ : ∃ z : Int32, w 80 1 = z := ⟨_, rfl⟩
        have b107 : (0 : Int) ≤ x105.toInt ∧ x105.toInt ≤ 2050 := by rw [← e106]; exact hI 80 1
        have e108 : w6 80 1 = x105 := ((f9 80 1 rfl : w6 80 1 = w 80 1).trans e106)
        refine kv_iald C 30 rfl 80 rfl (by omega) (by omega) (show w6 80 (1 : Int32).toNatClampNeg = x105 from e108) (kdec dk_cX10_squeezed 17 rfl) ?_
        refine kv_iconst C 31 rfl 1 (kdec dk_cX10_squeezed 18 rfl) rfl ?_
        refine kv_isub C 32 rfl (kdec dk_cX10_squeezed 19 rfl) (fun x109 q111 h110e h110 h110l h110u => ?_)
        try have h110n : x109.toInt = x105.toInt - (1 : Int32).toInt := by omega
        clear h110 q111
        refine kv_i2l C 33 rfl (kdec dk_cX10_squeezed 20 rfl) ?_
        have h112 := kf_i2l x109
        refine kv_callSi (As := [.long (a2 : Int32).toInt64, .long (0 : Int64), .long (x109 : Int32).toInt64]) (rest := []) C 36 rfl (k_x_in l D τ ρ σ w6 (a2 : Int32).toInt64 (0 : Int64) (x109 : Int32).toInt64 I8 ) mml_TaleMachineModel_94 mst_yX10_in mcd_yX10_in min_yX10_in hd_yX10_in rfl rfl rfl (by decide) rfl (Nat.le_of_ble_eq_true rfl) (kdec dk_cX10_squeezed 21 rfl) (fun x117 w113 h114 => ?_)
        obtain ⟨I115, f116, p118, p119⟩ := h114
        have F120 : kF [] w w113 := kF_call F13 f116 (by decide)
        have g121 := kf_rng x117
        refine kv_if_eq C 39 rfl 54 (kdec dk_cX10_squeezed 22 rfl) (by decide) (fun d122 => ?_) (fun d122 => ?_)
        · skip
          refine kv_iconst C 55 rfl (-1) (kdec dk_cX10_squeezed 32 rfl) rfl ?_
          obtain ⟨x123, e124⟩ : ∃ z : Int32, w 74 0 = z := ⟨_, rfl⟩
          have b125 : (0 : Int) ≤ x123.toInt ∧ x123.toInt ≤ 1 := by rw [← e124]; exact hI 74 0
          obtain ⟨x126, e127⟩ : ∃ z : Int32, w 74 2 = z := ⟨_, rfl⟩
          have b128 : (0 : Int) ≤ x126.toInt ∧ x126.toInt ≤ 1 := by rw [← e127]; exact hI 74 2
          obtain ⟨x129, e130⟩ : ∃ z : Int32, w 74 3 = z := ⟨_, rfl⟩
          have b131 : (0 : Int) ≤ x129.toInt ∧ x129.toInt ≤ 1 := by rw [← e130]; exact hI 74 3
          exact kv_iret C hr hlk (kdec dk_cX10_squeezed 33 rfl) ⟨_, rfl, I115, F120, (by rw [e124, e90, e127, e130]; try omega)⟩
        · skip
          refine kv_aload_n C 40 rfl 0 (kdec dk_cX10_squeezed 23 rfl) rfl rfl ?_
          refine kv_getr C 43 rfl 61 38 rfl rfl inX10 (by decide) mfl_TaleMachineModel_62 rfl rfl (kdec dk_cX10_squeezed 24 rfl) ?_
          refine kv_sipush C 46 rfl 2050 (kdec dk_cX10_squeezed 25 rfl) rfl ?_
          refine kv_iload_n C 47 rfl 1 (kdec dk_cX10_squeezed 26 rfl) rfl rfl ?_
          refine kv_imul C 48 rfl (kdec dk_cX10_squeezed 27 rfl) (fun x132 h133e h133l h133u => ?_)
          obtain rfl : x132 = 2050 := by rw [h133e]; decide
          refine kv_iload_n C 49 rfl 2 (kdec dk_cX10_squeezed 28 rfl) rfl rfl ?_
          refine kv_iadd C 50 rfl (kdec dk_cX10_squeezed 29 rfl) (fun x134 q136 h135e h135 h135l h135u => ?_)
          try have h135n : x134.toInt = (2050 : Int32).toInt + a2.toInt := by omega
          clear h135 q136
          obtain ⟨x137, e138⟩ : ∃ z : Int32, w113 79 (x134 : Int32).toNatClampNeg = z := ⟨_, rfl⟩
          have b139 : (-2147483648 : Int) ≤ x137.toInt ∧ x137.toInt ≤ 2147483647 := by rw [← e138]; exact I115 79 _
          refine kv_iald C 51 rfl 79 rfl (by omega) (by omega) e138 (kdec dk_cX10_squeezed 30 rfl) ?_
          refine kv_goto C 55 (kdec dk_cX10_squeezed 31 rfl) (by decide) ?_
          obtain ⟨x140, e141⟩ : ∃ z : Int32, w 74 0 = z := ⟨_, rfl⟩
          have b142 : (0 : Int) ≤ x140.toInt ∧ x140.toInt ≤ 1 := by rw [← e141]; exact hI 74 0
          obtain ⟨x143, e144⟩ : ∃ z : Int32, w 74 2 = z := ⟨_, rfl⟩
          have b145 : (0 : Int) ≤ x143.toInt ∧ x143.toInt ≤ 1 := by rw [← e144]; exact hI 74 2
          obtain ⟨x146, e147⟩ : ∃ z : Int32, w 74 3 = z := ⟨_, rfl⟩
          have b148 : (0 : Int) ≤ x146.toInt ∧ x146.toInt ≤ 1 := by rw [← e147]; exact hI 74 3
          exact kv_iret C hr hlk (kdec dk_cX10_squeezed 33 rfl) ⟨_, rfl, I115, F120, (by rw [e141, e90, e144, e147]; try omega)⟩
    · obtain rfl := kf_eqc (2) (by decide) d28
      refine kv_aload_n C 13 rfl 0 (kdec dk_cX10_squeezed 6 rfl) rfl rfl ?_
      refine kv_getr C 16 rfl 61 33 rfl rfl inX10 (by decide) mfl_TaleMachineModel_46 rfl rfl (kdec dk_cX10_squeezed 7 rfl) ?_
      refine kv_iload_n C 17 rfl 1 (kdec dk_cX10_squeezed 8 rfl) rfl rfl ?_
      obtain ⟨x149, e150⟩ : ∃ z : Int32, w 74 2 = z := ⟨_, rfl⟩
      have b151 : (0 : Int) ≤ x149.toInt ∧ x149.toInt ≤ 1 := by rw [← e150]; exact hI 74 2
      have e152 : w6 74 2 = x149 := ((f9 74 2 rfl : w6 74 2 = w 74 2).trans e150)
      refine kv_zald C 18 rfl 74 rfl (by omega) (by omega) (show w6 74 (2 : Int32).toNatClampNeg = x149 from e152) (kdec dk_cX10_squeezed 9 rfl) ?_
      refine kv_if_eq C 21 rfl 54 (kdec dk_cX10_squeezed 10 rfl) (by decide) (fun d153 => ?_) (fun d153 => ?_)
      · skip
        refine kv_iconst C 55 rfl (-1) (kdec dk_cX10_squeezed 32 rfl) rfl ?_
        obtain ⟨x154, e155⟩ : ∃ z : Int32, w 74 0 = z := ⟨_, rfl⟩
        have b156 : (0 : Int) ≤ x154.toInt ∧ x154.toInt ≤ 1 := by rw [← e155]; exact hI 74 0
        obtain ⟨x157, e158⟩ : ∃ z : Int32, w 74 1 = z := ⟨_, rfl⟩
        have b159 : (0 : Int) ≤ x157.toInt ∧ x157.toInt ≤ 1 := by rw [← e158]; exact hI 74 1
        obtain ⟨x160, e161⟩ : ∃ z : Int32, w 74 3 = z := ⟨_, rfl⟩
        have b162 : (0 : Int) ≤ x160.toInt ∧ x160.toInt ≤ 1 := by rw [← e161]; exact hI 74 3
        exact kv_iret C hr hlk (kdec dk_cX10_squeezed 33 rfl) ⟨_, rfl, I8, F13, (by rw [e155, e158, e150, e161]; try omega)⟩
      · skip
        refine kv_iload_n C 22 rfl 2 (kdec dk_cX10_squeezed 11 rfl) rfl rfl ?_
        refine kv_i2l C 23 rfl (kdec dk_cX10_squeezed 12 rfl) ?_
        have h163 := kf_i2l a2
        refine kv_lconst C 24 rfl 0 (kdec dk_cX10_squeezed 13 rfl) rfl ?_
        have h164 : (0 : Int64).toInt = 0 := by decide
        refine kv_aload_n C 25 rfl 0 (kdec dk_cX10_squeezed 14 rfl) rfl rfl ?_
        refine kv_getr C 28 rfl 61 39 rfl rfl inX10 (by decide) mfl_TaleMachineModel_65 rfl rfl (kdec dk_cX10_squeezed 15 rfl) ?_
        refine kv_iload_n C 29 rfl 1 (kdec dk_cX10_squeezed 16 rfl) rfl rfl ?_
        obtain ⟨x165, e166⟩ : ∃ z : Int32, w 80 2 = z := ⟨_, rfl⟩
        have b167 : (0 : Int) ≤ x165.toInt ∧ x165.toInt ≤ 2050 := by rw [← e166]; exact hI 80 2
        have e168 : w6 80 2 = x165 := ((f9 80 2 rfl : w6 80 2 = w 80 2).trans e166)
        refine kv_iald C 30 rfl 80 rfl (by omega) (by omega) (show w6 80 (2 : Int32).toNatClampNeg = x165 from e168) (kdec dk_cX10_squeezed 17 rfl) ?_
        refine kv_iconst C 31 rfl 1 (kdec dk_cX10_squeezed 18 rfl) rfl ?_
        refine kv_isub C 32 rfl (kdec dk_cX10_squeezed 19 rfl) (fun x169 q171 h170e h170 h170l h170u => ?_)
        try have h170n : x169.toInt = x165.toInt - (1 : Int32).toInt := by omega
        clear h170 q171
        refine kv_i2l C 33 rfl (kdec dk_cX10_squeezed 20 rfl) ?_
        have h172 := kf_i2l x169
        refine kv_callSi (As := [.long (a2 : Int32).toInt64, .long (0 : Int64), .long (x169 : Int32).toInt64]) (rest := []) C 36 rfl (k_x_in l D τ ρ σ w6 (a2 : Int32).toInt64 (0 : Int64) (x169 : Int32).toInt64 I8 ) mml_TaleMachineModel_94 mst_yX10_in mcd_yX10_in min_yX10_in hd_yX10_in rfl rfl rfl (by decide) rfl (Nat.le_of_ble_eq_true rfl) (kdec dk_cX10_squeezed 21 rfl) (fun x177 w173 h174 => ?_)
        obtain ⟨I175, f176, p178, p179⟩ := h174
        have F180 : kF [] w w173 := kF_call F13 f176 (by decide)
        have g181 := kf_rng x177
        refine kv_if_eq C 39 rfl 54 (kdec dk_cX10_squeezed 22 rfl) (by decide) (fun d182 => ?_) (fun d182 => ?_)
        · skip
          refine kv_iconst C 55 rfl (-1) (kdec dk_cX10_squeezed 32 rfl) rfl ?_
          obtain ⟨x183, e184⟩ : ∃ z : Int32, w 74 0 = z := ⟨_, rfl⟩
          have b185 : (0 : Int) ≤ x183.toInt ∧ x183.toInt ≤ 1 := by rw [← e184]; exact hI 74 0
          obtain ⟨x186, e187⟩ : ∃ z : Int32, w 74 1 = z := ⟨_, rfl⟩
          have b188 : (0 : Int) ≤ x186.toInt ∧ x186.toInt ≤ 1 := by rw [← e187]; exact hI 74 1
          obtain ⟨x189, e190⟩ : ∃ z : Int32, w 74 3 = z := ⟨_, rfl⟩
          have b191 : (0 : Int) ≤ x189.toInt ∧ x189.toInt ≤ 1 := by rw [← e190]; exact hI 74 3
          exact kv_iret C hr hlk (kdec dk_cX10_squeezed 33 rfl) ⟨_, rfl, I175, F180, (by rw [e184, e187, e150, e190]; try omega)⟩
        · skip
          refine kv_aload_n C 40 rfl 0 (kdec dk_cX10_squeezed 23 rfl) rfl rfl ?_
          refine kv_getr C 43 rfl 61 38 rfl rfl inX10 (by decide) mfl_TaleMachineModel_62 rfl rfl (kdec dk_cX10_squeezed 24 rfl) ?_
          refine kv_sipush C 46 rfl 2050 (kdec dk_cX10_squeezed 25 rfl) rfl ?_
          refine kv_iload_n C 47 rfl 1 (kdec dk_cX10_squeezed 26 rfl) rfl rfl ?_
          refine kv_imul C 48 rfl (kdec dk_cX10_squeezed 27 rfl) (fun x192 h193e h193l h193u => ?_)
          obtain rfl : x192 = 4100 := by rw [h193e]; decide
          refine kv_iload_n C 49 rfl 2 (kdec dk_cX10_squeezed 28 rfl) rfl rfl ?_
          refine kv_iadd C 50 rfl (kdec dk_cX10_squeezed 29 rfl) (fun x194 q196 h195e h195 h195l h195u => ?_)
          try have h195n : x194.toInt = (4100 : Int32).toInt + a2.toInt := by omega
          clear h195 q196
          obtain ⟨x197, e198⟩ : ∃ z : Int32, w173 79 (x194 : Int32).toNatClampNeg = z := ⟨_, rfl⟩
          have b199 : (-2147483648 : Int) ≤ x197.toInt ∧ x197.toInt ≤ 2147483647 := by rw [← e198]; exact I175 79 _
          refine kv_iald C 51 rfl 79 rfl (by omega) (by omega) e198 (kdec dk_cX10_squeezed 30 rfl) ?_
          refine kv_goto C 55 (kdec dk_cX10_squeezed 31 rfl) (by decide) ?_
          obtain ⟨x200, e201⟩ : ∃ z : Int32, w 74 0 = z := ⟨_, rfl⟩
          have b202 : (0 : Int) ≤ x200.toInt ∧ x200.toInt ≤ 1 := by rw [← e201]; exact hI 74 0
          obtain ⟨x203, e204⟩ : ∃ z : Int32, w 74 1 = z := ⟨_, rfl⟩
          have b205 : (0 : Int) ≤ x203.toInt ∧ x203.toInt ≤ 1 := by rw [← e204]; exact hI 74 1
          obtain ⟨x206, e207⟩ : ∃ z : Int32, w 74 3 = z := ⟨_, rfl⟩
          have b208 : (0 : Int) ≤ x206.toInt ∧ x206.toInt ≤ 1 := by rw [← e207]; exact hI 74 3
          exact kv_iret C hr hlk (kdec dk_cX10_squeezed 33 rfl) ⟨_, rfl, I175, F180, (by rw [e201, e204, e150, e207]; try omega)⟩
    · obtain rfl := kf_eqc (3) (by decide) d28
      refine kv_aload_n C 13 rfl 0 (kdec dk_cX10_squeezed 6 rfl) rfl rfl ?_
      refine kv_getr C 16 rfl 61 33 rfl rfl inX10 (by decide) mfl_TaleMachineModel_46 rfl rfl (kdec dk_cX10_squeezed 7 rfl) ?_
      refine kv_iload_n C 17 rfl 1 (kdec dk_cX10_squeezed 8 rfl) rfl rfl ?_
      obtain ⟨x209, e210⟩ : ∃ z : Int32, w 74 3 = z := ⟨_, rfl⟩
      have b211 : (0 : Int) ≤ x209.toInt ∧ x209.toInt ≤ 1 := by rw [← e210]; exact hI 74 3
      have e212 : w6 74 3 = x209 := ((f9 74 3 rfl : w6 74 3 = w 74 3).trans e210)
      refine kv_zald C 18 rfl 74 rfl (by omega) (by omega) (show w6 74 (3 : Int32).toNatClampNeg = x209 from e212) (kdec dk_cX10_squeezed 9 rfl) ?_
      refine kv_if_eq C 21 rfl 54 (kdec dk_cX10_squeezed 10 rfl) (by decide) (fun d213 => ?_) (fun d213 => ?_)
      · skip
        refine kv_iconst C 55 rfl (-1) (kdec dk_cX10_squeezed 32 rfl) rfl ?_
        obtain ⟨x214, e215⟩ : ∃ z : Int32, w 74 0 = z := ⟨_, rfl⟩
        have b216 : (0 : Int) ≤ x214.toInt ∧ x214.toInt ≤ 1 := by rw [← e215]; exact hI 74 0
        obtain ⟨x217, e218⟩ : ∃ z : Int32, w 74 1 = z := ⟨_, rfl⟩
        have b219 : (0 : Int) ≤ x217.toInt ∧ x217.toInt ≤ 1 := by rw [← e218]; exact hI 74 1
        obtain ⟨x220, e221⟩ : ∃ z : Int32, w 74 2 = z := ⟨_, rfl⟩
        have b222 : (0 : Int) ≤ x220.toInt ∧ x220.toInt ≤ 1 := by rw [← e221]; exact hI 74 2
        exact kv_iret C hr hlk (kdec dk_cX10_squeezed 33 rfl) ⟨_, rfl, I8, F13, (by rw [e215, e218, e221, e210]; try omega)⟩
      · skip
        refine kv_iload_n C 22 rfl 2 (kdec dk_cX10_squeezed 11 rfl) rfl rfl ?_
        refine kv_i2l C 23 rfl (kdec dk_cX10_squeezed 12 rfl) ?_
        have h223 := kf_i2l a2
        refine kv_lconst C 24 rfl 0 (kdec dk_cX10_squeezed 13 rfl) rfl ?_
        have h224 : (0 : Int64).toInt = 0 := by decide
        refine kv_aload_n C 25 rfl 0 (kdec dk_cX10_squeezed 14 rfl) rfl rfl ?_
        refine kv_getr C 28 rfl 61 39 rfl rfl inX10 (by decide) mfl_TaleMachineModel_65 rfl rfl (kdec dk_cX10_squeezed 15 rfl) ?_
        refine kv_iload_n C 29 rfl 1 (kdec dk_cX10_squeezed 16 rfl) rfl rfl ?_
        obtain ⟨x225, e226⟩ : ∃ z : Int32, w 80 3 = z := ⟨_, rfl⟩
        have b227 : (0 : Int) ≤ x225.toInt ∧ x225.toInt ≤ 2050 := by rw [← e226]; exact hI 80 3
        have e228 : w6 80 3 = x225 := ((f9 80 3 rfl : w6 80 3 = w 80 3).trans e226)
        refine kv_iald C 30 rfl 80 rfl (by omega) (by omega) (show w6 80 (3 : Int32).toNatClampNeg = x225 from e228) (kdec dk_cX10_squeezed 17 rfl) ?_
        refine kv_iconst C 31 rfl 1 (kdec dk_cX10_squeezed 18 rfl) rfl ?_
        refine kv_isub C 32 rfl (kdec dk_cX10_squeezed 19 rfl) (fun x229 q231 h230e h230 h230l h230u => ?_)
        try have h230n : x229.toInt = x225.toInt - (1 : Int32).toInt := by omega
        clear h230 q231
        refine kv_i2l C 33 rfl (kdec dk_cX10_squeezed 20 rfl) ?_
        have h232 := kf_i2l x229
        refine kv_callSi (As := [.long (a2 : Int32).toInt64, .long (0 : Int64), .long (x229 : Int32).toInt64]) (rest := []) C 36 rfl (k_x_in l D τ ρ σ w6 (a2 : Int32).toInt64 (0 : Int64) (x229 : Int32).toInt64 I8 ) mml_TaleMachineModel_94 mst_yX10_in mcd_yX10_in min_yX10_in hd_yX10_in rfl rfl rfl (by decide) rfl (Nat.le_of_ble_eq_true rfl) (kdec dk_cX10_squeezed 21 rfl) (fun x237 w233 h234 => ?_)
        obtain ⟨I235, f236, p238, p239⟩ := h234
        have F240 : kF [] w w233 := kF_call F13 f236 (by decide)
        have g241 := kf_rng x237
        refine kv_if_eq C 39 rfl 54 (kdec dk_cX10_squeezed 22 rfl) (by decide) (fun d242 => ?_) (fun d242 => ?_)
        · skip
          refine kv_iconst C 55 rfl (-1) (kdec dk_cX10_squeezed 32 rfl) rfl ?_
          obtain ⟨x243, e244⟩ : ∃ z : Int32, w 74 0 = z := ⟨_, rfl⟩
          have b245 : (0 : Int) ≤ x243.toInt ∧ x243.toInt ≤ 1 := by rw [← e244]; exact hI 74 0
          obtain ⟨x246, e247⟩ : ∃ z : Int32, w 74 1 = z := ⟨_, rfl⟩
          have b248 : (0 : Int) ≤ x246.toInt ∧ x246.toInt ≤ 1 := by rw [← e247]; exact hI 74 1
          obtain ⟨x249, e250⟩ : ∃ z : Int32, w 74 2 = z := ⟨_, rfl⟩
          have b251 : (0 : Int) ≤ x249.toInt ∧ x249.toInt ≤ 1 := by rw [← e250]; exact hI 74 2
          exact kv_iret C hr hlk (kdec dk_cX10_squeezed 33 rfl) ⟨_, rfl, I235, F240, (by rw [e244, e247, e250, e210]; try omega)⟩
        · skip
          refine kv_aload_n C 40 rfl 0 (kdec dk_cX10_squeezed 23 rfl) rfl rfl ?_
          refine kv_getr C 43 rfl 61 38 rfl rfl inX10 (by decide) mfl_TaleMachineModel_62 rfl rfl (kdec dk_cX10_squeezed 24 rfl) ?_
          refine kv_sipush C 46 rfl 2050 (kdec dk_cX10_squeezed 25 rfl) rfl ?_
          refine kv_iload_n C 47 rfl 1 (kdec dk_cX10_squeezed 26 rfl) rfl rfl ?_
          refine kv_imul C 48 rfl (kdec dk_cX10_squeezed 27 rfl) (fun x252 h253e h253l h253u => ?_)
          obtain rfl : x252 = 6150 := by rw [h253e]; decide
          refine kv_iload_n C 49 rfl 2 (kdec dk_cX10_squeezed 28 rfl) rfl rfl ?_
          refine kv_iadd C 50 rfl (kdec dk_cX10_squeezed 29 rfl) (fun x254 q256 h255e h255 h255l h255u => ?_)
          try have h255n : x254.toInt = (6150 : Int32).toInt + a2.toInt := by omega
          clear h255 q256
          obtain ⟨x257, e258⟩ : ∃ z : Int32, w233 79 (x254 : Int32).toNatClampNeg = z := ⟨_, rfl⟩
          have b259 : (-2147483648 : Int) ≤ x257.toInt ∧ x257.toInt ≤ 2147483647 := by rw [← e258]; exact I235 79 _
          refine kv_iald C 51 rfl 79 rfl (by omega) (by omega) e258 (kdec dk_cX10_squeezed 30 rfl) ?_
          refine kv_goto C 55 (kdec dk_cX10_squeezed 31 rfl) (by decide) ?_
          obtain ⟨x260, e261⟩ : ∃ z : Int32, w 74 0 = z := ⟨_, rfl⟩
          have b262 : (0 : Int) ≤ x260.toInt ∧ x260.toInt ≤ 1 := by rw [← e261]; exact hI 74 0
          obtain ⟨x263, e264⟩ : ∃ z : Int32, w 74 1 = z := ⟨_, rfl⟩
          have b265 : (0 : Int) ≤ x263.toInt ∧ x263.toInt ≤ 1 := by rw [← e264]; exact hI 74 1
          obtain ⟨x266, e267⟩ : ∃ z : Int32, w 74 2 = z := ⟨_, rfl⟩
          have b268 : (0 : Int) ≤ x266.toInt ∧ x266.toInt ≤ 1 := by rw [← e267]; exact hI 74 2
          exact kv_iret C hr hlk (kdec dk_cX10_squeezed 33 rfl) ⟨_, rfl, I235, F240, (by rw [e261, e264, e267, e210]; try omega)⟩
