set_option maxHeartbeats 4000000 in
set_option maxRecDepth 100000 in
theorem k_copyTo0 (l : Launch) (D : va_G) (τ : Nat → ClassId) (ρ σ : Nat → Nat) (w : kw)  (hI : kI true w)  :
    kM l D τ ρ σ yX3_copyFrom cX3_copyFrom 2 none { frames := 2, cells := 0, slots := 0, locals := 72 } [.ref (ρ 27), .ref (ρ 5)] w
      (fun o w' => o = none ∧ kI true w' ∧ kF [(27, some 6), (27, some 7), (28, none), (29, none), (30, none), (31, none), (32, none), (33, none)] w w') := by
  refine kM_of (own := "TaleMachine$Frames") rfl (by decide) (Nat.le_of_ble_eq_true rfl) ?_
  intro p e s m args below meth c C hr hlk
  have hF0 : kF [(27, some 6), (27, some 7), (28, none), (29, none), (30, none), (31, none), (32, none), (33, none)] w w := kF.rf
  have c_0 : (0 : Int32).toInt = 0 := by decide
  have c_20 : (20 : Int32).toInt = 20 := by decide
  have c_120 : (120 : Int32).toInt = 120 := by decide
  have c_300 : (300 : Int32).toInt = 300 := by decide
  refine kV.L (L' := [(0, .ref (ρ 27)), (1, .ref (ρ 5))]) rfl ?_
  refine kv_aload_n C 1 rfl 0 (kdec dk_cX3_copyFrom 0 rfl) rfl rfl ?_
  refine kv_aload_n C 2 rfl 1 (kdec dk_cX3_copyFrom 1 rfl) rfl rfl ?_
  obtain ⟨x1, e2⟩ : ∃ z : Int32, w 5 6 = z := ⟨_, rfl⟩
  have b3 : (0 : Int) ≤ x1.toInt ∧ x1.toInt ≤ 120 := by rw [← e2]; exact hI 5 6
  refine kv_get C 5 rfl 5 6 rfl rfl inX3 (by decide) mfl_TaleMachine_Frames_31 rfl rfl (kdec dk_cX3_copyFrom 2 rfl) e2 ?_
  refine kv_put C 8 rfl 27 6 rfl rfl inX3 (by decide) mfl_TaleMachine_Frames_31 rfl tyX3 tyX3_ok nmX3 rfl rfl (kdec dk_cX3_copyFrom 3 rfl) rfl rfl (fun w4 u5 => ?_)
  have I6 : kI true w4 := kI_put u5 hI (show (0 : Int) ≤ (x1 : Int32).toInt by omega) (show (x1 : Int32).toInt ≤ 120 by omega)
  have F7 : kF [(27, some 6), (27, some 7), (28, none), (29, none), (30, none), (31, none), (32, none), (33, none)] w w4 := kF_put u5 hF0 rfl
  refine kv_aload_n C 9 rfl 0 (kdec dk_cX3_copyFrom 4 rfl) rfl rfl ?_
  refine kv_aload_n C 10 rfl 1 (kdec dk_cX3_copyFrom 5 rfl) rfl rfl ?_
  obtain ⟨x8, e9⟩ : ∃ z : Int32, w 5 7 = z := ⟨_, rfl⟩
  have b10 : (1 : Int) ≤ x8.toInt ∧ x8.toInt ≤ 20 := by rw [← e9]; exact hI 5 7
  have e11 : w4 5 7 = x8 := ((kup_ne u5 rfl : w4 5 7 = w 5 7).trans e9)
  refine kv_get C 13 rfl 5 7 rfl rfl inX3 (by decide) mfl_TaleMachine_Frames_35 rfl rfl (kdec dk_cX3_copyFrom 6 rfl) e11 ?_
  refine kv_put C 16 rfl 27 7 rfl rfl inX3 (by decide) mfl_TaleMachine_Frames_35 rfl tyX3 tyX3_ok nmX3 rfl rfl (kdec dk_cX3_copyFrom 7 rfl) rfl rfl (fun w12 u13 => ?_)
  have I14 : kI true w12 := kI_put u13 I6 (show (1 : Int) ≤ (x8 : Int32).toInt by omega) (show (x8 : Int32).toInt ≤ 20 by omega)
  have F15 : kF [(27, some 6), (27, some 7), (28, none), (29, none), (30, none), (31, none), (32, none), (33, none)] w w12 := kF_put u13 F7 rfl
  refine kv_aload_n C 17 rfl 1 (kdec dk_cX3_copyFrom 8 rfl) rfl rfl ?_
  refine kv_getr C 20 rfl 5 0 rfl rfl inX3 (by decide) mfl_TaleMachine_Frames_9 rfl rfl (kdec dk_cX3_copyFrom 9 rfl) ?_
  refine kv_iconst C 21 rfl 0 (kdec dk_cX3_copyFrom 10 rfl) rfl ?_
  refine kv_aload_n C 22 rfl 0 (kdec dk_cX3_copyFrom 11 rfl) rfl rfl ?_
  refine kv_getr C 25 rfl 27 0 rfl rfl inX3 (by decide) mfl_TaleMachine_Frames_9 rfl rfl (kdec dk_cX3_copyFrom 12 rfl) ?_
  refine kv_iconst C 26 rfl 0 (kdec dk_cX3_copyFrom 13 rfl) rfl ?_
  refine kv_bipush C 28 rfl 120 (kdec dk_cX3_copyFrom 14 rfl) rfl ?_
  refine kv_copy C 31 rfl 6 28 rfl rfl mml_TaleMachine_Frames_38 jc_n jc_s jc_i (by omega) (by omega) (by omega) (by omega) (by omega) (by decide) (Nat.le_of_ble_eq_true rfl) (kdec dk_cX3_copyFrom 15 rfl) (fun w16 u17 => ?_)
  have I18 : kI true w16 := kI_cpy u17 I14 (fun _ => rfl) (fun _ _ => rfl)
  have F19 : kF [(27, some 6), (27, some 7), (28, none), (29, none), (30, none), (31, none), (32, none), (33, none)] w w16 := kF_row u17 F15 (fun _ => rfl)
  refine kv_aload_n C 32 rfl 1 (kdec dk_cX3_copyFrom 16 rfl) rfl rfl ?_
  refine kv_getr C 35 rfl 5 1 rfl rfl inX3 (by decide) mfl_TaleMachine_Frames_13 rfl rfl (kdec dk_cX3_copyFrom 17 rfl) ?_
  refine kv_iconst C 36 rfl 0 (kdec dk_cX3_copyFrom 18 rfl) rfl ?_
  refine kv_aload_n C 37 rfl 0 (kdec dk_cX3_copyFrom 19 rfl) rfl rfl ?_
  refine kv_getr C 40 rfl 27 1 rfl rfl inX3 (by decide) mfl_TaleMachine_Frames_13 rfl rfl (kdec dk_cX3_copyFrom 20 rfl) ?_
  refine kv_iconst C 41 rfl 0 (kdec dk_cX3_copyFrom 21 rfl) rfl ?_
  refine kv_sipush C 44 rfl 300 (kdec dk_cX3_copyFrom 22 rfl) rfl ?_
  refine kv_copy C 47 rfl 7 29 rfl rfl mml_TaleMachine_Frames_38 jc_n jc_s jc_i (by omega) (by omega) (by omega) (by omega) (by omega) (by decide) (Nat.le_of_ble_eq_true rfl) (kdec dk_cX3_copyFrom 23 rfl) (fun w20 u21 => ?_)
  have I22 : kI true w20 := kI_cpy u21 I18 (fun _ => rfl) (fun _ _ => rfl)
  have F23 : kF [(27, some 6), (27, some 7), (28, none), (29, none), (30, none), (31, none), (32, none), (33, none)] w w20 := kF_row u21 F19 (fun _ => rfl)
  refine kv_aload_n C 48 rfl 1 (kdec dk_cX3_copyFrom 24 rfl) rfl rfl ?_
  refine kv_getr C 51 rfl 5 2 rfl rfl inX3 (by decide) mfl_TaleMachine_Frames_16 rfl rfl (kdec dk_cX3_copyFrom 25 rfl) ?_
  refine kv_iconst C 52 rfl 0 (kdec dk_cX3_copyFrom 26 rfl) rfl ?_
  refine kv_aload_n C 53 rfl 0 (kdec dk_cX3_copyFrom 27 rfl) rfl rfl ?_
  refine kv_getr C 56 rfl 27 2 rfl rfl inX3 (by decide) mfl_TaleMachine_Frames_16 rfl rfl (kdec dk_cX3_copyFrom 28 rfl) ?_
  refine kv_iconst C 57 rfl 0 (kdec dk_cX3_copyFrom 29 rfl) rfl ?_
  refine kv_bipush C 59 rfl 20 (kdec dk_cX3_copyFrom 30 rfl) rfl ?_
  refine kv_copy C 62 rfl 8 30 rfl rfl mml_TaleMachine_Frames_38 jc_n jc_s jc_i (by omega) (by omega) (by omega) (by omega) (by omega) (by decide) (Nat.le_of_ble_eq_true rfl) (kdec dk_cX3_copyFrom 31 rfl) (fun w24 u25 => ?_)
  have I26 : kI true w24 := kI_cpy u25 I22 (fun _ => rfl) (fun _ _ => rfl)
  have F27 : kF [(27, some 6), (27, some 7), (28, none), (29, none), (30, none), (31, none), (32, none), (33, none)] w w24 := kF_row u25 F23 (fun _ => rfl)
  refine kv_aload_n C 63 rfl 1 (kdec dk_cX3_copyFrom 32 rfl) rfl rfl ?_
  refine kv_getr C 66 rfl 5 3 rfl rfl inX3 (by decide) mfl_TaleMachine_Frames_19 rfl rfl (kdec dk_cX3_copyFrom 33 rfl) ?_
  refine kv_iconst C 67 rfl 0 (kdec dk_cX3_copyFrom 34 rfl) rfl ?_
  refine kv_aload_n C 68 rfl 0 (kdec dk_cX3_copyFrom 35 rfl) rfl rfl ?_
  refine kv_getr C 71 rfl 27 3 rfl rfl inX3 (by decide) mfl_TaleMachine_Frames_19 rfl rfl (kdec dk_cX3_copyFrom 36 rfl) ?_
  refine kv_iconst C 72 rfl 0 (kdec dk_cX3_copyFrom 37 rfl) rfl ?_
  refine kv_bipush C 74 rfl 20 (kdec dk_cX3_copyFrom 38 rfl) rfl ?_
  refine kv_copy C 77 rfl 9 31 rfl rfl mml_TaleMachine_Frames_38 jc_n jc_s jc_i (by omega) (by omega) (by omega) (by omega) (by omega) (by decide) (Nat.le_of_ble_eq_true rfl) (kdec dk_cX3_copyFrom 39 rfl) (fun w28 u29 => ?_)
  have I30 : kI true w28 := kI_cpy u29 I26 (fun _ => rfl) (fun _ _ => rfl)
  have F31 : kF [(27, some 6), (27, some 7), (28, none), (29, none), (30, none), (31, none), (32, none), (33, none)] w w28 := kF_row u29 F27 (fun _ => rfl)
  refine kv_aload_n C 78 rfl 1 (kdec dk_cX3_copyFrom 40 rfl) rfl rfl ?_
  refine kv_getr C 81 rfl 5 4 rfl rfl inX3 (by decide) mfl_TaleMachine_Frames_22 rfl rfl (kdec dk_cX3_copyFrom 41 rfl) ?_
  refine kv_iconst C 82 rfl 0 (kdec dk_cX3_copyFrom 42 rfl) rfl ?_
  refine kv_aload_n C 83 rfl 0 (kdec dk_cX3_copyFrom 43 rfl) rfl rfl ?_
  refine kv_getr C 86 rfl 27 4 rfl rfl inX3 (by decide) mfl_TaleMachine_Frames_22 rfl rfl (kdec dk_cX3_copyFrom 44 rfl) ?_
  refine kv_iconst C 87 rfl 0 (kdec dk_cX3_copyFrom 45 rfl) rfl ?_
  refine kv_bipush C 89 rfl 20 (kdec dk_cX3_copyFrom 46 rfl) rfl ?_
  refine kv_copy C 92 rfl 10 32 rfl rfl mml_TaleMachine_Frames_38 jc_n jc_s jc_i (by omega) (by omega) (by omega) (by omega) (by omega) (by decide) (Nat.le_of_ble_eq_true rfl) (kdec dk_cX3_copyFrom 47 rfl) (fun w32 u33 => ?_)
  have I34 : kI true w32 := kI_cpy u33 I30 (fun _ => rfl) (fun _ _ => rfl)
  have F35 : kF [(27, some 6), (27, some 7), (28, none), (29, none), (30, none), (31, none), (32, none), (33, none)] w w32 := kF_row u33 F31 (fun _ => rfl)
  refine kv_aload_n C 93 rfl 1 (kdec dk_cX3_copyFrom 48 rfl) rfl rfl ?_
  refine kv_getr C 96 rfl 5 5 rfl rfl inX3 (by decide) mfl_TaleMachine_Frames_25 rfl rfl (kdec dk_cX3_copyFrom 49 rfl) ?_
  refine kv_iconst C 97 rfl 0 (kdec dk_cX3_copyFrom 50 rfl) rfl ?_
  refine kv_aload_n C 98 rfl 0 (kdec dk_cX3_copyFrom 51 rfl) rfl rfl ?_
  refine kv_getr C 101 rfl 27 5 rfl rfl inX3 (by decide) mfl_TaleMachine_Frames_25 rfl rfl (kdec dk_cX3_copyFrom 52 rfl) ?_
  refine kv_iconst C 102 rfl 0 (kdec dk_cX3_copyFrom 53 rfl) rfl ?_
  refine kv_bipush C 104 rfl 20 (kdec dk_cX3_copyFrom 54 rfl) rfl ?_
  refine kv_copy C 107 rfl 11 33 rfl rfl mml_TaleMachine_Frames_38 jc_n jc_s jc_i (by omega) (by omega) (by omega) (by omega) (by omega) (by decide) (Nat.le_of_ble_eq_true rfl) (kdec dk_cX3_copyFrom 55 rfl) (fun w36 u37 => ?_)
  have I38 : kI true w36 := kI_cpy u37 I34 (fun _ => rfl) (fun _ _ => rfl)
  have F39 : kF [(27, some 6), (27, some 7), (28, none), (29, none), (30, none), (31, none), (32, none), (33, none)] w w36 := kF_row u37 F35 (fun _ => rfl)
  exact kv_vret C hr hlk (kdec dk_cX3_copyFrom 56 rfl) ⟨rfl, I38, F39⟩

set_option maxHeartbeats 4000000 in
set_option maxRecDepth 100000 in
theorem k_copyBack0 (l : Launch) (D : va_G) (τ : Nat → ClassId) (ρ σ : Nat → Nat) (w : kw)  (hI : kI true w)  :
    kM l D τ ρ σ yX3_copyFrom cX3_copyFrom 2 none { frames := 2, cells := 0, slots := 0, locals := 72 } [.ref (ρ 5), .ref (ρ 27)] w
      (fun o w' => o = none ∧ kI true w' ∧ kF [(5, some 6), (5, some 7), (6, none), (7, none), (8, none), (9, none), (10, none), (11, none)] w w') := by
  refine kM_of (own := "TaleMachine$Frames") rfl (by decide) (Nat.le_of_ble_eq_true rfl) ?_
  intro p e s m args below meth c C hr hlk
  have hF0 : kF [(5, some 6), (5, some 7), (6, none), (7, none), (8, none), (9, none), (10, none), (11, none)] w w := kF.rf
  have c_0 : (0 : Int32).toInt = 0 := by decide
  have c_20 : (20 : Int32).toInt = 20 := by decide
  have c_120 : (120 : Int32).toInt = 120 := by decide
  have c_300 : (300 : Int32).toInt = 300 := by decide
  refine kV.L (L' := [(0, .ref (ρ 5)), (1, .ref (ρ 27))]) rfl ?_
  refine kv_aload_n C 1 rfl 0 (kdec dk_cX3_copyFrom 0 rfl) rfl rfl ?_
  refine kv_aload_n C 2 rfl 1 (kdec dk_cX3_copyFrom 1 rfl) rfl rfl ?_
  obtain ⟨x1, e2⟩ : ∃ z : Int32, w 27 6 = z := ⟨_, rfl⟩
  have b3 : (0 : Int) ≤ x1.toInt ∧ x1.toInt ≤ 120 := by rw [← e2]; exact hI 27 6
  refine kv_get C 5 rfl 27 6 rfl rfl inX3 (by decide) mfl_TaleMachine_Frames_31 rfl rfl (kdec dk_cX3_copyFrom 2 rfl) e2 ?_
  refine kv_put C 8 rfl 5 6 rfl rfl inX3 (by decide) mfl_TaleMachine_Frames_31 rfl tyX3 tyX3_ok nmX3 rfl rfl (kdec dk_cX3_copyFrom 3 rfl) rfl rfl (fun w4 u5 => ?_)
  have I6 : kI true w4 := kI_put u5 hI (show (0 : Int) ≤ (x1 : Int32).toInt by omega) (show (x1 : Int32).toInt ≤ 120 by omega)
  have F7 : kF [(5, some 6), (5, some 7), (6, none), (7, none), (8, none), (9, none), (10, none), (11, none)] w w4 := kF_put u5 hF0 rfl
  refine kv_aload_n C 9 rfl 0 (kdec dk_cX3_copyFrom 4 rfl) rfl rfl ?_
  refine kv_aload_n C 10 rfl 1 (kdec dk_cX3_copyFrom 5 rfl) rfl rfl ?_
  obtain ⟨x8, e9⟩ : ∃ z : Int32, w 27 7 = z := ⟨_, rfl⟩
  have b10 : (1 : Int) ≤ x8.toInt ∧ x8.toInt ≤ 20 := by rw [← e9]; exact hI 27 7
  have e11 : w4 27 7 = x8 := ((kup_ne u5 rfl : w4 27 7 = w 27 7).trans e9)
  refine kv_get C 13 rfl 27 7 rfl rfl inX3 (by decide) mfl_TaleMachine_Frames_35 rfl rfl (kdec dk_cX3_copyFrom 6 rfl) e11 ?_
  refine kv_put C 16 rfl 5 7 rfl rfl inX3 (by decide) mfl_TaleMachine_Frames_35 rfl tyX3 tyX3_ok nmX3 rfl rfl (kdec dk_cX3_copyFrom 7 rfl) rfl rfl (fun w12 u13 => ?_)
  have I14 : kI true w12 := kI_put u13 I6 (show (1 : Int) ≤ (x8 : Int32).toInt by omega) (show (x8 : Int32).toInt ≤ 20 by omega)
  have F15 : kF [(5, some 6), (5, some 7), (6, none), (7, none), (8, none), (9, none), (10, none), (11, none)] w w12 := kF_put u13 F7 rfl
  refine kv_aload_n C 17 rfl 1 (kdec dk_cX3_copyFrom 8 rfl) rfl rfl ?_
  refine kv_getr C 20 rfl 27 0 rfl rfl inX3 (by decide) mfl_TaleMachine_Frames_9 rfl rfl (kdec dk_cX3_copyFrom 9 rfl) ?_
  refine kv_iconst C 21 rfl 0 (kdec dk_cX3_copyFrom 10 rfl) rfl ?_
  refine kv_aload_n C 22 rfl 0 (kdec dk_cX3_copyFrom 11 rfl) rfl rfl ?_
  refine kv_getr C 25 rfl 5 0 rfl rfl inX3 (by decide) mfl_TaleMachine_Frames_9 rfl rfl (kdec dk_cX3_copyFrom 12 rfl) ?_
  refine kv_iconst C 26 rfl 0 (kdec dk_cX3_copyFrom 13 rfl) rfl ?_
  refine kv_bipush C 28 rfl 120 (kdec dk_cX3_copyFrom 14 rfl) rfl ?_
  refine kv_copy C 31 rfl 28 6 rfl rfl mml_TaleMachine_Frames_38 jc_n jc_s jc_i (by omega) (by omega) (by omega) (by omega) (by omega) (by decide) (Nat.le_of_ble_eq_true rfl) (kdec dk_cX3_copyFrom 15 rfl) (fun w16 u17 => ?_)
  have I18 : kI true w16 := kI_cpy u17 I14 (fun _ => rfl) (fun _ _ => rfl)
  have F19 : kF [(5, some 6), (5, some 7), (6, none), (7, none), (8, none), (9, none), (10, none), (11, none)] w w16 := kF_row u17 F15 (fun _ => rfl)
  refine kv_aload_n C 32 rfl 1 (kdec dk_cX3_copyFrom 16 rfl) rfl rfl ?_
  refine kv_getr C 35 rfl 27 1 rfl rfl inX3 (by decide) mfl_TaleMachine_Frames_13 rfl rfl (kdec dk_cX3_copyFrom 17 rfl) ?_
  refine kv_iconst C 36 rfl 0 (kdec dk_cX3_copyFrom 18 rfl) rfl ?_
  refine kv_aload_n C 37 rfl 0 (kdec dk_cX3_copyFrom 19 rfl) rfl rfl ?_
  refine kv_getr C 40 rfl 5 1 rfl rfl inX3 (by decide) mfl_TaleMachine_Frames_13 rfl rfl (kdec dk_cX3_copyFrom 20 rfl) ?_
  refine kv_iconst C 41 rfl 0 (kdec dk_cX3_copyFrom 21 rfl) rfl ?_
  refine kv_sipush C 44 rfl 300 (kdec dk_cX3_copyFrom 22 rfl) rfl ?_
  refine kv_copy C 47 rfl 29 7 rfl rfl mml_TaleMachine_Frames_38 jc_n jc_s jc_i (by omega) (by omega) (by omega) (by omega) (by omega) (by decide) (Nat.le_of_ble_eq_true rfl) (kdec dk_cX3_copyFrom 23 rfl) (fun w20 u21 => ?_)
  have I22 : kI true w20 := kI_cpy u21 I18 (fun _ => rfl) (fun _ _ => rfl)
  have F23 : kF [(5, some 6), (5, some 7), (6, none), (7, none), (8, none), (9, none), (10, none), (11, none)] w w20 := kF_row u21 F19 (fun _ => rfl)
  refine kv_aload_n C 48 rfl 1 (kdec dk_cX3_copyFrom 24 rfl) rfl rfl ?_
  refine kv_getr C 51 rfl 27 2 rfl rfl inX3 (by decide) mfl_TaleMachine_Frames_16 rfl rfl (kdec dk_cX3_copyFrom 25 rfl) ?_
  refine kv_iconst C 52 rfl 0 (kdec dk_cX3_copyFrom 26 rfl) rfl ?_
  refine kv_aload_n C 53 rfl 0 (kdec dk_cX3_copyFrom 27 rfl) rfl rfl ?_
  refine kv_getr C 56 rfl 5 2 rfl rfl inX3 (by decide) mfl_TaleMachine_Frames_16 rfl rfl (kdec dk_cX3_copyFrom 28 rfl) ?_
  refine kv_iconst C 57 rfl 0 (kdec dk_cX3_copyFrom 29 rfl) rfl ?_
  refine kv_bipush C 59 rfl 20 (kdec dk_cX3_copyFrom 30 rfl) rfl ?_
  refine kv_copy C 62 rfl 30 8 rfl rfl mml_TaleMachine_Frames_38 jc_n jc_s jc_i (by omega) (by omega) (by omega) (by omega) (by omega) (by decide) (Nat.le_of_ble_eq_true rfl) (kdec dk_cX3_copyFrom 31 rfl) (fun w24 u25 => ?_)
  have I26 : kI true w24 := kI_cpy u25 I22 (fun _ => rfl) (fun _ _ => rfl)
  have F27 : kF [(5, some 6), (5, some 7), (6, none), (7, none), (8, none), (9, none), (10, none), (11, none)] w w24 := kF_row u25 F23 (fun _ => rfl)
  refine kv_aload_n C 63 rfl 1 (kdec dk_cX3_copyFrom 32 rfl) rfl rfl ?_
  refine kv_getr C 66 rfl 27 3 rfl rfl inX3 (by decide) mfl_TaleMachine_Frames_19 rfl rfl (kdec dk_cX3_copyFrom 33 rfl) ?_
  refine kv_iconst C 67 rfl 0 (kdec dk_cX3_copyFrom 34 rfl) rfl ?_
  refine kv_aload_n C 68 rfl 0 (kdec dk_cX3_copyFrom 35 rfl) rfl rfl ?_
  refine kv_getr C 71 rfl 5 3 rfl rfl inX3 (by decide) mfl_TaleMachine_Frames_19 rfl rfl (kdec dk_cX3_copyFrom 36 rfl) ?_
  refine kv_iconst C 72 rfl 0 (kdec dk_cX3_copyFrom 37 rfl) rfl ?_
  refine kv_bipush C 74 rfl 20 (kdec dk_cX3_copyFrom 38 rfl) rfl ?_
  refine kv_copy C 77 rfl 31 9 rfl rfl mml_TaleMachine_Frames_38 jc_n jc_s jc_i (by omega) (by omega) (by omega) (by omega) (by omega) (by decide) (Nat.le_of_ble_eq_true rfl) (kdec dk_cX3_copyFrom 39 rfl) (fun w28 u29 => ?_)
  have I30 : kI true w28 := kI_cpy u29 I26 (fun _ => rfl) (fun _ _ => rfl)
  have F31 : kF [(5, some 6), (5, some 7), (6, none), (7, none), (8, none), (9, none), (10, none), (11, none)] w w28 := kF_row u29 F27 (fun _ => rfl)
  refine kv_aload_n C 78 rfl 1 (kdec dk_cX3_copyFrom 40 rfl) rfl rfl ?_
  refine kv_getr C 81 rfl 27 4 rfl rfl inX3 (by decide) mfl_TaleMachine_Frames_22 rfl rfl (kdec dk_cX3_copyFrom 41 rfl) ?_
  refine kv_iconst C 82 rfl 0 (kdec dk_cX3_copyFrom 42 rfl) rfl ?_
  refine kv_aload_n C 83 rfl 0 (kdec dk_cX3_copyFrom 43 rfl) rfl rfl ?_
  refine kv_getr C 86 rfl 5 4 rfl rfl inX3 (by decide) mfl_TaleMachine_Frames_22 rfl rfl (kdec dk_cX3_copyFrom 44 rfl) ?_
  refine kv_iconst C 87 rfl 0 (kdec dk_cX3_copyFrom 45 rfl) rfl ?_
  refine kv_bipush C 89 rfl 20 (kdec dk_cX3_copyFrom 46 rfl) rfl ?_
  refine kv_copy C 92 rfl 32 10 rfl rfl mml_TaleMachine_Frames_38 jc_n jc_s jc_i (by omega) (by omega) (by omega) (by omega) (by omega) (by decide) (Nat.le_of_ble_eq_true rfl) (kdec dk_cX3_copyFrom 47 rfl) (fun w32 u33 => ?_)
  have I34 : kI true w32 := kI_cpy u33 I30 (fun _ => rfl) (fun _ _ => rfl)
  have F35 : kF [(5, some 6), (5, some 7), (6, none), (7, none), (8, none), (9, none), (10, none), (11, none)] w w32 := kF_row u33 F31 (fun _ => rfl)
  refine kv_aload_n C 93 rfl 1 (kdec dk_cX3_copyFrom 48 rfl) rfl rfl ?_
  refine kv_getr C 96 rfl 27 5 rfl rfl inX3 (by decide) mfl_TaleMachine_Frames_25 rfl rfl (kdec dk_cX3_copyFrom 49 rfl) ?_
  refine kv_iconst C 97 rfl 0 (kdec dk_cX3_copyFrom 50 rfl) rfl ?_
  refine kv_aload_n C 98 rfl 0 (kdec dk_cX3_copyFrom 51 rfl) rfl rfl ?_
  refine kv_getr C 101 rfl 5 5 rfl rfl inX3 (by decide) mfl_TaleMachine_Frames_25 rfl rfl (kdec dk_cX3_copyFrom 52 rfl) ?_
  refine kv_iconst C 102 rfl 0 (kdec dk_cX3_copyFrom 53 rfl) rfl ?_
  refine kv_bipush C 104 rfl 20 (kdec dk_cX3_copyFrom 54 rfl) rfl ?_
  refine kv_copy C 107 rfl 33 11 rfl rfl mml_TaleMachine_Frames_38 jc_n jc_s jc_i (by omega) (by omega) (by omega) (by omega) (by omega) (by decide) (Nat.le_of_ble_eq_true rfl) (kdec dk_cX3_copyFrom 55 rfl) (fun w36 u37 => ?_)
  have I38 : kI true w36 := kI_cpy u37 I34 (fun _ => rfl) (fun _ _ => rfl)
  have F39 : kF [(5, some 6), (5, some 7), (6, none), (7, none), (8, none), (9, none), (10, none), (11, none)] w w36 := kF_row u37 F35 (fun _ => rfl)
  exact kv_vret C hr hlk (kdec dk_cX3_copyFrom 56 rfl) ⟨rfl, I38, F39⟩

set_option maxHeartbeats 4000000 in
set_option maxRecDepth 100000 in
theorem k_copyTo1 (l : Launch) (D : va_G) (τ : Nat → ClassId) (ρ σ : Nat → Nat) (w : kw)  (hI : kI true w)  :
    kM l D τ ρ σ yX3_copyFrom cX3_copyFrom 2 none { frames := 2, cells := 0, slots := 0, locals := 72 } [.ref (ρ 36), .ref (ρ 5)] w
      (fun o w' => o = none ∧ kI true w' ∧ kF [(36, some 6), (36, some 7), (37, none), (38, none), (39, none), (40, none), (41, none), (42, none)] w w') := by
  refine kM_of (own := "TaleMachine$Frames") rfl (by decide) (Nat.le_of_ble_eq_true rfl) ?_
  intro p e s m args below meth c C hr hlk
  have hF0 : kF [(36, some 6), (36, some 7), (37, none), (38, none), (39, none), (40, none), (41, none), (42, none)] w w := kF.rf
  have c_0 : (0 : Int32).toInt = 0 := by decide
  have c_20 : (20 : Int32).toInt = 20 := by decide
  have c_120 : (120 : Int32).toInt = 120 := by decide
  have c_300 : (300 : Int32).toInt = 300 := by decide
  refine kV.L (L' := [(0, .ref (ρ 36)), (1, .ref (ρ 5))]) rfl ?_
  refine kv_aload_n C 1 rfl 0 (kdec dk_cX3_copyFrom 0 rfl) rfl rfl ?_
  refine kv_aload_n C 2 rfl 1 (kdec dk_cX3_copyFrom 1 rfl) rfl rfl ?_
  obtain ⟨x1, e2⟩ : ∃ z : Int32, w 5 6 = z := ⟨_, rfl⟩
  have b3 : (0 : Int) ≤ x1.toInt ∧ x1.toInt ≤ 120 := by rw [← e2]; exact hI 5 6
  refine kv_get C 5 rfl 5 6 rfl rfl inX3 (by decide) mfl_TaleMachine_Frames_31 rfl rfl (kdec dk_cX3_copyFrom 2 rfl) e2 ?_
  refine kv_put C 8 rfl 36 6 rfl rfl inX3 (by decide) mfl_TaleMachine_Frames_31 rfl tyX3 tyX3_ok nmX3 rfl rfl (kdec dk_cX3_copyFrom 3 rfl) rfl rfl (fun w4 u5 => ?_)
  have I6 : kI true w4 := kI_put u5 hI (show (0 : Int) ≤ (x1 : Int32).toInt by omega) (show (x1 : Int32).toInt ≤ 120 by omega)
  have F7 : kF [(36, some 6), (36, some 7), (37, none), (38, none), (39, none), (40, none), (41, none), (42, none)] w w4 := kF_put u5 hF0 rfl
  refine kv_aload_n C 9 rfl 0 (kdec dk_cX3_copyFrom 4 rfl) rfl rfl ?_
  refine kv_aload_n C 10 rfl 1 (kdec dk_cX3_copyFrom 5 rfl) rfl rfl ?_
  obtain ⟨x8, e9⟩ : ∃ z : Int32, w 5 7 = z := ⟨_, rfl⟩
  have b10 : (1 : Int) ≤ x8.toInt ∧ x8.toInt ≤ 20 := by rw [← e9]; exact hI 5 7
  have e11 : w4 5 7 = x8 := ((kup_ne u5 rfl : w4 5 7 = w 5 7).trans e9)
  refine kv_get C 13 rfl 5 7 rfl rfl inX3 (by decide) mfl_TaleMachine_Frames_35 rfl rfl (kdec dk_cX3_copyFrom 6 rfl) e11 ?_
  refine kv_put C 16 rfl 36 7 rfl rfl inX3 (by decide) mfl_TaleMachine_Frames_35 rfl tyX3 tyX3_ok nmX3 rfl rfl (kdec dk_cX3_copyFrom 7 rfl) rfl rfl (fun w12 u13 => ?_)
  have I14 : kI true w12 := kI_put u13 I6 (show (1 : Int) ≤ (x8 : Int32).toInt by omega) (show (x8 : Int32).toInt ≤ 20 by omega)
  have F15 : kF [(36, some 6), (36, some 7), (37, none), (38, none), (39, none), (40, none), (41, none), (42, none)] w w12 := kF_put u13 F7 rfl
  refine kv_aload_n C 17 rfl 1 (kdec dk_cX3_copyFrom 8 rfl) rfl rfl ?_
  refine kv_getr C 20 rfl 5 0 rfl rfl inX3 (by decide) mfl_TaleMachine_Frames_9 rfl rfl (kdec dk_cX3_copyFrom 9 rfl) ?_
  refine kv_iconst C 21 rfl 0 (kdec dk_cX3_copyFrom 10 rfl) rfl ?_
  refine kv_aload_n C 22 rfl 0 (kdec dk_cX3_copyFrom 11 rfl) rfl rfl ?_
  refine kv_getr C 25 rfl 36 0 rfl rfl inX3 (by decide) mfl_TaleMachine_Frames_9 rfl rfl (kdec dk_cX3_copyFrom 12 rfl) ?_
  refine kv_iconst C 26 rfl 0 (kdec dk_cX3_copyFrom 13 rfl) rfl ?_
  refine kv_bipush C 28 rfl 120 (kdec dk_cX3_copyFrom 14 rfl) rfl ?_
  refine kv_copy C 31 rfl 6 37 rfl rfl mml_TaleMachine_Frames_38 jc_n jc_s jc_i (by omega) (by omega) (by omega) (by omega) (by omega) (by decide) (Nat.le_of_ble_eq_true rfl) (kdec dk_cX3_copyFrom 15 rfl) (fun w16 u17 => ?_)
  have I18 : kI true w16 := kI_cpy u17 I14 (fun _ => rfl) (fun _ _ => rfl)
  have F19 : kF [(36, some 6), (36, some 7), (37, none), (38, none), (39, none), (40, none), (41, none), (42, none)] w w16 := kF_row u17 F15 (fun _ => rfl)
  refine kv_aload_n C 32 rfl 1 (kdec dk_cX3_copyFrom 16 rfl) rfl rfl ?_
  refine kv_getr C 35 rfl 5 1 rfl rfl inX3 (by decide) mfl_TaleMachine_Frames_13 rfl rfl (kdec dk_cX3_copyFrom 17 rfl) ?_
  refine kv_iconst C 36 rfl 0 (kdec dk_cX3_copyFrom 18 rfl) rfl ?_
  refine kv_aload_n C 37 rfl 0 (kdec dk_cX3_copyFrom 19 rfl) rfl rfl ?_
  refine kv_getr C 40 rfl 36 1 rfl rfl inX3 (by decide) mfl_TaleMachine_Frames_13 rfl rfl (kdec dk_cX3_copyFrom 20 rfl) ?_
  refine kv_iconst C 41 rfl 0 (kdec dk_cX3_copyFrom 21 rfl) rfl ?_
  refine kv_sipush C 44 rfl 300 (kdec dk_cX3_copyFrom 22 rfl) rfl ?_
  refine kv_copy C 47 rfl 7 38 rfl rfl mml_TaleMachine_Frames_38 jc_n jc_s jc_i (by omega) (by omega) (by omega) (by omega) (by omega) (by decide) (Nat.le_of_ble_eq_true rfl) (kdec dk_cX3_copyFrom 23 rfl) (fun w20 u21 => ?_)
  have I22 : kI true w20 := kI_cpy u21 I18 (fun _ => rfl) (fun _ _ => rfl)
  have F23 : kF [(36, some 6), (36, some 7), (37, none), (38, none), (39, none), (40, none), (41, none), (42, none)] w w20 := kF_row u21 F19 (fun _ => rfl)
  refine kv_aload_n C 48 rfl 1 (kdec dk_cX3_copyFrom 24 rfl) rfl rfl ?_
  refine kv_getr C 51 rfl 5 2 rfl rfl inX3 (by decide) mfl_TaleMachine_Frames_16 rfl rfl (kdec dk_cX3_copyFrom 25 rfl) ?_
  refine kv_iconst C 52 rfl 0 (kdec dk_cX3_copyFrom 26 rfl) rfl ?_
  refine kv_aload_n C 53 rfl 0 (kdec dk_cX3_copyFrom 27 rfl) rfl rfl ?_
  refine kv_getr C 56 rfl 36 2 rfl rfl inX3 (by decide) mfl_TaleMachine_Frames_16 rfl rfl (kdec dk_cX3_copyFrom 28 rfl) ?_
  refine kv_iconst C 57 rfl 0 (kdec dk_cX3_copyFrom 29 rfl) rfl ?_
  refine kv_bipush C 59 rfl 20 (kdec dk_cX3_copyFrom 30 rfl) rfl ?_
  refine kv_copy C 62 rfl 8 39 rfl rfl mml_TaleMachine_Frames_38 jc_n jc_s jc_i (by omega) (by omega) (by omega) (by omega) (by omega) (by decide) (Nat.le_of_ble_eq_true rfl) (kdec dk_cX3_copyFrom 31 rfl) (fun w24 u25 => ?_)
  have I26 : kI true w24 := kI_cpy u25 I22 (fun _ => rfl) (fun _ _ => rfl)
  have F27 : kF [(36, some 6), (36, some 7), (37, none), (38, none), (39, none), (40, none), (41, none), (42, none)] w w24 := kF_row u25 F23 (fun _ => rfl)
  refine kv_aload_n C 63 rfl 1 (kdec dk_cX3_copyFrom 32 rfl) rfl rfl ?_
  refine kv_getr C 66 rfl 5 3 rfl rfl inX3 (by decide) mfl_TaleMachine_Frames_19 rfl rfl (kdec dk_cX3_copyFrom 33 rfl) ?_
  refine kv_iconst C 67 rfl 0 (kdec dk_cX3_copyFrom 34 rfl) rfl ?_
  refine kv_aload_n C 68 rfl 0 (kdec dk_cX3_copyFrom 35 rfl) rfl rfl ?_
  refine kv_getr C 71 rfl 36 3 rfl rfl inX3 (by decide) mfl_TaleMachine_Frames_19 rfl rfl (kdec dk_cX3_copyFrom 36 rfl) ?_
  refine kv_iconst C 72 rfl 0 (kdec dk_cX3_copyFrom 37 rfl) rfl ?_
  refine kv_bipush C 74 rfl 20 (kdec dk_cX3_copyFrom 38 rfl) rfl ?_
  refine kv_copy C 77 rfl 9 40 rfl rfl mml_TaleMachine_Frames_38 jc_n jc_s jc_i (by omega) (by omega) (by omega) (by omega) (by omega) (by decide) (Nat.le_of_ble_eq_true rfl) (kdec dk_cX3_copyFrom 39 rfl) (fun w28 u29 => ?_)
  have I30 : kI true w28 := kI_cpy u29 I26 (fun _ => rfl) (fun _ _ => rfl)
  have F31 : kF [(36, some 6), (36, some 7), (37, none), (38, none), (39, none), (40, none), (41, none), (42, none)] w w28 := kF_row u29 F27 (fun _ => rfl)
  refine kv_aload_n C 78 rfl 1 (kdec dk_cX3_copyFrom 40 rfl) rfl rfl ?_
  refine kv_getr C 81 rfl 5 4 rfl rfl inX3 (by decide) mfl_TaleMachine_Frames_22 rfl rfl (kdec dk_cX3_copyFrom 41 rfl) ?_
  refine kv_iconst C 82 rfl 0 (kdec dk_cX3_copyFrom 42 rfl) rfl ?_
  refine kv_aload_n C 83 rfl 0 (kdec dk_cX3_copyFrom 43 rfl) rfl rfl ?_
  refine kv_getr C 86 rfl 36 4 rfl rfl inX3 (by decide) mfl_TaleMachine_Frames_22 rfl rfl (kdec dk_cX3_copyFrom 44 rfl) ?_
  refine kv_iconst C 87 rfl 0 (kdec dk_cX3_copyFrom 45 rfl) rfl ?_
  refine kv_bipush C 89 rfl 20 (kdec dk_cX3_copyFrom 46 rfl) rfl ?_
  refine kv_copy C 92 rfl 10 41 rfl rfl mml_TaleMachine_Frames_38 jc_n jc_s jc_i (by omega) (by omega) (by omega) (by omega) (by omega) (by decide) (Nat.le_of_ble_eq_true rfl) (kdec dk_cX3_copyFrom 47 rfl) (fun w32 u33 => ?_)
  have I34 : kI true w32 := kI_cpy u33 I30 (fun _ => rfl) (fun _ _ => rfl)
  have F35 : kF [(36, some 6), (36, some 7), (37, none), (38, none), (39, none), (40, none), (41, none), (42, none)] w w32 := kF_row u33 F31 (fun _ => rfl)
  refine kv_aload_n C 93 rfl 1 (kdec dk_cX3_copyFrom 48 rfl) rfl rfl ?_
  refine kv_getr C 96 rfl 5 5 rfl rfl inX3 (by decide) mfl_TaleMachine_Frames_25 rfl rfl (kdec dk_cX3_copyFrom 49 rfl) ?_
  refine kv_iconst C 97 rfl 0 (kdec dk_cX3_copyFrom 50 rfl) rfl ?_
  refine kv_aload_n C 98 rfl 0 (kdec dk_cX3_copyFrom 51 rfl) rfl rfl ?_
  refine kv_getr C 101 rfl 36 5 rfl rfl inX3 (by decide) mfl_TaleMachine_Frames_25 rfl rfl (kdec dk_cX3_copyFrom 52 rfl) ?_
  refine kv_iconst C 102 rfl 0 (kdec dk_cX3_copyFrom 53 rfl) rfl ?_
  refine kv_bipush C 104 rfl 20 (kdec dk_cX3_copyFrom 54 rfl) rfl ?_
  refine kv_copy C 107 rfl 11 42 rfl rfl mml_TaleMachine_Frames_38 jc_n jc_s jc_i (by omega) (by omega) (by omega) (by omega) (by omega) (by decide) (Nat.le_of_ble_eq_true rfl) (kdec dk_cX3_copyFrom 55 rfl) (fun w36 u37 => ?_)
  have I38 : kI true w36 := kI_cpy u37 I34 (fun _ => rfl) (fun _ _ => rfl)
  have F39 : kF [(36, some 6), (36, some 7), (37, none), (38, none), (39, none), (40, none), (41, none), (42, none)] w w36 := kF_row u37 F35 (fun _ => rfl)
  exact kv_vret C hr hlk (kdec dk_cX3_copyFrom 56 rfl) ⟨rfl, I38, F39⟩

set_option maxHeartbeats 4000000 in
set_option maxRecDepth 100000 in
theorem k_copyBack1 (l : Launch) (D : va_G) (τ : Nat → ClassId) (ρ σ : Nat → Nat) (w : kw)  (hI : kI true w)  :
    kM l D τ ρ σ yX3_copyFrom cX3_copyFrom 2 none { frames := 2, cells := 0, slots := 0, locals := 72 } [.ref (ρ 5), .ref (ρ 36)] w
      (fun o w' => o = none ∧ kI true w' ∧ kF [(5, some 6), (5, some 7), (6, none), (7, none), (8, none), (9, none), (10, none), (11, none)] w w') := by
  refine kM_of (own := "TaleMachine$Frames") rfl (by decide) (Nat.le_of_ble_eq_true rfl) ?_
  intro p e s m args below meth c C hr hlk
  have hF0 : kF [(5, some 6), (5, some 7), (6, none), (7, none), (8, none), (9, none), (10, none), (11, none)] w w := kF.rf
  have c_0 : (0 : Int32).toInt = 0 := by decide
  have c_20 : (20 : Int32).toInt = 20 := by decide
  have c_120 : (120 : Int32).toInt = 120 := by decide
  have c_300 : (300 : Int32).toInt = 300 := by decide
  refine kV.L (L' := [(0, .ref (ρ 5)), (1, .ref (ρ 36))]) rfl ?_
  refine kv_aload_n C 1 rfl 0 (kdec dk_cX3_copyFrom 0 rfl) rfl rfl ?_
  refine kv_aload_n C 2 rfl 1 (kdec dk_cX3_copyFrom 1 rfl) rfl rfl ?_
  obtain ⟨x1, e2⟩ : ∃ z : Int32, w 36 6 = z := ⟨_, rfl⟩
  have b3 : (0 : Int) ≤ x1.toInt ∧ x1.toInt ≤ 120 := by rw [← e2]; exact hI 36 6
  refine kv_get C 5 rfl 36 6 rfl rfl inX3 (by decide) mfl_TaleMachine_Frames_31 rfl rfl (kdec dk_cX3_copyFrom 2 rfl) e2 ?_
  refine kv_put C 8 rfl 5 6 rfl rfl inX3 (by decide) mfl_TaleMachine_Frames_31 rfl tyX3 tyX3_ok nmX3 rfl rfl (kdec dk_cX3_copyFrom 3 rfl) rfl rfl (fun w4 u5 => ?_)
  have I6 : kI true w4 := kI_put u5 hI (show (0 : Int) ≤ (x1 : Int32).toInt by omega) (show (x1 : Int32).toInt ≤ 120 by omega)
  have F7 : kF [(5, some 6), (5, some 7), (6, none), (7, none), (8, none), (9, none), (10, none), (11, none)] w w4 := kF_put u5 hF0 rfl
  refine kv_aload_n C 9 rfl 0 (kdec dk_cX3_copyFrom 4 rfl) rfl rfl ?_
  refine kv_aload_n C 10 rfl 1 (kdec dk_cX3_copyFrom 5 rfl) rfl rfl ?_
  obtain ⟨x8, e9⟩ : ∃ z : Int32, w 36 7 = z := ⟨_, rfl⟩
  have b10 : (1 : Int) ≤ x8.toInt ∧ x8.toInt ≤ 20 := by rw [← e9]; exact hI 36 7
  have e11 : w4 36 7 = x8 := ((kup_ne u5 rfl : w4 36 7 = w 36 7).trans e9)
  refine kv_get C 13 rfl 36 7 rfl rfl inX3 (by decide) mfl_TaleMachine_Frames_35 rfl rfl (kdec dk_cX3_copyFrom 6 rfl) e11 ?_
  refine kv_put C 16 rfl 5 7 rfl rfl inX3 (by decide) mfl_TaleMachine_Frames_35 rfl tyX3 tyX3_ok nmX3 rfl rfl (kdec dk_cX3_copyFrom 7 rfl) rfl rfl (fun w12 u13 => ?_)
  have I14 : kI true w12 := kI_put u13 I6 (show (1 : Int) ≤ (x8 : Int32).toInt by omega) (show (x8 : Int32).toInt ≤ 20 by omega)
  have F15 : kF [(5, some 6), (5, some 7), (6, none), (7, none), (8, none), (9, none), (10, none), (11, none)] w w12 := kF_put u13 F7 rfl
  refine kv_aload_n C 17 rfl 1 (kdec dk_cX3_copyFrom 8 rfl) rfl rfl ?_
  refine kv_getr C 20 rfl 36 0 rfl rfl inX3 (by decide) mfl_TaleMachine_Frames_9 rfl rfl (kdec dk_cX3_copyFrom 9 rfl) ?_
  refine kv_iconst C 21 rfl 0 (kdec dk_cX3_copyFrom 10 rfl) rfl ?_
  refine kv_aload_n C 22 rfl 0 (kdec dk_cX3_copyFrom 11 rfl) rfl rfl ?_
  refine kv_getr C 25 rfl 5 0 rfl rfl inX3 (by decide) mfl_TaleMachine_Frames_9 rfl rfl (kdec dk_cX3_copyFrom 12 rfl) ?_
  refine kv_iconst C 26 rfl 0 (kdec dk_cX3_copyFrom 13 rfl) rfl ?_
  refine kv_bipush C 28 rfl 120 (kdec dk_cX3_copyFrom 14 rfl) rfl ?_
  refine kv_copy C 31 rfl 37 6 rfl rfl mml_TaleMachine_Frames_38 jc_n jc_s jc_i (by omega) (by omega) (by omega) (by omega) (by omega) (by decide) (Nat.le_of_ble_eq_true rfl) (kdec dk_cX3_copyFrom 15 rfl) (fun w16 u17 => ?_)
  have I18 : kI true w16 := kI_cpy u17 I14 (fun _ => rfl) (fun _ _ => rfl)
  have F19 : kF [(5, some 6), (5, some 7), (6, none), (7, none), (8, none), (9, none), (10, none), (11, none)] w w16 := kF_row u17 F15 (fun _ => rfl)
  refine kv_aload_n C 32 rfl 1 (kdec dk_cX3_copyFrom 16 rfl) rfl rfl ?_
  refine kv_getr C 35 rfl 36 1 rfl rfl inX3 (by decide) mfl_TaleMachine_Frames_13 rfl rfl (kdec dk_cX3_copyFrom 17 rfl) ?_
  refine kv_iconst C 36 rfl 0 (kdec dk_cX3_copyFrom 18 rfl) rfl ?_
  refine kv_aload_n C 37 rfl 0 (kdec dk_cX3_copyFrom 19 rfl) rfl rfl ?_
  refine kv_getr C 40 rfl 5 1 rfl rfl inX3 (by decide) mfl_TaleMachine_Frames_13 rfl rfl (kdec dk_cX3_copyFrom 20 rfl) ?_
  refine kv_iconst C 41 rfl 0 (kdec dk_cX3_copyFrom 21 rfl) rfl ?_
  refine kv_sipush C 44 rfl 300 (kdec dk_cX3_copyFrom 22 rfl) rfl ?_
  refine kv_copy C 47 rfl 38 7 rfl rfl mml_TaleMachine_Frames_38 jc_n jc_s jc_i (by omega) (by omega) (by omega) (by omega) (by omega) (by decide) (Nat.le_of_ble_eq_true rfl) (kdec dk_cX3_copyFrom 23 rfl) (fun w20 u21 => ?_)
  have I22 : kI true w20 := kI_cpy u21 I18 (fun _ => rfl) (fun _ _ => rfl)
  have F23 : kF [(5, some 6), (5, some 7), (6, none), (7, none), (8, none), (9, none), (10, none), (11, none)] w w20 := kF_row u21 F19 (fun _ => rfl)
  refine kv_aload_n C 48 rfl 1 (kdec dk_cX3_copyFrom 24 rfl) rfl rfl ?_
  refine kv_getr C 51 rfl 36 2 rfl rfl inX3 (by decide) mfl_TaleMachine_Frames_16 rfl rfl (kdec dk_cX3_copyFrom 25 rfl) ?_
  refine kv_iconst C 52 rfl 0 (kdec dk_cX3_copyFrom 26 rfl) rfl ?_
  refine kv_aload_n C 53 rfl 0 (kdec dk_cX3_copyFrom 27 rfl) rfl rfl ?_
  refine kv_getr C 56 rfl 5 2 rfl rfl inX3 (by decide) mfl_TaleMachine_Frames_16 rfl rfl (kdec dk_cX3_copyFrom 28 rfl) ?_
  refine kv_iconst C 57 rfl 0 (kdec dk_cX3_copyFrom 29 rfl) rfl ?_
  refine kv_bipush C 59 rfl 20 (kdec dk_cX3_copyFrom 30 rfl) rfl ?_
  refine kv_copy C 62 rfl 39 8 rfl rfl mml_TaleMachine_Frames_38 jc_n jc_s jc_i (by omega) (by omega) (by omega) (by omega) (by omega) (by decide) (Nat.le_of_ble_eq_true rfl) (kdec dk_cX3_copyFrom 31 rfl) (fun w24 u25 => ?_)
  have I26 : kI true w24 := kI_cpy u25 I22 (fun _ => rfl) (fun _ _ => rfl)
  have F27 : kF [(5, some 6), (5, some 7), (6, none), (7, none), (8, none), (9, none), (10, none), (11, none)] w w24 := kF_row u25 F23 (fun _ => rfl)
  refine kv_aload_n C 63 rfl 1 (kdec dk_cX3_copyFrom 32 rfl) rfl rfl ?_
  refine kv_getr C 66 rfl 36 3 rfl rfl inX3 (by decide) mfl_TaleMachine_Frames_19 rfl rfl (kdec dk_cX3_copyFrom 33 rfl) ?_
  refine kv_iconst C 67 rfl 0 (kdec dk_cX3_copyFrom 34 rfl) rfl ?_
  refine kv_aload_n C 68 rfl 0 (kdec dk_cX3_copyFrom 35 rfl) rfl rfl ?_
  refine kv_getr C 71 rfl 5 3 rfl rfl inX3 (by decide) mfl_TaleMachine_Frames_19 rfl rfl (kdec dk_cX3_copyFrom 36 rfl) ?_
  refine kv_iconst C 72 rfl 0 (kdec dk_cX3_copyFrom 37 rfl) rfl ?_
  refine kv_bipush C 74 rfl 20 (kdec dk_cX3_copyFrom 38 rfl) rfl ?_
  refine kv_copy C 77 rfl 40 9 rfl rfl mml_TaleMachine_Frames_38 jc_n jc_s jc_i (by omega) (by omega) (by omega) (by omega) (by omega) (by decide) (Nat.le_of_ble_eq_true rfl) (kdec dk_cX3_copyFrom 39 rfl) (fun w28 u29 => ?_)
  have I30 : kI true w28 := kI_cpy u29 I26 (fun _ => rfl) (fun _ _ => rfl)
  have F31 : kF [(5, some 6), (5, some 7), (6, none), (7, none), (8, none), (9, none), (10, none), (11, none)] w w28 := kF_row u29 F27 (fun _ => rfl)
  refine kv_aload_n C 78 rfl 1 (kdec dk_cX3_copyFrom 40 rfl) rfl rfl ?_
  refine kv_getr C 81 rfl 36 4 rfl rfl inX3 (by decide) mfl_TaleMachine_Frames_22 rfl rfl (kdec dk_cX3_copyFrom 41 rfl) ?_
  refine kv_iconst C 82 rfl 0 (kdec dk_cX3_copyFrom 42 rfl) rfl ?_
  refine kv_aload_n C 83 rfl 0 (kdec dk_cX3_copyFrom 43 rfl) rfl rfl ?_
  refine kv_getr C 86 rfl 5 4 rfl rfl inX3 (by decide) mfl_TaleMachine_Frames_22 rfl rfl (kdec dk_cX3_copyFrom 44 rfl) ?_
  refine kv_iconst C 87 rfl 0 (kdec dk_cX3_copyFrom 45 rfl) rfl ?_
  refine kv_bipush C 89 rfl 20 (kdec dk_cX3_copyFrom 46 rfl) rfl ?_
  refine kv_copy C 92 rfl 41 10 rfl rfl mml_TaleMachine_Frames_38 jc_n jc_s jc_i (by omega) (by omega) (by omega) (by omega) (by omega) (by decide) (Nat.le_of_ble_eq_true rfl) (kdec dk_cX3_copyFrom 47 rfl) (fun w32 u33 => ?_)
  have I34 : kI true w32 := kI_cpy u33 I30 (fun _ => rfl) (fun _ _ => rfl)
  have F35 : kF [(5, some 6), (5, some 7), (6, none), (7, none), (8, none), (9, none), (10, none), (11, none)] w w32 := kF_row u33 F31 (fun _ => rfl)
  refine kv_aload_n C 93 rfl 1 (kdec dk_cX3_copyFrom 48 rfl) rfl rfl ?_
  refine kv_getr C 96 rfl 36 5 rfl rfl inX3 (by decide) mfl_TaleMachine_Frames_25 rfl rfl (kdec dk_cX3_copyFrom 49 rfl) ?_
  refine kv_iconst C 97 rfl 0 (kdec dk_cX3_copyFrom 50 rfl) rfl ?_
  refine kv_aload_n C 98 rfl 0 (kdec dk_cX3_copyFrom 51 rfl) rfl rfl ?_
  refine kv_getr C 101 rfl 5 5 rfl rfl inX3 (by decide) mfl_TaleMachine_Frames_25 rfl rfl (kdec dk_cX3_copyFrom 52 rfl) ?_
  refine kv_iconst C 102 rfl 0 (kdec dk_cX3_copyFrom 53 rfl) rfl ?_
  refine kv_bipush C 104 rfl 20 (kdec dk_cX3_copyFrom 54 rfl) rfl ?_
  refine kv_copy C 107 rfl 42 11 rfl rfl mml_TaleMachine_Frames_38 jc_n jc_s jc_i (by omega) (by omega) (by omega) (by omega) (by omega) (by decide) (Nat.le_of_ble_eq_true rfl) (kdec dk_cX3_copyFrom 55 rfl) (fun w36 u37 => ?_)
  have I38 : kI true w36 := kI_cpy u37 I34 (fun _ => rfl) (fun _ _ => rfl)
  have F39 : kF [(5, some 6), (5, some 7), (6, none), (7, none), (8, none), (9, none), (10, none), (11, none)] w w36 := kF_row u37 F35 (fun _ => rfl)
  exact kv_vret C hr hlk (kdec dk_cX3_copyFrom 56 rfl) ⟨rfl, I38, F39⟩

set_option maxHeartbeats 4000000 in
set_option maxRecDepth 100000 in
theorem k_copyTo2 (l : Launch) (D : va_G) (τ : Nat → ClassId) (ρ σ : Nat → Nat) (w : kw)  (hI : kI true w)  :
    kM l D τ ρ σ yX3_copyFrom cX3_copyFrom 2 none { frames := 2, cells := 0, slots := 0, locals := 72 } [.ref (ρ 45), .ref (ρ 5)] w
      (fun o w' => o = none ∧ kI true w' ∧ kF [(45, some 6), (45, some 7), (46, none), (47, none), (48, none), (49, none), (50, none), (51, none)] w w') := by
  refine kM_of (own := "TaleMachine$Frames") rfl (by decide) (Nat.le_of_ble_eq_true rfl) ?_
  intro p e s m args below meth c C hr hlk
  have hF0 : kF [(45, some 6), (45, some 7), (46, none), (47, none), (48, none), (49, none), (50, none), (51, none)] w w := kF.rf
  have c_0 : (0 : Int32).toInt = 0 := by decide
  have c_20 : (20 : Int32).toInt = 20 := by decide
  have c_120 : (120 : Int32).toInt = 120 := by decide
  have c_300 : (300 : Int32).toInt = 300 := by decide
  refine kV.L (L' := [(0, .ref (ρ 45)), (1, .ref (ρ 5))]) rfl ?_
  refine kv_aload_n C 1 rfl 0 (kdec dk_cX3_copyFrom 0 rfl) rfl rfl ?_
  refine kv_aload_n C 2 rfl 1 (kdec dk_cX3_copyFrom 1 rfl) rfl rfl ?_
  obtain ⟨x1, e2⟩ : ∃ z : Int32, w 5 6 = z := ⟨_, rfl⟩
  have b3 : (0 : Int) ≤ x1.toInt ∧ x1.toInt ≤ 120 := by rw [← e2]; exact hI 5 6
  refine kv_get C 5 rfl 5 6 rfl rfl inX3 (by decide) mfl_TaleMachine_Frames_31 rfl rfl (kdec dk_cX3_copyFrom 2 rfl) e2 ?_
  refine kv_put C 8 rfl 45 6 rfl rfl inX3 (by decide) mfl_TaleMachine_Frames_31 rfl tyX3 tyX3_ok nmX3 rfl rfl (kdec dk_cX3_copyFrom 3 rfl) rfl rfl (fun w4 u5 => ?_)
  have I6 : kI true w4 := kI_put u5 hI (show (0 : Int) ≤ (x1 : Int32).toInt by omega) (show (x1 : Int32).toInt ≤ 120 by omega)
  have F7 : kF [(45, some 6), (45, some 7), (46, none), (47, none), (48, none), (49, none), (50, none), (51, none)] w w4 := kF_put u5 hF0 rfl
  refine kv_aload_n C 9 rfl 0 (kdec dk_cX3_copyFrom 4 rfl) rfl rfl ?_
  refine kv_aload_n C 10 rfl 1 (kdec dk_cX3_copyFrom 5 rfl) rfl rfl ?_
  obtain ⟨x8, e9⟩ : ∃ z : Int32, w 5 7 = z := ⟨_, rfl⟩
  have b10 : (1 : Int) ≤ x8.toInt ∧ x8.toInt ≤ 20 := by rw [← e9]; exact hI 5 7
  have e11 : w4 5 7 = x8 := ((kup_ne u5 rfl : w4 5 7 = w 5 7).trans e9)
  refine kv_get C 13 rfl 5 7 rfl rfl inX3 (by decide) mfl_TaleMachine_Frames_35 rfl rfl (kdec dk_cX3_copyFrom 6 rfl) e11 ?_
  refine kv_put C 16 rfl 45 7 rfl rfl inX3 (by decide) mfl_TaleMachine_Frames_35 rfl tyX3 tyX3_ok nmX3 rfl rfl (kdec dk_cX3_copyFrom 7 rfl) rfl rfl (fun w12 u13 => ?_)
  have I14 : kI true w12 := kI_put u13 I6 (show (1 : Int) ≤ (x8 : Int32).toInt by omega) (show (x8 : Int32).toInt ≤ 20 by omega)
  have F15 : kF [(45, some 6), (45, some 7), (46, none), (47, none), (48, none), (49, none), (50, none), (51, none)] w w12 := kF_put u13 F7 rfl
  refine kv_aload_n C 17 rfl 1 (kdec dk_cX3_copyFrom 8 rfl) rfl rfl ?_
  refine kv_getr C 20 rfl 5 0 rfl rfl inX3 (by decide) mfl_TaleMachine_Frames_9 rfl rfl (kdec dk_cX3_copyFrom 9 rfl) ?_
  refine kv_iconst C 21 rfl 0 (kdec dk_cX3_copyFrom 10 rfl) rfl ?_
  refine kv_aload_n C 22 rfl 0 (kdec dk_cX3_copyFrom 11 rfl) rfl rfl ?_
  refine kv_getr C 25 rfl 45 0 rfl rfl inX3 (by decide) mfl_TaleMachine_Frames_9 rfl rfl (kdec dk_cX3_copyFrom 12 rfl) ?_
  refine kv_iconst C 26 rfl 0 (kdec dk_cX3_copyFrom 13 rfl) rfl ?_
  refine kv_bipush C 28 rfl 120 (kdec dk_cX3_copyFrom 14 rfl) rfl ?_
  refine kv_copy C 31 rfl 6 46 rfl rfl mml_TaleMachine_Frames_38 jc_n jc_s jc_i (by omega) (by omega) (by omega) (by omega) (by omega) (by decide) (Nat.le_of_ble_eq_true rfl) (kdec dk_cX3_copyFrom 15 rfl) (fun w16 u17 => ?_)
  have I18 : kI true w16 := kI_cpy u17 I14 (fun _ => rfl) (fun _ _ => rfl)
  have F19 : kF [(45, some 6), (45, some 7), (46, none), (47, none), (48, none), (49, none), (50, none), (51, none)] w w16 := kF_row u17 F15 (fun _ => rfl)
  refine kv_aload_n C 32 rfl 1 (kdec dk_cX3_copyFrom 16 rfl) rfl rfl ?_
  refine kv_getr C 35 rfl 5 1 rfl rfl inX3 (by decide) mfl_TaleMachine_Frames_13 rfl rfl (kdec dk_cX3_copyFrom 17 rfl) ?_
  refine kv_iconst C 36 rfl 0 (kdec dk_cX3_copyFrom 18 rfl) rfl ?_
  refine kv_aload_n C 37 rfl 0 (kdec dk_cX3_copyFrom 19 rfl) rfl rfl ?_
  refine kv_getr C 40 rfl 45 1 rfl rfl inX3 (by decide) mfl_TaleMachine_Frames_13 rfl rfl (kdec dk_cX3_copyFrom 20 rfl) ?_
  refine kv_iconst C 41 rfl 0 (kdec dk_cX3_copyFrom 21 rfl) rfl ?_
  refine kv_sipush C 44 rfl 300 (kdec dk_cX3_copyFrom 22 rfl) rfl ?_
  refine kv_copy C 47 rfl 7 47 rfl rfl mml_TaleMachine_Frames_38 jc_n jc_s jc_i (by omega) (by omega) (by omega) (by omega) (by omega) (by decide) (Nat.le_of_ble_eq_true rfl) (kdec dk_cX3_copyFrom 23 rfl) (fun w20 u21 => ?_)
  have I22 : kI true w20 := kI_cpy u21 I18 (fun _ => rfl) (fun _ _ => rfl)
  have F23 : kF [(45, some 6), (45, some 7), (46, none), (47, none), (48, none), (49, none), (50, none), (51, none)] w w20 := kF_row u21 F19 (fun _ => rfl)
  refine kv_aload_n C 48 rfl 1 (kdec dk_cX3_copyFrom 24 rfl) rfl rfl ?_
  refine kv_getr C 51 rfl 5 2 rfl rfl inX3 (by decide) mfl_TaleMachine_Frames_16 rfl rfl (kdec dk_cX3_copyFrom 25 rfl) ?_
  refine kv_iconst C 52 rfl 0 (kdec dk_cX3_copyFrom 26 rfl) rfl ?_
  refine kv_aload_n C 53 rfl 0 (kdec dk_cX3_copyFrom 27 rfl) rfl rfl ?_
  refine kv_getr C 56 rfl 45 2 rfl rfl inX3 (by decide) mfl_TaleMachine_Frames_16 rfl rfl (kdec dk_cX3_copyFrom 28 rfl) ?_
  refine kv_iconst C 57 rfl 0 (kdec dk_cX3_copyFrom 29 rfl) rfl ?_
  refine kv_bipush C 59 rfl 20 (kdec dk_cX3_copyFrom 30 rfl) rfl ?_
  refine kv_copy C 62 rfl 8 48 rfl rfl mml_TaleMachine_Frames_38 jc_n jc_s jc_i (by omega) (by omega) (by omega) (by omega) (by omega) (by decide) (Nat.le_of_ble_eq_true rfl) (kdec dk_cX3_copyFrom 31 rfl) (fun w24 u25 => ?_)
  have I26 : kI true w24 := kI_cpy u25 I22 (fun _ => rfl) (fun _ _ => rfl)
  have F27 : kF [(45, some 6), (45, some 7), (46, none), (47, none), (48, none), (49, none), (50, none), (51, none)] w w24 := kF_row u25 F23 (fun _ => rfl)
  refine kv_aload_n C 63 rfl 1 (kdec dk_cX3_copyFrom 32 rfl) rfl rfl ?_
  refine kv_getr C 66 rfl 5 3 rfl rfl inX3 (by decide) mfl_TaleMachine_Frames_19 rfl rfl (kdec dk_cX3_copyFrom 33 rfl) ?_
  refine kv_iconst C 67 rfl 0 (kdec dk_cX3_copyFrom 34 rfl) rfl ?_
  refine kv_aload_n C 68 rfl 0 (kdec dk_cX3_copyFrom 35 rfl) rfl rfl ?_
  refine kv_getr C 71 rfl 45 3 rfl rfl inX3 (by decide) mfl_TaleMachine_Frames_19 rfl rfl (kdec dk_cX3_copyFrom 36 rfl) ?_
  refine kv_iconst C 72 rfl 0 (kdec dk_cX3_copyFrom 37 rfl) rfl ?_
  refine kv_bipush C 74 rfl 20 (kdec dk_cX3_copyFrom 38 rfl) rfl ?_
  refine kv_copy C 77 rfl 9 49 rfl rfl mml_TaleMachine_Frames_38 jc_n jc_s jc_i (by omega) (by omega) (by omega) (by omega) (by omega) (by decide) (Nat.le_of_ble_eq_true rfl) (kdec dk_cX3_copyFrom 39 rfl) (fun w28 u29 => ?_)
  have I30 : kI true w28 := kI_cpy u29 I26 (fun _ => rfl) (fun _ _ => rfl)
  have F31 : kF [(45, some 6), (45, some 7), (46, none), (47, none), (48, none), (49, none), (50, none), (51, none)] w w28 := kF_row u29 F27 (fun _ => rfl)
  refine kv_aload_n C 78 rfl 1 (kdec dk_cX3_copyFrom 40 rfl) rfl rfl ?_
  refine kv_getr C 81 rfl 5 4 rfl rfl inX3 (by decide) mfl_TaleMachine_Frames_22 rfl rfl (kdec dk_cX3_copyFrom 41 rfl) ?_
  refine kv_iconst C 82 rfl 0 (kdec dk_cX3_copyFrom 42 rfl) rfl ?_
  refine kv_aload_n C 83 rfl 0 (kdec dk_cX3_copyFrom 43 rfl) rfl rfl ?_
  refine kv_getr C 86 rfl 45 4 rfl rfl inX3 (by decide) mfl_TaleMachine_Frames_22 rfl rfl (kdec dk_cX3_copyFrom 44 rfl) ?_
  refine kv_iconst C 87 rfl 0 (kdec dk_cX3_copyFrom 45 rfl) rfl ?_
  refine kv_bipush C 89 rfl 20 (kdec dk_cX3_copyFrom 46 rfl) rfl ?_
  refine kv_copy C 92 rfl 10 50 rfl rfl mml_TaleMachine_Frames_38 jc_n jc_s jc_i (by omega) (by omega) (by omega) (by omega) (by omega) (by decide) (Nat.le_of_ble_eq_true rfl) (kdec dk_cX3_copyFrom 47 rfl) (fun w32 u33 => ?_)
  have I34 : kI true w32 := kI_cpy u33 I30 (fun _ => rfl) (fun _ _ => rfl)
  have F35 : kF [(45, some 6), (45, some 7), (46, none), (47, none), (48, none), (49, none), (50, none), (51, none)] w w32 := kF_row u33 F31 (fun _ => rfl)
  refine kv_aload_n C 93 rfl 1 (kdec dk_cX3_copyFrom 48 rfl) rfl rfl ?_
  refine kv_getr C 96 rfl 5 5 rfl rfl inX3 (by decide) mfl_TaleMachine_Frames_25 rfl rfl (kdec dk_cX3_copyFrom 49 rfl) ?_
  refine kv_iconst C 97 rfl 0 (kdec dk_cX3_copyFrom 50 rfl) rfl ?_
  refine kv_aload_n C 98 rfl 0 (kdec dk_cX3_copyFrom 51 rfl) rfl rfl ?_
  refine kv_getr C 101 rfl 45 5 rfl rfl inX3 (by decide) mfl_TaleMachine_Frames_25 rfl rfl (kdec dk_cX3_copyFrom 52 rfl) ?_
  refine kv_iconst C 102 rfl 0 (kdec dk_cX3_copyFrom 53 rfl) rfl ?_
  refine kv_bipush C 104 rfl 20 (kdec dk_cX3_copyFrom 54 rfl) rfl ?_
  refine kv_copy C 107 rfl 11 51 rfl rfl mml_TaleMachine_Frames_38 jc_n jc_s jc_i (by omega) (by omega) (by omega) (by omega) (by omega) (by decide) (Nat.le_of_ble_eq_true rfl) (kdec dk_cX3_copyFrom 55 rfl) (fun w36 u37 => ?_)
  have I38 : kI true w36 := kI_cpy u37 I34 (fun _ => rfl) (fun _ _ => rfl)
  have F39 : kF [(45, some 6), (45, some 7), (46, none), (47, none), (48, none), (49, none), (50, none), (51, none)] w w36 := kF_row u37 F35 (fun _ => rfl)
  exact kv_vret C hr hlk (kdec dk_cX3_copyFrom 56 rfl) ⟨rfl, I38, F39⟩

set_option maxHeartbeats 4000000 in
set_option maxRecDepth 100000 in
theorem k_copyBack2 (l : Launch) (D : va_G) (τ : Nat → ClassId) (ρ σ : Nat → Nat) (w : kw)  (hI : kI true w)  :
    kM l D τ ρ σ yX3_copyFrom cX3_copyFrom 2 none { frames := 2, cells := 0, slots := 0, locals := 72 } [.ref (ρ 5), .ref (ρ 45)] w
      (fun o w' => o = none ∧ kI true w' ∧ kF [(5, some 6), (5, some 7), (6, none), (7, none), (8, none), (9, none), (10, none), (11, none)] w w') := by
  refine kM_of (own := "TaleMachine$Frames") rfl (by decide) (Nat.le_of_ble_eq_true rfl) ?_
  intro p e s m args below meth c C hr hlk
  have hF0 : kF [(5, some 6), (5, some 7), (6, none), (7, none), (8, none), (9, none), (10, none), (11, none)] w w := kF.rf
  have c_0 : (0 : Int32).toInt = 0 := by decide
  have c_20 : (20 : Int32).toInt = 20 := by decide
  have c_120 : (120 : Int32).toInt = 120 := by decide
  have c_300 : (300 : Int32).toInt = 300 := by decide
  refine kV.L (L' := [(0, .ref (ρ 5)), (1, .ref (ρ 45))]) rfl ?_
  refine kv_aload_n C 1 rfl 0 (kdec dk_cX3_copyFrom 0 rfl) rfl rfl ?_
  refine kv_aload_n C 2 rfl 1 (kdec dk_cX3_copyFrom 1 rfl) rfl rfl ?_
  obtain ⟨x1, e2⟩ : ∃ z : Int32, w 45 6 = z := ⟨_, rfl⟩
  have b3 : (0 : Int) ≤ x1.toInt ∧ x1.toInt ≤ 120 := by rw [← e2]; exact hI 45 6
  refine kv_get C 5 rfl 45 6 rfl rfl inX3 (by decide) mfl_TaleMachine_Frames_31 rfl rfl (kdec dk_cX3_copyFrom 2 rfl) e2 ?_
  refine kv_put C 8 rfl 5 6 rfl rfl inX3 (by decide) mfl_TaleMachine_Frames_31 rfl tyX3 tyX3_ok nmX3 rfl rfl (kdec dk_cX3_copyFrom 3 rfl) rfl rfl (fun w4 u5 => ?_)
  have I6 : kI true w4 := kI_put u5 hI (show (0 : Int) ≤ (x1 : Int32).toInt by omega) (show (x1 : Int32).toInt ≤ 120 by omega)
  have F7 : kF [(5, some 6), (5, some 7), (6, none), (7, none), (8, none), (9, none), (10, none), (11, none)] w w4 := kF_put u5 hF0 rfl
  refine kv_aload_n C 9 rfl 0 (kdec dk_cX3_copyFrom 4 rfl) rfl rfl ?_
  refine kv_aload_n C 10 rfl 1 (kdec dk_cX3_copyFrom 5 rfl) rfl rfl ?_
  obtain ⟨x8, e9⟩ : ∃ z : Int32, w 45 7 = z := ⟨_, rfl⟩
  have b10 : (1 : Int) ≤ x8.toInt ∧ x8.toInt ≤ 20 := by rw [← e9]; exact hI 45 7
  have e11 : w4 45 7 = x8 := ((kup_ne u5 rfl : w4 45 7 = w 45 7).trans e9)
  refine kv_get C 13 rfl 45 7 rfl rfl inX3 (by decide) mfl_TaleMachine_Frames_35 rfl rfl (kdec dk_cX3_copyFrom 6 rfl) e11 ?_
  refine kv_put C 16 rfl 5 7 rfl rfl inX3 (by decide) mfl_TaleMachine_Frames_35 rfl tyX3 tyX3_ok nmX3 rfl rfl (kdec dk_cX3_copyFrom 7 rfl) rfl rfl (fun w12 u13 => ?_)
  have I14 : kI true w12 := kI_put u13 I6 (show (1 : Int) ≤ (x8 : Int32).toInt by omega) (show (x8 : Int32).toInt ≤ 20 by omega)
  have F15 : kF [(5, some 6), (5, some 7), (6, none), (7, none), (8, none), (9, none), (10, none), (11, none)] w w12 := kF_put u13 F7 rfl
  refine kv_aload_n C 17 rfl 1 (kdec dk_cX3_copyFrom 8 rfl) rfl rfl ?_
  refine kv_getr C 20 rfl 45 0 rfl rfl inX3 (by decide) mfl_TaleMachine_Frames_9 rfl rfl (kdec dk_cX3_copyFrom 9 rfl) ?_
  refine kv_iconst C 21 rfl 0 (kdec dk_cX3_copyFrom 10 rfl) rfl ?_
  refine kv_aload_n C 22 rfl 0 (kdec dk_cX3_copyFrom 11 rfl) rfl rfl ?_
  refine kv_getr C 25 rfl 5 0 rfl rfl inX3 (by decide) mfl_TaleMachine_Frames_9 rfl rfl (kdec dk_cX3_copyFrom 12 rfl) ?_
  refine kv_iconst C 26 rfl 0 (kdec dk_cX3_copyFrom 13 rfl) rfl ?_
  refine kv_bipush C 28 rfl 120 (kdec dk_cX3_copyFrom 14 rfl) rfl ?_
  refine kv_copy C 31 rfl 46 6 rfl rfl mml_TaleMachine_Frames_38 jc_n jc_s jc_i (by omega) (by omega) (by omega) (by omega) (by omega) (by decide) (Nat.le_of_ble_eq_true rfl) (kdec dk_cX3_copyFrom 15 rfl) (fun w16 u17 => ?_)
  have I18 : kI true w16 := kI_cpy u17 I14 (fun _ => rfl) (fun _ _ => rfl)
  have F19 : kF [(5, some 6), (5, some 7), (6, none), (7, none), (8, none), (9, none), (10, none), (11, none)] w w16 := kF_row u17 F15 (fun _ => rfl)
  refine kv_aload_n C 32 rfl 1 (kdec dk_cX3_copyFrom 16 rfl) rfl rfl ?_
  refine kv_getr C 35 rfl 45 1 rfl rfl inX3 (by decide) mfl_TaleMachine_Frames_13 rfl rfl (kdec dk_cX3_copyFrom 17 rfl) ?_
  refine kv_iconst C 36 rfl 0 (kdec dk_cX3_copyFrom 18 rfl) rfl ?_
  refine kv_aload_n C 37 rfl 0 (kdec dk_cX3_copyFrom 19 rfl) rfl rfl ?_
  refine kv_getr C 40 rfl 5 1 rfl rfl inX3 (by decide) mfl_TaleMachine_Frames_13 rfl rfl (kdec dk_cX3_copyFrom 20 rfl) ?_
  refine kv_iconst C 41 rfl 0 (kdec dk_cX3_copyFrom 21 rfl) rfl ?_
  refine kv_sipush C 44 rfl 300 (kdec dk_cX3_copyFrom 22 rfl) rfl ?_
  refine kv_copy C 47 rfl 47 7 rfl rfl mml_TaleMachine_Frames_38 jc_n jc_s jc_i (by omega) (by omega) (by omega) (by omega) (by omega) (by decide) (Nat.le_of_ble_eq_true rfl) (kdec dk_cX3_copyFrom 23 rfl) (fun w20 u21 => ?_)
  have I22 : kI true w20 := kI_cpy u21 I18 (fun _ => rfl) (fun _ _ => rfl)
  have F23 : kF [(5, some 6), (5, some 7), (6, none), (7, none), (8, none), (9, none), (10, none), (11, none)] w w20 := kF_row u21 F19 (fun _ => rfl)
  refine kv_aload_n C 48 rfl 1 (kdec dk_cX3_copyFrom 24 rfl) rfl rfl ?_
  refine kv_getr C 51 rfl 45 2 rfl rfl inX3 (by decide) mfl_TaleMachine_Frames_16 rfl rfl (kdec dk_cX3_copyFrom 25 rfl) ?_
  refine kv_iconst C 52 rfl 0 (kdec dk_cX3_copyFrom 26 rfl) rfl ?_
  refine kv_aload_n C 53 rfl 0 (kdec dk_cX3_copyFrom 27 rfl) rfl rfl ?_
  refine kv_getr C 56 rfl 5 2 rfl rfl inX3 (by decide) mfl_TaleMachine_Frames_16 rfl rfl (kdec dk_cX3_copyFrom 28 rfl) ?_
  refine kv_iconst C 57 rfl 0 (kdec dk_cX3_copyFrom 29 rfl) rfl ?_
  refine kv_bipush C 59 rfl 20 (kdec dk_cX3_copyFrom 30 rfl) rfl ?_
  refine kv_copy C 62 rfl 48 8 rfl rfl mml_TaleMachine_Frames_38 jc_n jc_s jc_i (by omega) (by omega) (by omega) (by omega) (by omega) (by decide) (Nat.le_of_ble_eq_true rfl) (kdec dk_cX3_copyFrom 31 rfl) (fun w24 u25 => ?_)
  have I26 : kI true w24 := kI_cpy u25 I22 (fun _ => rfl) (fun _ _ => rfl)
  have F27 : kF [(5, some 6), (5, some 7), (6, none), (7, none), (8, none), (9, none), (10, none), (11, none)] w w24 := kF_row u25 F23 (fun _ => rfl)
  refine kv_aload_n C 63 rfl 1 (kdec dk_cX3_copyFrom 32 rfl) rfl rfl ?_
  refine kv_getr C 66 rfl 45 3 rfl rfl inX3 (by decide) mfl_TaleMachine_Frames_19 rfl rfl (kdec dk_cX3_copyFrom 33 rfl) ?_
  refine kv_iconst C 67 rfl 0 (kdec dk_cX3_copyFrom 34 rfl) rfl ?_
  refine kv_aload_n C 68 rfl 0 (kdec dk_cX3_copyFrom 35 rfl) rfl rfl ?_
  refine kv_getr C 71 rfl 5 3 rfl rfl inX3 (by decide) mfl_TaleMachine_Frames_19 rfl rfl (kdec dk_cX3_copyFrom 36 rfl) ?_
  refine kv_iconst C 72 rfl 0 (kdec dk_cX3_copyFrom 37 rfl) rfl ?_
  refine kv_bipush C 74 rfl 20 (kdec dk_cX3_copyFrom 38 rfl) rfl ?_
  refine kv_copy C 77 rfl 49 9 rfl rfl mml_TaleMachine_Frames_38 jc_n jc_s jc_i (by omega) (by omega) (by omega) (by omega) (by omega) (by decide) (Nat.le_of_ble_eq_true rfl) (kdec dk_cX3_copyFrom 39 rfl) (fun w28 u29 => ?_)
  have I30 : kI true w28 := kI_cpy u29 I26 (fun _ => rfl) (fun _ _ => rfl)
  have F31 : kF [(5, some 6), (5, some 7), (6, none), (7, none), (8, none), (9, none), (10, none), (11, none)] w w28 := kF_row u29 F27 (fun _ => rfl)
  refine kv_aload_n C 78 rfl 1 (kdec dk_cX3_copyFrom 40 rfl) rfl rfl ?_
  refine kv_getr C 81 rfl 45 4 rfl rfl inX3 (by decide) mfl_TaleMachine_Frames_22 rfl rfl (kdec dk_cX3_copyFrom 41 rfl) ?_
  refine kv_iconst C 82 rfl 0 (kdec dk_cX3_copyFrom 42 rfl) rfl ?_
  refine kv_aload_n C 83 rfl 0 (kdec dk_cX3_copyFrom 43 rfl) rfl rfl ?_
  refine kv_getr C 86 rfl 5 4 rfl rfl inX3 (by decide) mfl_TaleMachine_Frames_22 rfl rfl (kdec dk_cX3_copyFrom 44 rfl) ?_
  refine kv_iconst C 87 rfl 0 (kdec dk_cX3_copyFrom 45 rfl) rfl ?_
  refine kv_bipush C 89 rfl 20 (kdec dk_cX3_copyFrom 46 rfl) rfl ?_
  refine kv_copy C 92 rfl 50 10 rfl rfl mml_TaleMachine_Frames_38 jc_n jc_s jc_i (by omega) (by omega) (by omega) (by omega) (by omega) (by decide) (Nat.le_of_ble_eq_true rfl) (kdec dk_cX3_copyFrom 47 rfl) (fun w32 u33 => ?_)
  have I34 : kI true w32 := kI_cpy u33 I30 (fun _ => rfl) (fun _ _ => rfl)
  have F35 : kF [(5, some 6), (5, some 7), (6, none), (7, none), (8, none), (9, none), (10, none), (11, none)] w w32 := kF_row u33 F31 (fun _ => rfl)
  refine kv_aload_n C 93 rfl 1 (kdec dk_cX3_copyFrom 48 rfl) rfl rfl ?_
  refine kv_getr C 96 rfl 45 5 rfl rfl inX3 (by decide) mfl_TaleMachine_Frames_25 rfl rfl (kdec dk_cX3_copyFrom 49 rfl) ?_
  refine kv_iconst C 97 rfl 0 (kdec dk_cX3_copyFrom 50 rfl) rfl ?_
  refine kv_aload_n C 98 rfl 0 (kdec dk_cX3_copyFrom 51 rfl) rfl rfl ?_
  refine kv_getr C 101 rfl 5 5 rfl rfl inX3 (by decide) mfl_TaleMachine_Frames_25 rfl rfl (kdec dk_cX3_copyFrom 52 rfl) ?_
  refine kv_iconst C 102 rfl 0 (kdec dk_cX3_copyFrom 53 rfl) rfl ?_
  refine kv_bipush C 104 rfl 20 (kdec dk_cX3_copyFrom 54 rfl) rfl ?_
  refine kv_copy C 107 rfl 51 11 rfl rfl mml_TaleMachine_Frames_38 jc_n jc_s jc_i (by omega) (by omega) (by omega) (by omega) (by omega) (by decide) (Nat.le_of_ble_eq_true rfl) (kdec dk_cX3_copyFrom 55 rfl) (fun w36 u37 => ?_)
  have I38 : kI true w36 := kI_cpy u37 I34 (fun _ => rfl) (fun _ _ => rfl)
  have F39 : kF [(5, some 6), (5, some 7), (6, none), (7, none), (8, none), (9, none), (10, none), (11, none)] w w36 := kF_row u37 F35 (fun _ => rfl)
  exact kv_vret C hr hlk (kdec dk_cX3_copyFrom 56 rfl) ⟨rfl, I38, F39⟩

set_option maxHeartbeats 4000000 in
set_option maxRecDepth 100000 in
theorem k_copyTo3 (l : Launch) (D : va_G) (τ : Nat → ClassId) (ρ σ : Nat → Nat) (w : kw)  (hI : kI true w)  :
    kM l D τ ρ σ yX3_copyFrom cX3_copyFrom 2 none { frames := 2, cells := 0, slots := 0, locals := 72 } [.ref (ρ 54), .ref (ρ 5)] w
      (fun o w' => o = none ∧ kI true w' ∧ kF [(54, some 6), (54, some 7), (55, none), (56, none), (57, none), (58, none), (59, none), (60, none)] w w') := by
  refine kM_of (own := "TaleMachine$Frames") rfl (by decide) (Nat.le_of_ble_eq_true rfl) ?_
  intro p e s m args below meth c C hr hlk
  have hF0 : kF [(54, some 6), (54, some 7), (55, none), (56, none), (57, none), (58, none), (59, none), (60, none)] w w := kF.rf
  have c_0 : (0 : Int32).toInt = 0 := by decide
  have c_20 : (20 : Int32).toInt = 20 := by decide
  have c_120 : (120 : Int32).toInt = 120 := by decide
  have c_300 : (300 : Int32).toInt = 300 := by decide
  refine kV.L (L' := [(0, .ref (ρ 54)), (1, .ref (ρ 5))]) rfl ?_
  refine kv_aload_n C 1 rfl 0 (kdec dk_cX3_copyFrom 0 rfl) rfl rfl ?_
  refine kv_aload_n C 2 rfl 1 (kdec dk_cX3_copyFrom 1 rfl) rfl rfl ?_
  obtain ⟨x1, e2⟩ : ∃ z : Int32, w 5 6 = z := ⟨_, rfl⟩
  have b3 : (0 : Int) ≤ x1.toInt ∧ x1.toInt ≤ 120 := by rw [← e2]; exact hI 5 6
  refine kv_get C 5 rfl 5 6 rfl rfl inX3 (by decide) mfl_TaleMachine_Frames_31 rfl rfl (kdec dk_cX3_copyFrom 2 rfl) e2 ?_
  refine kv_put C 8 rfl 54 6 rfl rfl inX3 (by decide) mfl_TaleMachine_Frames_31 rfl tyX3 tyX3_ok nmX3 rfl rfl (kdec dk_cX3_copyFrom 3 rfl) rfl rfl (fun w4 u5 => ?_)
  have I6 : kI true w4 := kI_put u5 hI (show (0 : Int) ≤ (x1 : Int32).toInt by omega) (show (x1 : Int32).toInt ≤ 120 by omega)
  have F7 : kF [(54, some 6), (54, some 7), (55, none), (56, none), (57, none), (58, none), (59, none), (60, none)] w w4 := kF_put u5 hF0 rfl
  refine kv_aload_n C 9 rfl 0 (kdec dk_cX3_copyFrom 4 rfl) rfl rfl ?_
  refine kv_aload_n C 10 rfl 1 (kdec dk_cX3_copyFrom 5 rfl) rfl rfl ?_
  obtain ⟨x8, e9⟩ : ∃ z : Int32, w 5 7 = z := ⟨_, rfl⟩
  have b10 : (1 : Int) ≤ x8.toInt ∧ x8.toInt ≤ 20 := by rw [← e9]; exact hI 5 7
  have e11 : w4 5 7 = x8 := ((kup_ne u5 rfl : w4 5 7 = w 5 7).trans e9)
  refine kv_get C 13 rfl 5 7 rfl rfl inX3 (by decide) mfl_TaleMachine_Frames_35 rfl rfl (kdec dk_cX3_copyFrom 6 rfl) e11 ?_
  refine kv_put C 16 rfl 54 7 rfl rfl inX3 (by decide) mfl_TaleMachine_Frames_35 rfl tyX3 tyX3_ok nmX3 rfl rfl (kdec dk_cX3_copyFrom 7 rfl) rfl rfl (fun w12 u13 => ?_)
  have I14 : kI true w12 := kI_put u13 I6 (show (1 : Int) ≤ (x8 : Int32).toInt by omega) (show (x8 : Int32).toInt ≤ 20 by omega)
  have F15 : kF [(54, some 6), (54, some 7), (55, none), (56, none), (57, none), (58, none), (59, none), (60, none)] w w12 := kF_put u13 F7 rfl
  refine kv_aload_n C 17 rfl 1 (kdec dk_cX3_copyFrom 8 rfl) rfl rfl ?_
  refine kv_getr C 20 rfl 5 0 rfl rfl inX3 (by decide) mfl_TaleMachine_Frames_9 rfl rfl (kdec dk_cX3_copyFrom 9 rfl) ?_
  refine kv_iconst C 21 rfl 0 (kdec dk_cX3_copyFrom 10 rfl) rfl ?_
  refine kv_aload_n C 22 rfl 0 (kdec dk_cX3_copyFrom 11 rfl) rfl rfl ?_
  refine kv_getr C 25 rfl 54 0 rfl rfl inX3 (by decide) mfl_TaleMachine_Frames_9 rfl rfl (kdec dk_cX3_copyFrom 12 rfl) ?_
  refine kv_iconst C 26 rfl 0 (kdec dk_cX3_copyFrom 13 rfl) rfl ?_
  refine kv_bipush C 28 rfl 120 (kdec dk_cX3_copyFrom 14 rfl) rfl ?_
  refine kv_copy C 31 rfl 6 55 rfl rfl mml_TaleMachine_Frames_38 jc_n jc_s jc_i (by omega) (by omega) (by omega) (by omega) (by omega) (by decide) (Nat.le_of_ble_eq_true rfl) (kdec dk_cX3_copyFrom 15 rfl) (fun w16 u17 => ?_)
  have I18 : kI true w16 := kI_cpy u17 I14 (fun _ => rfl) (fun _ _ => rfl)
  have F19 : kF [(54, some 6), (54, some 7), (55, none), (56, none), (57, none), (58, none), (59, none), (60, none)] w w16 := kF_row u17 F15 (fun _ => rfl)
  refine kv_aload_n C 32 rfl 1 (kdec dk_cX3_copyFrom 16 rfl) rfl rfl ?_
  refine kv_getr C 35 rfl 5 1 rfl rfl inX3 (by decide) mfl_TaleMachine_Frames_13 rfl rfl (kdec dk_cX3_copyFrom 17 rfl) ?_
  refine kv_iconst C 36 rfl 0 (kdec dk_cX3_copyFrom 18 rfl) rfl ?_
  refine kv_aload_n C 37 rfl 0 (kdec dk_cX3_copyFrom 19 rfl) rfl rfl ?_
  refine kv_getr C 40 rfl 54 1 rfl rfl inX3 (by decide) mfl_TaleMachine_Frames_13 rfl rfl (kdec dk_cX3_copyFrom 20 rfl) ?_
  refine kv_iconst C 41 rfl 0 (kdec dk_cX3_copyFrom 21 rfl) rfl ?_
  refine kv_sipush C 44 rfl 300 (kdec dk_cX3_copyFrom 22 rfl) rfl ?_
  refine kv_copy C 47 rfl 7 56 rfl rfl mml_TaleMachine_Frames_38 jc_n jc_s jc_i (by omega) (by omega) (by omega) (by omega) (by omega) (by decide) (Nat.le_of_ble_eq_true rfl) (kdec dk_cX3_copyFrom 23 rfl) (fun w20 u21 => ?_)
  have I22 : kI true w20 := kI_cpy u21 I18 (fun _ => rfl) (fun _ _ => rfl)
  have F23 : kF [(54, some 6), (54, some 7), (55, none), (56, none), (57, none), (58, none), (59, none), (60, none)] w w20 := kF_row u21 F19 (fun _ => rfl)
  refine kv_aload_n C 48 rfl 1 (kdec dk_cX3_copyFrom 24 rfl) rfl rfl ?_
  refine kv_getr C 51 rfl 5 2 rfl rfl inX3 (by decide) mfl_TaleMachine_Frames_16 rfl rfl (kdec dk_cX3_copyFrom 25 rfl) ?_
  refine kv_iconst C 52 rfl 0 (kdec dk_cX3_copyFrom 26 rfl) rfl ?_
  refine kv_aload_n C 53 rfl 0 (kdec dk_cX3_copyFrom 27 rfl) rfl rfl ?_
  refine kv_getr C 56 rfl 54 2 rfl rfl inX3 (by decide) mfl_TaleMachine_Frames_16 rfl rfl (kdec dk_cX3_copyFrom 28 rfl) ?_
  refine kv_iconst C 57 rfl 0 (kdec dk_cX3_copyFrom 29 rfl) rfl ?_
  refine kv_bipush C 59 rfl 20 (kdec dk_cX3_copyFrom 30 rfl) rfl ?_
  refine kv_copy C 62 rfl 8 57 rfl rfl mml_TaleMachine_Frames_38 jc_n jc_s jc_i (by omega) (by omega) (by omega) (by omega) (by omega) (by decide) (Nat.le_of_ble_eq_true rfl) (kdec dk_cX3_copyFrom 31 rfl) (fun w24 u25 => ?_)
  have I26 : kI true w24 := kI_cpy u25 I22 (fun _ => rfl) (fun _ _ => rfl)
  have F27 : kF [(54, some 6), (54, some 7), (55, none), (56, none), (57, none), (58, none), (59, none), (60, none)] w w24 := kF_row u25 F23 (fun _ => rfl)
  refine kv_aload_n C 63 rfl 1 (kdec dk_cX3_copyFrom 32 rfl) rfl rfl ?_
  refine kv_getr C 66 rfl 5 3 rfl rfl inX3 (by decide) mfl_TaleMachine_Frames_19 rfl rfl (kdec dk_cX3_copyFrom 33 rfl) ?_
  refine kv_iconst C 67 rfl 0 (kdec dk_cX3_copyFrom 34 rfl) rfl ?_
  refine kv_aload_n C 68 rfl 0 (kdec dk_cX3_copyFrom 35 rfl) rfl rfl ?_
  refine kv_getr C 71 rfl 54 3 rfl rfl inX3 (by decide) mfl_TaleMachine_Frames_19 rfl rfl (kdec dk_cX3_copyFrom 36 rfl) ?_
  refine kv_iconst C 72 rfl 0 (kdec dk_cX3_copyFrom 37 rfl) rfl ?_
  refine kv_bipush C 74 rfl 20 (kdec dk_cX3_copyFrom 38 rfl) rfl ?_
  refine kv_copy C 77 rfl 9 58 rfl rfl mml_TaleMachine_Frames_38 jc_n jc_s jc_i (by omega) (by omega) (by omega) (by omega) (by omega) (by decide) (Nat.le_of_ble_eq_true rfl) (kdec dk_cX3_copyFrom 39 rfl) (fun w28 u29 => ?_)
  have I30 : kI true w28 := kI_cpy u29 I26 (fun _ => rfl) (fun _ _ => rfl)
  have F31 : kF [(54, some 6), (54, some 7), (55, none), (56, none), (57, none), (58, none), (59, none), (60, none)] w w28 := kF_row u29 F27 (fun _ => rfl)
  refine kv_aload_n C 78 rfl 1 (kdec dk_cX3_copyFrom 40 rfl) rfl rfl ?_
  refine kv_getr C 81 rfl 5 4 rfl rfl inX3 (by decide) mfl_TaleMachine_Frames_22 rfl rfl (kdec dk_cX3_copyFrom 41 rfl) ?_
  refine kv_iconst C 82 rfl 0 (kdec dk_cX3_copyFrom 42 rfl) rfl ?_
  refine kv_aload_n C 83 rfl 0 (kdec dk_cX3_copyFrom 43 rfl) rfl rfl ?_
  refine kv_getr C 86 rfl 54 4 rfl rfl inX3 (by decide) mfl_TaleMachine_Frames_22 rfl rfl (kdec dk_cX3_copyFrom 44 rfl) ?_
  refine kv_iconst C 87 rfl 0 (kdec dk_cX3_copyFrom 45 rfl) rfl ?_
  refine kv_bipush C 89 rfl 20 (kdec dk_cX3_copyFrom 46 rfl) rfl ?_
  refine kv_copy C 92 rfl 10 59 rfl rfl mml_TaleMachine_Frames_38 jc_n jc_s jc_i (by omega) (by omega) (by omega) (by omega) (by omega) (by decide) (Nat.le_of_ble_eq_true rfl) (kdec dk_cX3_copyFrom 47 rfl) (fun w32 u33 => ?_)
  have I34 : kI true w32 := kI_cpy u33 I30 (fun _ => rfl) (fun _ _ => rfl)
  have F35 : kF [(54, some 6), (54, some 7), (55, none), (56, none), (57, none), (58, none), (59, none), (60, none)] w w32 := kF_row u33 F31 (fun _ => rfl)
  refine kv_aload_n C 93 rfl 1 (kdec dk_cX3_copyFrom 48 rfl) rfl rfl ?_
  refine kv_getr C 96 rfl 5 5 rfl rfl inX3 (by decide) mfl_TaleMachine_Frames_25 rfl rfl (kdec dk_cX3_copyFrom 49 rfl) ?_
  refine kv_iconst C 97 rfl 0 (kdec dk_cX3_copyFrom 50 rfl) rfl ?_
  refine kv_aload_n C 98 rfl 0 (kdec dk_cX3_copyFrom 51 rfl) rfl rfl ?_
  refine kv_getr C 101 rfl 54 5 rfl rfl inX3 (by decide) mfl_TaleMachine_Frames_25 rfl rfl (kdec dk_cX3_copyFrom 52 rfl) ?_
  refine kv_iconst C 102 rfl 0 (kdec dk_cX3_copyFrom 53 rfl) rfl ?_
  refine kv_bipush C 104 rfl 20 (kdec dk_cX3_copyFrom 54 rfl) rfl ?_
  refine kv_copy C 107 rfl 11 60 rfl rfl mml_TaleMachine_Frames_38 jc_n jc_s jc_i (by omega) (by omega) (by omega) (by omega) (by omega) (by decide) (Nat.le_of_ble_eq_true rfl) (kdec dk_cX3_copyFrom 55 rfl) (fun w36 u37 => ?_)
  have I38 : kI true w36 := kI_cpy u37 I34 (fun _ => rfl) (fun _ _ => rfl)
  have F39 : kF [(54, some 6), (54, some 7), (55, none), (56, none), (57, none), (58, none), (59, none), (60, none)] w w36 := kF_row u37 F35 (fun _ => rfl)
  exact kv_vret C hr hlk (kdec dk_cX3_copyFrom 56 rfl) ⟨rfl, I38, F39⟩

set_option maxHeartbeats 4000000 in
set_option maxRecDepth 100000 in
theorem k_copyBack3 (l : Launch) (D : va_G) (τ : Nat → ClassId) (ρ σ : Nat → Nat) (w : kw)  (hI : kI true w)  :
    kM l D τ ρ σ yX3_copyFrom cX3_copyFrom 2 none { frames := 2, cells := 0, slots := 0, locals := 72 } [.ref (ρ 5), .ref (ρ 54)] w
      (fun o w' => o = none ∧ kI true w' ∧ kF [(5, some 6), (5, some 7), (6, none), (7, none), (8, none), (9, none), (10, none), (11, none)] w w') := by
  refine kM_of (own := "TaleMachine$Frames") rfl (by decide) (Nat.le_of_ble_eq_true rfl) ?_
  intro p e s m args below meth c C hr hlk
  have hF0 : kF [(5, some 6), (5, some 7), (6, none), (7, none), (8, none), (9, none), (10, none), (11, none)] w w := kF.rf
  have c_0 : (0 : Int32).toInt = 0 := by decide
  have c_20 : (20 : Int32).toInt = 20 := by decide
  have c_120 : (120 : Int32).toInt = 120 := by decide
  have c_300 : (300 : Int32).toInt = 300 := by decide
  refine kV.L (L' := [(0, .ref (ρ 5)), (1, .ref (ρ 54))]) rfl ?_
  refine kv_aload_n C 1 rfl 0 (kdec dk_cX3_copyFrom 0 rfl) rfl rfl ?_
  refine kv_aload_n C 2 rfl 1 (kdec dk_cX3_copyFrom 1 rfl) rfl rfl ?_
  obtain ⟨x1, e2⟩ : ∃ z : Int32, w 54 6 = z := ⟨_, rfl⟩
  have b3 : (0 : Int) ≤ x1.toInt ∧ x1.toInt ≤ 120 := by rw [← e2]; exact hI 54 6
  refine kv_get C 5 rfl 54 6 rfl rfl inX3 (by decide) mfl_TaleMachine_Frames_31 rfl rfl (kdec dk_cX3_copyFrom 2 rfl) e2 ?_
  refine kv_put C 8 rfl 5 6 rfl rfl inX3 (by decide) mfl_TaleMachine_Frames_31 rfl tyX3 tyX3_ok nmX3 rfl rfl (kdec dk_cX3_copyFrom 3 rfl) rfl rfl (fun w4 u5 => ?_)
  have I6 : kI true w4 := kI_put u5 hI (show (0 : Int) ≤ (x1 : Int32).toInt by omega) (show (x1 : Int32).toInt ≤ 120 by omega)
  have F7 : kF [(5, some 6), (5, some 7), (6, none), (7, none), (8, none), (9, none), (10, none), (11, none)] w w4 := kF_put u5 hF0 rfl
  refine kv_aload_n C 9 rfl 0 (kdec dk_cX3_copyFrom 4 rfl) rfl rfl ?_
  refine kv_aload_n C 10 rfl 1 (kdec dk_cX3_copyFrom 5 rfl) rfl rfl ?_
  obtain ⟨x8, e9⟩ : ∃ z : Int32, w 54 7 = z := ⟨_, rfl⟩
  have b10 : (1 : Int) ≤ x8.toInt ∧ x8.toInt ≤ 20 := by rw [← e9]; exact hI 54 7
  have e11 : w4 54 7 = x8 := ((kup_ne u5 rfl : w4 54 7 = w 54 7).trans e9)
  refine kv_get C 13 rfl 54 7 rfl rfl inX3 (by decide) mfl_TaleMachine_Frames_35 rfl rfl (kdec dk_cX3_copyFrom 6 rfl) e11 ?_
  refine kv_put C 16 rfl 5 7 rfl rfl inX3 (by decide) mfl_TaleMachine_Frames_35 rfl tyX3 tyX3_ok nmX3 rfl rfl (kdec dk_cX3_copyFrom 7 rfl) rfl rfl (fun w12 u13 => ?_)
  have I14 : kI true w12 := kI_put u13 I6 (show (1 : Int) ≤ (x8 : Int32).toInt by omega) (show (x8 : Int32).toInt ≤ 20 by omega)
  have F15 : kF [(5, some 6), (5, some 7), (6, none), (7, none), (8, none), (9, none), (10, none), (11, none)] w w12 := kF_put u13 F7 rfl
  refine kv_aload_n C 17 rfl 1 (kdec dk_cX3_copyFrom 8 rfl) rfl rfl ?_
  refine kv_getr C 20 rfl 54 0 rfl rfl inX3 (by decide) mfl_TaleMachine_Frames_9 rfl rfl (kdec dk_cX3_copyFrom 9 rfl) ?_
  refine kv_iconst C 21 rfl 0 (kdec dk_cX3_copyFrom 10 rfl) rfl ?_
  refine kv_aload_n C 22 rfl 0 (kdec dk_cX3_copyFrom 11 rfl) rfl rfl ?_
  refine kv_getr C 25 rfl 5 0 rfl rfl inX3 (by decide) mfl_TaleMachine_Frames_9 rfl rfl (kdec dk_cX3_copyFrom 12 rfl) ?_
  refine kv_iconst C 26 rfl 0 (kdec dk_cX3_copyFrom 13 rfl) rfl ?_
  refine kv_bipush C 28 rfl 120 (kdec dk_cX3_copyFrom 14 rfl) rfl ?_
  refine kv_copy C 31 rfl 55 6 rfl rfl mml_TaleMachine_Frames_38 jc_n jc_s jc_i (by omega) (by omega) (by omega) (by omega) (by omega) (by decide) (Nat.le_of_ble_eq_true rfl) (kdec dk_cX3_copyFrom 15 rfl) (fun w16 u17 => ?_)
  have I18 : kI true w16 := kI_cpy u17 I14 (fun _ => rfl) (fun _ _ => rfl)
  have F19 : kF [(5, some 6), (5, some 7), (6, none), (7, none), (8, none), (9, none), (10, none), (11, none)] w w16 := kF_row u17 F15 (fun _ => rfl)
  refine kv_aload_n C 32 rfl 1 (kdec dk_cX3_copyFrom 16 rfl) rfl rfl ?_
  refine kv_getr C 35 rfl 54 1 rfl rfl inX3 (by decide) mfl_TaleMachine_Frames_13 rfl rfl (kdec dk_cX3_copyFrom 17 rfl) ?_
  refine kv_iconst C 36 rfl 0 (kdec dk_cX3_copyFrom 18 rfl) rfl ?_
  refine kv_aload_n C 37 rfl 0 (kdec dk_cX3_copyFrom 19 rfl) rfl rfl ?_
  refine kv_getr C 40 rfl 5 1 rfl rfl inX3 (by decide) mfl_TaleMachine_Frames_13 rfl rfl (kdec dk_cX3_copyFrom 20 rfl) ?_
  refine kv_iconst C 41 rfl 0 (kdec dk_cX3_copyFrom 21 rfl) rfl ?_
  refine kv_sipush C 44 rfl 300 (kdec dk_cX3_copyFrom 22 rfl) rfl ?_
  refine kv_copy C 47 rfl 56 7 rfl rfl mml_TaleMachine_Frames_38 jc_n jc_s jc_i (by omega) (by omega) (by omega) (by omega) (by omega) (by decide) (Nat.le_of_ble_eq_true rfl) (kdec dk_cX3_copyFrom 23 rfl) (fun w20 u21 => ?_)
  have I22 : kI true w20 := kI_cpy u21 I18 (fun _ => rfl) (fun _ _ => rfl)
  have F23 : kF [(5, some 6), (5, some 7), (6, none), (7, none), (8, none), (9, none), (10, none), (11, none)] w w20 := kF_row u21 F19 (fun _ => rfl)
  refine kv_aload_n C 48 rfl 1 (kdec dk_cX3_copyFrom 24 rfl) rfl rfl ?_
  refine kv_getr C 51 rfl 54 2 rfl rfl inX3 (by decide) mfl_TaleMachine_Frames_16 rfl rfl (kdec dk_cX3_copyFrom 25 rfl) ?_
  refine kv_iconst C 52 rfl 0 (kdec dk_cX3_copyFrom 26 rfl) rfl ?_
  refine kv_aload_n C 53 rfl 0 (kdec dk_cX3_copyFrom 27 rfl) rfl rfl ?_
  refine kv_getr C 56 rfl 5 2 rfl rfl inX3 (by decide) mfl_TaleMachine_Frames_16 rfl rfl (kdec dk_cX3_copyFrom 28 rfl) ?_
  refine kv_iconst C 57 rfl 0 (kdec dk_cX3_copyFrom 29 rfl) rfl ?_
  refine kv_bipush C 59 rfl 20 (kdec dk_cX3_copyFrom 30 rfl) rfl ?_
  refine kv_copy C 62 rfl 57 8 rfl rfl mml_TaleMachine_Frames_38 jc_n jc_s jc_i (by omega) (by omega) (by omega) (by omega) (by omega) (by decide) (Nat.le_of_ble_eq_true rfl) (kdec dk_cX3_copyFrom 31 rfl) (fun w24 u25 => ?_)
  have I26 : kI true w24 := kI_cpy u25 I22 (fun _ => rfl) (fun _ _ => rfl)
  have F27 : kF [(5, some 6), (5, some 7), (6, none), (7, none), (8, none), (9, none), (10, none), (11, none)] w w24 := kF_row u25 F23 (fun _ => rfl)
  refine kv_aload_n C 63 rfl 1 (kdec dk_cX3_copyFrom 32 rfl) rfl rfl ?_
  refine kv_getr C 66 rfl 54 3 rfl rfl inX3 (by decide) mfl_TaleMachine_Frames_19 rfl rfl (kdec dk_cX3_copyFrom 33 rfl) ?_
  refine kv_iconst C 67 rfl 0 (kdec dk_cX3_copyFrom 34 rfl) rfl ?_
  refine kv_aload_n C 68 rfl 0 (kdec dk_cX3_copyFrom 35 rfl) rfl rfl ?_
  refine kv_getr C 71 rfl 5 3 rfl rfl inX3 (by decide) mfl_TaleMachine_Frames_19 rfl rfl (kdec dk_cX3_copyFrom 36 rfl) ?_
  refine kv_iconst C 72 rfl 0 (kdec dk_cX3_copyFrom 37 rfl) rfl ?_
  refine kv_bipush C 74 rfl 20 (kdec dk_cX3_copyFrom 38 rfl) rfl ?_
  refine kv_copy C 77 rfl 58 9 rfl rfl mml_TaleMachine_Frames_38 jc_n jc_s jc_i (by omega) (by omega) (by omega) (by omega) (by omega) (by decide) (Nat.le_of_ble_eq_true rfl) (kdec dk_cX3_copyFrom 39 rfl) (fun w28 u29 => ?_)
  have I30 : kI true w28 := kI_cpy u29 I26 (fun _ => rfl) (fun _ _ => rfl)
  have F31 : kF [(5, some 6), (5, some 7), (6, none), (7, none), (8, none), (9, none), (10, none), (11, none)] w w28 := kF_row u29 F27 (fun _ => rfl)
  refine kv_aload_n C 78 rfl 1 (kdec dk_cX3_copyFrom 40 rfl) rfl rfl ?_
  refine kv_getr C 81 rfl 54 4 rfl rfl inX3 (by decide) mfl_TaleMachine_Frames_22 rfl rfl (kdec dk_cX3_copyFrom 41 rfl) ?_
  refine kv_iconst C 82 rfl 0 (kdec dk_cX3_copyFrom 42 rfl) rfl ?_
  refine kv_aload_n C 83 rfl 0 (kdec dk_cX3_copyFrom 43 rfl) rfl rfl ?_
  refine kv_getr C 86 rfl 5 4 rfl rfl inX3 (by decide) mfl_TaleMachine_Frames_22 rfl rfl (kdec dk_cX3_copyFrom 44 rfl) ?_
  refine kv_iconst C 87 rfl 0 (kdec dk_cX3_copyFrom 45 rfl) rfl ?_
  refine kv_bipush C 89 rfl 20 (kdec dk_cX3_copyFrom 46 rfl) rfl ?_
  refine kv_copy C 92 rfl 59 10 rfl rfl mml_TaleMachine_Frames_38 jc_n jc_s jc_i (by omega) (by omega) (by omega) (by omega) (by omega) (by decide) (Nat.le_of_ble_eq_true rfl) (kdec dk_cX3_copyFrom 47 rfl) (fun w32 u33 => ?_)
  have I34 : kI true w32 := kI_cpy u33 I30 (fun _ => rfl) (fun _ _ => rfl)
  have F35 : kF [(5, some 6), (5, some 7), (6, none), (7, none), (8, none), (9, none), (10, none), (11, none)] w w32 := kF_row u33 F31 (fun _ => rfl)
  refine kv_aload_n C 93 rfl 1 (kdec dk_cX3_copyFrom 48 rfl) rfl rfl ?_
  refine kv_getr C 96 rfl 54 5 rfl rfl inX3 (by decide) mfl_TaleMachine_Frames_25 rfl rfl (kdec dk_cX3_copyFrom 49 rfl) ?_
  refine kv_iconst C 97 rfl 0 (kdec dk_cX3_copyFrom 50 rfl) rfl ?_
  refine kv_aload_n C 98 rfl 0 (kdec dk_cX3_copyFrom 51 rfl) rfl rfl ?_
  refine kv_getr C 101 rfl 5 5 rfl rfl inX3 (by decide) mfl_TaleMachine_Frames_25 rfl rfl (kdec dk_cX3_copyFrom 52 rfl) ?_
  refine kv_iconst C 102 rfl 0 (kdec dk_cX3_copyFrom 53 rfl) rfl ?_
  refine kv_bipush C 104 rfl 20 (kdec dk_cX3_copyFrom 54 rfl) rfl ?_
  refine kv_copy C 107 rfl 60 11 rfl rfl mml_TaleMachine_Frames_38 jc_n jc_s jc_i (by omega) (by omega) (by omega) (by omega) (by omega) (by decide) (Nat.le_of_ble_eq_true rfl) (kdec dk_cX3_copyFrom 55 rfl) (fun w36 u37 => ?_)
  have I38 : kI true w36 := kI_cpy u37 I34 (fun _ => rfl) (fun _ _ => rfl)
  have F39 : kF [(5, some 6), (5, some 7), (6, none), (7, none), (8, none), (9, none), (10, none), (11, none)] w w36 := kF_row u37 F35 (fun _ => rfl)
  exact kv_vret C hr hlk (kdec dk_cX3_copyFrom 56 rfl) ⟨rfl, I38, F39⟩

set_option maxHeartbeats 4000000 in
set_option maxRecDepth 100000 in
theorem k_changeAt (l : Launch) (D : va_G) (τ : Nat → ClassId) (ρ σ : Nat → Nat) (w : kw) (a2 : Int32) (hI : kI true w) (hp0 : 0 ≤ a2.toInt ∧ a2.toInt < 1024) :
    kM l D τ ρ σ yX5_changeAt cX5_changeAt 2 (some .int) { frames := 0, cells := 0, slots := 0, locals := 0 } [.ref (ρ 2), .int a2] w
      (fun o w' => ∃ r : Int32, o = some (.int r) ∧ kI true w' ∧ kF [] w w' ∧ (0 ≤ r.toInt ∧ r.toInt ≤ 255)) := by
  refine kM_of (own := "TaleMachine$Slot") rfl (by decide) (Nat.le_of_ble_eq_true rfl) ?_
  intro p e s m args below meth c C hr hlk
  have hF0 : kF [] w w := kF.rf
  refine kV.L (L' := [(0, .ref (ρ 2)), (1, .int a2)]) rfl ?_
  have g1 := kf_rng a2
  refine kv_aload_n C 1 rfl 0 (kdec dk_cX5_changeAt 0 rfl) rfl rfl ?_
  refine kv_getrN C 4 rfl 2 0 rfl rfl inX6 (by decide) mfn_TaleMachine_Slot_61 rfl rfl (kdec dk_cX5_changeAt 1 rfl) ?_
  refine kv_iload_n C 5 rfl 1 (kdec dk_cX5_changeAt 2 rfl) rfl rfl ?_
  obtain ⟨x2, e3⟩ : ∃ z : Int32, w 3 (a2 : Int32).toNatClampNeg = z := ⟨_, rfl⟩
  have b4 : (0 : Int) ≤ x2.toInt ∧ x2.toInt ≤ 255 := by rw [← e3]; exact hI 3 _
  refine kv_iald C 6 rfl 3 rfl (by omega) (by omega) e3 (kdec dk_cX5_changeAt 3 rfl) ?_
  refine kv_aload_n C 7 rfl 0 (kdec dk_cX5_changeAt 4 rfl) rfl rfl ?_
  refine kv_getrN C 10 rfl 2 1 rfl rfl inX6 (by decide) mfn_TaleMachine_Slot_64 rfl rfl (kdec dk_cX5_changeAt 5 rfl) ?_
  refine kv_iload_n C 11 rfl 1 (kdec dk_cX5_changeAt 6 rfl) rfl rfl ?_
  obtain ⟨x5, e6⟩ : ∃ z : Int32, w 4 (a2 : Int32).toNatClampNeg = z := ⟨_, rfl⟩
  have b7 : (0 : Int) ≤ x5.toInt ∧ x5.toInt ≤ 255 := by rw [← e6]; exact hI 4 _
  refine kv_iald C 12 rfl 4 rfl (by omega) (by omega) e6 (kdec dk_cX5_changeAt 7 rfl) ?_
  refine kv_ixor C 13 rfl (kdec dk_cX5_changeAt 8 rfl) (fun x8 h9e h9l h9u => ?_)
  have g10 := kf_xor255 h9e (by omega) (by omega) (by omega) (by omega)
  exact kv_iret C hr hlk (kdec dk_cX5_changeAt 9 rfl) ⟨_, rfl, hI, hF0, (by omega)⟩

set_option maxHeartbeats 4000000 in
set_option maxRecDepth 100000 in
theorem k_s_add0 (l : Launch) (D : va_G) (τ : Nat → ClassId) (ρ σ : Nat → Nat) (w : kw) (a1 : Int32) (hI : kI true w) (hp0 : 0 ≤ a1.toInt ∧ a1.toInt ≤ 255) :
    kM l D τ ρ σ yX5_add cX5_add 2 none { frames := 0, cells := 0, slots := 0, locals := 0 } [.ref (ρ 25), .int a1] w
      (fun o w' => o = none ∧ kI true w' ∧ kF [(25, some 3), (26, none)] w w') := by
  refine kM_of (own := "TaleMachine$Slot") rfl (by decide) (Nat.le_of_ble_eq_true rfl) ?_
  intro p e s m args below meth c C hr hlk
  have hF0 : kF [(25, some 3), (26, none)] w w := kF.rf
  have c_1 : (1 : Int32).toInt = 1 := by decide
  have c_1536 : (1536 : Int32).toInt = 1536 := by decide
  refine kV.L (L' := [(0, .ref (ρ 25)), (1, .int a1)]) rfl ?_
  have g1 := kf_rng a1
  refine kv_aload_n C 1 rfl 0 (kdec dk_cX5_add 0 rfl) rfl rfl ?_
  obtain ⟨x2, e3⟩ : ∃ z : Int32, w 25 3 = z := ⟨_, rfl⟩
  have b4 : (0 : Int) ≤ x2.toInt ∧ x2.toInt ≤ 1536 := by rw [← e3]; exact hI 25 3
  refine kv_get C 4 rfl 25 3 rfl rfl inX5 (by decide) mfl_TaleMachine_Slot_67 rfl rfl (kdec dk_cX5_add 1 rfl) e3 ?_
  refine kv_aload_n C 5 rfl 0 (kdec dk_cX5_add 2 rfl) rfl rfl ?_
  refine kv_getr C 8 rfl 25 0 rfl rfl inX5 (by decide) mfl_TaleMachine_Slot_11 rfl rfl (kdec dk_cX5_add 3 rfl) ?_
  refine kv_alen C 9 rfl 26 1536 rfl (by decide) rfl (kdec dk_cX5_add 4 rfl) ?_
  refine kv_icmp_ge C 12 rfl 32 (kdec dk_cX5_add 5 rfl) (by decide) (fun d5 => ?_) (fun d5 => ?_)
  · skip
    exact kv_vret C hr hlk (kdec dk_cX5_add 18 rfl) ⟨rfl, hI, hF0⟩
  · skip
    refine kv_aload_n C 13 rfl 0 (kdec dk_cX5_add 6 rfl) rfl rfl ?_
    refine kv_getr C 16 rfl 25 0 rfl rfl inX5 (by decide) mfl_TaleMachine_Slot_11 rfl rfl (kdec dk_cX5_add 7 rfl) ?_
    refine kv_aload_n C 17 rfl 0 (kdec dk_cX5_add 8 rfl) rfl rfl ?_
    refine kv_get C 20 rfl 25 3 rfl rfl inX5 (by decide) mfl_TaleMachine_Slot_67 rfl rfl (kdec dk_cX5_add 9 rfl) e3 ?_
    refine kv_iload_n C 21 rfl 1 (kdec dk_cX5_add 10 rfl) rfl rfl ?_
    refine kv_iast C 22 rfl 26 rfl (by omega) (by omega) (kdec dk_cX5_add 11 rfl) (fun w6 u7 => ?_)
    have I8 : kI true w6 := kI_put u7 hI (show (0 : Int) ≤ (a1 : Int32).toInt by omega) (show (a1 : Int32).toInt ≤ 255 by omega)
    have F9 : kF [(25, some 3), (26, none)] w w6 := kF_put u7 hF0 rfl
    refine kv_aload_n C 23 rfl 0 (kdec dk_cX5_add 12 rfl) rfl rfl ?_
    refine kv_dup C 24 rfl (kdec dk_cX5_add 13 rfl) rfl ?_
    have e10 : w6 25 3 = x2 := ((kup_ne u7 rfl : w6 25 3 = w 25 3).trans e3)
    refine kv_get C 27 rfl 25 3 rfl rfl inX5 (by decide) mfl_TaleMachine_Slot_67 rfl rfl (kdec dk_cX5_add 14 rfl) e10 ?_
    refine kv_iconst C 28 rfl 1 (kdec dk_cX5_add 15 rfl) rfl ?_
    refine kv_iadd C 29 rfl (kdec dk_cX5_add 16 rfl) (fun x11 q13 h12e h12 h12l h12u => ?_)
    try have h12n : x11.toInt = x2.toInt + (1 : Int32).toInt := by omega
    clear h12 q13
    refine kv_put C 32 rfl 25 3 rfl rfl inX5 (by decide) mfl_TaleMachine_Slot_67 rfl tyX5 tyX5_ok nmX5 rfl rfl (kdec dk_cX5_add 17 rfl) rfl rfl (fun w14 u15 => ?_)
    have I16 : kI true w14 := kI_put u15 I8 (show (0 : Int) ≤ (x11 : Int32).toInt by omega) (show (x11 : Int32).toInt ≤ 1536 by omega)
    have F17 : kF [(25, some 3), (26, none)] w w14 := kF_put u15 F9 rfl
    exact kv_vret C hr hlk (kdec dk_cX5_add 18 rfl) ⟨rfl, I16, F17⟩

set_option maxHeartbeats 4000000 in
set_option maxRecDepth 100000 in
theorem k_s_squeeze0 (l : Launch) (D : va_G) (τ : Nat → ClassId) (ρ σ : Nat → Nat) (w : kw)  (hI : kI true w)  :
    kM l D τ ρ σ yX5_squeeze cX5_squeeze 6 none { frames := 1, cells := 0, slots := 0, locals := 36 } [.ref (ρ 25), .ref (ρ 2)] w
      (fun o w' => o = none ∧ kI true w' ∧ kF [(25, some 3), (26, none)] w w') := by
  refine kM_of (own := "TaleMachine$Slot") rfl (by decide) (Nat.le_of_ble_eq_true rfl) ?_
  intro p e s m args below meth c C hr hlk
  have hF0 : kF [(25, some 3), (26, none)] w w := kF.rf
  have c_0 : (0 : Int32).toInt = 0 := by decide
  have c_1 : (1 : Int32).toInt = 1 := by decide
  have c_255 : (255 : Int32).toInt = 255 := by decide
  refine kV.L (L' := [(0, .ref (ρ 25)), (1, .ref (ρ 2))]) rfl ?_
  have cut32 : ∀ (n_32 : Nat) (w_32 : kw) (l2_32 l3_32 : Int32), kI true w_32 → kF [(25, some 3), (26, none)] w w_32 → (0 ≤ l3_32.toInt ∧ l3_32.toInt ≤ l2_32.toInt ∧ l2_32.toInt ≤ 1024) → ((1025 - l3_32.toInt) : Int) < (n_32 : Int) → kV p l e { frames := 1, cells := 0, slots := 0, locals := 36 } s m args below meth c (kQ below args s D τ ρ (fun o w' => o = none ∧ kI true w' ∧ kF [(25, some 3), (26, none)] w w')) 6 D τ ρ 32 [(0, .ref (ρ 25)), (1, .ref (ρ 2)), (2, .int l2_32), (3, .int l3_32)] [] w_32 := by
    intro n_32
    induction n_32 with
    | zero => intro w_32 l2_32 l3_32 I_32 F_32 k32_0 hmz; exfalso; omega
    | succ n_32 ih32 =>
      intro w_32 l2_32 l3_32 I_32 F_32 k32_0 hm32
      have gl2_32 := kf_rng l2_32
      have gl3_32 := kf_rng l3_32
      have cut90 : ∀ (w_90 : kw) (l2_90 l3_90 l5_90 : Int32), kI true w_90 → kF [(25, some 3), (26, none)] w w_90 → (0 ≤ l5_90.toInt ∧ l5_90.toInt ≤ l3_90.toInt ∧ l3_90.toInt ≤ l5_90.toInt + 255 ∧ l3_90.toInt ≤ l2_90.toInt ∧ l2_90.toInt ≤ 1024) → (l3_32.toInt < l3_90.toInt) → kV p l e { frames := 1, cells := 0, slots := 0, locals := 36 } s m args below meth c (kQ below args s D τ ρ (fun o w' => o = none ∧ kI true w' ∧ kF [(25, some 3), (26, none)] w w')) 6 D τ ρ 90 [(0, .ref (ρ 25)), (1, .ref (ρ 2)), (2, .int l2_90), (3, .int l3_90), (5, .int l5_90)] [] w_90 := by
        intro w_90 l2_90 l3_90 l5_90 I_90 F_90 k90_0 k90_1
        have gl2_90 := kf_rng l2_90
        have gl3_90 := kf_rng l3_90
        have gl5_90 := kf_rng l5_90
        refine kv_aload_n C 91 rfl 0 (kdec dk_cX5_squeeze 47 rfl) rfl rfl ?_
        refine kv_iload_n C 92 rfl 3 (kdec dk_cX5_squeeze 48 rfl) rfl rfl ?_
        refine kv_iload C 94 rfl 4 (kdec dk_cX5_squeeze 49 rfl) rfl ?_
        refine kv_isub C 95 rfl (kdec dk_cX5_squeeze 50 rfl) (fun x1 q3 h2e h2 h2l h2u => ?_)
        try have h2n : x1.toInt = l3_90.toInt - l5_90.toInt := by omega
        clear h2 q3
        refine kv_callVv (As := [.int x1]) (rest := []) C 98 rfl 25 (k_s_add0 l D τ ρ σ w_90 x1 I_90 (by omega)) rfl rfl mml_TaleMachine_Slot_77 mim_yX5_add mse_yX5_add mcd_yX5_add min_yX5_add hd_yX5_add rfl rfl rfl (by decide) rfl (Nat.le_of_ble_eq_true rfl) (kdec dk_cX5_squeeze 51 rfl) (fun w4 h5 => ?_)
        obtain ⟨I6, f7⟩ := h5
        have F9 : kF [(25, some 3), (26, none)] w w4 := kF_call F_90 f7 (by decide)
        refine kv_goto C 32 (kdec dk_cX5_squeeze 52 rfl) (by decide) ?_
        refine kV.sub [0, 1, 2, 3] (L' := [(0, .ref (ρ 25)), (1, .ref (ρ 2)), (2, .int l2_90), (3, .int l3_90)]) rfl ?_
        exact ih32 w4 l2_90 l3_90 I6 F9 (by omega) (by omega)
      have cut61 : ∀ (n_61 : Nat) (w_61 : kw) (l2_61 l3_61 l5_61 : Int32), kI true w_61 → kF [(25, some 3), (26, none)] w w_61 → (0 ≤ l5_61.toInt ∧ l5_61.toInt ≤ l3_61.toInt ∧ l3_61.toInt ≤ l5_61.toInt + 255 ∧ l3_61.toInt ≤ l2_61.toInt ∧ l2_61.toInt ≤ 1024) → (l3_32.toInt < l3_61.toInt) → ((1025 - l3_61.toInt) : Int) < (n_61 : Int) → kV p l e { frames := 1, cells := 0, slots := 0, locals := 36 } s m args below meth c (kQ below args s D τ ρ (fun o w' => o = none ∧ kI true w' ∧ kF [(25, some 3), (26, none)] w w')) 6 D τ ρ 61 [(0, .ref (ρ 25)), (1, .ref (ρ 2)), (2, .int l2_61), (3, .int l3_61), (5, .int l5_61)] [] w_61 := by
        intro n_61
        induction n_61 with
        | zero => intro w_61 l2_61 l3_61 l5_61 I_61 F_61 k61_0 k61_1 hmz; exfalso; omega
        | succ n_61 ih61 =>
          intro w_61 l2_61 l3_61 l5_61 I_61 F_61 k61_0 k61_1 hm61
          have gl2_61 := kf_rng l2_61
          have gl3_61 := kf_rng l3_61
          have gl5_61 := kf_rng l5_61
          refine kv_iload_n C 62 rfl 3 (kdec dk_cX5_squeeze 33 rfl) rfl rfl ?_
          refine kv_iload_n C 63 rfl 2 (kdec dk_cX5_squeeze 34 rfl) rfl rfl ?_
          refine kv_icmp_ge C 66 rfl 90 (kdec dk_cX5_squeeze 35 rfl) (by decide) (fun d10 => ?_) (fun d10 => ?_)
          · skip
            exact cut90 w_61 l2_61 l3_61 l5_61 I_61 F_61 (by omega) (by omega)
          · skip
            refine kv_iload_n C 67 rfl 3 (kdec dk_cX5_squeeze 36 rfl) rfl rfl ?_
            refine kv_iload C 69 rfl 4 (kdec dk_cX5_squeeze 37 rfl) rfl ?_
            refine kv_isub C 70 rfl (kdec dk_cX5_squeeze 38 rfl) (fun x11 q13 h12e h12 h12l h12u => ?_)
            try have h12n : x11.toInt = l3_61.toInt - l5_61.toInt := by omega
            clear h12 q13
            refine kv_sipush C 73 rfl 255 (kdec dk_cX5_squeeze 39 rfl) rfl ?_
            refine kv_icmp_ge C 76 rfl 90 (kdec dk_cX5_squeeze 40 rfl) (by decide) (fun d14 => ?_) (fun d14 => ?_)
            · skip
              exact cut90 w_61 l2_61 l3_61 l5_61 I_61 F_61 (by omega) (by omega)
            · skip
              refine kv_aload_n C 77 rfl 1 (kdec dk_cX5_squeeze 41 rfl) rfl rfl ?_
              refine kv_iload_n C 78 rfl 3 (kdec dk_cX5_squeeze 42 rfl) rfl rfl ?_
              refine kv_callSi (As := [.ref (ρ 2), .int l3_61]) (rest := []) C 81 rfl (k_changeAt l D τ ρ σ w_61 l3_61 I_61 (by omega)) mml_TaleMachine_Slot_73 mst_yX5_changeAt mcd_yX5_changeAt min_yX5_changeAt hd_yX5_changeAt rfl rfl rfl (by decide) rfl (Nat.le_of_ble_eq_true rfl) (kdec dk_cX5_squeeze 43 rfl) (fun x19 w15 h16 => ?_)
              obtain ⟨I17, f18, p20⟩ := h16
              have F21 : kF [(25, some 3), (26, none)] w w15 := kF_call F_61 f18 (by decide)
              have g22 := kf_rng x19
              refine kv_if_ne C 84 rfl 90 (kdec dk_cX5_squeeze 44 rfl) (by decide) (fun d23 => ?_) (fun d23 => ?_)
              · skip
                exact cut90 w15 l2_61 l3_61 l5_61 I17 F21 (by omega) (by omega)
              · skip
                refine kv_iinc C 87 rfl 3 3 [1, 2, 3, 0, 4] (fun v9 => [(0, .ref (ρ 25)), (1, .ref (ρ 2)), (2, .int l2_61), (3, .int v9), (5, .int l5_61)]) (kdec dk_cX5_squeeze 45 rfl) rfl (by decide) (fun _ => rfl) 1 rfl (fun x24 q25 h26e h26 h26l h26u => ?_)
                try have h26n : x24.toInt = l3_61.toInt + 1 := by omega
                clear h26 q25
                refine kv_goto C 61 (kdec dk_cX5_squeeze 46 rfl) (by decide) ?_
                exact ih61 w15 l2_61 x24 l5_61 I17 F21 (by omega) (by omega) (by omega)
      refine kv_iload_n C 33 rfl 3 (kdec dk_cX5_squeeze 18 rfl) rfl rfl ?_
      refine kv_iload_n C 34 rfl 2 (kdec dk_cX5_squeeze 19 rfl) rfl rfl ?_
      refine kv_icmp_ge C 37 rfl 101 (kdec dk_cX5_squeeze 20 rfl) (by decide) (fun d27 => ?_) (fun d27 => ?_)
      · skip
        exact kv_vret C hr hlk (kdec dk_cX5_squeeze 53 rfl) ⟨rfl, I_32, F_32⟩
      · skip
        refine kv_aload_n C 38 rfl 1 (kdec dk_cX5_squeeze 21 rfl) rfl rfl ?_
        refine kv_iload_n C 39 rfl 3 (kdec dk_cX5_squeeze 22 rfl) rfl rfl ?_
        refine kv_callSi (As := [.ref (ρ 2), .int l3_32]) (rest := []) C 42 rfl (k_changeAt l D τ ρ σ w_32 l3_32 I_32 (by omega)) mml_TaleMachine_Slot_73 mst_yX5_changeAt mcd_yX5_changeAt min_yX5_changeAt hd_yX5_changeAt rfl rfl rfl (by decide) rfl (Nat.le_of_ble_eq_true rfl) (kdec dk_cX5_squeeze 23 rfl) (fun x32 w28 h29 => ?_)
        obtain ⟨I30, f31, p33⟩ := h29
        have F34 : kF [(25, some 3), (26, none)] w w28 := kF_call F_32 f31 (by decide)
        have g35 := kf_rng x32
        refine kv_istore C 44 rfl 4 [1, 2, 3, 4, 0] [(0, .ref (ρ 25)), (1, .ref (ρ 2)), (2, .int l2_32), (3, .int l3_32), (4, .int x32)] (kdec dk_cX5_squeeze 24 rfl) (by decide) rfl ?_
        refine kv_aload_n C 45 rfl 0 (kdec dk_cX5_squeeze 25 rfl) rfl rfl ?_
        refine kv_iload C 47 rfl 4 (kdec dk_cX5_squeeze 26 rfl) rfl ?_
        refine kv_callVv (As := [.int x32]) (rest := []) C 50 rfl 25 (k_s_add0 l D τ ρ σ w28 x32 I30 (by omega)) rfl rfl mml_TaleMachine_Slot_77 mim_yX5_add mse_yX5_add mcd_yX5_add min_yX5_add hd_yX5_add rfl rfl rfl (by decide) rfl (Nat.le_of_ble_eq_true rfl) (kdec dk_cX5_squeeze 27 rfl) (fun w36 h37 => ?_)
        obtain ⟨I38, f39⟩ := h37
        have F41 : kF [(25, some 3), (26, none)] w w36 := kF_call F34 f39 (by decide)
        refine kv_iinc C 53 rfl 3 3 [1, 2, 3, 0, 4] (fun v9 => [(0, .ref (ρ 25)), (1, .ref (ρ 2)), (2, .int l2_32), (3, .int v9), (4, .int x32)]) (kdec dk_cX5_squeeze 28 rfl) rfl (by decide) (fun _ => rfl) 1 rfl (fun x42 q43 h44e h44 h44l h44u => ?_)
        try have h44n : x42.toInt = l3_32.toInt + 1 := by omega
        clear h44 q43
        refine kv_iload C 55 rfl 4 (kdec dk_cX5_squeeze 29 rfl) rfl ?_
        refine kv_if_ne C 58 rfl 98 (kdec dk_cX5_squeeze 30 rfl) (by decide) (fun d45 => ?_) (fun d45 => ?_)
        · skip
          refine kv_goto C 32 (kdec dk_cX5_squeeze 52 rfl) (by decide) ?_
          refine kV.sub [0, 1, 2, 3] (L' := [(0, .ref (ρ 25)), (1, .ref (ρ 2)), (2, .int l2_32), (3, .int x42)]) rfl ?_
          exact ih32 w36 l2_32 x42 I38 F41 (by omega) (by omega)
        · skip
          refine kv_iload_n C 59 rfl 3 (kdec dk_cX5_squeeze 31 rfl) rfl rfl ?_
          refine kv_istore C 61 rfl 5 [1, 2, 3, 4, 5, 0] [(0, .ref (ρ 25)), (1, .ref (ρ 2)), (2, .int l2_32), (3, .int x42), (4, .int x32), (5, .int x42)] (kdec dk_cX5_squeeze 32 rfl) (by decide) rfl ?_
          refine kV.sub [0, 1, 2, 3, 5] (L' := [(0, .ref (ρ 25)), (1, .ref (ρ 2)), (2, .int l2_32), (3, .int x42), (5, .int x42)]) rfl ?_
          exact cut61 ((((1025 - (x42 : Int32).toInt)) : Int).toNat + 1) w36 l2_32 x42 x42 I38 F41 (by omega) (by omega) (by omega)
  have cut30 : ∀ (w_30 : kw) (l2_30 : Int32), kI true w_30 → kF [(25, some 3), (26, none)] w w_30 → (0 ≤ l2_30.toInt ∧ l2_30.toInt ≤ 1024) → kV p l e { frames := 1, cells := 0, slots := 0, locals := 36 } s m args below meth c (kQ below args s D τ ρ (fun o w' => o = none ∧ kI true w' ∧ kF [(25, some 3), (26, none)] w w')) 6 D τ ρ 30 [(0, .ref (ρ 25)), (1, .ref (ρ 2)), (2, .int l2_30)] [] w_30 := by
    intro w_30 l2_30 I_30 F_30 k30_0
    have gl2_30 := kf_rng l2_30
    refine kv_iconst C 31 rfl 0 (kdec dk_cX5_squeeze 16 rfl) rfl ?_
    refine kv_istore_n C 32 rfl 3 [1, 2, 3, 0] [(0, .ref (ρ 25)), (1, .ref (ρ 2)), (2, .int l2_30), (3, .int 0)] (kdec dk_cX5_squeeze 17 rfl) rfl (by decide) rfl ?_
    exact cut32 ((((1025 - (0 : Int32).toInt)) : Int).toNat + 1) w_30 l2_30 0 I_30 F_30 (by omega) (by omega)
  have cut10 : ∀ (n_10 : Nat) (w_10 : kw) (l2_10 : Int32), kI true w_10 → kF [(25, some 3), (26, none)] w w_10 → (0 ≤ l2_10.toInt ∧ l2_10.toInt ≤ 1024) → (l2_10.toInt : Int) < (n_10 : Int) → kV p l e { frames := 1, cells := 0, slots := 0, locals := 36 } s m args below meth c (kQ below args s D τ ρ (fun o w' => o = none ∧ kI true w' ∧ kF [(25, some 3), (26, none)] w w')) 6 D τ ρ 10 [(0, .ref (ρ 25)), (1, .ref (ρ 2)), (2, .int l2_10)] [] w_10 := by
    intro n_10
    induction n_10 with
    | zero => intro w_10 l2_10 I_10 F_10 k10_0 hmz; exfalso; omega
    | succ n_10 ih10 =>
      intro w_10 l2_10 I_10 F_10 k10_0 hm10
      have gl2_10 := kf_rng l2_10
      refine kv_iload_n C 11 rfl 2 (kdec dk_cX5_squeeze 6 rfl) rfl rfl ?_
      refine kv_if_le C 14 rfl 30 (kdec dk_cX5_squeeze 7 rfl) (by decide) (fun d46 => ?_) (fun d46 => ?_)
      · skip
        exact cut30 w_10 l2_10 I_10 F_10 (by omega)
      · skip
        refine kv_aload_n C 15 rfl 1 (kdec dk_cX5_squeeze 8 rfl) rfl rfl ?_
        refine kv_iload_n C 16 rfl 2 (kdec dk_cX5_squeeze 9 rfl) rfl rfl ?_
        refine kv_iconst C 17 rfl 1 (kdec dk_cX5_squeeze 10 rfl) rfl ?_
        refine kv_isub C 18 rfl (kdec dk_cX5_squeeze 11 rfl) (fun x47 q49 h48e h48 h48l h48u => ?_)
        try have h48n : x47.toInt = l2_10.toInt - (1 : Int32).toInt := by omega
        clear h48 q49
        refine kv_callSi (As := [.ref (ρ 2), .int x47]) (rest := []) C 21 rfl (k_changeAt l D τ ρ σ w_10 x47 I_10 (by omega)) mml_TaleMachine_Slot_73 mst_yX5_changeAt mcd_yX5_changeAt min_yX5_changeAt hd_yX5_changeAt rfl rfl rfl (by decide) rfl (Nat.le_of_ble_eq_true rfl) (kdec dk_cX5_squeeze 12 rfl) (fun x54 w50 h51 => ?_)
        obtain ⟨I52, f53, p55⟩ := h51
        have F56 : kF [(25, some 3), (26, none)] w w50 := kF_call F_10 f53 (by decide)
        have g57 := kf_rng x54
        refine kv_if_ne C 24 rfl 30 (kdec dk_cX5_squeeze 13 rfl) (by decide) (fun d58 => ?_) (fun d58 => ?_)
        · skip
          exact cut30 w50 l2_10 I52 F56 (by omega)
        · skip
          refine kv_iinc C 27 rfl 2 2 [1, 2, 0] (fun v9 => [(0, .ref (ρ 25)), (1, .ref (ρ 2)), (2, .int v9)]) (kdec dk_cX5_squeeze 14 rfl) rfl (by decide) (fun _ => rfl) (-1) rfl (fun x59 q60 h61e h61 h61l h61u => ?_)
          try have h61n : x59.toInt = l2_10.toInt + (-1) := by omega
          clear h61 q60
          refine kv_goto C 10 (kdec dk_cX5_squeeze 15 rfl) (by decide) ?_
          exact ih10 w50 x59 I52 F56 (by omega) (by omega)
  refine kv_aload_n C 1 rfl 0 (kdec dk_cX5_squeeze 0 rfl) rfl rfl ?_
  refine kv_iconst C 2 rfl 0 (kdec dk_cX5_squeeze 1 rfl) rfl ?_
  refine kv_put C 5 rfl 25 3 rfl rfl inX5 (by decide) mfl_TaleMachine_Slot_67 rfl tyX5 tyX5_ok nmX5 rfl rfl (kdec dk_cX5_squeeze 2 rfl) rfl rfl (fun w62 u63 => ?_)
  have I64 : kI true w62 := kI_put u63 hI (show (0 : Int) ≤ (0 : Int32).toInt by omega) (show (0 : Int32).toInt ≤ 1536 by omega)
  have F65 : kF [(25, some 3), (26, none)] w w62 := kF_put u63 hF0 rfl
  refine kv_aload_n C 6 rfl 1 (kdec dk_cX5_squeeze 3 rfl) rfl rfl ?_
  obtain ⟨x66, e67⟩ : ∃ z : Int32, w 2 3 = z := ⟨_, rfl⟩
  have b68 : (0 : Int) ≤ x66.toInt ∧ x66.toInt ≤ 1024 := by rw [← e67]; exact hI 2 3
  have e69 : w62 2 3 = x66 := ((kup_ne u63 rfl : w62 2 3 = w 2 3).trans e67)
  refine kv_getN C 9 rfl 2 3 rfl rfl inX6 (by decide) mfn_TaleMachine_Slot_70 rfl rfl (kdec dk_cX5_squeeze 4 rfl) e69 ?_
  refine kv_istore_n C 10 rfl 2 [1, 2, 0] [(0, .ref (ρ 25)), (1, .ref (ρ 2)), (2, .int x66)] (kdec dk_cX5_squeeze 5 rfl) rfl (by decide) rfl ?_
  exact cut10 ((((x66 : Int32).toInt) : Int).toNat + 1) w62 x66 I64 F65 (by omega) (by omega)

set_option maxHeartbeats 4000000 in
set_option maxRecDepth 100000 in
theorem k_s_expand0 (l : Launch) (D : va_G) (τ : Nat → ClassId) (ρ σ : Nat → Nat) (w : kw)  (hI : kI true w)  :
    kM l D τ ρ σ yX5_expand cX5_expand 4 none { frames := 3, cells := 0, slots := 0, locals := 108 } [.ref (ρ 25), .ref (ρ 2)] w
      (fun o w' => o = none ∧ kI true w' ∧ kF [(3, none)] w w') := by
  refine kM_of (own := "TaleMachine$Slot") rfl (by decide) (Nat.le_of_ble_eq_true rfl) ?_
  intro p e s m args below meth c C hr hlk
  have hF0 : kF [(3, none)] w w := kF.rf
  have c_0 : (0 : Int32).toInt = 0 := by decide
  have c_1 : (1 : Int32).toInt = 1 := by decide
  refine kV.L (L' := [(0, .ref (ρ 25)), (1, .ref (ρ 2))]) rfl ?_
  have cut8 : ∀ (n_8 : Nat) (w_8 : kw) (l2_8 l3_8 : Int32), kI true w_8 → kF [(3, none)] w w_8 → (0 ≤ l2_8.toInt ∧ l2_8.toInt ≤ 1280) → (0 ≤ l3_8.toInt ∧ l3_8.toInt ≤ 1536) → ((1537 - l3_8.toInt) : Int) < (n_8 : Int) → kV p l e { frames := 3, cells := 0, slots := 0, locals := 108 } s m args below meth c (kQ below args s D τ ρ (fun o w' => o = none ∧ kI true w' ∧ kF [(3, none)] w w')) 4 D τ ρ 8 [(0, .ref (ρ 25)), (1, .ref (ρ 2)), (2, .int l2_8), (3, .int l3_8)] [] w_8 := by
    intro n_8
    induction n_8 with
    | zero => intro w_8 l2_8 l3_8 I_8 F_8 k8_0 k8_1 hmz; exfalso; omega
    | succ n_8 ih8 =>
      intro w_8 l2_8 l3_8 I_8 F_8 k8_0 k8_1 hm8
      have gl2_8 := kf_rng l2_8
      have gl3_8 := kf_rng l3_8
      have cut77 : ∀ (w_77 : kw) (l2_77 l3_77 : Int32), kI true w_77 → kF [(3, none)] w w_77 → (0 ≤ l2_77.toInt ∧ l2_77.toInt ≤ 1279) → (l3_8.toInt ≤ l3_77.toInt ∧ l3_77.toInt < 1536) → kV p l e { frames := 3, cells := 0, slots := 0, locals := 108 } s m args below meth c (kQ below args s D τ ρ (fun o w' => o = none ∧ kI true w' ∧ kF [(3, none)] w w')) 4 D τ ρ 77 [(0, .ref (ρ 25)), (1, .ref (ρ 2)), (2, .int l2_77), (3, .int l3_77)] [] w_77 := by
        intro w_77 l2_77 l3_77 I_77 F_77 k77_0 k77_1
        have gl2_77 := kf_rng l2_77
        have gl3_77 := kf_rng l3_77
        refine kv_iinc C 80 rfl 2 2 [1, 2, 0, 3] (fun v9 => [(0, .ref (ρ 25)), (1, .ref (ρ 2)), (2, .int v9), (3, .int l3_77)]) (kdec dk_cX5_expand 47 rfl) rfl (by decide) (fun _ => rfl) 1 rfl (fun x1 q2 h3e h3 h3l h3u => ?_)
        try have h3n : x1.toInt = l2_77.toInt + 1 := by omega
        clear h3 q2
        refine kv_iinc C 83 rfl 3 3 [1, 2, 3, 0] (fun v9 => [(0, .ref (ρ 25)), (1, .ref (ρ 2)), (2, .int x1), (3, .int v9)]) (kdec dk_cX5_expand 48 rfl) rfl (by decide) (fun _ => rfl) 1 rfl (fun x4 q5 h6e h6 h6l h6u => ?_)
        try have h6n : x4.toInt = l3_77.toInt + 1 := by omega
        clear h6 q5
        refine kv_goto C 8 (kdec dk_cX5_expand 49 rfl) (by decide) ?_
        exact ih8 w_77 x1 x4 I_77 F_77 (by omega) (by omega) (by omega)
      refine kv_iload_n C 9 rfl 3 (kdec dk_cX5_expand 6 rfl) rfl rfl ?_
      refine kv_aload_n C 10 rfl 0 (kdec dk_cX5_expand 7 rfl) rfl rfl ?_
      obtain ⟨x7, e8⟩ : ∃ z : Int32, w 25 3 = z := ⟨_, rfl⟩
      have b9 : (0 : Int) ≤ x7.toInt ∧ x7.toInt ≤ 1536 := by rw [← e8]; exact hI 25 3
      have e10 : w_8 25 3 = x7 := ((F_8 25 3 rfl : w_8 25 3 = w 25 3).trans e8)
      refine kv_get C 13 rfl 25 3 rfl rfl inX5 (by decide) mfl_TaleMachine_Slot_67 rfl rfl (kdec dk_cX5_expand 8 rfl) e10 ?_
      refine kv_icmp_ge C 16 rfl 86 (kdec dk_cX5_expand 9 rfl) (by decide) (fun d11 => ?_) (fun d11 => ?_)
      · skip
        exact kv_vret C hr hlk (kdec dk_cX5_expand 50 rfl) ⟨rfl, I_8, F_8⟩
      · skip
        refine kv_iload_n C 17 rfl 2 (kdec dk_cX5_expand 10 rfl) rfl rfl ?_
        refine kv_aload_n C 18 rfl 1 (kdec dk_cX5_expand 11 rfl) rfl rfl ?_
        obtain ⟨x12, e13⟩ : ∃ z : Int32, w 2 3 = z := ⟨_, rfl⟩
        have b14 : (0 : Int) ≤ x12.toInt ∧ x12.toInt ≤ 1024 := by rw [← e13]; exact hI 2 3
        have e15 : w_8 2 3 = x12 := ((F_8 2 3 rfl : w_8 2 3 = w 2 3).trans e13)
        refine kv_getN C 21 rfl 2 3 rfl rfl inX6 (by decide) mfn_TaleMachine_Slot_70 rfl rfl (kdec dk_cX5_expand 12 rfl) e15 ?_
        refine kv_icmp_ge C 24 rfl 86 (kdec dk_cX5_expand 13 rfl) (by decide) (fun d16 => ?_) (fun d16 => ?_)
        · skip
          exact kv_vret C hr hlk (kdec dk_cX5_expand 50 rfl) ⟨rfl, I_8, F_8⟩
        · skip
          refine kv_aload_n C 25 rfl 0 (kdec dk_cX5_expand 14 rfl) rfl rfl ?_
          refine kv_getr C 28 rfl 25 0 rfl rfl inX5 (by decide) mfl_TaleMachine_Slot_11 rfl rfl (kdec dk_cX5_expand 15 rfl) ?_
          refine kv_iload_n C 29 rfl 3 (kdec dk_cX5_expand 16 rfl) rfl rfl ?_
          obtain ⟨x17, e18⟩ : ∃ z : Int32, w_8 26 (l3_8 : Int32).toNatClampNeg = z := ⟨_, rfl⟩
          have b19 : (0 : Int) ≤ x17.toInt ∧ x17.toInt ≤ 255 := by rw [← e18]; exact I_8 26 _
          refine kv_iald C 30 rfl 26 rfl (by omega) (by omega) e18 (kdec dk_cX5_expand 17 rfl) ?_
          refine kv_if_eq C 33 rfl 55 (kdec dk_cX5_expand 18 rfl) (by decide) (fun d20 => ?_) (fun d20 => ?_)
          · skip
            refine kv_iload_n C 56 rfl 3 (kdec dk_cX5_expand 33 rfl) rfl rfl ?_
            refine kv_iconst C 57 rfl 1 (kdec dk_cX5_expand 34 rfl) rfl ?_
            refine kv_iadd C 58 rfl (kdec dk_cX5_expand 35 rfl) (fun x21 q23 h22e h22 h22l h22u => ?_)
            try have h22n : x21.toInt = l3_8.toInt + (1 : Int32).toInt := by omega
            clear h22 q23
            refine kv_aload_n C 59 rfl 0 (kdec dk_cX5_expand 36 rfl) rfl rfl ?_
            refine kv_get C 62 rfl 25 3 rfl rfl inX5 (by decide) mfl_TaleMachine_Slot_67 rfl rfl (kdec dk_cX5_expand 37 rfl) e10 ?_
            refine kv_icmp_ge C 65 rfl 77 (kdec dk_cX5_expand 38 rfl) (by decide) (fun d24 => ?_) (fun d24 => ?_)
            · skip
              exact cut77 w_8 l2_8 l3_8 I_8 F_8 (by omega) (by omega)
            · skip
              refine kv_iinc C 68 rfl 3 3 [1, 2, 3, 0] (fun v9 => [(0, .ref (ρ 25)), (1, .ref (ρ 2)), (2, .int l2_8), (3, .int v9)]) (kdec dk_cX5_expand 39 rfl) rfl (by decide) (fun _ => rfl) 1 rfl (fun x25 q26 h27e h27 h27l h27u => ?_)
              try have h27n : x25.toInt = l3_8.toInt + 1 := by omega
              clear h27 q26
              refine kv_iload_n C 69 rfl 2 (kdec dk_cX5_expand 40 rfl) rfl rfl ?_
              refine kv_aload_n C 70 rfl 0 (kdec dk_cX5_expand 41 rfl) rfl rfl ?_
              refine kv_getr C 73 rfl 25 0 rfl rfl inX5 (by decide) mfl_TaleMachine_Slot_11 rfl rfl (kdec dk_cX5_expand 42 rfl) ?_
              refine kv_iload_n C 74 rfl 3 (kdec dk_cX5_expand 43 rfl) rfl rfl ?_
              obtain ⟨x28, e29⟩ : ∃ z : Int32, w_8 26 (x25 : Int32).toNatClampNeg = z := ⟨_, rfl⟩
              have b30 : (0 : Int) ≤ x28.toInt ∧ x28.toInt ≤ 255 := by rw [← e29]; exact I_8 26 _
              refine kv_iald C 75 rfl 26 rfl (by omega) (by omega) e29 (kdec dk_cX5_expand 44 rfl) ?_
              refine kv_iadd C 76 rfl (kdec dk_cX5_expand 45 rfl) (fun x31 q33 h32e h32 h32l h32u => ?_)
              try have h32n : x31.toInt = l2_8.toInt + x28.toInt := by omega
              clear h32 q33
              refine kv_istore_n C 77 rfl 2 [1, 2, 0, 3] [(0, .ref (ρ 25)), (1, .ref (ρ 2)), (2, .int x31), (3, .int x25)] (kdec dk_cX5_expand 46 rfl) rfl (by decide) rfl ?_
              exact cut77 w_8 x31 x25 I_8 F_8 (by omega) (by omega)
          · skip
            refine kv_aload_n C 34 rfl 1 (kdec dk_cX5_expand 19 rfl) rfl rfl ?_
            refine kv_getrN C 37 rfl 2 0 rfl rfl inX6 (by decide) mfn_TaleMachine_Slot_61 rfl rfl (kdec dk_cX5_expand 20 rfl) ?_
            refine kv_iload_n C 38 rfl 2 (kdec dk_cX5_expand 21 rfl) rfl rfl ?_
            refine kv_aload_n C 39 rfl 1 (kdec dk_cX5_expand 22 rfl) rfl rfl ?_
            refine kv_getrN C 42 rfl 2 1 rfl rfl inX6 (by decide) mfn_TaleMachine_Slot_64 rfl rfl (kdec dk_cX5_expand 23 rfl) ?_
            refine kv_iload_n C 43 rfl 2 (kdec dk_cX5_expand 24 rfl) rfl rfl ?_
            obtain ⟨x34, e35⟩ : ∃ z : Int32, w_8 4 (l2_8 : Int32).toNatClampNeg = z := ⟨_, rfl⟩
            have b36 : (0 : Int) ≤ x34.toInt ∧ x34.toInt ≤ 255 := by rw [← e35]; exact I_8 4 _
            refine kv_iald C 44 rfl 4 rfl (by omega) (by omega) e35 (kdec dk_cX5_expand 25 rfl) ?_
            refine kv_aload_n C 45 rfl 0 (kdec dk_cX5_expand 26 rfl) rfl rfl ?_
            refine kv_getr C 48 rfl 25 0 rfl rfl inX5 (by decide) mfl_TaleMachine_Slot_11 rfl rfl (kdec dk_cX5_expand 27 rfl) ?_
            refine kv_iload_n C 49 rfl 3 (kdec dk_cX5_expand 28 rfl) rfl rfl ?_
            obtain ⟨x37, e38⟩ : ∃ z : Int32, w_8 26 (l3_8 : Int32).toNatClampNeg = z := ⟨_, rfl⟩
            have b39 : (0 : Int) ≤ x37.toInt ∧ x37.toInt ≤ 255 := by rw [← e38]; exact I_8 26 _
            refine kv_iald C 50 rfl 26 rfl (by omega) (by omega) e38 (kdec dk_cX5_expand 29 rfl) ?_
            refine kv_ixor C 51 rfl (kdec dk_cX5_expand 30 rfl) (fun x40 h41e h41l h41u => ?_)
            have g42 := kf_xor255 h41e (by omega) (by omega) (by omega) (by omega)
            refine kv_iast C 52 rfl 3 rfl (by omega) (by omega) (kdec dk_cX5_expand 31 rfl) (fun w43 u44 => ?_)
            have I45 : kI true w43 := kI_put u44 I_8 (show (0 : Int) ≤ (x40 : Int32).toInt by omega) (show (x40 : Int32).toInt ≤ 255 by omega)
            have F46 : kF [(3, none)] w w43 := kF_put u44 F_8 rfl
            refine kv_goto C 77 (kdec dk_cX5_expand 32 rfl) (by decide) ?_
            exact cut77 w43 l2_8 l3_8 I45 F46 (by omega) (by omega)
  refine kv_aload_n C 1 rfl 1 (kdec dk_cX5_expand 0 rfl) rfl rfl ?_
  refine kv_callVNv (As := []) (rest := []) C 4 rfl 2 (k_renew l D τ ρ σ w  hI ) rfl rfl mmn_TaleMachine_Slot_81 mim_yX6_renew mse_yX6_renew mcd_yX6_renew min_yX6_renew hd_yX6_renew rfl rfl rfl (by decide) rfl (Nat.le_of_ble_eq_true rfl) (kdec dk_cX5_expand 1 rfl) (fun w47 h48 => ?_)
  obtain ⟨I49, f50⟩ := h48
  have F52 : kF [(3, none)] w w47 := kF_call hF0 f50 (by decide)
  refine kv_iconst C 5 rfl 0 (kdec dk_cX5_expand 2 rfl) rfl ?_
  refine kv_istore_n C 6 rfl 2 [1, 2, 0] [(0, .ref (ρ 25)), (1, .ref (ρ 2)), (2, .int 0)] (kdec dk_cX5_expand 3 rfl) rfl (by decide) rfl ?_
  refine kv_iconst C 7 rfl 0 (kdec dk_cX5_expand 4 rfl) rfl ?_
  refine kv_istore_n C 8 rfl 3 [1, 2, 3, 0] [(0, .ref (ρ 25)), (1, .ref (ρ 2)), (2, .int 0), (3, .int 0)] (kdec dk_cX5_expand 5 rfl) rfl (by decide) rfl ?_
  exact cut8 ((((1537 - (0 : Int32).toInt)) : Int).toNat + 1) w47 0 0 I49 F52 (by omega) (by omega) (by omega)

set_option maxHeartbeats 4000000 in
set_option maxRecDepth 100000 in
theorem k_s_keep0 (l : Launch) (D : va_G) (τ : Nat → ClassId) (ρ σ : Nat → Nat) (w : kw)  (hI : kI true w)  :
    kM l D τ ρ σ yX5_keep cX5_keep 4 none { frames := 3, cells := 0, slots := 0, locals := 108 } [.ref (ρ 25), .ref (ρ 2), .ref (ρ 5), .ref (ρ 20)] w
      (fun o w' => o = none ∧ kI true w' ∧ kF [(25, some 2), (25, some 3), (25, some 4), (25, some 5), (25, some 6), (25, some 7), (26, none), (27, some 6), (27, some 7), (28, none), (29, none), (30, none), (31, none), (32, none), (33, none)] w w' ∧ ((w' 25 5).toInt = (w 20 10).toInt)) := by
  refine kM_of (own := "TaleMachine$Slot") rfl (by decide) (Nat.le_of_ble_eq_true rfl) ?_
  intro p e s m args below meth c C hr hlk
  have hF0 : kF [(25, some 2), (25, some 3), (25, some 4), (25, some 5), (25, some 6), (25, some 7), (26, none), (27, some 6), (27, some 7), (28, none), (29, none), (30, none), (31, none), (32, none), (33, none)] w w := kF.rf
  have c_1 : (1 : Int32).toInt = 1 := by decide
  refine kV.L (L' := [(0, .ref (ρ 25)), (1, .ref (ρ 2)), (2, .ref (ρ 5)), (3, .ref (ρ 20))]) rfl ?_
  refine kv_aload_n C 1 rfl 0 (kdec dk_cX5_keep 0 rfl) rfl rfl ?_
  refine kv_aload_n C 2 rfl 1 (kdec dk_cX5_keep 1 rfl) rfl rfl ?_
  refine kv_callVv (As := [.ref (ρ 2)]) (rest := []) C 5 rfl 25 (k_s_squeeze0 l D τ ρ σ w  hI ) rfl rfl mml_TaleMachine_Slot_22 mim_yX5_squeeze mse_yX5_squeeze mcd_yX5_squeeze min_yX5_squeeze hd_yX5_squeeze rfl rfl rfl (by decide) rfl (Nat.le_of_ble_eq_true rfl) (kdec dk_cX5_keep 2 rfl) (fun w1 h2 => ?_)
  obtain ⟨I3, f4⟩ := h2
  have F6 : kF [(25, some 2), (25, some 3), (25, some 4), (25, some 5), (25, some 6), (25, some 7), (26, none), (27, some 6), (27, some 7), (28, none), (29, none), (30, none), (31, none), (32, none), (33, none)] w w1 := kF_call hF0 f4 (by decide)
  refine kv_aload_n C 6 rfl 0 (kdec dk_cX5_keep 3 rfl) rfl rfl ?_
  refine kv_getr C 9 rfl 25 1 rfl rfl inX5 (by decide) mfl_TaleMachine_Slot_18 rfl rfl (kdec dk_cX5_keep 4 rfl) ?_
  refine kv_aload_n C 10 rfl 2 (kdec dk_cX5_keep 5 rfl) rfl rfl ?_
  refine kv_callVNv (As := [.ref (ρ 5)]) (rest := []) C 13 rfl 27 (k_copyTo0 l D τ ρ σ w1  I3 ) rfl rfl mmn_TaleMachine_Slot_26 mim_yX3_copyFrom mse_yX3_copyFrom mcd_yX3_copyFrom min_yX3_copyFrom hd_yX3_copyFrom rfl rfl rfl (by decide) rfl (Nat.le_of_ble_eq_true rfl) (kdec dk_cX5_keep 6 rfl) (fun w7 h8 => ?_)
  obtain ⟨I9, f10⟩ := h8
  have F12 : kF [(25, some 2), (25, some 3), (25, some 4), (25, some 5), (25, some 6), (25, some 7), (26, none), (27, some 6), (27, some 7), (28, none), (29, none), (30, none), (31, none), (32, none), (33, none)] w w7 := kF_call F6 f10 (by decide)
  refine kv_aload_n C 14 rfl 0 (kdec dk_cX5_keep 7 rfl) rfl rfl ?_
  refine kv_aload_n C 15 rfl 3 (kdec dk_cX5_keep 8 rfl) rfl rfl ?_
  obtain ⟨x13, e14⟩ : ∃ z : Int32, w 20 8 = z := ⟨_, rfl⟩
  have b15 : (-2147483648 : Int) ≤ x13.toInt ∧ x13.toInt ≤ 2147483647 := by rw [← e14]; exact hI 20 8
  have e16 : w7 20 8 = x13 := ((f10 20 8 rfl : w7 20 8 = w1 20 8).trans ((f4 20 8 rfl : w1 20 8 = w 20 8).trans e14))
  refine kv_getN C 18 rfl 20 8 rfl rfl inX1 (by decide) mfn_TaleMachine_Slot_30 rfl rfl (kdec dk_cX5_keep 9 rfl) e16 ?_
  refine kv_put C 21 rfl 25 4 rfl rfl inX5 (by decide) mfl_TaleMachine_Slot_36 rfl tyX5 tyX5_ok nmX5 rfl rfl (kdec dk_cX5_keep 10 rfl) rfl rfl (fun w17 u18 => ?_)
  have I19 : kI true w17 := kI_put u18 I9 (kf_rng _).1 (kf_rng _).2
  have F20 : kF [(25, some 2), (25, some 3), (25, some 4), (25, some 5), (25, some 6), (25, some 7), (26, none), (27, some 6), (27, some 7), (28, none), (29, none), (30, none), (31, none), (32, none), (33, none)] w w17 := kF_put u18 F12 rfl
  refine kv_aload_n C 22 rfl 0 (kdec dk_cX5_keep 11 rfl) rfl rfl ?_
  refine kv_aload_n C 23 rfl 3 (kdec dk_cX5_keep 12 rfl) rfl rfl ?_
  obtain ⟨x21, e22⟩ : ∃ z : Int32, w 20 10 = z := ⟨_, rfl⟩
  have b23 : (0 : Int) ≤ x21.toInt ∧ x21.toInt ≤ 4 := by rw [← e22]; exact hI 20 10
  have e24 : w17 20 10 = x21 := ((kup_ne u18 rfl : w17 20 10 = w7 20 10).trans ((f10 20 10 rfl : w7 20 10 = w1 20 10).trans ((f4 20 10 rfl : w1 20 10 = w 20 10).trans e22)))
  refine kv_getN C 26 rfl 20 10 rfl rfl inX1 (by decide) mfn_TaleMachine_Slot_37 rfl rfl (kdec dk_cX5_keep 13 rfl) e24 ?_
  refine kv_put C 29 rfl 25 5 rfl rfl inX5 (by decide) mfl_TaleMachine_Slot_40 rfl tyX5 tyX5_ok nmX5 rfl rfl (kdec dk_cX5_keep 14 rfl) rfl rfl (fun w25 u26 => ?_)
  have I27 : kI true w25 := kI_put u26 I19 (show (0 : Int) ≤ (x21 : Int32).toInt by omega) (show (x21 : Int32).toInt ≤ 4 by omega)
  have F28 : kF [(25, some 2), (25, some 3), (25, some 4), (25, some 5), (25, some 6), (25, some 7), (26, none), (27, some 6), (27, some 7), (28, none), (29, none), (30, none), (31, none), (32, none), (33, none)] w w25 := kF_put u26 F20 rfl
  refine kv_aload_n C 30 rfl 0 (kdec dk_cX5_keep 15 rfl) rfl rfl ?_
  refine kv_aload_n C 31 rfl 3 (kdec dk_cX5_keep 16 rfl) rfl rfl ?_
  obtain ⟨x29, e30⟩ : ∃ z : Int32, w 20 13 = z := ⟨_, rfl⟩
  have b31 : (-2147483648 : Int) ≤ x29.toInt ∧ x29.toInt ≤ 2147483647 := by rw [← e30]; exact hI 20 13
  have e32 : w25 20 13 = x29 := ((kup_ne u26 rfl : w25 20 13 = w17 20 13).trans ((kup_ne u18 rfl : w17 20 13 = w7 20 13).trans ((f10 20 13 rfl : w7 20 13 = w1 20 13).trans ((f4 20 13 rfl : w1 20 13 = w 20 13).trans e30))))
  refine kv_getN C 34 rfl 20 13 rfl rfl inX1 (by decide) mfn_TaleMachine_Slot_41 rfl rfl (kdec dk_cX5_keep 17 rfl) e32 ?_
  refine kv_put C 37 rfl 25 6 rfl rfl inX5 (by decide) mfl_TaleMachine_Slot_44 rfl tyX5 tyX5_ok nmX5 rfl rfl (kdec dk_cX5_keep 18 rfl) rfl rfl (fun w33 u34 => ?_)
  have I35 : kI true w33 := kI_put u34 I27 (kf_rng _).1 (kf_rng _).2
  have F36 : kF [(25, some 2), (25, some 3), (25, some 4), (25, some 5), (25, some 6), (25, some 7), (26, none), (27, some 6), (27, some 7), (28, none), (29, none), (30, none), (31, none), (32, none), (33, none)] w w33 := kF_put u34 F28 rfl
  refine kv_aload_n C 38 rfl 0 (kdec dk_cX5_keep 19 rfl) rfl rfl ?_
  refine kv_aload_n C 39 rfl 3 (kdec dk_cX5_keep 20 rfl) rfl rfl ?_
  obtain ⟨x37, e38⟩ : ∃ z : Int32, w 20 14 = z := ⟨_, rfl⟩
  have b39 : (-2147483648 : Int) ≤ x37.toInt ∧ x37.toInt ≤ 2147483647 := by rw [← e38]; exact hI 20 14
  have e40 : w33 20 14 = x37 := ((kup_ne u34 rfl : w33 20 14 = w25 20 14).trans ((kup_ne u26 rfl : w25 20 14 = w17 20 14).trans ((kup_ne u18 rfl : w17 20 14 = w7 20 14).trans ((f10 20 14 rfl : w7 20 14 = w1 20 14).trans ((f4 20 14 rfl : w1 20 14 = w 20 14).trans e38)))))
  refine kv_getN C 42 rfl 20 14 rfl rfl inX1 (by decide) mfn_TaleMachine_Slot_45 rfl rfl (kdec dk_cX5_keep 21 rfl) e40 ?_
  refine kv_put C 45 rfl 25 7 rfl rfl inX5 (by decide) mfl_TaleMachine_Slot_48 rfl tyX5 tyX5_ok nmX5 rfl rfl (kdec dk_cX5_keep 22 rfl) rfl rfl (fun w41 u42 => ?_)
  have I43 : kI true w41 := kI_put u42 I35 (kf_rng _).1 (kf_rng _).2
  have F44 : kF [(25, some 2), (25, some 3), (25, some 4), (25, some 5), (25, some 6), (25, some 7), (26, none), (27, some 6), (27, some 7), (28, none), (29, none), (30, none), (31, none), (32, none), (33, none)] w w41 := kF_put u42 F36 rfl
  refine kv_aload_n C 46 rfl 0 (kdec dk_cX5_keep 23 rfl) rfl rfl ?_
  refine kv_iconst C 47 rfl 1 (kdec dk_cX5_keep 24 rfl) rfl ?_
  refine kv_put C 50 rfl 25 2 rfl rfl inX5 (by decide) mfl_TaleMachine_Slot_49 rfl tyX5 tyX5_ok nmX5 rfl rfl (kdec dk_cX5_keep 25 rfl) (kf_bool (by decide)) rfl (fun w45 u46 => ?_)
  have I47 : kI true w45 := kI_put u46 I43 (show (0 : Int) ≤ (1 : Int32).toInt by omega) (show (1 : Int32).toInt ≤ 1 by omega)
  have F48 : kF [(25, some 2), (25, some 3), (25, some 4), (25, some 5), (25, some 6), (25, some 7), (26, none), (27, some 6), (27, some 7), (28, none), (29, none), (30, none), (31, none), (32, none), (33, none)] w w45 := kF_put u46 F44 rfl
  have e49 : w45 25 5 = x21 := ((kup_ne u46 rfl : w45 25 5 = w41 25 5).trans ((kup_ne u42 rfl : w41 25 5 = w33 25 5).trans ((kup_ne u34 rfl : w33 25 5 = w25 25 5).trans (kup_eq u26))))
  exact kv_vret C hr hlk (kdec dk_cX5_keep 26 rfl) ⟨rfl, I47, F48, (by rw [e22, e49]; try omega)⟩

set_option maxHeartbeats 4000000 in
set_option maxRecDepth 100000 in
theorem k_s_giveBack0 (l : Launch) (D : va_G) (τ : Nat → ClassId) (ρ σ : Nat → Nat) (w : kw)  (hI : kI true w)  :
    kM l D τ ρ σ yX5_giveBack cX5_giveBack 4 none { frames := 4, cells := 0, slots := 0, locals := 144 } [.ref (ρ 25), .ref (ρ 2), .ref (ρ 5), .ref (ρ 20)] w
      (fun o w' => o = none ∧ kI true w' ∧ kF [(2, some 9), (3, none), (5, some 6), (5, some 7), (6, none), (7, none), (8, none), (9, none), (10, none), (11, none), (20, some 8), (20, some 10), (20, some 13), (20, some 14)] w w' ∧ ((w' 20 10).toInt = (w 25 5).toInt)) := by
  refine kM_of (own := "TaleMachine$Slot") rfl (by decide) (Nat.le_of_ble_eq_true rfl) ?_
  intro p e s m args below meth c C hr hlk
  have hF0 : kF [(2, some 9), (3, none), (5, some 6), (5, some 7), (6, none), (7, none), (8, none), (9, none), (10, none), (11, none), (20, some 8), (20, some 10), (20, some 13), (20, some 14)] w w := kF.rf
  have c_0 : (0 : Int32).toInt = 0 := by decide
  refine kV.L (L' := [(0, .ref (ρ 25)), (1, .ref (ρ 2)), (2, .ref (ρ 5)), (3, .ref (ρ 20))]) rfl ?_
  refine kv_aload_n C 1 rfl 0 (kdec dk_cX5_giveBack 0 rfl) rfl rfl ?_
  refine kv_aload_n C 2 rfl 1 (kdec dk_cX5_giveBack 1 rfl) rfl rfl ?_
  refine kv_callVv (As := [.ref (ρ 2)]) (rest := []) C 5 rfl 25 (k_s_expand0 l D τ ρ σ w  hI ) rfl rfl mml_TaleMachine_Slot_53 mim_yX5_expand mse_yX5_expand mcd_yX5_expand min_yX5_expand hd_yX5_expand rfl rfl rfl (by decide) rfl (Nat.le_of_ble_eq_true rfl) (kdec dk_cX5_giveBack 2 rfl) (fun w1 h2 => ?_)
  obtain ⟨I3, f4⟩ := h2
  have F6 : kF [(2, some 9), (3, none), (5, some 6), (5, some 7), (6, none), (7, none), (8, none), (9, none), (10, none), (11, none), (20, some 8), (20, some 10), (20, some 13), (20, some 14)] w w1 := kF_call hF0 f4 (by decide)
  refine kv_aload_n C 6 rfl 2 (kdec dk_cX5_giveBack 3 rfl) rfl rfl ?_
  refine kv_aload_n C 7 rfl 0 (kdec dk_cX5_giveBack 4 rfl) rfl rfl ?_
  refine kv_getr C 10 rfl 25 1 rfl rfl inX5 (by decide) mfl_TaleMachine_Slot_18 rfl rfl (kdec dk_cX5_giveBack 5 rfl) ?_
  refine kv_callVNv (As := [.ref (ρ 27)]) (rest := []) C 13 rfl 5 (k_copyBack0 l D τ ρ σ w1  I3 ) rfl rfl mmn_TaleMachine_Slot_26 mim_yX3_copyFrom mse_yX3_copyFrom mcd_yX3_copyFrom min_yX3_copyFrom hd_yX3_copyFrom rfl rfl rfl (by decide) rfl (Nat.le_of_ble_eq_true rfl) (kdec dk_cX5_giveBack 6 rfl) (fun w7 h8 => ?_)
  obtain ⟨I9, f10⟩ := h8
  have F12 : kF [(2, some 9), (3, none), (5, some 6), (5, some 7), (6, none), (7, none), (8, none), (9, none), (10, none), (11, none), (20, some 8), (20, some 10), (20, some 13), (20, some 14)] w w7 := kF_call F6 f10 (by decide)
  refine kv_aload_n C 14 rfl 1 (kdec dk_cX5_giveBack 7 rfl) rfl rfl ?_
  refine kv_iconst C 15 rfl 0 (kdec dk_cX5_giveBack 8 rfl) rfl ?_
  refine kv_putN C 18 rfl 2 9 rfl rfl inX6 (by decide) mfn_TaleMachine_Slot_56 rfl tyX6 tyX6_ok nmX6 rfl rfl (kdec dk_cX5_giveBack 9 rfl) rfl rfl (fun w13 u14 => ?_)
  have I15 : kI true w13 := kI_put u14 I9 (show (0 : Int) ≤ (0 : Int32).toInt by omega) (show (0 : Int32).toInt ≤ 13 by omega)
  have F16 : kF [(2, some 9), (3, none), (5, some 6), (5, some 7), (6, none), (7, none), (8, none), (9, none), (10, none), (11, none), (20, some 8), (20, some 10), (20, some 13), (20, some 14)] w w13 := kF_put u14 F12 rfl
  refine kv_aload_n C 19 rfl 3 (kdec dk_cX5_giveBack 10 rfl) rfl rfl ?_
  refine kv_aload_n C 20 rfl 0 (kdec dk_cX5_giveBack 11 rfl) rfl rfl ?_
  obtain ⟨x17, e18⟩ : ∃ z : Int32, w 25 4 = z := ⟨_, rfl⟩
  have b19 : (-2147483648 : Int) ≤ x17.toInt ∧ x17.toInt ≤ 2147483647 := by rw [← e18]; exact hI 25 4
  have e20 : w13 25 4 = x17 := ((kup_ne u14 rfl : w13 25 4 = w7 25 4).trans ((f10 25 4 rfl : w7 25 4 = w1 25 4).trans ((f4 25 4 rfl : w1 25 4 = w 25 4).trans e18)))
  refine kv_get C 23 rfl 25 4 rfl rfl inX5 (by decide) mfl_TaleMachine_Slot_36 rfl rfl (kdec dk_cX5_giveBack 12 rfl) e20 ?_
  refine kv_putN C 26 rfl 20 8 rfl rfl inX1 (by decide) mfn_TaleMachine_Slot_30 rfl tyX1 tyX1_ok nmX1 rfl rfl (kdec dk_cX5_giveBack 13 rfl) rfl rfl (fun w21 u22 => ?_)
  have I23 : kI true w21 := kI_put u22 I15 (kf_rng _).1 (kf_rng _).2
  have F24 : kF [(2, some 9), (3, none), (5, some 6), (5, some 7), (6, none), (7, none), (8, none), (9, none), (10, none), (11, none), (20, some 8), (20, some 10), (20, some 13), (20, some 14)] w w21 := kF_put u22 F16 rfl
  refine kv_aload_n C 27 rfl 3 (kdec dk_cX5_giveBack 14 rfl) rfl rfl ?_
  refine kv_aload_n C 28 rfl 0 (kdec dk_cX5_giveBack 15 rfl) rfl rfl ?_
  obtain ⟨x25, e26⟩ : ∃ z : Int32, w 25 5 = z := ⟨_, rfl⟩
  have b27 : (0 : Int) ≤ x25.toInt ∧ x25.toInt ≤ 4 := by rw [← e26]; exact hI 25 5
  have e28 : w21 25 5 = x25 := ((kup_ne u22 rfl : w21 25 5 = w13 25 5).trans ((kup_ne u14 rfl : w13 25 5 = w7 25 5).trans ((f10 25 5 rfl : w7 25 5 = w1 25 5).trans ((f4 25 5 rfl : w1 25 5 = w 25 5).trans e26))))
  refine kv_get C 31 rfl 25 5 rfl rfl inX5 (by decide) mfl_TaleMachine_Slot_40 rfl rfl (kdec dk_cX5_giveBack 16 rfl) e28 ?_
  refine kv_putN C 34 rfl 20 10 rfl rfl inX1 (by decide) mfn_TaleMachine_Slot_37 rfl tyX1 tyX1_ok nmX1 rfl rfl (kdec dk_cX5_giveBack 17 rfl) rfl rfl (fun w29 u30 => ?_)
  have I31 : kI true w29 := kI_put u30 I23 (show (0 : Int) ≤ (x25 : Int32).toInt by omega) (show (x25 : Int32).toInt ≤ 4 by omega)
  have F32 : kF [(2, some 9), (3, none), (5, some 6), (5, some 7), (6, none), (7, none), (8, none), (9, none), (10, none), (11, none), (20, some 8), (20, some 10), (20, some 13), (20, some 14)] w w29 := kF_put u30 F24 rfl
  refine kv_aload_n C 35 rfl 3 (kdec dk_cX5_giveBack 18 rfl) rfl rfl ?_
  refine kv_aload_n C 36 rfl 0 (kdec dk_cX5_giveBack 19 rfl) rfl rfl ?_
  obtain ⟨x33, e34⟩ : ∃ z : Int32, w 25 6 = z := ⟨_, rfl⟩
  have b35 : (-2147483648 : Int) ≤ x33.toInt ∧ x33.toInt ≤ 2147483647 := by rw [← e34]; exact hI 25 6
  have e36 : w29 25 6 = x33 := ((kup_ne u30 rfl : w29 25 6 = w21 25 6).trans ((kup_ne u22 rfl : w21 25 6 = w13 25 6).trans ((kup_ne u14 rfl : w13 25 6 = w7 25 6).trans ((f10 25 6 rfl : w7 25 6 = w1 25 6).trans ((f4 25 6 rfl : w1 25 6 = w 25 6).trans e34)))))
  refine kv_get C 39 rfl 25 6 rfl rfl inX5 (by decide) mfl_TaleMachine_Slot_44 rfl rfl (kdec dk_cX5_giveBack 20 rfl) e36 ?_
  refine kv_putN C 42 rfl 20 13 rfl rfl inX1 (by decide) mfn_TaleMachine_Slot_41 rfl tyX1 tyX1_ok nmX1 rfl rfl (kdec dk_cX5_giveBack 21 rfl) rfl rfl (fun w37 u38 => ?_)
  have I39 : kI true w37 := kI_put u38 I31 (kf_rng _).1 (kf_rng _).2
  have F40 : kF [(2, some 9), (3, none), (5, some 6), (5, some 7), (6, none), (7, none), (8, none), (9, none), (10, none), (11, none), (20, some 8), (20, some 10), (20, some 13), (20, some 14)] w w37 := kF_put u38 F32 rfl
  refine kv_aload_n C 43 rfl 3 (kdec dk_cX5_giveBack 22 rfl) rfl rfl ?_
  refine kv_aload_n C 44 rfl 0 (kdec dk_cX5_giveBack 23 rfl) rfl rfl ?_
  obtain ⟨x41, e42⟩ : ∃ z : Int32, w 25 7 = z := ⟨_, rfl⟩
  have b43 : (-2147483648 : Int) ≤ x41.toInt ∧ x41.toInt ≤ 2147483647 := by rw [← e42]; exact hI 25 7
  have e44 : w37 25 7 = x41 := ((kup_ne u38 rfl : w37 25 7 = w29 25 7).trans ((kup_ne u30 rfl : w29 25 7 = w21 25 7).trans ((kup_ne u22 rfl : w21 25 7 = w13 25 7).trans ((kup_ne u14 rfl : w13 25 7 = w7 25 7).trans ((f10 25 7 rfl : w7 25 7 = w1 25 7).trans ((f4 25 7 rfl : w1 25 7 = w 25 7).trans e42))))))
  refine kv_get C 47 rfl 25 7 rfl rfl inX5 (by decide) mfl_TaleMachine_Slot_48 rfl rfl (kdec dk_cX5_giveBack 24 rfl) e44 ?_
  refine kv_putN C 50 rfl 20 14 rfl rfl inX1 (by decide) mfn_TaleMachine_Slot_45 rfl tyX1 tyX1_ok nmX1 rfl rfl (kdec dk_cX5_giveBack 25 rfl) rfl rfl (fun w45 u46 => ?_)
  have I47 : kI true w45 := kI_put u46 I39 (kf_rng _).1 (kf_rng _).2
  have F48 : kF [(2, some 9), (3, none), (5, some 6), (5, some 7), (6, none), (7, none), (8, none), (9, none), (10, none), (11, none), (20, some 8), (20, some 10), (20, some 13), (20, some 14)] w w45 := kF_put u46 F40 rfl
  have e49 : w45 20 10 = x25 := ((kup_ne u46 rfl : w45 20 10 = w37 20 10).trans ((kup_ne u38 rfl : w37 20 10 = w29 20 10).trans (kup_eq u30)))
  exact kv_vret C hr hlk (kdec dk_cX5_giveBack 26 rfl) ⟨rfl, I47, F48, (by rw [e26, e49]; try omega)⟩

set_option maxHeartbeats 4000000 in
set_option maxRecDepth 100000 in
theorem k_s_add1 (l : Launch) (D : va_G) (τ : Nat → ClassId) (ρ σ : Nat → Nat) (w : kw) (a1 : Int32) (hI : kI true w) (hp0 : 0 ≤ a1.toInt ∧ a1.toInt ≤ 255) :
    kM l D τ ρ σ yX5_add cX5_add 2 none { frames := 0, cells := 0, slots := 0, locals := 0 } [.ref (ρ 34), .int a1] w
      (fun o w' => o = none ∧ kI true w' ∧ kF [(34, some 3), (35, none)] w w') := by
  refine kM_of (own := "TaleMachine$Slot") rfl (by decide) (Nat.le_of_ble_eq_true rfl) ?_
  intro p e s m args below meth c C hr hlk
  have hF0 : kF [(34, some 3), (35, none)] w w := kF.rf
  have c_1 : (1 : Int32).toInt = 1 := by decide
  have c_1536 : (1536 : Int32).toInt = 1536 := by decide
  refine kV.L (L' := [(0, .ref (ρ 34)), (1, .int a1)]) rfl ?_
  have g1 := kf_rng a1
  refine kv_aload_n C 1 rfl 0 (kdec dk_cX5_add 0 rfl) rfl rfl ?_
  obtain ⟨x2, e3⟩ : ∃ z : Int32, w 34 3 = z := ⟨_, rfl⟩
  have b4 : (0 : Int) ≤ x2.toInt ∧ x2.toInt ≤ 1536 := by rw [← e3]; exact hI 34 3
  refine kv_get C 4 rfl 34 3 rfl rfl inX5 (by decide) mfl_TaleMachine_Slot_67 rfl rfl (kdec dk_cX5_add 1 rfl) e3 ?_
  refine kv_aload_n C 5 rfl 0 (kdec dk_cX5_add 2 rfl) rfl rfl ?_
  refine kv_getr C 8 rfl 34 0 rfl rfl inX5 (by decide) mfl_TaleMachine_Slot_11 rfl rfl (kdec dk_cX5_add 3 rfl) ?_
  refine kv_alen C 9 rfl 35 1536 rfl (by decide) rfl (kdec dk_cX5_add 4 rfl) ?_
  refine kv_icmp_ge C 12 rfl 32 (kdec dk_cX5_add 5 rfl) (by decide) (fun d5 => ?_) (fun d5 => ?_)
  · skip
    exact kv_vret C hr hlk (kdec dk_cX5_add 18 rfl) ⟨rfl, hI, hF0⟩
  · skip
    refine kv_aload_n C 13 rfl 0 (kdec dk_cX5_add 6 rfl) rfl rfl ?_
    refine kv_getr C 16 rfl 34 0 rfl rfl inX5 (by decide) mfl_TaleMachine_Slot_11 rfl rfl (kdec dk_cX5_add 7 rfl) ?_
    refine kv_aload_n C 17 rfl 0 (kdec dk_cX5_add 8 rfl) rfl rfl ?_
    refine kv_get C 20 rfl 34 3 rfl rfl inX5 (by decide) mfl_TaleMachine_Slot_67 rfl rfl (kdec dk_cX5_add 9 rfl) e3 ?_
    refine kv_iload_n C 21 rfl 1 (kdec dk_cX5_add 10 rfl) rfl rfl ?_
    refine kv_iast C 22 rfl 35 rfl (by omega) (by omega) (kdec dk_cX5_add 11 rfl) (fun w6 u7 => ?_)
    have I8 : kI true w6 := kI_put u7 hI (show (0 : Int) ≤ (a1 : Int32).toInt by omega) (show (a1 : Int32).toInt ≤ 255 by omega)
    have F9 : kF [(34, some 3), (35, none)] w w6 := kF_put u7 hF0 rfl
    refine kv_aload_n C 23 rfl 0 (kdec dk_cX5_add 12 rfl) rfl rfl ?_
    refine kv_dup C 24 rfl (kdec dk_cX5_add 13 rfl) rfl ?_
    have e10 : w6 34 3 = x2 := ((kup_ne u7 rfl : w6 34 3 = w 34 3).trans e3)
    refine kv_get C 27 rfl 34 3 rfl rfl inX5 (by decide) mfl_TaleMachine_Slot_67 rfl rfl (kdec dk_cX5_add 14 rfl) e10 ?_
    refine kv_iconst C 28 rfl 1 (kdec dk_cX5_add 15 rfl) rfl ?_
    refine kv_iadd C 29 rfl (kdec dk_cX5_add 16 rfl) (fun x11 q13 h12e h12 h12l h12u => ?_)
    try have h12n : x11.toInt = x2.toInt + (1 : Int32).toInt := by omega
    clear h12 q13
    refine kv_put C 32 rfl 34 3 rfl rfl inX5 (by decide) mfl_TaleMachine_Slot_67 rfl tyX5 tyX5_ok nmX5 rfl rfl (kdec dk_cX5_add 17 rfl) rfl rfl (fun w14 u15 => ?_)
    have I16 : kI true w14 := kI_put u15 I8 (show (0 : Int) ≤ (x11 : Int32).toInt by omega) (show (x11 : Int32).toInt ≤ 1536 by omega)
    have F17 : kF [(34, some 3), (35, none)] w w14 := kF_put u15 F9 rfl
    exact kv_vret C hr hlk (kdec dk_cX5_add 18 rfl) ⟨rfl, I16, F17⟩

set_option maxHeartbeats 4000000 in
set_option maxRecDepth 100000 in
theorem k_s_squeeze1 (l : Launch) (D : va_G) (τ : Nat → ClassId) (ρ σ : Nat → Nat) (w : kw)  (hI : kI true w)  :
    kM l D τ ρ σ yX5_squeeze cX5_squeeze 6 none { frames := 1, cells := 0, slots := 0, locals := 36 } [.ref (ρ 34), .ref (ρ 2)] w
      (fun o w' => o = none ∧ kI true w' ∧ kF [(34, some 3), (35, none)] w w') := by
  refine kM_of (own := "TaleMachine$Slot") rfl (by decide) (Nat.le_of_ble_eq_true rfl) ?_
  intro p e s m args below meth c C hr hlk
  have hF0 : kF [(34, some 3), (35, none)] w w := kF.rf
  have c_0 : (0 : Int32).toInt = 0 := by decide
  have c_1 : (1 : Int32).toInt = 1 := by decide
  have c_255 : (255 : Int32).toInt = 255 := by decide
  refine kV.L (L' := [(0, .ref (ρ 34)), (1, .ref (ρ 2))]) rfl ?_
  have cut32 : ∀ (n_32 : Nat) (w_32 : kw) (l2_32 l3_32 : Int32), kI true w_32 → kF [(34, some 3), (35, none)] w w_32 → (0 ≤ l3_32.toInt ∧ l3_32.toInt ≤ l2_32.toInt ∧ l2_32.toInt ≤ 1024) → ((1025 - l3_32.toInt) : Int) < (n_32 : Int) → kV p l e { frames := 1, cells := 0, slots := 0, locals := 36 } s m args below meth c (kQ below args s D τ ρ (fun o w' => o = none ∧ kI true w' ∧ kF [(34, some 3), (35, none)] w w')) 6 D τ ρ 32 [(0, .ref (ρ 34)), (1, .ref (ρ 2)), (2, .int l2_32), (3, .int l3_32)] [] w_32 := by
    intro n_32
    induction n_32 with
    | zero => intro w_32 l2_32 l3_32 I_32 F_32 k32_0 hmz; exfalso; omega
    | succ n_32 ih32 =>
      intro w_32 l2_32 l3_32 I_32 F_32 k32_0 hm32
      have gl2_32 := kf_rng l2_32
      have gl3_32 := kf_rng l3_32
      have cut90 : ∀ (w_90 : kw) (l2_90 l3_90 l5_90 : Int32), kI true w_90 → kF [(34, some 3), (35, none)] w w_90 → (0 ≤ l5_90.toInt ∧ l5_90.toInt ≤ l3_90.toInt ∧ l3_90.toInt ≤ l5_90.toInt + 255 ∧ l3_90.toInt ≤ l2_90.toInt ∧ l2_90.toInt ≤ 1024) → (l3_32.toInt < l3_90.toInt) → kV p l e { frames := 1, cells := 0, slots := 0, locals := 36 } s m args below meth c (kQ below args s D τ ρ (fun o w' => o = none ∧ kI true w' ∧ kF [(34, some 3), (35, none)] w w')) 6 D τ ρ 90 [(0, .ref (ρ 34)), (1, .ref (ρ 2)), (2, .int l2_90), (3, .int l3_90), (5, .int l5_90)] [] w_90 := by
        intro w_90 l2_90 l3_90 l5_90 I_90 F_90 k90_0 k90_1
        have gl2_90 := kf_rng l2_90
        have gl3_90 := kf_rng l3_90
        have gl5_90 := kf_rng l5_90
        refine kv_aload_n C 91 rfl 0 (kdec dk_cX5_squeeze 47 rfl) rfl rfl ?_
        refine kv_iload_n C 92 rfl 3 (kdec dk_cX5_squeeze 48 rfl) rfl rfl ?_
        refine kv_iload C 94 rfl 4 (kdec dk_cX5_squeeze 49 rfl) rfl ?_
        refine kv_isub C 95 rfl (kdec dk_cX5_squeeze 50 rfl) (fun x1 q3 h2e h2 h2l h2u => ?_)
        try have h2n : x1.toInt = l3_90.toInt - l5_90.toInt := by omega
        clear h2 q3
        refine kv_callVv (As := [.int x1]) (rest := []) C 98 rfl 34 (k_s_add1 l D τ ρ σ w_90 x1 I_90 (by omega)) rfl rfl mml_TaleMachine_Slot_77 mim_yX5_add mse_yX5_add mcd_yX5_add min_yX5_add hd_yX5_add rfl rfl rfl (by decide) rfl (Nat.le_of_ble_eq_true rfl) (kdec dk_cX5_squeeze 51 rfl) (fun w4 h5 => ?_)
        obtain ⟨I6, f7⟩ := h5
        have F9 : kF [(34, some 3), (35, none)] w w4 := kF_call F_90 f7 (by decide)
        refine kv_goto C 32 (kdec dk_cX5_squeeze 52 rfl) (by decide) ?_
        refine kV.sub [0, 1, 2, 3] (L' := [(0, .ref (ρ 34)), (1, .ref (ρ 2)), (2, .int l2_90), (3, .int l3_90)]) rfl ?_
        exact ih32 w4 l2_90 l3_90 I6 F9 (by omega) (by omega)
      have cut61 : ∀ (n_61 : Nat) (w_61 : kw) (l2_61 l3_61 l5_61 : Int32), kI true w_61 → kF [(34, some 3), (35, none)] w w_61 → (0 ≤ l5_61.toInt ∧ l5_61.toInt ≤ l3_61.toInt ∧ l3_61.toInt ≤ l5_61.toInt + 255 ∧ l3_61.toInt ≤ l2_61.toInt ∧ l2_61.toInt ≤ 1024) → (l3_32.toInt < l3_61.toInt) → ((1025 - l3_61.toInt) : Int) < (n_61 : Int) → kV p l e { frames := 1, cells := 0, slots := 0, locals := 36 } s m args below meth c (kQ below args s D τ ρ (fun o w' => o = none ∧ kI true w' ∧ kF [(34, some 3), (35, none)] w w')) 6 D τ ρ 61 [(0, .ref (ρ 34)), (1, .ref (ρ 2)), (2, .int l2_61), (3, .int l3_61), (5, .int l5_61)] [] w_61 := by
        intro n_61
        induction n_61 with
        | zero => intro w_61 l2_61 l3_61 l5_61 I_61 F_61 k61_0 k61_1 hmz; exfalso; omega
        | succ n_61 ih61 =>
          intro w_61 l2_61 l3_61 l5_61 I_61 F_61 k61_0 k61_1 hm61
          have gl2_61 := kf_rng l2_61
          have gl3_61 := kf_rng l3_61
          have gl5_61 := kf_rng l5_61
          refine kv_iload_n C 62 rfl 3 (kdec dk_cX5_squeeze 33 rfl) rfl rfl ?_
          refine kv_iload_n C 63 rfl 2 (kdec dk_cX5_squeeze 34 rfl) rfl rfl ?_
          refine kv_icmp_ge C 66 rfl 90 (kdec dk_cX5_squeeze 35 rfl) (by decide) (fun d10 => ?_) (fun d10 => ?_)
          · skip
            exact cut90 w_61 l2_61 l3_61 l5_61 I_61 F_61 (by omega) (by omega)
          · skip
            refine kv_iload_n C 67 rfl 3 (kdec dk_cX5_squeeze 36 rfl) rfl rfl ?_
            refine kv_iload C 69 rfl 4 (kdec dk_cX5_squeeze 37 rfl) rfl ?_
            refine kv_isub C 70 rfl (kdec dk_cX5_squeeze 38 rfl) (fun x11 q13 h12e h12 h12l h12u => ?_)
            try have h12n : x11.toInt = l3_61.toInt - l5_61.toInt := by omega
            clear h12 q13
            refine kv_sipush C 73 rfl 255 (kdec dk_cX5_squeeze 39 rfl) rfl ?_
            refine kv_icmp_ge C 76 rfl 90 (kdec dk_cX5_squeeze 40 rfl) (by decide) (fun d14 => ?_) (fun d14 => ?_)
            · skip
              exact cut90 w_61 l2_61 l3_61 l5_61 I_61 F_61 (by omega) (by omega)
            · skip
              refine kv_aload_n C 77 rfl 1 (kdec dk_cX5_squeeze 41 rfl) rfl rfl ?_
              refine kv_iload_n C 78 rfl 3 (kdec dk_cX5_squeeze 42 rfl) rfl rfl ?_
              refine kv_callSi (As := [.ref (ρ 2), .int l3_61]) (rest := []) C 81 rfl (k_changeAt l D τ ρ σ w_61 l3_61 I_61 (by omega)) mml_TaleMachine_Slot_73 mst_yX5_changeAt mcd_yX5_changeAt min_yX5_changeAt hd_yX5_changeAt rfl rfl rfl (by decide) rfl (Nat.le_of_ble_eq_true rfl) (kdec dk_cX5_squeeze 43 rfl) (fun x19 w15 h16 => ?_)
              obtain ⟨I17, f18, p20⟩ := h16
              have F21 : kF [(34, some 3), (35, none)] w w15 := kF_call F_61 f18 (by decide)
              have g22 := kf_rng x19
              refine kv_if_ne C 84 rfl 90 (kdec dk_cX5_squeeze 44 rfl) (by decide) (fun d23 => ?_) (fun d23 => ?_)
              · skip
                exact cut90 w15 l2_61 l3_61 l5_61 I17 F21 (by omega) (by omega)
              · skip
                refine kv_iinc C 87 rfl 3 3 [1, 2, 3, 0, 4] (fun v9 => [(0, .ref (ρ 34)), (1, .ref (ρ 2)), (2, .int l2_61), (3, .int v9), (5, .int l5_61)]) (kdec dk_cX5_squeeze 45 rfl) rfl (by decide) (fun _ => rfl) 1 rfl (fun x24 q25 h26e h26 h26l h26u => ?_)
                try have h26n : x24.toInt = l3_61.toInt + 1 := by omega
                clear h26 q25
                refine kv_goto C 61 (kdec dk_cX5_squeeze 46 rfl) (by decide) ?_
                exact ih61 w15 l2_61 x24 l5_61 I17 F21 (by omega) (by omega) (by omega)
      refine kv_iload_n C 33 rfl 3 (kdec dk_cX5_squeeze 18 rfl) rfl rfl ?_
      refine kv_iload_n C 34 rfl 2 (kdec dk_cX5_squeeze 19 rfl) rfl rfl ?_
      refine kv_icmp_ge C 37 rfl 101 (kdec dk_cX5_squeeze 20 rfl) (by decide) (fun d27 => ?_) (fun d27 => ?_)
      · skip
        exact kv_vret C hr hlk (kdec dk_cX5_squeeze 53 rfl) ⟨rfl, I_32, F_32⟩
      · skip
        refine kv_aload_n C 38 rfl 1 (kdec dk_cX5_squeeze 21 rfl) rfl rfl ?_
        refine kv_iload_n C 39 rfl 3 (kdec dk_cX5_squeeze 22 rfl) rfl rfl ?_
        refine kv_callSi (As := [.ref (ρ 2), .int l3_32]) (rest := []) C 42 rfl (k_changeAt l D τ ρ σ w_32 l3_32 I_32 (by omega)) mml_TaleMachine_Slot_73 mst_yX5_changeAt mcd_yX5_changeAt min_yX5_changeAt hd_yX5_changeAt rfl rfl rfl (by decide) rfl (Nat.le_of_ble_eq_true rfl) (kdec dk_cX5_squeeze 23 rfl) (fun x32 w28 h29 => ?_)
        obtain ⟨I30, f31, p33⟩ := h29
        have F34 : kF [(34, some 3), (35, none)] w w28 := kF_call F_32 f31 (by decide)
        have g35 := kf_rng x32
        refine kv_istore C 44 rfl 4 [1, 2, 3, 4, 0] [(0, .ref (ρ 34)), (1, .ref (ρ 2)), (2, .int l2_32), (3, .int l3_32), (4, .int x32)] (kdec dk_cX5_squeeze 24 rfl) (by decide) rfl ?_
        refine kv_aload_n C 45 rfl 0 (kdec dk_cX5_squeeze 25 rfl) rfl rfl ?_
        refine kv_iload C 47 rfl 4 (kdec dk_cX5_squeeze 26 rfl) rfl ?_
        refine kv_callVv (As := [.int x32]) (rest := []) C 50 rfl 34 (k_s_add1 l D τ ρ σ w28 x32 I30 (by omega)) rfl rfl mml_TaleMachine_Slot_77 mim_yX5_add mse_yX5_add mcd_yX5_add min_yX5_add hd_yX5_add rfl rfl rfl (by decide) rfl (Nat.le_of_ble_eq_true rfl) (kdec dk_cX5_squeeze 27 rfl) (fun w36 h37 => ?_)
        obtain ⟨I38, f39⟩ := h37
        have F41 : kF [(34, some 3), (35, none)] w w36 := kF_call F34 f39 (by decide)
        refine kv_iinc C 53 rfl 3 3 [1, 2, 3, 0, 4] (fun v9 => [(0, .ref (ρ 34)), (1, .ref (ρ 2)), (2, .int l2_32), (3, .int v9), (4, .int x32)]) (kdec dk_cX5_squeeze 28 rfl) rfl (by decide) (fun _ => rfl) 1 rfl (fun x42 q43 h44e h44 h44l h44u => ?_)
        try have h44n : x42.toInt = l3_32.toInt + 1 := by omega
        clear h44 q43
        refine kv_iload C 55 rfl 4 (kdec dk_cX5_squeeze 29 rfl) rfl ?_
        refine kv_if_ne C 58 rfl 98 (kdec dk_cX5_squeeze 30 rfl) (by decide) (fun d45 => ?_) (fun d45 => ?_)
        · skip
          refine kv_goto C 32 (kdec dk_cX5_squeeze 52 rfl) (by decide) ?_
          refine kV.sub [0, 1, 2, 3] (L' := [(0, .ref (ρ 34)), (1, .ref (ρ 2)), (2, .int l2_32), (3, .int x42)]) rfl ?_
          exact ih32 w36 l2_32 x42 I38 F41 (by omega) (by omega)
        · skip
          refine kv_iload_n C 59 rfl 3 (kdec dk_cX5_squeeze 31 rfl) rfl rfl ?_
          refine kv_istore C 61 rfl 5 [1, 2, 3, 4, 5, 0] [(0, .ref (ρ 34)), (1, .ref (ρ 2)), (2, .int l2_32), (3, .int x42), (4, .int x32), (5, .int x42)] (kdec dk_cX5_squeeze 32 rfl) (by decide) rfl ?_
          refine kV.sub [0, 1, 2, 3, 5] (L' := [(0, .ref (ρ 34)), (1, .ref (ρ 2)), (2, .int l2_32), (3, .int x42), (5, .int x42)]) rfl ?_
          exact cut61 ((((1025 - (x42 : Int32).toInt)) : Int).toNat + 1) w36 l2_32 x42 x42 I38 F41 (by omega) (by omega) (by omega)
  have cut30 : ∀ (w_30 : kw) (l2_30 : Int32), kI true w_30 → kF [(34, some 3), (35, none)] w w_30 → (0 ≤ l2_30.toInt ∧ l2_30.toInt ≤ 1024) → kV p l e { frames := 1, cells := 0, slots := 0, locals := 36 } s m args below meth c (kQ below args s D τ ρ (fun o w' => o = none ∧ kI true w' ∧ kF [(34, some 3), (35, none)] w w')) 6 D τ ρ 30 [(0, .ref (ρ 34)), (1, .ref (ρ 2)), (2, .int l2_30)] [] w_30 := by
    intro w_30 l2_30 I_30 F_30 k30_0
    have gl2_30 := kf_rng l2_30
    refine kv_iconst C 31 rfl 0 (kdec dk_cX5_squeeze 16 rfl) rfl ?_
    refine kv_istore_n C 32 rfl 3 [1, 2, 3, 0] [(0, .ref (ρ 34)), (1, .ref (ρ 2)), (2, .int l2_30), (3, .int 0)] (kdec dk_cX5_squeeze 17 rfl) rfl (by decide) rfl ?_
    exact cut32 ((((1025 - (0 : Int32).toInt)) : Int).toNat + 1) w_30 l2_30 0 I_30 F_30 (by omega) (by omega)
  have cut10 : ∀ (n_10 : Nat) (w_10 : kw) (l2_10 : Int32), kI true w_10 → kF [(34, some 3), (35, none)] w w_10 → (0 ≤ l2_10.toInt ∧ l2_10.toInt ≤ 1024) → (l2_10.toInt : Int) < (n_10 : Int) → kV p l e { frames := 1, cells := 0, slots := 0, locals := 36 } s m args below meth c (kQ below args s D τ ρ (fun o w' => o = none ∧ kI true w' ∧ kF [(34, some 3), (35, none)] w w')) 6 D τ ρ 10 [(0, .ref (ρ 34)), (1, .ref (ρ 2)), (2, .int l2_10)] [] w_10 := by
    intro n_10
    induction n_10 with
    | zero => intro w_10 l2_10 I_10 F_10 k10_0 hmz; exfalso; omega
    | succ n_10 ih10 =>
      intro w_10 l2_10 I_10 F_10 k10_0 hm10
      have gl2_10 := kf_rng l2_10
      refine kv_iload_n C 11 rfl 2 (kdec dk_cX5_squeeze 6 rfl) rfl rfl ?_
      refine kv_if_le C 14 rfl 30 (kdec dk_cX5_squeeze 7 rfl) (by decide) (fun d46 => ?_) (fun d46 => ?_)
      · skip
        exact cut30 w_10 l2_10 I_10 F_10 (by omega)
      · skip
        refine kv_aload_n C 15 rfl 1 (kdec dk_cX5_squeeze 8 rfl) rfl rfl ?_
        refine kv_iload_n C 16 rfl 2 (kdec dk_cX5_squeeze 9 rfl) rfl rfl ?_
        refine kv_iconst C 17 rfl 1 (kdec dk_cX5_squeeze 10 rfl) rfl ?_
        refine kv_isub C 18 rfl (kdec dk_cX5_squeeze 11 rfl) (fun x47 q49 h48e h48 h48l h48u => ?_)
        try have h48n : x47.toInt = l2_10.toInt - (1 : Int32).toInt := by omega
        clear h48 q49
        refine kv_callSi (As := [.ref (ρ 2), .int x47]) (rest := []) C 21 rfl (k_changeAt l D τ ρ σ w_10 x47 I_10 (by omega)) mml_TaleMachine_Slot_73 mst_yX5_changeAt mcd_yX5_changeAt min_yX5_changeAt hd_yX5_changeAt rfl rfl rfl (by decide) rfl (Nat.le_of_ble_eq_true rfl) (kdec dk_cX5_squeeze 12 rfl) (fun x54 w50 h51 => ?_)
        obtain ⟨I52, f53, p55⟩ := h51
        have F56 : kF [(34, some 3), (35, none)] w w50 := kF_call F_10 f53 (by decide)
        have g57 := kf_rng x54
        refine kv_if_ne C 24 rfl 30 (kdec dk_cX5_squeeze 13 rfl) (by decide) (fun d58 => ?_) (fun d58 => ?_)
        · skip
          exact cut30 w50 l2_10 I52 F56 (by omega)
        · skip
          refine kv_iinc C 27 rfl 2 2 [1, 2, 0] (fun v9 => [(0, .ref (ρ 34)), (1, .ref (ρ 2)), (2, .int v9)]) (kdec dk_cX5_squeeze 14 rfl) rfl (by decide) (fun _ => rfl) (-1) rfl (fun x59 q60 h61e h61 h61l h61u => ?_)
          try have h61n : x59.toInt = l2_10.toInt + (-1) := by omega
          clear h61 q60
          refine kv_goto C 10 (kdec dk_cX5_squeeze 15 rfl) (by decide) ?_
          exact ih10 w50 x59 I52 F56 (by omega) (by omega)
  refine kv_aload_n C 1 rfl 0 (kdec dk_cX5_squeeze 0 rfl) rfl rfl ?_
  refine kv_iconst C 2 rfl 0 (kdec dk_cX5_squeeze 1 rfl) rfl ?_
  refine kv_put C 5 rfl 34 3 rfl rfl inX5 (by decide) mfl_TaleMachine_Slot_67 rfl tyX5 tyX5_ok nmX5 rfl rfl (kdec dk_cX5_squeeze 2 rfl) rfl rfl (fun w62 u63 => ?_)
  have I64 : kI true w62 := kI_put u63 hI (show (0 : Int) ≤ (0 : Int32).toInt by omega) (show (0 : Int32).toInt ≤ 1536 by omega)
  have F65 : kF [(34, some 3), (35, none)] w w62 := kF_put u63 hF0 rfl
  refine kv_aload_n C 6 rfl 1 (kdec dk_cX5_squeeze 3 rfl) rfl rfl ?_
  obtain ⟨x66, e67⟩ : ∃ z : Int32, w 2 3 = z := ⟨_, rfl⟩
  have b68 : (0 : Int) ≤ x66.toInt ∧ x66.toInt ≤ 1024 := by rw [← e67]; exact hI 2 3
  have e69 : w62 2 3 = x66 := ((kup_ne u63 rfl : w62 2 3 = w 2 3).trans e67)
  refine kv_getN C 9 rfl 2 3 rfl rfl inX6 (by decide) mfn_TaleMachine_Slot_70 rfl rfl (kdec dk_cX5_squeeze 4 rfl) e69 ?_
  refine kv_istore_n C 10 rfl 2 [1, 2, 0] [(0, .ref (ρ 34)), (1, .ref (ρ 2)), (2, .int x66)] (kdec dk_cX5_squeeze 5 rfl) rfl (by decide) rfl ?_
  exact cut10 ((((x66 : Int32).toInt) : Int).toNat + 1) w62 x66 I64 F65 (by omega) (by omega)

set_option maxHeartbeats 4000000 in
set_option maxRecDepth 100000 in
theorem k_s_expand1 (l : Launch) (D : va_G) (τ : Nat → ClassId) (ρ σ : Nat → Nat) (w : kw)  (hI : kI true w)  :
    kM l D τ ρ σ yX5_expand cX5_expand 4 none { frames := 3, cells := 0, slots := 0, locals := 108 } [.ref (ρ 34), .ref (ρ 2)] w
      (fun o w' => o = none ∧ kI true w' ∧ kF [(3, none)] w w') := by
  refine kM_of (own := "TaleMachine$Slot") rfl (by decide) (Nat.le_of_ble_eq_true rfl) ?_
  intro p e s m args below meth c C hr hlk
  have hF0 : kF [(3, none)] w w := kF.rf
  have c_0 : (0 : Int32).toInt = 0 := by decide
  have c_1 : (1 : Int32).toInt = 1 := by decide
  refine kV.L (L' := [(0, .ref (ρ 34)), (1, .ref (ρ 2))]) rfl ?_
  have cut8 : ∀ (n_8 : Nat) (w_8 : kw) (l2_8 l3_8 : Int32), kI true w_8 → kF [(3, none)] w w_8 → (0 ≤ l2_8.toInt ∧ l2_8.toInt ≤ 1280) → (0 ≤ l3_8.toInt ∧ l3_8.toInt ≤ 1536) → ((1537 - l3_8.toInt) : Int) < (n_8 : Int) → kV p l e { frames := 3, cells := 0, slots := 0, locals := 108 } s m args below meth c (kQ below args s D τ ρ (fun o w' => o = none ∧ kI true w' ∧ kF [(3, none)] w w')) 4 D τ ρ 8 [(0, .ref (ρ 34)), (1, .ref (ρ 2)), (2, .int l2_8), (3, .int l3_8)] [] w_8 := by
    intro n_8
    induction n_8 with
    | zero => intro w_8 l2_8 l3_8 I_8 F_8 k8_0 k8_1 hmz; exfalso; omega
    | succ n_8 ih8 =>
      intro w_8 l2_8 l3_8 I_8 F_8 k8_0 k8_1 hm8
      have gl2_8 := kf_rng l2_8
      have gl3_8 := kf_rng l3_8
      have cut77 : ∀ (w_77 : kw) (l2_77 l3_77 : Int32), kI true w_77 → kF [(3, none)] w w_77 → (0 ≤ l2_77.toInt ∧ l2_77.toInt ≤ 1279) → (l3_8.toInt ≤ l3_77.toInt ∧ l3_77.toInt < 1536) → kV p l e { frames := 3, cells := 0, slots := 0, locals := 108 } s m args below meth c (kQ below args s D τ ρ (fun o w' => o = none ∧ kI true w' ∧ kF [(3, none)] w w')) 4 D τ ρ 77 [(0, .ref (ρ 34)), (1, .ref (ρ 2)), (2, .int l2_77), (3, .int l3_77)] [] w_77 := by
        intro w_77 l2_77 l3_77 I_77 F_77 k77_0 k77_1
        have gl2_77 := kf_rng l2_77
        have gl3_77 := kf_rng l3_77
        refine kv_iinc C 80 rfl 2 2 [1, 2, 0, 3] (fun v9 => [(0, .ref (ρ 34)), (1, .ref (ρ 2)), (2, .int v9), (3, .int l3_77)]) (kdec dk_cX5_expand 47 rfl) rfl (by decide) (fun _ => rfl) 1 rfl (fun x1 q2 h3e h3 h3l h3u => ?_)
        try have h3n : x1.toInt = l2_77.toInt + 1 := by omega
        clear h3 q2
        refine kv_iinc C 83 rfl 3 3 [1, 2, 3, 0] (fun v9 => [(0, .ref (ρ 34)), (1, .ref (ρ 2)), (2, .int x1), (3, .int v9)]) (kdec dk_cX5_expand 48 rfl) rfl (by decide) (fun _ => rfl) 1 rfl (fun x4 q5 h6e h6 h6l h6u => ?_)
        try have h6n : x4.toInt = l3_77.toInt + 1 := by omega
        clear h6 q5
        refine kv_goto C 8 (kdec dk_cX5_expand 49 rfl) (by decide) ?_
        exact ih8 w_77 x1 x4 I_77 F_77 (by omega) (by omega) (by omega)
      refine kv_iload_n C 9 rfl 3 (kdec dk_cX5_expand 6 rfl) rfl rfl ?_
      refine kv_aload_n C 10 rfl 0 (kdec dk_cX5_expand 7 rfl) rfl rfl ?_
      obtain ⟨x7, e8⟩ : ∃ z : Int32, w 34 3 = z := ⟨_, rfl⟩
      have b9 : (0 : Int) ≤ x7.toInt ∧ x7.toInt ≤ 1536 := by rw [← e8]; exact hI 34 3
      have e10 : w_8 34 3 = x7 := ((F_8 34 3 rfl : w_8 34 3 = w 34 3).trans e8)
      refine kv_get C 13 rfl 34 3 rfl rfl inX5 (by decide) mfl_TaleMachine_Slot_67 rfl rfl (kdec dk_cX5_expand 8 rfl) e10 ?_
      refine kv_icmp_ge C 16 rfl 86 (kdec dk_cX5_expand 9 rfl) (by decide) (fun d11 => ?_) (fun d11 => ?_)
      · skip
        exact kv_vret C hr hlk (kdec dk_cX5_expand 50 rfl) ⟨rfl, I_8, F_8⟩
      · skip
        refine kv_iload_n C 17 rfl 2 (kdec dk_cX5_expand 10 rfl) rfl rfl ?_
        refine kv_aload_n C 18 rfl 1 (kdec dk_cX5_expand 11 rfl) rfl rfl ?_
        obtain ⟨x12, e13⟩ : ∃ z : Int32, w 2 3 = z := ⟨_, rfl⟩
        have b14 : (0 : Int) ≤ x12.toInt ∧ x12.toInt ≤ 1024 := by rw [← e13]; exact hI 2 3
        have e15 : w_8 2 3 = x12 := ((F_8 2 3 rfl : w_8 2 3 = w 2 3).trans e13)
        refine kv_getN C 21 rfl 2 3 rfl rfl inX6 (by decide) mfn_TaleMachine_Slot_70 rfl rfl (kdec dk_cX5_expand 12 rfl) e15 ?_
        refine kv_icmp_ge C 24 rfl 86 (kdec dk_cX5_expand 13 rfl) (by decide) (fun d16 => ?_) (fun d16 => ?_)
        · skip
          exact kv_vret C hr hlk (kdec dk_cX5_expand 50 rfl) ⟨rfl, I_8, F_8⟩
        · skip
          refine kv_aload_n C 25 rfl 0 (kdec dk_cX5_expand 14 rfl) rfl rfl ?_
          refine kv_getr C 28 rfl 34 0 rfl rfl inX5 (by decide) mfl_TaleMachine_Slot_11 rfl rfl (kdec dk_cX5_expand 15 rfl) ?_
          refine kv_iload_n C 29 rfl 3 (kdec dk_cX5_expand 16 rfl) rfl rfl ?_
          obtain ⟨x17, e18⟩ : ∃ z : Int32, w_8 35 (l3_8 : Int32).toNatClampNeg = z := ⟨_, rfl⟩
          have b19 : (0 : Int) ≤ x17.toInt ∧ x17.toInt ≤ 255 := by rw [← e18]; exact I_8 35 _
          refine kv_iald C 30 rfl 35 rfl (by omega) (by omega) e18 (kdec dk_cX5_expand 17 rfl) ?_
          refine kv_if_eq C 33 rfl 55 (kdec dk_cX5_expand 18 rfl) (by decide) (fun d20 => ?_) (fun d20 => ?_)
          · skip
            refine kv_iload_n C 56 rfl 3 (kdec dk_cX5_expand 33 rfl) rfl rfl ?_
            refine kv_iconst C 57 rfl 1 (kdec dk_cX5_expand 34 rfl) rfl ?_
            refine kv_iadd C 58 rfl (kdec dk_cX5_expand 35 rfl) (fun x21 q23 h22e h22 h22l h22u => ?_)
            try have h22n : x21.toInt = l3_8.toInt + (1 : Int32).toInt := by omega
            clear h22 q23
            refine kv_aload_n C 59 rfl 0 (kdec dk_cX5_expand 36 rfl) rfl rfl ?_
            refine kv_get C 62 rfl 34 3 rfl rfl inX5 (by decide) mfl_TaleMachine_Slot_67 rfl rfl (kdec dk_cX5_expand 37 rfl) e10 ?_
            refine kv_icmp_ge C 65 rfl 77 (kdec dk_cX5_expand 38 rfl) (by decide) (fun d24 => ?_) (fun d24 => ?_)
            · skip
              exact cut77 w_8 l2_8 l3_8 I_8 F_8 (by omega) (by omega)
            · skip
              refine kv_iinc C 68 rfl 3 3 [1, 2, 3, 0] (fun v9 => [(0, .ref (ρ 34)), (1, .ref (ρ 2)), (2, .int l2_8), (3, .int v9)]) (kdec dk_cX5_expand 39 rfl) rfl (by decide) (fun _ => rfl) 1 rfl (fun x25 q26 h27e h27 h27l h27u => ?_)
              try have h27n : x25.toInt = l3_8.toInt + 1 := by omega
              clear h27 q26
              refine kv_iload_n C 69 rfl 2 (kdec dk_cX5_expand 40 rfl) rfl rfl ?_
              refine kv_aload_n C 70 rfl 0 (kdec dk_cX5_expand 41 rfl) rfl rfl ?_
              refine kv_getr C 73 rfl 34 0 rfl rfl inX5 (by decide) mfl_TaleMachine_Slot_11 rfl rfl (kdec dk_cX5_expand 42 rfl) ?_
              refine kv_iload_n C 74 rfl 3 (kdec dk_cX5_expand 43 rfl) rfl rfl ?_
              obtain ⟨x28, e29⟩ : ∃ z : Int32, w_8 35 (x25 : Int32).toNatClampNeg = z := ⟨_, rfl⟩
              have b30 : (0 : Int) ≤ x28.toInt ∧ x28.toInt ≤ 255 := by rw [← e29]; exact I_8 35 _
              refine kv_iald C 75 rfl 35 rfl (by omega) (by omega) e29 (kdec dk_cX5_expand 44 rfl) ?_
              refine kv_iadd C 76 rfl (kdec dk_cX5_expand 45 rfl) (fun x31 q33 h32e h32 h32l h32u => ?_)
              try have h32n : x31.toInt = l2_8.toInt + x28.toInt := by omega
              clear h32 q33
              refine kv_istore_n C 77 rfl 2 [1, 2, 0, 3] [(0, .ref (ρ 34)), (1, .ref (ρ 2)), (2, .int x31), (3, .int x25)] (kdec dk_cX5_expand 46 rfl) rfl (by decide) rfl ?_
              exact cut77 w_8 x31 x25 I_8 F_8 (by omega) (by omega)
          · skip
            refine kv_aload_n C 34 rfl 1 (kdec dk_cX5_expand 19 rfl) rfl rfl ?_
            refine kv_getrN C 37 rfl 2 0 rfl rfl inX6 (by decide) mfn_TaleMachine_Slot_61 rfl rfl (kdec dk_cX5_expand 20 rfl) ?_
            refine kv_iload_n C 38 rfl 2 (kdec dk_cX5_expand 21 rfl) rfl rfl ?_
            refine kv_aload_n C 39 rfl 1 (kdec dk_cX5_expand 22 rfl) rfl rfl ?_
            refine kv_getrN C 42 rfl 2 1 rfl rfl inX6 (by decide) mfn_TaleMachine_Slot_64 rfl rfl (kdec dk_cX5_expand 23 rfl) ?_
            refine kv_iload_n C 43 rfl 2 (kdec dk_cX5_expand 24 rfl) rfl rfl ?_
            obtain ⟨x34, e35⟩ : ∃ z : Int32, w_8 4 (l2_8 : Int32).toNatClampNeg = z := ⟨_, rfl⟩
            have b36 : (0 : Int) ≤ x34.toInt ∧ x34.toInt ≤ 255 := by rw [← e35]; exact I_8 4 _
            refine kv_iald C 44 rfl 4 rfl (by omega) (by omega) e35 (kdec dk_cX5_expand 25 rfl) ?_
            refine kv_aload_n C 45 rfl 0 (kdec dk_cX5_expand 26 rfl) rfl rfl ?_
            refine kv_getr C 48 rfl 34 0 rfl rfl inX5 (by decide) mfl_TaleMachine_Slot_11 rfl rfl (kdec dk_cX5_expand 27 rfl) ?_
            refine kv_iload_n C 49 rfl 3 (kdec dk_cX5_expand 28 rfl) rfl rfl ?_
            obtain ⟨x37, e38⟩ : ∃ z : Int32, w_8 35 (l3_8 : Int32).toNatClampNeg = z := ⟨_, rfl⟩
            have b39 : (0 : Int) ≤ x37.toInt ∧ x37.toInt ≤ 255 := by rw [← e38]; exact I_8 35 _
            refine kv_iald C 50 rfl 35 rfl (by omega) (by omega) e38 (kdec dk_cX5_expand 29 rfl) ?_
            refine kv_ixor C 51 rfl (kdec dk_cX5_expand 30 rfl) (fun x40 h41e h41l h41u => ?_)
            have g42 := kf_xor255 h41e (by omega) (by omega) (by omega) (by omega)
            refine kv_iast C 52 rfl 3 rfl (by omega) (by omega) (kdec dk_cX5_expand 31 rfl) (fun w43 u44 => ?_)
            have I45 : kI true w43 := kI_put u44 I_8 (show (0 : Int) ≤ (x40 : Int32).toInt by omega) (show (x40 : Int32).toInt ≤ 255 by omega)
            have F46 : kF [(3, none)] w w43 := kF_put u44 F_8 rfl
            refine kv_goto C 77 (kdec dk_cX5_expand 32 rfl) (by decide) ?_
            exact cut77 w43 l2_8 l3_8 I45 F46 (by omega) (by omega)
  refine kv_aload_n C 1 rfl 1 (kdec dk_cX5_expand 0 rfl) rfl rfl ?_
  refine kv_callVNv (As := []) (rest := []) C 4 rfl 2 (k_renew l D τ ρ σ w  hI ) rfl rfl mmn_TaleMachine_Slot_81 mim_yX6_renew mse_yX6_renew mcd_yX6_renew min_yX6_renew hd_yX6_renew rfl rfl rfl (by decide) rfl (Nat.le_of_ble_eq_true rfl) (kdec dk_cX5_expand 1 rfl) (fun w47 h48 => ?_)
  obtain ⟨I49, f50⟩ := h48
  have F52 : kF [(3, none)] w w47 := kF_call hF0 f50 (by decide)
  refine kv_iconst C 5 rfl 0 (kdec dk_cX5_expand 2 rfl) rfl ?_
  refine kv_istore_n C 6 rfl 2 [1, 2, 0] [(0, .ref (ρ 34)), (1, .ref (ρ 2)), (2, .int 0)] (kdec dk_cX5_expand 3 rfl) rfl (by decide) rfl ?_
  refine kv_iconst C 7 rfl 0 (kdec dk_cX5_expand 4 rfl) rfl ?_
  refine kv_istore_n C 8 rfl 3 [1, 2, 3, 0] [(0, .ref (ρ 34)), (1, .ref (ρ 2)), (2, .int 0), (3, .int 0)] (kdec dk_cX5_expand 5 rfl) rfl (by decide) rfl ?_
  exact cut8 ((((1537 - (0 : Int32).toInt)) : Int).toNat + 1) w47 0 0 I49 F52 (by omega) (by omega) (by omega)

set_option maxHeartbeats 4000000 in
set_option maxRecDepth 100000 in
theorem k_s_keep1 (l : Launch) (D : va_G) (τ : Nat → ClassId) (ρ σ : Nat → Nat) (w : kw)  (hI : kI true w)  :
    kM l D τ ρ σ yX5_keep cX5_keep 4 none { frames := 3, cells := 0, slots := 0, locals := 108 } [.ref (ρ 34), .ref (ρ 2), .ref (ρ 5), .ref (ρ 20)] w
      (fun o w' => o = none ∧ kI true w' ∧ kF [(34, some 2), (34, some 3), (34, some 4), (34, some 5), (34, some 6), (34, some 7), (35, none), (36, some 6), (36, some 7), (37, none), (38, none), (39, none), (40, none), (41, none), (42, none)] w w' ∧ ((w' 34 5).toInt = (w 20 10).toInt)) := by
  refine kM_of (own := "TaleMachine$Slot") rfl (by decide) (Nat.le_of_ble_eq_true rfl) ?_
  intro p e s m args below meth c C hr hlk
  have hF0 : kF [(34, some 2), (34, some 3), (34, some 4), (34, some 5), (34, some 6), (34, some 7), (35, none), (36, some 6), (36, some 7), (37, none), (38, none), (39, none), (40, none), (41, none), (42, none)] w w := kF.rf
  have c_1 : (1 : Int32).toInt = 1 := by decide
  refine kV.L (L' := [(0, .ref (ρ 34)), (1, .ref (ρ 2)), (2, .ref (ρ 5)), (3, .ref (ρ 20))]) rfl ?_
  refine kv_aload_n C 1 rfl 0 (kdec dk_cX5_keep 0 rfl) rfl rfl ?_
  refine kv_aload_n C 2 rfl 1 (kdec dk_cX5_keep 1 rfl) rfl rfl ?_
  refine kv_callVv (As := [.ref (ρ 2)]) (rest := []) C 5 rfl 34 (k_s_squeeze1 l D τ ρ σ w  hI ) rfl rfl mml_TaleMachine_Slot_22 mim_yX5_squeeze mse_yX5_squeeze mcd_yX5_squeeze min_yX5_squeeze hd_yX5_squeeze rfl rfl rfl (by decide) rfl (Nat.le_of_ble_eq_true rfl) (kdec dk_cX5_keep 2 rfl) (fun w1 h2 => ?_)
  obtain ⟨I3, f4⟩ := h2
  have F6 : kF [(34, some 2), (34, some 3), (34, some 4), (34, some 5), (34, some 6), (34, some 7), (35, none), (36, some 6), (36, some 7), (37, none), (38, none), (39, none), (40, none), (41, none), (42, none)] w w1 := kF_call hF0 f4 (by decide)
  refine kv_aload_n C 6 rfl 0 (kdec dk_cX5_keep 3 rfl) rfl rfl ?_
  refine kv_getr C 9 rfl 34 1 rfl rfl inX5 (by decide) mfl_TaleMachine_Slot_18 rfl rfl (kdec dk_cX5_keep 4 rfl) ?_
  refine kv_aload_n C 10 rfl 2 (kdec dk_cX5_keep 5 rfl) rfl rfl ?_
  refine kv_callVNv (As := [.ref (ρ 5)]) (rest := []) C 13 rfl 36 (k_copyTo1 l D τ ρ σ w1  I3 ) rfl rfl mmn_TaleMachine_Slot_26 mim_yX3_copyFrom mse_yX3_copyFrom mcd_yX3_copyFrom min_yX3_copyFrom hd_yX3_copyFrom rfl rfl rfl (by decide) rfl (Nat.le_of_ble_eq_true rfl) (kdec dk_cX5_keep 6 rfl) (fun w7 h8 => ?_)
  obtain ⟨I9, f10⟩ := h8
  have F12 : kF [(34, some 2), (34, some 3), (34, some 4), (34, some 5), (34, some 6), (34, some 7), (35, none), (36, some 6), (36, some 7), (37, none), (38, none), (39, none), (40, none), (41, none), (42, none)] w w7 := kF_call F6 f10 (by decide)
  refine kv_aload_n C 14 rfl 0 (kdec dk_cX5_keep 7 rfl) rfl rfl ?_
  refine kv_aload_n C 15 rfl 3 (kdec dk_cX5_keep 8 rfl) rfl rfl ?_
  obtain ⟨x13, e14⟩ : ∃ z : Int32, w 20 8 = z := ⟨_, rfl⟩
  have b15 : (-2147483648 : Int) ≤ x13.toInt ∧ x13.toInt ≤ 2147483647 := by rw [← e14]; exact hI 20 8
  have e16 : w7 20 8 = x13 := ((f10 20 8 rfl : w7 20 8 = w1 20 8).trans ((f4 20 8 rfl : w1 20 8 = w 20 8).trans e14))
  refine kv_getN C 18 rfl 20 8 rfl rfl inX1 (by decide) mfn_TaleMachine_Slot_30 rfl rfl (kdec dk_cX5_keep 9 rfl) e16 ?_
  refine kv_put C 21 rfl 34 4 rfl rfl inX5 (by decide) mfl_TaleMachine_Slot_36 rfl tyX5 tyX5_ok nmX5 rfl rfl (kdec dk_cX5_keep 10 rfl) rfl rfl (fun w17 u18 => ?_)
  have I19 : kI true w17 := kI_put u18 I9 (kf_rng _).1 (kf_rng _).2
  have F20 : kF [(34, some 2), (34, some 3), (34, some 4), (34, some 5), (34, some 6), (34, some 7), (35, none), (36, some 6), (36, some 7), (37, none), (38, none), (39, none), (40, none), (41, none), (42, none)] w w17 := kF_put u18 F12 rfl
  refine kv_aload_n C 22 rfl 0 (kdec dk_cX5_keep 11 rfl) rfl rfl ?_
  refine kv_aload_n C 23 rfl 3 (kdec dk_cX5_keep 12 rfl) rfl rfl ?_
  obtain ⟨x21, e22⟩ : ∃ z : Int32, w 20 10 = z := ⟨_, rfl⟩
  have b23 : (0 : Int) ≤ x21.toInt ∧ x21.toInt ≤ 4 := by rw [← e22]; exact hI 20 10
  have e24 : w17 20 10 = x21 := ((kup_ne u18 rfl : w17 20 10 = w7 20 10).trans ((f10 20 10 rfl : w7 20 10 = w1 20 10).trans ((f4 20 10 rfl : w1 20 10 = w 20 10).trans e22)))
  refine kv_getN C 26 rfl 20 10 rfl rfl inX1 (by decide) mfn_TaleMachine_Slot_37 rfl rfl (kdec dk_cX5_keep 13 rfl) e24 ?_
  refine kv_put C 29 rfl 34 5 rfl rfl inX5 (by decide) mfl_TaleMachine_Slot_40 rfl tyX5 tyX5_ok nmX5 rfl rfl (kdec dk_cX5_keep 14 rfl) rfl rfl (fun w25 u26 => ?_)
  have I27 : kI true w25 := kI_put u26 I19 (show (0 : Int) ≤ (x21 : Int32).toInt by omega) (show (x21 : Int32).toInt ≤ 4 by omega)
  have F28 : kF [(34, some 2), (34, some 3), (34, some 4), (34, some 5), (34, some 6), (34, some 7), (35, none), (36, some 6), (36, some 7), (37, none), (38, none), (39, none), (40, none), (41, none), (42, none)] w w25 := kF_put u26 F20 rfl
  refine kv_aload_n C 30 rfl 0 (kdec dk_cX5_keep 15 rfl) rfl rfl ?_
  refine kv_aload_n C 31 rfl 3 (kdec dk_cX5_keep 16 rfl) rfl rfl ?_
  obtain ⟨x29, e30⟩ : ∃ z : Int32, w 20 13 = z := ⟨_, rfl⟩
  have b31 : (-2147483648 : Int) ≤ x29.toInt ∧ x29.toInt ≤ 2147483647 := by rw [← e30]; exact hI 20 13
  have e32 : w25 20 13 = x29 := ((kup_ne u26 rfl : w25 20 13 = w17 20 13).trans ((kup_ne u18 rfl : w17 20 13 = w7 20 13).trans ((f10 20 13 rfl : w7 20 13 = w1 20 13).trans ((f4 20 13 rfl : w1 20 13 = w 20 13).trans e30))))
  refine kv_getN C 34 rfl 20 13 rfl rfl inX1 (by decide) mfn_TaleMachine_Slot_41 rfl rfl (kdec dk_cX5_keep 17 rfl) e32 ?_
  refine kv_put C 37 rfl 34 6 rfl rfl inX5 (by decide) mfl_TaleMachine_Slot_44 rfl tyX5 tyX5_ok nmX5 rfl rfl (kdec dk_cX5_keep 18 rfl) rfl rfl (fun w33 u34 => ?_)
  have I35 : kI true w33 := kI_put u34 I27 (kf_rng _).1 (kf_rng _).2
  have F36 : kF [(34, some 2), (34, some 3), (34, some 4), (34, some 5), (34, some 6), (34, some 7), (35, none), (36, some 6), (36, some 7), (37, none), (38, none), (39, none), (40, none), (41, none), (42, none)] w w33 := kF_put u34 F28 rfl
  refine kv_aload_n C 38 rfl 0 (kdec dk_cX5_keep 19 rfl) rfl rfl ?_
  refine kv_aload_n C 39 rfl 3 (kdec dk_cX5_keep 20 rfl) rfl rfl ?_
  obtain ⟨x37, e38⟩ : ∃ z : Int32, w 20 14 = z := ⟨_, rfl⟩
  have b39 : (-2147483648 : Int) ≤ x37.toInt ∧ x37.toInt ≤ 2147483647 := by rw [← e38]; exact hI 20 14
  have e40 : w33 20 14 = x37 := ((kup_ne u34 rfl : w33 20 14 = w25 20 14).trans ((kup_ne u26 rfl : w25 20 14 = w17 20 14).trans ((kup_ne u18 rfl : w17 20 14 = w7 20 14).trans ((f10 20 14 rfl : w7 20 14 = w1 20 14).trans ((f4 20 14 rfl : w1 20 14 = w 20 14).trans e38)))))
  refine kv_getN C 42 rfl 20 14 rfl rfl inX1 (by decide) mfn_TaleMachine_Slot_45 rfl rfl (kdec dk_cX5_keep 21 rfl) e40 ?_
  refine kv_put C 45 rfl 34 7 rfl rfl inX5 (by decide) mfl_TaleMachine_Slot_48 rfl tyX5 tyX5_ok nmX5 rfl rfl (kdec dk_cX5_keep 22 rfl) rfl rfl (fun w41 u42 => ?_)
  have I43 : kI true w41 := kI_put u42 I35 (kf_rng _).1 (kf_rng _).2
  have F44 : kF [(34, some 2), (34, some 3), (34, some 4), (34, some 5), (34, some 6), (34, some 7), (35, none), (36, some 6), (36, some 7), (37, none), (38, none), (39, none), (40, none), (41, none), (42, none)] w w41 := kF_put u42 F36 rfl
  refine kv_aload_n C 46 rfl 0 (kdec dk_cX5_keep 23 rfl) rfl rfl ?_
  refine kv_iconst C 47 rfl 1 (kdec dk_cX5_keep 24 rfl) rfl ?_
  refine kv_put C 50 rfl 34 2 rfl rfl inX5 (by decide) mfl_TaleMachine_Slot_49 rfl tyX5 tyX5_ok nmX5 rfl rfl (kdec dk_cX5_keep 25 rfl) (kf_bool (by decide)) rfl (fun w45 u46 => ?_)
  have I47 : kI true w45 := kI_put u46 I43 (show (0 : Int) ≤ (1 : Int32).toInt by omega) (show (1 : Int32).toInt ≤ 1 by omega)
  have F48 : kF [(34, some 2), (34, some 3), (34, some 4), (34, some 5), (34, some 6), (34, some 7), (35, none), (36, some 6), (36, some 7), (37, none), (38, none), (39, none), (40, none), (41, none), (42, none)] w w45 := kF_put u46 F44 rfl
  have e49 : w45 34 5 = x21 := ((kup_ne u46 rfl : w45 34 5 = w41 34 5).trans ((kup_ne u42 rfl : w41 34 5 = w33 34 5).trans ((kup_ne u34 rfl : w33 34 5 = w25 34 5).trans (kup_eq u26))))
  exact kv_vret C hr hlk (kdec dk_cX5_keep 26 rfl) ⟨rfl, I47, F48, (by rw [e22, e49]; try omega)⟩

set_option maxHeartbeats 4000000 in
set_option maxRecDepth 100000 in
theorem k_s_giveBack1 (l : Launch) (D : va_G) (τ : Nat → ClassId) (ρ σ : Nat → Nat) (w : kw)  (hI : kI true w)  :
    kM l D τ ρ σ yX5_giveBack cX5_giveBack 4 none { frames := 4, cells := 0, slots := 0, locals := 144 } [.ref (ρ 34), .ref (ρ 2), .ref (ρ 5), .ref (ρ 20)] w
      (fun o w' => o = none ∧ kI true w' ∧ kF [(2, some 9), (3, none), (5, some 6), (5, some 7), (6, none), (7, none), (8, none), (9, none), (10, none), (11, none), (20, some 8), (20, some 10), (20, some 13), (20, some 14)] w w' ∧ ((w' 20 10).toInt = (w 34 5).toInt)) := by
  refine kM_of (own := "TaleMachine$Slot") rfl (by decide) (Nat.le_of_ble_eq_true rfl) ?_
  intro p e s m args below meth c C hr hlk
  have hF0 : kF [(2, some 9), (3, none), (5, some 6), (5, some 7), (6, none), (7, none), (8, none), (9, none), (10, none), (11, none), (20, some 8), (20, some 10), (20, some 13), (20, some 14)] w w := kF.rf
  have c_0 : (0 : Int32).toInt = 0 := by decide
  refine kV.L (L' := [(0, .ref (ρ 34)), (1, .ref (ρ 2)), (2, .ref (ρ 5)), (3, .ref (ρ 20))]) rfl ?_
  refine kv_aload_n C 1 rfl 0 (kdec dk_cX5_giveBack 0 rfl) rfl rfl ?_
  refine kv_aload_n C 2 rfl 1 (kdec dk_cX5_giveBack 1 rfl) rfl rfl ?_
  refine kv_callVv (As := [.ref (ρ 2)]) (rest := []) C 5 rfl 34 (k_s_expand1 l D τ ρ σ w  hI ) rfl rfl mml_TaleMachine_Slot_53 mim_yX5_expand mse_yX5_expand mcd_yX5_expand min_yX5_expand hd_yX5_expand rfl rfl rfl (by decide) rfl (Nat.le_of_ble_eq_true rfl) (kdec dk_cX5_giveBack 2 rfl) (fun w1 h2 => ?_)
  obtain ⟨I3, f4⟩ := h2
  have F6 : kF [(2, some 9), (3, none), (5, some 6), (5, some 7), (6, none), (7, none), (8, none), (9, none), (10, none), (11, none), (20, some 8), (20, some 10), (20, some 13), (20, some 14)] w w1 := kF_call hF0 f4 (by decide)
  refine kv_aload_n C 6 rfl 2 (kdec dk_cX5_giveBack 3 rfl) rfl rfl ?_
  refine kv_aload_n C 7 rfl 0 (kdec dk_cX5_giveBack 4 rfl) rfl rfl ?_
  refine kv_getr C 10 rfl 34 1 rfl rfl inX5 (by decide) mfl_TaleMachine_Slot_18 rfl rfl (kdec dk_cX5_giveBack 5 rfl) ?_
  refine kv_callVNv (As := [.ref (ρ 36)]) (rest := []) C 13 rfl 5 (k_copyBack1 l D τ ρ σ w1  I3 ) rfl rfl mmn_TaleMachine_Slot_26 mim_yX3_copyFrom mse_yX3_copyFrom mcd_yX3_copyFrom min_yX3_copyFrom hd_yX3_copyFrom rfl rfl rfl (by decide) rfl (Nat.le_of_ble_eq_true rfl) (kdec dk_cX5_giveBack 6 rfl) (fun w7 h8 => ?_)
  obtain ⟨I9, f10⟩ := h8
  have F12 : kF [(2, some 9), (3, none), (5, some 6), (5, some 7), (6, none), (7, none), (8, none), (9, none), (10, none), (11, none), (20, some 8), (20, some 10), (20, some 13), (20, some 14)] w w7 := kF_call F6 f10 (by decide)
  refine kv_aload_n C 14 rfl 1 (kdec dk_cX5_giveBack 7 rfl) rfl rfl ?_
  refine kv_iconst C 15 rfl 0 (kdec dk_cX5_giveBack 8 rfl) rfl ?_
  refine kv_putN C 18 rfl 2 9 rfl rfl inX6 (by decide) mfn_TaleMachine_Slot_56 rfl tyX6 tyX6_ok nmX6 rfl rfl (kdec dk_cX5_giveBack 9 rfl) rfl rfl (fun w13 u14 => ?_)
  have I15 : kI true w13 := kI_put u14 I9 (show (0 : Int) ≤ (0 : Int32).toInt by omega) (show (0 : Int32).toInt ≤ 13 by omega)
  have F16 : kF [(2, some 9), (3, none), (5, some 6), (5, some 7), (6, none), (7, none), (8, none), (9, none), (10, none), (11, none), (20, some 8), (20, some 10), (20, some 13), (20, some 14)] w w13 := kF_put u14 F12 rfl
  refine kv_aload_n C 19 rfl 3 (kdec dk_cX5_giveBack 10 rfl) rfl rfl ?_
  refine kv_aload_n C 20 rfl 0 (kdec dk_cX5_giveBack 11 rfl) rfl rfl ?_
  obtain ⟨x17, e18⟩ : ∃ z : Int32, w 34 4 = z := ⟨_, rfl⟩
  have b19 : (-2147483648 : Int) ≤ x17.toInt ∧ x17.toInt ≤ 2147483647 := by rw [← e18]; exact hI 34 4
  have e20 : w13 34 4 = x17 := ((kup_ne u14 rfl : w13 34 4 = w7 34 4).trans ((f10 34 4 rfl : w7 34 4 = w1 34 4).trans ((f4 34 4 rfl : w1 34 4 = w 34 4).trans e18)))
  refine kv_get C 23 rfl 34 4 rfl rfl inX5 (by decide) mfl_TaleMachine_Slot_36 rfl rfl (kdec dk_cX5_giveBack 12 rfl) e20 ?_
  refine kv_putN C 26 rfl 20 8 rfl rfl inX1 (by decide) mfn_TaleMachine_Slot_30 rfl tyX1 tyX1_ok nmX1 rfl rfl (kdec dk_cX5_giveBack 13 rfl) rfl rfl (fun w21 u22 => ?_)
  have I23 : kI true w21 := kI_put u22 I15 (kf_rng _).1 (kf_rng _).2
  have F24 : kF [(2, some 9), (3, none), (5, some 6), (5, some 7), (6, none), (7, none), (8, none), (9, none), (10, none), (11, none), (20, some 8), (20, some 10), (20, some 13), (20, some 14)] w w21 := kF_put u22 F16 rfl
  refine kv_aload_n C 27 rfl 3 (kdec dk_cX5_giveBack 14 rfl) rfl rfl ?_
  refine kv_aload_n C 28 rfl 0 (kdec dk_cX5_giveBack 15 rfl) rfl rfl ?_
  obtain ⟨x25, e26⟩ : ∃ z : Int32, w 34 5 = z := ⟨_, rfl⟩
  have b27 : (0 : Int) ≤ x25.toInt ∧ x25.toInt ≤ 4 := by rw [← e26]; exact hI 34 5
  have e28 : w21 34 5 = x25 := ((kup_ne u22 rfl : w21 34 5 = w13 34 5).trans ((kup_ne u14 rfl : w13 34 5 = w7 34 5).trans ((f10 34 5 rfl : w7 34 5 = w1 34 5).trans ((f4 34 5 rfl : w1 34 5 = w 34 5).trans e26))))
  refine kv_get C 31 rfl 34 5 rfl rfl inX5 (by decide) mfl_TaleMachine_Slot_40 rfl rfl (kdec dk_cX5_giveBack 16 rfl) e28 ?_
  refine kv_putN C 34 rfl 20 10 rfl rfl inX1 (by decide) mfn_TaleMachine_Slot_37 rfl tyX1 tyX1_ok nmX1 rfl rfl (kdec dk_cX5_giveBack 17 rfl) rfl rfl (fun w29 u30 => ?_)
  have I31 : kI true w29 := kI_put u30 I23 (show (0 : Int) ≤ (x25 : Int32).toInt by omega) (show (x25 : Int32).toInt ≤ 4 by omega)
  have F32 : kF [(2, some 9), (3, none), (5, some 6), (5, some 7), (6, none), (7, none), (8, none), (9, none), (10, none), (11, none), (20, some 8), (20, some 10), (20, some 13), (20, some 14)] w w29 := kF_put u30 F24 rfl
  refine kv_aload_n C 35 rfl 3 (kdec dk_cX5_giveBack 18 rfl) rfl rfl ?_
  refine kv_aload_n C 36 rfl 0 (kdec dk_cX5_giveBack 19 rfl) rfl rfl ?_
  obtain ⟨x33, e34⟩ : ∃ z : Int32, w 34 6 = z := ⟨_, rfl⟩
  have b35 : (-2147483648 : Int) ≤ x33.toInt ∧ x33.toInt ≤ 2147483647 := by rw [← e34]; exact hI 34 6
  have e36 : w29 34 6 = x33 := ((kup_ne u30 rfl : w29 34 6 = w21 34 6).trans ((kup_ne u22 rfl : w21 34 6 = w13 34 6).trans ((kup_ne u14 rfl : w13 34 6 = w7 34 6).trans ((f10 34 6 rfl : w7 34 6 = w1 34 6).trans ((f4 34 6 rfl : w1 34 6 = w 34 6).trans e34)))))
  refine kv_get C 39 rfl 34 6 rfl rfl inX5 (by decide) mfl_TaleMachine_Slot_44 rfl rfl (kdec dk_cX5_giveBack 20 rfl) e36 ?_
  refine kv_putN C 42 rfl 20 13 rfl rfl inX1 (by decide) mfn_TaleMachine_Slot_41 rfl tyX1 tyX1_ok nmX1 rfl rfl (kdec dk_cX5_giveBack 21 rfl) rfl rfl (fun w37 u38 => ?_)
  have I39 : kI true w37 := kI_put u38 I31 (kf_rng _).1 (kf_rng _).2
  have F40 : kF [(2, some 9), (3, none), (5, some 6), (5, some 7), (6, none), (7, none), (8, none), (9, none), (10, none), (11, none), (20, some 8), (20, some 10), (20, some 13), (20, some 14)] w w37 := kF_put u38 F32 rfl
  refine kv_aload_n C 43 rfl 3 (kdec dk_cX5_giveBack 22 rfl) rfl rfl ?_
  refine kv_aload_n C 44 rfl 0 (kdec dk_cX5_giveBack 23 rfl) rfl rfl ?_
  obtain ⟨x41, e42⟩ : ∃ z : Int32, w 34 7 = z := ⟨_, rfl⟩
  have b43 : (-2147483648 : Int) ≤ x41.toInt ∧ x41.toInt ≤ 2147483647 := by rw [← e42]; exact hI 34 7
  have e44 : w37 34 7 = x41 := ((kup_ne u38 rfl : w37 34 7 = w29 34 7).trans ((kup_ne u30 rfl : w29 34 7 = w21 34 7).trans ((kup_ne u22 rfl : w21 34 7 = w13 34 7).trans ((kup_ne u14 rfl : w13 34 7 = w7 34 7).trans ((f10 34 7 rfl : w7 34 7 = w1 34 7).trans ((f4 34 7 rfl : w1 34 7 = w 34 7).trans e42))))))
  refine kv_get C 47 rfl 34 7 rfl rfl inX5 (by decide) mfl_TaleMachine_Slot_48 rfl rfl (kdec dk_cX5_giveBack 24 rfl) e44 ?_
  refine kv_putN C 50 rfl 20 14 rfl rfl inX1 (by decide) mfn_TaleMachine_Slot_45 rfl tyX1 tyX1_ok nmX1 rfl rfl (kdec dk_cX5_giveBack 25 rfl) rfl rfl (fun w45 u46 => ?_)
  have I47 : kI true w45 := kI_put u46 I39 (kf_rng _).1 (kf_rng _).2
  have F48 : kF [(2, some 9), (3, none), (5, some 6), (5, some 7), (6, none), (7, none), (8, none), (9, none), (10, none), (11, none), (20, some 8), (20, some 10), (20, some 13), (20, some 14)] w w45 := kF_put u46 F40 rfl
  have e49 : w45 20 10 = x25 := ((kup_ne u46 rfl : w45 20 10 = w37 20 10).trans ((kup_ne u38 rfl : w37 20 10 = w29 20 10).trans (kup_eq u30)))
  exact kv_vret C hr hlk (kdec dk_cX5_giveBack 26 rfl) ⟨rfl, I47, F48, (by rw [e26, e49]; try omega)⟩

set_option maxHeartbeats 4000000 in
set_option maxRecDepth 100000 in
theorem k_s_add2 (l : Launch) (D : va_G) (τ : Nat → ClassId) (ρ σ : Nat → Nat) (w : kw) (a1 : Int32) (hI : kI true w) (hp0 : 0 ≤ a1.toInt ∧ a1.toInt ≤ 255) :
    kM l D τ ρ σ yX5_add cX5_add 2 none { frames := 0, cells := 0, slots := 0, locals := 0 } [.ref (ρ 43), .int a1] w
      (fun o w' => o = none ∧ kI true w' ∧ kF [(43, some 3), (44, none)] w w') := by
  refine kM_of (own := "TaleMachine$Slot") rfl (by decide) (Nat.le_of_ble_eq_true rfl) ?_
  intro p e s m args below meth c C hr hlk
  have hF0 : kF [(43, some 3), (44, none)] w w := kF.rf
  have c_1 : (1 : Int32).toInt = 1 := by decide
  have c_1536 : (1536 : Int32).toInt = 1536 := by decide
  refine kV.L (L' := [(0, .ref (ρ 43)), (1, .int a1)]) rfl ?_
  have g1 := kf_rng a1
  refine kv_aload_n C 1 rfl 0 (kdec dk_cX5_add 0 rfl) rfl rfl ?_
  obtain ⟨x2, e3⟩ : ∃ z : Int32, w 43 3 = z := ⟨_, rfl⟩
  have b4 : (0 : Int) ≤ x2.toInt ∧ x2.toInt ≤ 1536 := by rw [← e3]; exact hI 43 3
  refine kv_get C 4 rfl 43 3 rfl rfl inX5 (by decide) mfl_TaleMachine_Slot_67 rfl rfl (kdec dk_cX5_add 1 rfl) e3 ?_
  refine kv_aload_n C 5 rfl 0 (kdec dk_cX5_add 2 rfl) rfl rfl ?_
  refine kv_getr C 8 rfl 43 0 rfl rfl inX5 (by decide) mfl_TaleMachine_Slot_11 rfl rfl (kdec dk_cX5_add 3 rfl) ?_
  refine kv_alen C 9 rfl 44 1536 rfl (by decide) rfl (kdec dk_cX5_add 4 rfl) ?_
  refine kv_icmp_ge C 12 rfl 32 (kdec dk_cX5_add 5 rfl) (by decide) (fun d5 => ?_) (fun d5 => ?_)
  · skip
    exact kv_vret C hr hlk (kdec dk_cX5_add 18 rfl) ⟨rfl, hI, hF0⟩
  · skip
    refine kv_aload_n C 13 rfl 0 (kdec dk_cX5_add 6 rfl) rfl rfl ?_
    refine kv_getr C 16 rfl 43 0 rfl rfl inX5 (by decide) mfl_TaleMachine_Slot_11 rfl rfl (kdec dk_cX5_add 7 rfl) ?_
    refine kv_aload_n C 17 rfl 0 (kdec dk_cX5_add 8 rfl) rfl rfl ?_
    refine kv_get C 20 rfl 43 3 rfl rfl inX5 (by decide) mfl_TaleMachine_Slot_67 rfl rfl (kdec dk_cX5_add 9 rfl) e3 ?_
    refine kv_iload_n C 21 rfl 1 (kdec dk_cX5_add 10 rfl) rfl rfl ?_
    refine kv_iast C 22 rfl 44 rfl (by omega) (by omega) (kdec dk_cX5_add 11 rfl) (fun w6 u7 => ?_)
    have I8 : kI true w6 := kI_put u7 hI (show (0 : Int) ≤ (a1 : Int32).toInt by omega) (show (a1 : Int32).toInt ≤ 255 by omega)
    have F9 : kF [(43, some 3), (44, none)] w w6 := kF_put u7 hF0 rfl
    refine kv_aload_n C 23 rfl 0 (kdec dk_cX5_add 12 rfl) rfl rfl ?_
    refine kv_dup C 24 rfl (kdec dk_cX5_add 13 rfl) rfl ?_
    have e10 : w6 43 3 = x2 := ((kup_ne u7 rfl : w6 43 3 = w 43 3).trans e3)
    refine kv_get C 27 rfl 43 3 rfl rfl inX5 (by decide) mfl_TaleMachine_Slot_67 rfl rfl (kdec dk_cX5_add 14 rfl) e10 ?_
    refine kv_iconst C 28 rfl 1 (kdec dk_cX5_add 15 rfl) rfl ?_
    refine kv_iadd C 29 rfl (kdec dk_cX5_add 16 rfl) (fun x11 q13 h12e h12 h12l h12u => ?_)
    try have h12n : x11.toInt = x2.toInt + (1 : Int32).toInt := by omega
    clear h12 q13
    refine kv_put C 32 rfl 43 3 rfl rfl inX5 (by decide) mfl_TaleMachine_Slot_67 rfl tyX5 tyX5_ok nmX5 rfl rfl (kdec dk_cX5_add 17 rfl) rfl rfl (fun w14 u15 => ?_)
    have I16 : kI true w14 := kI_put u15 I8 (show (0 : Int) ≤ (x11 : Int32).toInt by omega) (show (x11 : Int32).toInt ≤ 1536 by omega)
    have F17 : kF [(43, some 3), (44, none)] w w14 := kF_put u15 F9 rfl
    exact kv_vret C hr hlk (kdec dk_cX5_add 18 rfl) ⟨rfl, I16, F17⟩

set_option maxHeartbeats 4000000 in
set_option maxRecDepth 100000 in
theorem k_s_squeeze2 (l : Launch) (D : va_G) (τ : Nat → ClassId) (ρ σ : Nat → Nat) (w : kw)  (hI : kI true w)  :
    kM l D τ ρ σ yX5_squeeze cX5_squeeze 6 none { frames := 1, cells := 0, slots := 0, locals := 36 } [.ref (ρ 43), .ref (ρ 2)] w
      (fun o w' => o = none ∧ kI true w' ∧ kF [(43, some 3), (44, none)] w w') := by
  refine kM_of (own := "TaleMachine$Slot") rfl (by decide) (Nat.le_of_ble_eq_true rfl) ?_
  intro p e s m args below meth c C hr hlk
  have hF0 : kF [(43, some 3), (44, none)] w w := kF.rf
  have c_0 : (0 : Int32).toInt = 0 := by decide
  have c_1 : (1 : Int32).toInt = 1 := by decide
  have c_255 : (255 : Int32).toInt = 255 := by decide
  refine kV.L (L' := [(0, .ref (ρ 43)), (1, .ref (ρ 2))]) rfl ?_
  have cut32 : ∀ (n_32 : Nat) (w_32 : kw) (l2_32 l3_32 : Int32), kI true w_32 → kF [(43, some 3), (44, none)] w w_32 → (0 ≤ l3_32.toInt ∧ l3_32.toInt ≤ l2_32.toInt ∧ l2_32.toInt ≤ 1024) → ((1025 - l3_32.toInt) : Int) < (n_32 : Int) → kV p l e { frames := 1, cells := 0, slots := 0, locals := 36 } s m args below meth c (kQ below args s D τ ρ (fun o w' => o = none ∧ kI true w' ∧ kF [(43, some 3), (44, none)] w w')) 6 D τ ρ 32 [(0, .ref (ρ 43)), (1, .ref (ρ 2)), (2, .int l2_32), (3, .int l3_32)] [] w_32 := by
    intro n_32
    induction n_32 with
    | zero => intro w_32 l2_32 l3_32 I_32 F_32 k32_0 hmz; exfalso; omega
    | succ n_32 ih32 =>
      intro w_32 l2_32 l3_32 I_32 F_32 k32_0 hm32
      have gl2_32 := kf_rng l2_32
      have gl3_32 := kf_rng l3_32
      have cut90 : ∀ (w_90 : kw) (l2_90 l3_90 l5_90 : Int32), kI true w_90 → kF [(43, some 3), (44, none)] w w_90 → (0 ≤ l5_90.toInt ∧ l5_90.toInt ≤ l3_90.toInt ∧ l3_90.toInt ≤ l5_90.toInt + 255 ∧ l3_90.toInt ≤ l2_90.toInt ∧ l2_90.toInt ≤ 1024) → (l3_32.toInt < l3_90.toInt) → kV p l e { frames := 1, cells := 0, slots := 0, locals := 36 } s m args below meth c (kQ below args s D τ ρ (fun o w' => o = none ∧ kI true w' ∧ kF [(43, some 3), (44, none)] w w')) 6 D τ ρ 90 [(0, .ref (ρ 43)), (1, .ref (ρ 2)), (2, .int l2_90), (3, .int l3_90), (5, .int l5_90)] [] w_90 := by
        intro w_90 l2_90 l3_90 l5_90 I_90 F_90 k90_0 k90_1
        have gl2_90 := kf_rng l2_90
        have gl3_90 := kf_rng l3_90
        have gl5_90 := kf_rng l5_90
        refine kv_aload_n C 91 rfl 0 (kdec dk_cX5_squeeze 47 rfl) rfl rfl ?_
        refine kv_iload_n C 92 rfl 3 (kdec dk_cX5_squeeze 48 rfl) rfl rfl ?_
        refine kv_iload C 94 rfl 4 (kdec dk_cX5_squeeze 49 rfl) rfl ?_
        refine kv_isub C 95 rfl (kdec dk_cX5_squeeze 50 rfl) (fun x1 q3 h2e h2 h2l h2u => ?_)
        try have h2n : x1.toInt = l3_90.toInt - l5_90.toInt := by omega
        clear h2 q3
        refine kv_callVv (As := [.int x1]) (rest := []) C 98 rfl 43 (k_s_add2 l D τ ρ σ w_90 x1 I_90 (by omega)) rfl rfl mml_TaleMachine_Slot_77 mim_yX5_add mse_yX5_add mcd_yX5_add min_yX5_add hd_yX5_add rfl rfl rfl (by decide) rfl (Nat.le_of_ble_eq_true rfl) (kdec dk_cX5_squeeze 51 rfl) (fun w4 h5 => ?_)
        obtain ⟨I6, f7⟩ := h5
        have F9 : kF [(43, some 3), (44, none)] w w4 := kF_call F_90 f7 (by decide)
        refine kv_goto C 32 (kdec dk_cX5_squeeze 52 rfl) (by decide) ?_
        refine kV.sub [0, 1, 2, 3] (L' := [(0, .ref (ρ 43)), (1, .ref (ρ 2)), (2, .int l2_90), (3, .int l3_90)]) rfl ?_
        exact ih32 w4 l2_90 l3_90 I6 F9 (by omega) (by omega)
      have cut61 : ∀ (n_61 : Nat) (w_61 : kw) (l2_61 l3_61 l5_61 : Int32), kI true w_61 → kF [(43, some 3), (44, none)] w w_61 → (0 ≤ l5_61.toInt ∧ l5_61.toInt ≤ l3_61.toInt ∧ l3_61.toInt ≤ l5_61.toInt + 255 ∧ l3_61.toInt ≤ l2_61.toInt ∧ l2_61.toInt ≤ 1024) → (l3_32.toInt < l3_61.toInt) → ((1025 - l3_61.toInt) : Int) < (n_61 : Int) → kV p l e { frames := 1, cells := 0, slots := 0, locals := 36 } s m args below meth c (kQ below args s D τ ρ (fun o w' => o = none ∧ kI true w' ∧ kF [(43, some 3), (44, none)] w w')) 6 D τ ρ 61 [(0, .ref (ρ 43)), (1, .ref (ρ 2)), (2, .int l2_61), (3, .int l3_61), (5, .int l5_61)] [] w_61 := by
        intro n_61
        induction n_61 with
        | zero => intro w_61 l2_61 l3_61 l5_61 I_61 F_61 k61_0 k61_1 hmz; exfalso; omega
        | succ n_61 ih61 =>
          intro w_61 l2_61 l3_61 l5_61 I_61 F_61 k61_0 k61_1 hm61
          have gl2_61 := kf_rng l2_61
          have gl3_61 := kf_rng l3_61
          have gl5_61 := kf_rng l5_61
          refine kv_iload_n C 62 rfl 3 (kdec dk_cX5_squeeze 33 rfl) rfl rfl ?_
          refine kv_iload_n C 63 rfl 2 (kdec dk_cX5_squeeze 34 rfl) rfl rfl ?_
          refine kv_icmp_ge C 66 rfl 90 (kdec dk_cX5_squeeze 35 rfl) (by decide) (fun d10 => ?_) (fun d10 => ?_)
          · skip
            exact cut90 w_61 l2_61 l3_61 l5_61 I_61 F_61 (by omega) (by omega)
          · skip
            refine kv_iload_n C 67 rfl 3 (kdec dk_cX5_squeeze 36 rfl) rfl rfl ?_
            refine kv_iload C 69 rfl 4 (kdec dk_cX5_squeeze 37 rfl) rfl ?_
            refine kv_isub C 70 rfl (kdec dk_cX5_squeeze 38 rfl) (fun x11 q13 h12e h12 h12l h12u => ?_)
            try have h12n : x11.toInt = l3_61.toInt - l5_61.toInt := by omega
            clear h12 q13
            refine kv_sipush C 73 rfl 255 (kdec dk_cX5_squeeze 39 rfl) rfl ?_
            refine kv_icmp_ge C 76 rfl 90 (kdec dk_cX5_squeeze 40 rfl) (by decide) (fun d14 => ?_) (fun d14 => ?_)
            · skip
              exact cut90 w_61 l2_61 l3_61 l5_61 I_61 F_61 (by omega) (by omega)
            · skip
              refine kv_aload_n C 77 rfl 1 (kdec dk_cX5_squeeze 41 rfl) rfl rfl ?_
              refine kv_iload_n C 78 rfl 3 (kdec dk_cX5_squeeze 42 rfl) rfl rfl ?_
              refine kv_callSi (As := [.ref (ρ 2), .int l3_61]) (rest := []) C 81 rfl (k_changeAt l D τ ρ σ w_61 l3_61 I_61 (by omega)) mml_TaleMachine_Slot_73 mst_yX5_changeAt mcd_yX5_changeAt min_yX5_changeAt hd_yX5_changeAt rfl rfl rfl (by decide) rfl (Nat.le_of_ble_eq_true rfl) (kdec dk_cX5_squeeze 43 rfl) (fun x19 w15 h16 => ?_)
              obtain ⟨I17, f18, p20⟩ := h16
              have F21 : kF [(43, some 3), (44, none)] w w15 := kF_call F_61 f18 (by decide)
              have g22 := kf_rng x19
              refine kv_if_ne C 84 rfl 90 (kdec dk_cX5_squeeze 44 rfl) (by decide) (fun d23 => ?_) (fun d23 => ?_)
              · skip
                exact cut90 w15 l2_61 l3_61 l5_61 I17 F21 (by omega) (by omega)
              · skip
                refine kv_iinc C 87 rfl 3 3 [1, 2, 3, 0, 4] (fun v9 => [(0, .ref (ρ 43)), (1, .ref (ρ 2)), (2, .int l2_61), (3, .int v9), (5, .int l5_61)]) (kdec dk_cX5_squeeze 45 rfl) rfl (by decide) (fun _ => rfl) 1 rfl (fun x24 q25 h26e h26 h26l h26u => ?_)
                try have h26n : x24.toInt = l3_61.toInt + 1 := by omega
                clear h26 q25
                refine kv_goto C 61 (kdec dk_cX5_squeeze 46 rfl) (by decide) ?_
                exact ih61 w15 l2_61 x24 l5_61 I17 F21 (by omega) (by omega) (by omega)
      refine kv_iload_n C 33 rfl 3 (kdec dk_cX5_squeeze 18 rfl) rfl rfl ?_
      refine kv_iload_n C 34 rfl 2 (kdec dk_cX5_squeeze 19 rfl) rfl rfl ?_
      refine kv_icmp_ge C 37 rfl 101 (kdec dk_cX5_squeeze 20 rfl) (by decide) (fun d27 => ?_) (fun d27 => ?_)
      · skip
        exact kv_vret C hr hlk (kdec dk_cX5_squeeze 53 rfl) ⟨rfl, I_32, F_32⟩
      · skip
        refine kv_aload_n C 38 rfl 1 (kdec dk_cX5_squeeze 21 rfl) rfl rfl ?_
        refine kv_iload_n C 39 rfl 3 (kdec dk_cX5_squeeze 22 rfl) rfl rfl ?_
        refine kv_callSi (As := [.ref (ρ 2), .int l3_32]) (rest := []) C 42 rfl (k_changeAt l D τ ρ σ w_32 l3_32 I_32 (by omega)) mml_TaleMachine_Slot_73 mst_yX5_changeAt mcd_yX5_changeAt min_yX5_changeAt hd_yX5_changeAt rfl rfl rfl (by decide) rfl (Nat.le_of_ble_eq_true rfl) (kdec dk_cX5_squeeze 23 rfl) (fun x32 w28 h29 => ?_)
        obtain ⟨I30, f31, p33⟩ := h29
        have F34 : kF [(43, some 3), (44, none)] w w28 := kF_call F_32 f31 (by decide)
        have g35 := kf_rng x32
        refine kv_istore C 44 rfl 4 [1, 2, 3, 4, 0] [(0, .ref (ρ 43)), (1, .ref (ρ 2)), (2, .int l2_32), (3, .int l3_32), (4, .int x32)] (kdec dk_cX5_squeeze 24 rfl) (by decide) rfl ?_
        refine kv_aload_n C 45 rfl 0 (kdec dk_cX5_squeeze 25 rfl) rfl rfl ?_
        refine kv_iload C 47 rfl 4 (kdec dk_cX5_squeeze 26 rfl) rfl ?_
        refine kv_callVv (As := [.int x32]) (rest := []) C 50 rfl 43 (k_s_add2 l D τ ρ σ w28 x32 I30 (by omega)) rfl rfl mml_TaleMachine_Slot_77 mim_yX5_add mse_yX5_add mcd_yX5_add min_yX5_add hd_yX5_add rfl rfl rfl (by decide) rfl (Nat.le_of_ble_eq_true rfl) (kdec dk_cX5_squeeze 27 rfl) (fun w36 h37 => ?_)
        obtain ⟨I38, f39⟩ := h37
        have F41 : kF [(43, some 3), (44, none)] w w36 := kF_call F34 f39 (by decide)
        refine kv_iinc C 53 rfl 3 3 [1, 2, 3, 0, 4] (fun v9 => [(0, .ref (ρ 43)), (1, .ref (ρ 2)), (2, .int l2_32), (3, .int v9), (4, .int x32)]) (kdec dk_cX5_squeeze 28 rfl) rfl (by decide) (fun _ => rfl) 1 rfl (fun x42 q43 h44e h44 h44l h44u => ?_)
        try have h44n : x42.toInt = l3_32.toInt + 1 := by omega
        clear h44 q43
        refine kv_iload C 55 rfl 4 (kdec dk_cX5_squeeze 29 rfl) rfl ?_
        refine kv_if_ne C 58 rfl 98 (kdec dk_cX5_squeeze 30 rfl) (by decide) (fun d45 => ?_) (fun d45 => ?_)
        · skip
          refine kv_goto C 32 (kdec dk_cX5_squeeze 52 rfl) (by decide) ?_
          refine kV.sub [0, 1, 2, 3] (L' := [(0, .ref (ρ 43)), (1, .ref (ρ 2)), (2, .int l2_32), (3, .int x42)]) rfl ?_
          exact ih32 w36 l2_32 x42 I38 F41 (by omega) (by omega)
        · skip
          refine kv_iload_n C 59 rfl 3 (kdec dk_cX5_squeeze 31 rfl) rfl rfl ?_
          refine kv_istore C 61 rfl 5 [1, 2, 3, 4, 5, 0] [(0, .ref (ρ 43)), (1, .ref (ρ 2)), (2, .int l2_32), (3, .int x42), (4, .int x32), (5, .int x42)] (kdec dk_cX5_squeeze 32 rfl) (by decide) rfl ?_
          refine kV.sub [0, 1, 2, 3, 5] (L' := [(0, .ref (ρ 43)), (1, .ref (ρ 2)), (2, .int l2_32), (3, .int x42), (5, .int x42)]) rfl ?_
          exact cut61 ((((1025 - (x42 : Int32).toInt)) : Int).toNat + 1) w36 l2_32 x42 x42 I38 F41 (by omega) (by omega) (by omega)
  have cut30 : ∀ (w_30 : kw) (l2_30 : Int32), kI true w_30 → kF [(43, some 3), (44, none)] w w_30 → (0 ≤ l2_30.toInt ∧ l2_30.toInt ≤ 1024) → kV p l e { frames := 1, cells := 0, slots := 0, locals := 36 } s m args below meth c (kQ below args s D τ ρ (fun o w' => o = none ∧ kI true w' ∧ kF [(43, some 3), (44, none)] w w')) 6 D τ ρ 30 [(0, .ref (ρ 43)), (1, .ref (ρ 2)), (2, .int l2_30)] [] w_30 := by
    intro w_30 l2_30 I_30 F_30 k30_0
    have gl2_30 := kf_rng l2_30
    refine kv_iconst C 31 rfl 0 (kdec dk_cX5_squeeze 16 rfl) rfl ?_
    refine kv_istore_n C 32 rfl 3 [1, 2, 3, 0] [(0, .ref (ρ 43)), (1, .ref (ρ 2)), (2, .int l2_30), (3, .int 0)] (kdec dk_cX5_squeeze 17 rfl) rfl (by decide) rfl ?_
    exact cut32 ((((1025 - (0 : Int32).toInt)) : Int).toNat + 1) w_30 l2_30 0 I_30 F_30 (by omega) (by omega)
  have cut10 : ∀ (n_10 : Nat) (w_10 : kw) (l2_10 : Int32), kI true w_10 → kF [(43, some 3), (44, none)] w w_10 → (0 ≤ l2_10.toInt ∧ l2_10.toInt ≤ 1024) → (l2_10.toInt : Int) < (n_10 : Int) → kV p l e { frames := 1, cells := 0, slots := 0, locals := 36 } s m args below meth c (kQ below args s D τ ρ (fun o w' => o = none ∧ kI true w' ∧ kF [(43, some 3), (44, none)] w w')) 6 D τ ρ 10 [(0, .ref (ρ 43)), (1, .ref (ρ 2)), (2, .int l2_10)] [] w_10 := by
    intro n_10
    induction n_10 with
    | zero => intro w_10 l2_10 I_10 F_10 k10_0 hmz; exfalso; omega
    | succ n_10 ih10 =>
      intro w_10 l2_10 I_10 F_10 k10_0 hm10
      have gl2_10 := kf_rng l2_10
      refine kv_iload_n C 11 rfl 2 (kdec dk_cX5_squeeze 6 rfl) rfl rfl ?_
      refine kv_if_le C 14 rfl 30 (kdec dk_cX5_squeeze 7 rfl) (by decide) (fun d46 => ?_) (fun d46 => ?_)
      · skip
        exact cut30 w_10 l2_10 I_10 F_10 (by omega)
      · skip
        refine kv_aload_n C 15 rfl 1 (kdec dk_cX5_squeeze 8 rfl) rfl rfl ?_
        refine kv_iload_n C 16 rfl 2 (kdec dk_cX5_squeeze 9 rfl) rfl rfl ?_
        refine kv_iconst C 17 rfl 1 (kdec dk_cX5_squeeze 10 rfl) rfl ?_
        refine kv_isub C 18 rfl (kdec dk_cX5_squeeze 11 rfl) (fun x47 q49 h48e h48 h48l h48u => ?_)
        try have h48n : x47.toInt = l2_10.toInt - (1 : Int32).toInt := by omega
        clear h48 q49
        refine kv_callSi (As := [.ref (ρ 2), .int x47]) (rest := []) C 21 rfl (k_changeAt l D τ ρ σ w_10 x47 I_10 (by omega)) mml_TaleMachine_Slot_73 mst_yX5_changeAt mcd_yX5_changeAt min_yX5_changeAt hd_yX5_changeAt rfl rfl rfl (by decide) rfl (Nat.le_of_ble_eq_true rfl) (kdec dk_cX5_squeeze 12 rfl) (fun x54 w50 h51 => ?_)
        obtain ⟨I52, f53, p55⟩ := h51
        have F56 : kF [(43, some 3), (44, none)] w w50 := kF_call F_10 f53 (by decide)
        have g57 := kf_rng x54
        refine kv_if_ne C 24 rfl 30 (kdec dk_cX5_squeeze 13 rfl) (by decide) (fun d58 => ?_) (fun d58 => ?_)
        · skip
          exact cut30 w50 l2_10 I52 F56 (by omega)
        · skip
          refine kv_iinc C 27 rfl 2 2 [1, 2, 0] (fun v9 => [(0, .ref (ρ 43)), (1, .ref (ρ 2)), (2, .int v9)]) (kdec dk_cX5_squeeze 14 rfl) rfl (by decide) (fun _ => rfl) (-1) rfl (fun x59 q60 h61e h61 h61l h61u => ?_)
          try have h61n : x59.toInt = l2_10.toInt + (-1) := by omega
          clear h61 q60
          refine kv_goto C 10 (kdec dk_cX5_squeeze 15 rfl) (by decide) ?_
          exact ih10 w50 x59 I52 F56 (by omega) (by omega)
  refine kv_aload_n C 1 rfl 0 (kdec dk_cX5_squeeze 0 rfl) rfl rfl ?_
  refine kv_iconst C 2 rfl 0 (kdec dk_cX5_squeeze 1 rfl) rfl ?_
  refine kv_put C 5 rfl 43 3 rfl rfl inX5 (by decide) mfl_TaleMachine_Slot_67 rfl tyX5 tyX5_ok nmX5 rfl rfl (kdec dk_cX5_squeeze 2 rfl) rfl rfl (fun w62 u63 => ?_)
  have I64 : kI true w62 := kI_put u63 hI (show (0 : Int) ≤ (0 : Int32).toInt by omega) (show (0 : Int32).toInt ≤ 1536 by omega)
  have F65 : kF [(43, some 3), (44, none)] w w62 := kF_put u63 hF0 rfl
  refine kv_aload_n C 6 rfl 1 (kdec dk_cX5_squeeze 3 rfl) rfl rfl ?_
  obtain ⟨x66, e67⟩ : ∃ z : Int32, w 2 3 = z := ⟨_, rfl⟩
  have b68 : (0 : Int) ≤ x66.toInt ∧ x66.toInt ≤ 1024 := by rw [← e67]; exact hI 2 3
  have e69 : w62 2 3 = x66 := ((kup_ne u63 rfl : w62 2 3 = w 2 3).trans e67)
  refine kv_getN C 9 rfl 2 3 rfl rfl inX6 (by decide) mfn_TaleMachine_Slot_70 rfl rfl (kdec dk_cX5_squeeze 4 rfl) e69 ?_
  refine kv_istore_n C 10 rfl 2 [1, 2, 0] [(0, .ref (ρ 43)), (1, .ref (ρ 2)), (2, .int x66)] (kdec dk_cX5_squeeze 5 rfl) rfl (by decide) rfl ?_
  exact cut10 ((((x66 : Int32).toInt) : Int).toNat + 1) w62 x66 I64 F65 (by omega) (by omega)

set_option maxHeartbeats 4000000 in
set_option maxRecDepth 100000 in
theorem k_s_expand2 (l : Launch) (D : va_G) (τ : Nat → ClassId) (ρ σ : Nat → Nat) (w : kw)  (hI : kI true w)  :
    kM l D τ ρ σ yX5_expand cX5_expand 4 none { frames := 3, cells := 0, slots := 0, locals := 108 } [.ref (ρ 43), .ref (ρ 2)] w
      (fun o w' => o = none ∧ kI true w' ∧ kF [(3, none)] w w') := by
  refine kM_of (own := "TaleMachine$Slot") rfl (by decide) (Nat.le_of_ble_eq_true rfl) ?_
  intro p e s m args below meth c C hr hlk
  have hF0 : kF [(3, none)] w w := kF.rf
  have c_0 : (0 : Int32).toInt = 0 := by decide
  have c_1 : (1 : Int32).toInt = 1 := by decide
  refine kV.L (L' := [(0, .ref (ρ 43)), (1, .ref (ρ 2))]) rfl ?_
  have cut8 : ∀ (n_8 : Nat) (w_8 : kw) (l2_8 l3_8 : Int32), kI true w_8 → kF [(3, none)] w w_8 → (0 ≤ l2_8.toInt ∧ l2_8.toInt ≤ 1280) → (0 ≤ l3_8.toInt ∧ l3_8.toInt ≤ 1536) → ((1537 - l3_8.toInt) : Int) < (n_8 : Int) → kV p l e { frames := 3, cells := 0, slots := 0, locals := 108 } s m args below meth c (kQ below args s D τ ρ (fun o w' => o = none ∧ kI true w' ∧ kF [(3, none)] w w')) 4 D τ ρ 8 [(0, .ref (ρ 43)), (1, .ref (ρ 2)), (2, .int l2_8), (3, .int l3_8)] [] w_8 := by
    intro n_8
    induction n_8 with
    | zero => intro w_8 l2_8 l3_8 I_8 F_8 k8_0 k8_1 hmz; exfalso; omega
    | succ n_8 ih8 =>
      intro w_8 l2_8 l3_8 I_8 F_8 k8_0 k8_1 hm8
      have gl2_8 := kf_rng l2_8
      have gl3_8 := kf_rng l3_8
      have cut77 : ∀ (w_77 : kw) (l2_77 l3_77 : Int32), kI true w_77 → kF [(3, none)] w w_77 → (0 ≤ l2_77.toInt ∧ l2_77.toInt ≤ 1279) → (l3_8.toInt ≤ l3_77.toInt ∧ l3_77.toInt < 1536) → kV p l e { frames := 3, cells := 0, slots := 0, locals := 108 } s m args below meth c (kQ below args s D τ ρ (fun o w' => o = none ∧ kI true w' ∧ kF [(3, none)] w w')) 4 D τ ρ 77 [(0, .ref (ρ 43)), (1, .ref (ρ 2)), (2, .int l2_77), (3, .int l3_77)] [] w_77 := by
        intro w_77 l2_77 l3_77 I_77 F_77 k77_0 k77_1
        have gl2_77 := kf_rng l2_77
        have gl3_77 := kf_rng l3_77
        refine kv_iinc C 80 rfl 2 2 [1, 2, 0, 3] (fun v9 => [(0, .ref (ρ 43)), (1, .ref (ρ 2)), (2, .int v9), (3, .int l3_77)]) (kdec dk_cX5_expand 47 rfl) rfl (by decide) (fun _ => rfl) 1 rfl (fun x1 q2 h3e h3 h3l h3u => ?_)
        try have h3n : x1.toInt = l2_77.toInt + 1 := by omega
        clear h3 q2
        refine kv_iinc C 83 rfl 3 3 [1, 2, 3, 0] (fun v9 => [(0, .ref (ρ 43)), (1, .ref (ρ 2)), (2, .int x1), (3, .int v9)]) (kdec dk_cX5_expand 48 rfl) rfl (by decide) (fun _ => rfl) 1 rfl (fun x4 q5 h6e h6 h6l h6u => ?_)
        try have h6n : x4.toInt = l3_77.toInt + 1 := by omega
        clear h6 q5
        refine kv_goto C 8 (kdec dk_cX5_expand 49 rfl) (by decide) ?_
        exact ih8 w_77 x1 x4 I_77 F_77 (by omega) (by omega) (by omega)
      refine kv_iload_n C 9 rfl 3 (kdec dk_cX5_expand 6 rfl) rfl rfl ?_
      refine kv_aload_n C 10 rfl 0 (kdec dk_cX5_expand 7 rfl) rfl rfl ?_
      obtain ⟨x7, e8⟩ : ∃ z : Int32, w 43 3 = z := ⟨_, rfl⟩
      have b9 : (0 : Int) ≤ x7.toInt ∧ x7.toInt ≤ 1536 := by rw [← e8]; exact hI 43 3
      have e10 : w_8 43 3 = x7 := ((F_8 43 3 rfl : w_8 43 3 = w 43 3).trans e8)
      refine kv_get C 13 rfl 43 3 rfl rfl inX5 (by decide) mfl_TaleMachine_Slot_67 rfl rfl (kdec dk_cX5_expand 8 rfl) e10 ?_
      refine kv_icmp_ge C 16 rfl 86 (kdec dk_cX5_expand 9 rfl) (by decide) (fun d11 => ?_) (fun d11 => ?_)
      · skip
        exact kv_vret C hr hlk (kdec dk_cX5_expand 50 rfl) ⟨rfl, I_8, F_8⟩
      · skip
        refine kv_iload_n C 17 rfl 2 (kdec dk_cX5_expand 10 rfl) rfl rfl ?_
        refine kv_aload_n C 18 rfl 1 (kdec dk_cX5_expand 11 rfl) rfl rfl ?_
        obtain ⟨x12, e13⟩ : ∃ z : Int32, w 2 3 = z := ⟨_, rfl⟩
        have b14 : (0 : Int) ≤ x12.toInt ∧ x12.toInt ≤ 1024 := by rw [← e13]; exact hI 2 3
        have e15 : w_8 2 3 = x12 := ((F_8 2 3 rfl : w_8 2 3 = w 2 3).trans e13)
        refine kv_getN C 21 rfl 2 3 rfl rfl inX6 (by decide) mfn_TaleMachine_Slot_70 rfl rfl (kdec dk_cX5_expand 12 rfl) e15 ?_
        refine kv_icmp_ge C 24 rfl 86 (kdec dk_cX5_expand 13 rfl) (by decide) (fun d16 => ?_) (fun d16 => ?_)
        · skip
          exact kv_vret C hr hlk (kdec dk_cX5_expand 50 rfl) ⟨rfl, I_8, F_8⟩
        · skip
          refine kv_aload_n C 25 rfl 0 (kdec dk_cX5_expand 14 rfl) rfl rfl ?_
          refine kv_getr C 28 rfl 43 0 rfl rfl inX5 (by decide) mfl_TaleMachine_Slot_11 rfl rfl (kdec dk_cX5_expand 15 rfl) ?_
          refine kv_iload_n C 29 rfl 3 (kdec dk_cX5_expand 16 rfl) rfl rfl ?_
          obtain ⟨x17, e18⟩ : ∃ z : Int32, w_8 44 (l3_8 : Int32).toNatClampNeg = z := ⟨_, rfl⟩
          have b19 : (0 : Int) ≤ x17.toInt ∧ x17.toInt ≤ 255 := by rw [← e18]; exact I_8 44 _
          refine kv_iald C 30 rfl 44 rfl (by omega) (by omega) e18 (kdec dk_cX5_expand 17 rfl) ?_
          refine kv_if_eq C 33 rfl 55 (kdec dk_cX5_expand 18 rfl) (by decide) (fun d20 => ?_) (fun d20 => ?_)
          · skip
            refine kv_iload_n C 56 rfl 3 (kdec dk_cX5_expand 33 rfl) rfl rfl ?_
            refine kv_iconst C 57 rfl 1 (kdec dk_cX5_expand 34 rfl) rfl ?_
            refine kv_iadd C 58 rfl (kdec dk_cX5_expand 35 rfl) (fun x21 q23 h22e h22 h22l h22u => ?_)
            try have h22n : x21.toInt = l3_8.toInt + (1 : Int32).toInt := by omega
            clear h22 q23
            refine kv_aload_n C 59 rfl 0 (kdec dk_cX5_expand 36 rfl) rfl rfl ?_
            refine kv_get C 62 rfl 43 3 rfl rfl inX5 (by decide) mfl_TaleMachine_Slot_67 rfl rfl (kdec dk_cX5_expand 37 rfl) e10 ?_
            refine kv_icmp_ge C 65 rfl 77 (kdec dk_cX5_expand 38 rfl) (by decide) (fun d24 => ?_) (fun d24 => ?_)
            · skip
              exact cut77 w_8 l2_8 l3_8 I_8 F_8 (by omega) (by omega)
            · skip
              refine kv_iinc C 68 rfl 3 3 [1, 2, 3, 0] (fun v9 => [(0, .ref (ρ 43)), (1, .ref (ρ 2)), (2, .int l2_8), (3, .int v9)]) (kdec dk_cX5_expand 39 rfl) rfl (by decide) (fun _ => rfl) 1 rfl (fun x25 q26 h27e h27 h27l h27u => ?_)
              try have h27n : x25.toInt = l3_8.toInt + 1 := by omega
              clear h27 q26
              refine kv_iload_n C 69 rfl 2 (kdec dk_cX5_expand 40 rfl) rfl rfl ?_
              refine kv_aload_n C 70 rfl 0 (kdec dk_cX5_expand 41 rfl) rfl rfl ?_
              refine kv_getr C 73 rfl 43 0 rfl rfl inX5 (by decide) mfl_TaleMachine_Slot_11 rfl rfl (kdec dk_cX5_expand 42 rfl) ?_
              refine kv_iload_n C 74 rfl 3 (kdec dk_cX5_expand 43 rfl) rfl rfl ?_
              obtain ⟨x28, e29⟩ : ∃ z : Int32, w_8 44 (x25 : Int32).toNatClampNeg = z := ⟨_, rfl⟩
              have b30 : (0 : Int) ≤ x28.toInt ∧ x28.toInt ≤ 255 := by rw [← e29]; exact I_8 44 _
              refine kv_iald C 75 rfl 44 rfl (by omega) (by omega) e29 (kdec dk_cX5_expand 44 rfl) ?_
              refine kv_iadd C 76 rfl (kdec dk_cX5_expand 45 rfl) (fun x31 q33 h32e h32 h32l h32u => ?_)
              try have h32n : x31.toInt = l2_8.toInt + x28.toInt := by omega
              clear h32 q33
              refine kv_istore_n C 77 rfl 2 [1, 2, 0, 3] [(0, .ref (ρ 43)), (1, .ref (ρ 2)), (2, .int x31), (3, .int x25)] (kdec dk_cX5_expand 46 rfl) rfl (by decide) rfl ?_
              exact cut77 w_8 x31 x25 I_8 F_8 (by omega) (by omega)
          · skip
            refine kv_aload_n C 34 rfl 1 (kdec dk_cX5_expand 19 rfl) rfl rfl ?_
            refine kv_getrN C 37 rfl 2 0 rfl rfl inX6 (by decide) mfn_TaleMachine_Slot_61 rfl rfl (kdec dk_cX5_expand 20 rfl) ?_
            refine kv_iload_n C 38 rfl 2 (kdec dk_cX5_expand 21 rfl) rfl rfl ?_
            refine kv_aload_n C 39 rfl 1 (kdec dk_cX5_expand 22 rfl) rfl rfl ?_
            refine kv_getrN C 42 rfl 2 1 rfl rfl inX6 (by decide) mfn_TaleMachine_Slot_64 rfl rfl (kdec dk_cX5_expand 23 rfl) ?_
            refine kv_iload_n C 43 rfl 2 (kdec dk_cX5_expand 24 rfl) rfl rfl ?_
            obtain ⟨x34, e35⟩ : ∃ z : Int32, w_8 4 (l2_8 : Int32).toNatClampNeg = z := ⟨_, rfl⟩
            have b36 : (0 : Int) ≤ x34.toInt ∧ x34.toInt ≤ 255 := by rw [← e35]; exact I_8 4 _
            refine kv_iald C 44 rfl 4 rfl (by omega) (by omega) e35 (kdec dk_cX5_expand 25 rfl) ?_
            refine kv_aload_n C 45 rfl 0 (kdec dk_cX5_expand 26 rfl) rfl rfl ?_
            refine kv_getr C 48 rfl 43 0 rfl rfl inX5 (by decide) mfl_TaleMachine_Slot_11 rfl rfl (kdec dk_cX5_expand 27 rfl) ?_
            refine kv_iload_n C 49 rfl 3 (kdec dk_cX5_expand 28 rfl) rfl rfl ?_
            obtain ⟨x37, e38⟩ : ∃ z : Int32, w_8 44 (l3_8 : Int32).toNatClampNeg = z := ⟨_, rfl⟩
            have b39 : (0 : Int) ≤ x37.toInt ∧ x37.toInt ≤ 255 := by rw [← e38]; exact I_8 44 _
            refine kv_iald C 50 rfl 44 rfl (by omega) (by omega) e38 (kdec dk_cX5_expand 29 rfl) ?_
            refine kv_ixor C 51 rfl (kdec dk_cX5_expand 30 rfl) (fun x40 h41e h41l h41u => ?_)
            have g42 := kf_xor255 h41e (by omega) (by omega) (by omega) (by omega)
            refine kv_iast C 52 rfl 3 rfl (by omega) (by omega) (kdec dk_cX5_expand 31 rfl) (fun w43 u44 => ?_)
            have I45 : kI true w43 := kI_put u44 I_8 (show (0 : Int) ≤ (x40 : Int32).toInt by omega) (show (x40 : Int32).toInt ≤ 255 by omega)
            have F46 : kF [(3, none)] w w43 := kF_put u44 F_8 rfl
            refine kv_goto C 77 (kdec dk_cX5_expand 32 rfl) (by decide) ?_
            exact cut77 w43 l2_8 l3_8 I45 F46 (by omega) (by omega)
  refine kv_aload_n C 1 rfl 1 (kdec dk_cX5_expand 0 rfl) rfl rfl ?_
  refine kv_callVNv (As := []) (rest := []) C 4 rfl 2 (k_renew l D τ ρ σ w  hI ) rfl rfl mmn_TaleMachine_Slot_81 mim_yX6_renew mse_yX6_renew mcd_yX6_renew min_yX6_renew hd_yX6_renew rfl rfl rfl (by decide) rfl (Nat.le_of_ble_eq_true rfl) (kdec dk_cX5_expand 1 rfl) (fun w47 h48 => ?_)
  obtain ⟨I49, f50⟩ := h48
  have F52 : kF [(3, none)] w w47 := kF_call hF0 f50 (by decide)
  refine kv_iconst C 5 rfl 0 (kdec dk_cX5_expand 2 rfl) rfl ?_
  refine kv_istore_n C 6 rfl 2 [1, 2, 0] [(0, .ref (ρ 43)), (1, .ref (ρ 2)), (2, .int 0)] (kdec dk_cX5_expand 3 rfl) rfl (by decide) rfl ?_
  refine kv_iconst C 7 rfl 0 (kdec dk_cX5_expand 4 rfl) rfl ?_
  refine kv_istore_n C 8 rfl 3 [1, 2, 3, 0] [(0, .ref (ρ 43)), (1, .ref (ρ 2)), (2, .int 0), (3, .int 0)] (kdec dk_cX5_expand 5 rfl) rfl (by decide) rfl ?_
  exact cut8 ((((1537 - (0 : Int32).toInt)) : Int).toNat + 1) w47 0 0 I49 F52 (by omega) (by omega) (by omega)

set_option maxHeartbeats 4000000 in
set_option maxRecDepth 100000 in
theorem k_s_keep2 (l : Launch) (D : va_G) (τ : Nat → ClassId) (ρ σ : Nat → Nat) (w : kw)  (hI : kI true w)  :
    kM l D τ ρ σ yX5_keep cX5_keep 4 none { frames := 3, cells := 0, slots := 0, locals := 108 } [.ref (ρ 43), .ref (ρ 2), .ref (ρ 5), .ref (ρ 20)] w
      (fun o w' => o = none ∧ kI true w' ∧ kF [(43, some 2), (43, some 3), (43, some 4), (43, some 5), (43, some 6), (43, some 7), (44, none), (45, some 6), (45, some 7), (46, none), (47, none), (48, none), (49, none), (50, none), (51, none)] w w' ∧ ((w' 43 5).toInt = (w 20 10).toInt)) := by
  refine kM_of (own := "TaleMachine$Slot") rfl (by decide) (Nat.le_of_ble_eq_true rfl) ?_
  intro p e s m args below meth c C hr hlk
  have hF0 : kF [(43, some 2), (43, some 3), (43, some 4), (43, some 5), (43, some 6), (43, some 7), (44, none), (45, some 6), (45, some 7), (46, none), (47, none), (48, none), (49, none), (50, none), (51, none)] w w := kF.rf
  have c_1 : (1 : Int32).toInt = 1 := by decide
  refine kV.L (L' := [(0, .ref (ρ 43)), (1, .ref (ρ 2)), (2, .ref (ρ 5)), (3, .ref (ρ 20))]) rfl ?_
  refine kv_aload_n C 1 rfl 0 (kdec dk_cX5_keep 0 rfl) rfl rfl ?_
  refine kv_aload_n C 2 rfl 1 (kdec dk_cX5_keep 1 rfl) rfl rfl ?_
  refine kv_callVv (As := [.ref (ρ 2)]) (rest := []) C 5 rfl 43 (k_s_squeeze2 l D τ ρ σ w  hI ) rfl rfl mml_TaleMachine_Slot_22 mim_yX5_squeeze mse_yX5_squeeze mcd_yX5_squeeze min_yX5_squeeze hd_yX5_squeeze rfl rfl rfl (by decide) rfl (Nat.le_of_ble_eq_true rfl) (kdec dk_cX5_keep 2 rfl) (fun w1 h2 => ?_)
  obtain ⟨I3, f4⟩ := h2
  have F6 : kF [(43, some 2), (43, some 3), (43, some 4), (43, some 5), (43, some 6), (43, some 7), (44, none), (45, some 6), (45, some 7), (46, none), (47, none), (48, none), (49, none), (50, none), (51, none)] w w1 := kF_call hF0 f4 (by decide)
  refine kv_aload_n C 6 rfl 0 (kdec dk_cX5_keep 3 rfl) rfl rfl ?_
  refine kv_getr C 9 rfl 43 1 rfl rfl inX5 (by decide) mfl_TaleMachine_Slot_18 rfl rfl (kdec dk_cX5_keep 4 rfl) ?_
  refine kv_aload_n C 10 rfl 2 (kdec dk_cX5_keep 5 rfl) rfl rfl ?_
  refine kv_callVNv (As := [.ref (ρ 5)]) (rest := []) C 13 rfl 45 (k_copyTo2 l D τ ρ σ w1  I3 ) rfl rfl mmn_TaleMachine_Slot_26 mim_yX3_copyFrom mse_yX3_copyFrom mcd_yX3_copyFrom min_yX3_copyFrom hd_yX3_copyFrom rfl rfl rfl (by decide) rfl (Nat.le_of_ble_eq_true rfl) (kdec dk_cX5_keep 6 rfl) (fun w7 h8 => ?_)
  obtain ⟨I9, f10⟩ := h8
  have F12 : kF [(43, some 2), (43, some 3), (43, some 4), (43, some 5), (43, some 6), (43, some 7), (44, none), (45, some 6), (45, some 7), (46, none), (47, none), (48, none), (49, none), (50, none), (51, none)] w w7 := kF_call F6 f10 (by decide)
  refine kv_aload_n C 14 rfl 0 (kdec dk_cX5_keep 7 rfl) rfl rfl ?_
  refine kv_aload_n C 15 rfl 3 (kdec dk_cX5_keep 8 rfl) rfl rfl ?_
  obtain ⟨x13, e14⟩ : ∃ z : Int32, w 20 8 = z := ⟨_, rfl⟩
  have b15 : (-2147483648 : Int) ≤ x13.toInt ∧ x13.toInt ≤ 2147483647 := by rw [← e14]; exact hI 20 8
  have e16 : w7 20 8 = x13 := ((f10 20 8 rfl : w7 20 8 = w1 20 8).trans ((f4 20 8 rfl : w1 20 8 = w 20 8).trans e14))
  refine kv_getN C 18 rfl 20 8 rfl rfl inX1 (by decide) mfn_TaleMachine_Slot_30 rfl rfl (kdec dk_cX5_keep 9 rfl) e16 ?_
  refine kv_put C 21 rfl 43 4 rfl rfl inX5 (by decide) mfl_TaleMachine_Slot_36 rfl tyX5 tyX5_ok nmX5 rfl rfl (kdec dk_cX5_keep 10 rfl) rfl rfl (fun w17 u18 => ?_)
  have I19 : kI true w17 := kI_put u18 I9 (kf_rng _).1 (kf_rng _).2
  have F20 : kF [(43, some 2), (43, some 3), (43, some 4), (43, some 5), (43, some 6), (43, some 7), (44, none), (45, some 6), (45, some 7), (46, none), (47, none), (48, none), (49, none), (50, none), (51, none)] w w17 := kF_put u18 F12 rfl
  refine kv_aload_n C 22 rfl 0 (kdec dk_cX5_keep 11 rfl) rfl rfl ?_
  refine kv_aload_n C 23 rfl 3 (kdec dk_cX5_keep 12 rfl) rfl rfl ?_
  obtain ⟨x21, e22⟩ : ∃ z : Int32, w 20 10 = z := ⟨_, rfl⟩
  have b23 : (0 : Int) ≤ x21.toInt ∧ x21.toInt ≤ 4 := by rw [← e22]; exact hI 20 10
  have e24 : w17 20 10 = x21 := ((kup_ne u18 rfl : w17 20 10 = w7 20 10).trans ((f10 20 10 rfl : w7 20 10 = w1 20 10).trans ((f4 20 10 rfl : w1 20 10 = w 20 10).trans e22)))
  refine kv_getN C 26 rfl 20 10 rfl rfl inX1 (by decide) mfn_TaleMachine_Slot_37 rfl rfl (kdec dk_cX5_keep 13 rfl) e24 ?_
  refine kv_put C 29 rfl 43 5 rfl rfl inX5 (by decide) mfl_TaleMachine_Slot_40 rfl tyX5 tyX5_ok nmX5 rfl rfl (kdec dk_cX5_keep 14 rfl) rfl rfl (fun w25 u26 => ?_)
  have I27 : kI true w25 := kI_put u26 I19 (show (0 : Int) ≤ (x21 : Int32).toInt by omega) (show (x21 : Int32).toInt ≤ 4 by omega)
  have F28 : kF [(43, some 2), (43, some 3), (43, some 4), (43, some 5), (43, some 6), (43, some 7), (44, none), (45, some 6), (45, some 7), (46, none), (47, none), (48, none), (49, none), (50, none), (51, none)] w w25 := kF_put u26 F20 rfl
  refine kv_aload_n C 30 rfl 0 (kdec dk_cX5_keep 15 rfl) rfl rfl ?_
  refine kv_aload_n C 31 rfl 3 (kdec dk_cX5_keep 16 rfl) rfl rfl ?_
  obtain ⟨x29, e30⟩ : ∃ z : Int32, w 20 13 = z := ⟨_, rfl⟩
  have b31 : (-2147483648 : Int) ≤ x29.toInt ∧ x29.toInt ≤ 2147483647 := by rw [← e30]; exact hI 20 13
  have e32 : w25 20 13 = x29 := ((kup_ne u26 rfl : w25 20 13 = w17 20 13).trans ((kup_ne u18 rfl : w17 20 13 = w7 20 13).trans ((f10 20 13 rfl : w7 20 13 = w1 20 13).trans ((f4 20 13 rfl : w1 20 13 = w 20 13).trans e30))))
  refine kv_getN C 34 rfl 20 13 rfl rfl inX1 (by decide) mfn_TaleMachine_Slot_41 rfl rfl (kdec dk_cX5_keep 17 rfl) e32 ?_
  refine kv_put C 37 rfl 43 6 rfl rfl inX5 (by decide) mfl_TaleMachine_Slot_44 rfl tyX5 tyX5_ok nmX5 rfl rfl (kdec dk_cX5_keep 18 rfl) rfl rfl (fun w33 u34 => ?_)
  have I35 : kI true w33 := kI_put u34 I27 (kf_rng _).1 (kf_rng _).2
  have F36 : kF [(43, some 2), (43, some 3), (43, some 4), (43, some 5), (43, some 6), (43, some 7), (44, none), (45, some 6), (45, some 7), (46, none), (47, none), (48, none), (49, none), (50, none), (51, none)] w w33 := kF_put u34 F28 rfl
  refine kv_aload_n C 38 rfl 0 (kdec dk_cX5_keep 19 rfl) rfl rfl ?_
  refine kv_aload_n C 39 rfl 3 (kdec dk_cX5_keep 20 rfl) rfl rfl ?_
  obtain ⟨x37, e38⟩ : ∃ z : Int32, w 20 14 = z := ⟨_, rfl⟩
  have b39 : (-2147483648 : Int) ≤ x37.toInt ∧ x37.toInt ≤ 2147483647 := by rw [← e38]; exact hI 20 14
  have e40 : w33 20 14 = x37 := ((kup_ne u34 rfl : w33 20 14 = w25 20 14).trans ((kup_ne u26 rfl : w25 20 14 = w17 20 14).trans ((kup_ne u18 rfl : w17 20 14 = w7 20 14).trans ((f10 20 14 rfl : w7 20 14 = w1 20 14).trans ((f4 20 14 rfl : w1 20 14 = w 20 14).trans e38)))))
  refine kv_getN C 42 rfl 20 14 rfl rfl inX1 (by decide) mfn_TaleMachine_Slot_45 rfl rfl (kdec dk_cX5_keep 21 rfl) e40 ?_
  refine kv_put C 45 rfl 43 7 rfl rfl inX5 (by decide) mfl_TaleMachine_Slot_48 rfl tyX5 tyX5_ok nmX5 rfl rfl (kdec dk_cX5_keep 22 rfl) rfl rfl (fun w41 u42 => ?_)
  have I43 : kI true w41 := kI_put u42 I35 (kf_rng _).1 (kf_rng _).2
  have F44 : kF [(43, some 2), (43, some 3), (43, some 4), (43, some 5), (43, some 6), (43, some 7), (44, none), (45, some 6), (45, some 7), (46, none), (47, none), (48, none), (49, none), (50, none), (51, none)] w w41 := kF_put u42 F36 rfl
  refine kv_aload_n C 46 rfl 0 (kdec dk_cX5_keep 23 rfl) rfl rfl ?_
  refine kv_iconst C 47 rfl 1 (kdec dk_cX5_keep 24 rfl) rfl ?_
  refine kv_put C 50 rfl 43 2 rfl rfl inX5 (by decide) mfl_TaleMachine_Slot_49 rfl tyX5 tyX5_ok nmX5 rfl rfl (kdec dk_cX5_keep 25 rfl) (kf_bool (by decide)) rfl (fun w45 u46 => ?_)
  have I47 : kI true w45 := kI_put u46 I43 (show (0 : Int) ≤ (1 : Int32).toInt by omega) (show (1 : Int32).toInt ≤ 1 by omega)
  have F48 : kF [(43, some 2), (43, some 3), (43, some 4), (43, some 5), (43, some 6), (43, some 7), (44, none), (45, some 6), (45, some 7), (46, none), (47, none), (48, none), (49, none), (50, none), (51, none)] w w45 := kF_put u46 F44 rfl
  have e49 : w45 43 5 = x21 := ((kup_ne u46 rfl : w45 43 5 = w41 43 5).trans ((kup_ne u42 rfl : w41 43 5 = w33 43 5).trans ((kup_ne u34 rfl : w33 43 5 = w25 43 5).trans (kup_eq u26))))
  exact kv_vret C hr hlk (kdec dk_cX5_keep 26 rfl) ⟨rfl, I47, F48, (by rw [e22, e49]; try omega)⟩

set_option maxHeartbeats 4000000 in
set_option maxRecDepth 100000 in
theorem k_s_giveBack2 (l : Launch) (D : va_G) (τ : Nat → ClassId) (ρ σ : Nat → Nat) (w : kw)  (hI : kI true w)  :
    kM l D τ ρ σ yX5_giveBack cX5_giveBack 4 none { frames := 4, cells := 0, slots := 0, locals := 144 } [.ref (ρ 43), .ref (ρ 2), .ref (ρ 5), .ref (ρ 20)] w
      (fun o w' => o = none ∧ kI true w' ∧ kF [(2, some 9), (3, none), (5, some 6), (5, some 7), (6, none), (7, none), (8, none), (9, none), (10, none), (11, none), (20, some 8), (20, some 10), (20, some 13), (20, some 14)] w w' ∧ ((w' 20 10).toInt = (w 43 5).toInt)) := by
  refine kM_of (own := "TaleMachine$Slot") rfl (by decide) (Nat.le_of_ble_eq_true rfl) ?_
  intro p e s m args below meth c C hr hlk
  have hF0 : kF [(2, some 9), (3, none), (5, some 6), (5, some 7), (6, none), (7, none), (8, none), (9, none), (10, none), (11, none), (20, some 8), (20, some 10), (20, some 13), (20, some 14)] w w := kF.rf
  have c_0 : (0 : Int32).toInt = 0 := by decide
  refine kV.L (L' := [(0, .ref (ρ 43)), (1, .ref (ρ 2)), (2, .ref (ρ 5)), (3, .ref (ρ 20))]) rfl ?_
  refine kv_aload_n C 1 rfl 0 (kdec dk_cX5_giveBack 0 rfl) rfl rfl ?_
  refine kv_aload_n C 2 rfl 1 (kdec dk_cX5_giveBack 1 rfl) rfl rfl ?_
  refine kv_callVv (As := [.ref (ρ 2)]) (rest := []) C 5 rfl 43 (k_s_expand2 l D τ ρ σ w  hI ) rfl rfl mml_TaleMachine_Slot_53 mim_yX5_expand mse_yX5_expand mcd_yX5_expand min_yX5_expand hd_yX5_expand rfl rfl rfl (by decide) rfl (Nat.le_of_ble_eq_true rfl) (kdec dk_cX5_giveBack 2 rfl) (fun w1 h2 => ?_)
  obtain ⟨I3, f4⟩ := h2
  have F6 : kF [(2, some 9), (3, none), (5, some 6), (5, some 7), (6, none), (7, none), (8, none), (9, none), (10, none), (11, none), (20, some 8), (20, some 10), (20, some 13), (20, some 14)] w w1 := kF_call hF0 f4 (by decide)
  refine kv_aload_n C 6 rfl 2 (kdec dk_cX5_giveBack 3 rfl) rfl rfl ?_
  refine kv_aload_n C 7 rfl 0 (kdec dk_cX5_giveBack 4 rfl) rfl rfl ?_
  refine kv_getr C 10 rfl 43 1 rfl rfl inX5 (by decide) mfl_TaleMachine_Slot_18 rfl rfl (kdec dk_cX5_giveBack 5 rfl) ?_
  refine kv_callVNv (As := [.ref (ρ 45)]) (rest := []) C 13 rfl 5 (k_copyBack2 l D τ ρ σ w1  I3 ) rfl rfl mmn_TaleMachine_Slot_26 mim_yX3_copyFrom mse_yX3_copyFrom mcd_yX3_copyFrom min_yX3_copyFrom hd_yX3_copyFrom rfl rfl rfl (by decide) rfl (Nat.le_of_ble_eq_true rfl) (kdec dk_cX5_giveBack 6 rfl) (fun w7 h8 => ?_)
  obtain ⟨I9, f10⟩ := h8
  have F12 : kF [(2, some 9), (3, none), (5, some 6), (5, some 7), (6, none), (7, none), (8, none), (9, none), (10, none), (11, none), (20, some 8), (20, some 10), (20, some 13), (20, some 14)] w w7 := kF_call F6 f10 (by decide)
  refine kv_aload_n C 14 rfl 1 (kdec dk_cX5_giveBack 7 rfl) rfl rfl ?_
  refine kv_iconst C 15 rfl 0 (kdec dk_cX5_giveBack 8 rfl) rfl ?_
  refine kv_putN C 18 rfl 2 9 rfl rfl inX6 (by decide) mfn_TaleMachine_Slot_56 rfl tyX6 tyX6_ok nmX6 rfl rfl (kdec dk_cX5_giveBack 9 rfl) rfl rfl (fun w13 u14 => ?_)
  have I15 : kI true w13 := kI_put u14 I9 (show (0 : Int) ≤ (0 : Int32).toInt by omega) (show (0 : Int32).toInt ≤ 13 by omega)
  have F16 : kF [(2, some 9), (3, none), (5, some 6), (5, some 7), (6, none), (7, none), (8, none), (9, none), (10, none), (11, none), (20, some 8), (20, some 10), (20, some 13), (20, some 14)] w w13 := kF_put u14 F12 rfl
  refine kv_aload_n C 19 rfl 3 (kdec dk_cX5_giveBack 10 rfl) rfl rfl ?_
  refine kv_aload_n C 20 rfl 0 (kdec dk_cX5_giveBack 11 rfl) rfl rfl ?_
  obtain ⟨x17, e18⟩ : ∃ z : Int32, w 43 4 = z := ⟨_, rfl⟩
  have b19 : (-2147483648 : Int) ≤ x17.toInt ∧ x17.toInt ≤ 2147483647 := by rw [← e18]; exact hI 43 4
  have e20 : w13 43 4 = x17 := ((kup_ne u14 rfl : w13 43 4 = w7 43 4).trans ((f10 43 4 rfl : w7 43 4 = w1 43 4).trans ((f4 43 4 rfl : w1 43 4 = w 43 4).trans e18)))
  refine kv_get C 23 rfl 43 4 rfl rfl inX5 (by decide) mfl_TaleMachine_Slot_36 rfl rfl (kdec dk_cX5_giveBack 12 rfl) e20 ?_
  refine kv_putN C 26 rfl 20 8 rfl rfl inX1 (by decide) mfn_TaleMachine_Slot_30 rfl tyX1 tyX1_ok nmX1 rfl rfl (kdec dk_cX5_giveBack 13 rfl) rfl rfl (fun w21 u22 => ?_)
  have I23 : kI true w21 := kI_put u22 I15 (kf_rng _).1 (kf_rng _).2
  have F24 : kF [(2, some 9), (3, none), (5, some 6), (5, some 7), (6, none), (7, none), (8, none), (9, none), (10, none), (11, none), (20, some 8), (20, some 10), (20, some 13), (20, some 14)] w w21 := kF_put u22 F16 rfl
  refine kv_aload_n C 27 rfl 3 (kdec dk_cX5_giveBack 14 rfl) rfl rfl ?_
  refine kv_aload_n C 28 rfl 0 (kdec dk_cX5_giveBack 15 rfl) rfl rfl ?_
  obtain ⟨x25, e26⟩ : ∃ z : Int32, w 43 5 = z := ⟨_, rfl⟩
  have b27 : (0 : Int) ≤ x25.toInt ∧ x25.toInt ≤ 4 := by rw [← e26]; exact hI 43 5
  have e28 : w21 43 5 = x25 := ((kup_ne u22 rfl : w21 43 5 = w13 43 5).trans ((kup_ne u14 rfl : w13 43 5 = w7 43 5).trans ((f10 43 5 rfl : w7 43 5 = w1 43 5).trans ((f4 43 5 rfl : w1 43 5 = w 43 5).trans e26))))
  refine kv_get C 31 rfl 43 5 rfl rfl inX5 (by decide) mfl_TaleMachine_Slot_40 rfl rfl (kdec dk_cX5_giveBack 16 rfl) e28 ?_
  refine kv_putN C 34 rfl 20 10 rfl rfl inX1 (by decide) mfn_TaleMachine_Slot_37 rfl tyX1 tyX1_ok nmX1 rfl rfl (kdec dk_cX5_giveBack 17 rfl) rfl rfl (fun w29 u30 => ?_)
  have I31 : kI true w29 := kI_put u30 I23 (show (0 : Int) ≤ (x25 : Int32).toInt by omega) (show (x25 : Int32).toInt ≤ 4 by omega)
  have F32 : kF [(2, some 9), (3, none), (5, some 6), (5, some 7), (6, none), (7, none), (8, none), (9, none), (10, none), (11, none), (20, some 8), (20, some 10), (20, some 13), (20, some 14)] w w29 := kF_put u30 F24 rfl
  refine kv_aload_n C 35 rfl 3 (kdec dk_cX5_giveBack 18 rfl) rfl rfl ?_
  refine kv_aload_n C 36 rfl 0 (kdec dk_cX5_giveBack 19 rfl) rfl rfl ?_
  obtain ⟨x33, e34⟩ : ∃ z : Int32, w 43 6 = z := ⟨_, rfl⟩
  have b35 : (-2147483648 : Int) ≤ x33.toInt ∧ x33.toInt ≤ 2147483647 := by rw [← e34]; exact hI 43 6
  have e36 : w29 43 6 = x33 := ((kup_ne u30 rfl : w29 43 6 = w21 43 6).trans ((kup_ne u22 rfl : w21 43 6 = w13 43 6).trans ((kup_ne u14 rfl : w13 43 6 = w7 43 6).trans ((f10 43 6 rfl : w7 43 6 = w1 43 6).trans ((f4 43 6 rfl : w1 43 6 = w 43 6).trans e34)))))
  refine kv_get C 39 rfl 43 6 rfl rfl inX5 (by decide) mfl_TaleMachine_Slot_44 rfl rfl (kdec dk_cX5_giveBack 20 rfl) e36 ?_
  refine kv_putN C 42 rfl 20 13 rfl rfl inX1 (by decide) mfn_TaleMachine_Slot_41 rfl tyX1 tyX1_ok nmX1 rfl rfl (kdec dk_cX5_giveBack 21 rfl) rfl rfl (fun w37 u38 => ?_)
  have I39 : kI true w37 := kI_put u38 I31 (kf_rng _).1 (kf_rng _).2
  have F40 : kF [(2, some 9), (3, none), (5, some 6), (5, some 7), (6, none), (7, none), (8, none), (9, none), (10, none), (11, none), (20, some 8), (20, some 10), (20, some 13), (20, some 14)] w w37 := kF_put u38 F32 rfl
  refine kv_aload_n C 43 rfl 3 (kdec dk_cX5_giveBack 22 rfl) rfl rfl ?_
  refine kv_aload_n C 44 rfl 0 (kdec dk_cX5_giveBack 23 rfl) rfl rfl ?_
  obtain ⟨x41, e42⟩ : ∃ z : Int32, w 43 7 = z := ⟨_, rfl⟩
  have b43 : (-2147483648 : Int) ≤ x41.toInt ∧ x41.toInt ≤ 2147483647 := by rw [← e42]; exact hI 43 7
  have e44 : w37 43 7 = x41 := ((kup_ne u38 rfl : w37 43 7 = w29 43 7).trans ((kup_ne u30 rfl : w29 43 7 = w21 43 7).trans ((kup_ne u22 rfl : w21 43 7 = w13 43 7).trans ((kup_ne u14 rfl : w13 43 7 = w7 43 7).trans ((f10 43 7 rfl : w7 43 7 = w1 43 7).trans ((f4 43 7 rfl : w1 43 7 = w 43 7).trans e42))))))
  refine kv_get C 47 rfl 43 7 rfl rfl inX5 (by decide) mfl_TaleMachine_Slot_48 rfl rfl (kdec dk_cX5_giveBack 24 rfl) e44 ?_
  refine kv_putN C 50 rfl 20 14 rfl rfl inX1 (by decide) mfn_TaleMachine_Slot_45 rfl tyX1 tyX1_ok nmX1 rfl rfl (kdec dk_cX5_giveBack 25 rfl) rfl rfl (fun w45 u46 => ?_)
  have I47 : kI true w45 := kI_put u46 I39 (kf_rng _).1 (kf_rng _).2
  have F48 : kF [(2, some 9), (3, none), (5, some 6), (5, some 7), (6, none), (7, none), (8, none), (9, none), (10, none), (11, none), (20, some 8), (20, some 10), (20, some 13), (20, some 14)] w w45 := kF_put u46 F40 rfl
  have e49 : w45 20 10 = x25 := ((kup_ne u46 rfl : w45 20 10 = w37 20 10).trans ((kup_ne u38 rfl : w37 20 10 = w29 20 10).trans (kup_eq u30)))
  exact kv_vret C hr hlk (kdec dk_cX5_giveBack 26 rfl) ⟨rfl, I47, F48, (by rw [e26, e49]; try omega)⟩

set_option maxHeartbeats 4000000 in
set_option maxRecDepth 100000 in
theorem k_s_add3 (l : Launch) (D : va_G) (τ : Nat → ClassId) (ρ σ : Nat → Nat) (w : kw) (a1 : Int32) (hI : kI true w) (hp0 : 0 ≤ a1.toInt ∧ a1.toInt ≤ 255) :
    kM l D τ ρ σ yX5_add cX5_add 2 none { frames := 0, cells := 0, slots := 0, locals := 0 } [.ref (ρ 52), .int a1] w
      (fun o w' => o = none ∧ kI true w' ∧ kF [(52, some 3), (53, none)] w w') := by
  refine kM_of (own := "TaleMachine$Slot") rfl (by decide) (Nat.le_of_ble_eq_true rfl) ?_
  intro p e s m args below meth c C hr hlk
  have hF0 : kF [(52, some 3), (53, none)] w w := kF.rf
  have c_1 : (1 : Int32).toInt = 1 := by decide
  have c_1536 : (1536 : Int32).toInt = 1536 := by decide
  refine kV.L (L' := [(0, .ref (ρ 52)), (1, .int a1)]) rfl ?_
  have g1 := kf_rng a1
  refine kv_aload_n C 1 rfl 0 (kdec dk_cX5_add 0 rfl) rfl rfl ?_
  obtain ⟨x2, e3⟩ : ∃ z : Int32, w 52 3 = z := ⟨_, rfl⟩
  have b4 : (0 : Int) ≤ x2.toInt ∧ x2.toInt ≤ 1536 := by rw [← e3]; exact hI 52 3
  refine kv_get C 4 rfl 52 3 rfl rfl inX5 (by decide) mfl_TaleMachine_Slot_67 rfl rfl (kdec dk_cX5_add 1 rfl) e3 ?_
  refine kv_aload_n C 5 rfl 0 (kdec dk_cX5_add 2 rfl) rfl rfl ?_
  refine kv_getr C 8 rfl 52 0 rfl rfl inX5 (by decide) mfl_TaleMachine_Slot_11 rfl rfl (kdec dk_cX5_add 3 rfl) ?_
  refine kv_alen C 9 rfl 53 1536 rfl (by decide) rfl (kdec dk_cX5_add 4 rfl) ?_
  refine kv_icmp_ge C 12 rfl 32 (kdec dk_cX5_add 5 rfl) (by decide) (fun d5 => ?_) (fun d5 => ?_)
  · skip
    exact kv_vret C hr hlk (kdec dk_cX5_add 18 rfl) ⟨rfl, hI, hF0⟩
  · skip
    refine kv_aload_n C 13 rfl 0 (kdec dk_cX5_add 6 rfl) rfl rfl ?_
    refine kv_getr C 16 rfl 52 0 rfl rfl inX5 (by decide) mfl_TaleMachine_Slot_11 rfl rfl (kdec dk_cX5_add 7 rfl) ?_
    refine kv_aload_n C 17 rfl 0 (kdec dk_cX5_add 8 rfl) rfl rfl ?_
    refine kv_get C 20 rfl 52 3 rfl rfl inX5 (by decide) mfl_TaleMachine_Slot_67 rfl rfl (kdec dk_cX5_add 9 rfl) e3 ?_
    refine kv_iload_n C 21 rfl 1 (kdec dk_cX5_add 10 rfl) rfl rfl ?_
    refine kv_iast C 22 rfl 53 rfl (by omega) (by omega) (kdec dk_cX5_add 11 rfl) (fun w6 u7 => ?_)
    have I8 : kI true w6 := kI_put u7 hI (show (0 : Int) ≤ (a1 : Int32).toInt by omega) (show (a1 : Int32).toInt ≤ 255 by omega)
    have F9 : kF [(52, some 3), (53, none)] w w6 := kF_put u7 hF0 rfl
    refine kv_aload_n C 23 rfl 0 (kdec dk_cX5_add 12 rfl) rfl rfl ?_
    refine kv_dup C 24 rfl (kdec dk_cX5_add 13 rfl) rfl ?_
    have e10 : w6 52 3 = x2 := ((kup_ne u7 rfl : w6 52 3 = w 52 3).trans e3)
    refine kv_get C 27 rfl 52 3 rfl rfl inX5 (by decide) mfl_TaleMachine_Slot_67 rfl rfl (kdec dk_cX5_add 14 rfl) e10 ?_
    refine kv_iconst C 28 rfl 1 (kdec dk_cX5_add 15 rfl) rfl ?_
    refine kv_iadd C 29 rfl (kdec dk_cX5_add 16 rfl) (fun x11 q13 h12e h12 h12l h12u => ?_)
    try have h12n : x11.toInt = x2.toInt + (1 : Int32).toInt := by omega
    clear h12 q13
    refine kv_put C 32 rfl 52 3 rfl rfl inX5 (by decide) mfl_TaleMachine_Slot_67 rfl tyX5 tyX5_ok nmX5 rfl rfl (kdec dk_cX5_add 17 rfl) rfl rfl (fun w14 u15 => ?_)
    have I16 : kI true w14 := kI_put u15 I8 (show (0 : Int) ≤ (x11 : Int32).toInt by omega) (show (x11 : Int32).toInt ≤ 1536 by omega)
    have F17 : kF [(52, some 3), (53, none)] w w14 := kF_put u15 F9 rfl
    exact kv_vret C hr hlk (kdec dk_cX5_add 18 rfl) ⟨rfl, I16, F17⟩

set_option maxHeartbeats 4000000 in
set_option maxRecDepth 100000 in
theorem k_s_squeeze3 (l : Launch) (D : va_G) (τ : Nat → ClassId) (ρ σ : Nat → Nat) (w : kw)  (hI : kI true w)  :
    kM l D τ ρ σ yX5_squeeze cX5_squeeze 6 none { frames := 1, cells := 0, slots := 0, locals := 36 } [.ref (ρ 52), .ref (ρ 2)] w
      (fun o w' => o = none ∧ kI true w' ∧ kF [(52, some 3), (53, none)] w w') := by
  refine kM_of (own := "TaleMachine$Slot") rfl (by decide) (Nat.le_of_ble_eq_true rfl) ?_
  intro p e s m args below meth c C hr hlk
  have hF0 : kF [(52, some 3), (53, none)] w w := kF.rf
  have c_0 : (0 : Int32).toInt = 0 := by decide
  have c_1 : (1 : Int32).toInt = 1 := by decide
  have c_255 : (255 : Int32).toInt = 255 := by decide
  refine kV.L (L' := [(0, .ref (ρ 52)), (1, .ref (ρ 2))]) rfl ?_
  have cut32 : ∀ (n_32 : Nat) (w_32 : kw) (l2_32 l3_32 : Int32), kI true w_32 → kF [(52, some 3), (53, none)] w w_32 → (0 ≤ l3_32.toInt ∧ l3_32.toInt ≤ l2_32.toInt ∧ l2_32.toInt ≤ 1024) → ((1025 - l3_32.toInt) : Int) < (n_32 : Int) → kV p l e { frames := 1, cells := 0, slots := 0, locals := 36 } s m args below meth c (kQ below args s D τ ρ (fun o w' => o = none ∧ kI true w' ∧ kF [(52, some 3), (53, none)] w w')) 6 D τ ρ 32 [(0, .ref (ρ 52)), (1, .ref (ρ 2)), (2, .int l2_32), (3, .int l3_32)] [] w_32 := by
    intro n_32
    induction n_32 with
    | zero => intro w_32 l2_32 l3_32 I_32 F_32 k32_0 hmz; exfalso; omega
    | succ n_32 ih32 =>
      intro w_32 l2_32 l3_32 I_32 F_32 k32_0 hm32
      have gl2_32 := kf_rng l2_32
      have gl3_32 := kf_rng l3_32
      have cut90 : ∀ (w_90 : kw) (l2_90 l3_90 l5_90 : Int32), kI true w_90 → kF [(52, some 3), (53, none)] w w_90 → (0 ≤ l5_90.toInt ∧ l5_90.toInt ≤ l3_90.toInt ∧ l3_90.toInt ≤ l5_90.toInt + 255 ∧ l3_90.toInt ≤ l2_90.toInt ∧ l2_90.toInt ≤ 1024) → (l3_32.toInt < l3_90.toInt) → kV p l e { frames := 1, cells := 0, slots := 0, locals := 36 } s m args below meth c (kQ below args s D τ ρ (fun o w' => o = none ∧ kI true w' ∧ kF [(52, some 3), (53, none)] w w')) 6 D τ ρ 90 [(0, .ref (ρ 52)), (1, .ref (ρ 2)), (2, .int l2_90), (3, .int l3_90), (5, .int l5_90)] [] w_90 := by
        intro w_90 l2_90 l3_90 l5_90 I_90 F_90 k90_0 k90_1
        have gl2_90 := kf_rng l2_90
        have gl3_90 := kf_rng l3_90
        have gl5_90 := kf_rng l5_90
        refine kv_aload_n C 91 rfl 0 (kdec dk_cX5_squeeze 47 rfl) rfl rfl ?_
        refine kv_iload_n C 92 rfl 3 (kdec dk_cX5_squeeze 48 rfl) rfl rfl ?_
        refine kv_iload C 94 rfl 4 (kdec dk_cX5_squeeze 49 rfl) rfl ?_
        refine kv_isub C 95 rfl (kdec dk_cX5_squeeze 50 rfl) (fun x1 q3 h2e h2 h2l h2u => ?_)
        try have h2n : x1.toInt = l3_90.toInt - l5_90.toInt := by omega
        clear h2 q3
        refine kv_callVv (As := [.int x1]) (rest := []) C 98 rfl 52 (k_s_add3 l D τ ρ σ w_90 x1 I_90 (by omega)) rfl rfl mml_TaleMachine_Slot_77 mim_yX5_add mse_yX5_add mcd_yX5_add min_yX5_add hd_yX5_add rfl rfl rfl (by decide) rfl (Nat.le_of_ble_eq_true rfl) (kdec dk_cX5_squeeze 51 rfl) (fun w4 h5 => ?_)
        obtain ⟨I6, f7⟩ := h5
        have F9 : kF [(52, some 3), (53, none)] w w4 := kF_call F_90 f7 (by decide)
        refine kv_goto C 32 (kdec dk_cX5_squeeze 52 rfl) (by decide) ?_
        refine kV.sub [0, 1, 2, 3] (L' := [(0, .ref (ρ 52)), (1, .ref (ρ 2)), (2, .int l2_90), (3, .int l3_90)]) rfl ?_
        exact ih32 w4 l2_90 l3_90 I6 F9 (by omega) (by omega)
      have cut61 : ∀ (n_61 : Nat) (w_61 : kw) (l2_61 l3_61 l5_61 : Int32), kI true w_61 → kF [(52, some 3), (53, none)] w w_61 → (0 ≤ l5_61.toInt ∧ l5_61.toInt ≤ l3_61.toInt ∧ l3_61.toInt ≤ l5_61.toInt + 255 ∧ l3_61.toInt ≤ l2_61.toInt ∧ l2_61.toInt ≤ 1024) → (l3_32.toInt < l3_61.toInt) → ((1025 - l3_61.toInt) : Int) < (n_61 : Int) → kV p l e { frames := 1, cells := 0, slots := 0, locals := 36 } s m args below meth c (kQ below args s D τ ρ (fun o w' => o = none ∧ kI true w' ∧ kF [(52, some 3), (53, none)] w w')) 6 D τ ρ 61 [(0, .ref (ρ 52)), (1, .ref (ρ 2)), (2, .int l2_61), (3, .int l3_61), (5, .int l5_61)] [] w_61 := by
        intro n_61
        induction n_61 with
        | zero => intro w_61 l2_61 l3_61 l5_61 I_61 F_61 k61_0 k61_1 hmz; exfalso; omega
        | succ n_61 ih61 =>
          intro w_61 l2_61 l3_61 l5_61 I_61 F_61 k61_0 k61_1 hm61
          have gl2_61 := kf_rng l2_61
          have gl3_61 := kf_rng l3_61
          have gl5_61 := kf_rng l5_61
          refine kv_iload_n C 62 rfl 3 (kdec dk_cX5_squeeze 33 rfl) rfl rfl ?_
          refine kv_iload_n C 63 rfl 2 (kdec dk_cX5_squeeze 34 rfl) rfl rfl ?_
          refine kv_icmp_ge C 66 rfl 90 (kdec dk_cX5_squeeze 35 rfl) (by decide) (fun d10 => ?_) (fun d10 => ?_)
          · skip
            exact cut90 w_61 l2_61 l3_61 l5_61 I_61 F_61 (by omega) (by omega)
          · skip
            refine kv_iload_n C 67 rfl 3 (kdec dk_cX5_squeeze 36 rfl) rfl rfl ?_
            refine kv_iload C 69 rfl 4 (kdec dk_cX5_squeeze 37 rfl) rfl ?_
            refine kv_isub C 70 rfl (kdec dk_cX5_squeeze 38 rfl) (fun x11 q13 h12e h12 h12l h12u => ?_)
            try have h12n : x11.toInt = l3_61.toInt - l5_61.toInt := by omega
            clear h12 q13
            refine kv_sipush C 73 rfl 255 (kdec dk_cX5_squeeze 39 rfl) rfl ?_
            refine kv_icmp_ge C 76 rfl 90 (kdec dk_cX5_squeeze 40 rfl) (by decide) (fun d14 => ?_) (fun d14 => ?_)
            · skip
              exact cut90 w_61 l2_61 l3_61 l5_61 I_61 F_61 (by omega) (by omega)
            · skip
              refine kv_aload_n C 77 rfl 1 (kdec dk_cX5_squeeze 41 rfl) rfl rfl ?_
              refine kv_iload_n C 78 rfl 3 (kdec dk_cX5_squeeze 42 rfl) rfl rfl ?_
              refine kv_callSi (As := [.ref (ρ 2), .int l3_61]) (rest := []) C 81 rfl (k_changeAt l D τ ρ σ w_61 l3_61 I_61 (by omega)) mml_TaleMachine_Slot_73 mst_yX5_changeAt mcd_yX5_changeAt min_yX5_changeAt hd_yX5_changeAt rfl rfl rfl (by decide) rfl (Nat.le_of_ble_eq_true rfl) (kdec dk_cX5_squeeze 43 rfl) (fun x19 w15 h16 => ?_)
              obtain ⟨I17, f18, p20⟩ := h16
              have F21 : kF [(52, some 3), (53, none)] w w15 := kF_call F_61 f18 (by decide)
              have g22 := kf_rng x19
              refine kv_if_ne C 84 rfl 90 (kdec dk_cX5_squeeze 44 rfl) (by decide) (fun d23 => ?_) (fun d23 => ?_)
              · skip
                exact cut90 w15 l2_61 l3_61 l5_61 I17 F21 (by omega) (by omega)
              · skip
                refine kv_iinc C 87 rfl 3 3 [1, 2, 3, 0, 4] (fun v9 => [(0, .ref (ρ 52)), (1, .ref (ρ 2)), (2, .int l2_61), (3, .int v9), (5, .int l5_61)]) (kdec dk_cX5_squeeze 45 rfl) rfl (by decide) (fun _ => rfl) 1 rfl (fun x24 q25 h26e h26 h26l h26u => ?_)
                try have h26n : x24.toInt = l3_61.toInt + 1 := by omega
                clear h26 q25
                refine kv_goto C 61 (kdec dk_cX5_squeeze 46 rfl) (by decide) ?_
                exact ih61 w15 l2_61 x24 l5_61 I17 F21 (by omega) (by omega) (by omega)
      refine kv_iload_n C 33 rfl 3 (kdec dk_cX5_squeeze 18 rfl) rfl rfl ?_
      refine kv_iload_n C 34 rfl 2 (kdec dk_cX5_squeeze 19 rfl) rfl rfl ?_
      refine kv_icmp_ge C 37 rfl 101 (kdec dk_cX5_squeeze 20 rfl) (by decide) (fun d27 => ?_) (fun d27 => ?_)
      · skip
        exact kv_vret C hr hlk (kdec dk_cX5_squeeze 53 rfl) ⟨rfl, I_32, F_32⟩
      · skip
        refine kv_aload_n C 38 rfl 1 (kdec dk_cX5_squeeze 21 rfl) rfl rfl ?_
        refine kv_iload_n C 39 rfl 3 (kdec dk_cX5_squeeze 22 rfl) rfl rfl ?_
        refine kv_callSi (As := [.ref (ρ 2), .int l3_32]) (rest := []) C 42 rfl (k_changeAt l D τ ρ σ w_32 l3_32 I_32 (by omega)) mml_TaleMachine_Slot_73 mst_yX5_changeAt mcd_yX5_changeAt min_yX5_changeAt hd_yX5_changeAt rfl rfl rfl (by decide) rfl (Nat.le_of_ble_eq_true rfl) (kdec dk_cX5_squeeze 23 rfl) (fun x32 w28 h29 => ?_)
        obtain ⟨I30, f31, p33⟩ := h29
        have F34 : kF [(52, some 3), (53, none)] w w28 := kF_call F_32 f31 (by decide)
        have g35 := kf_rng x32
        refine kv_istore C 44 rfl 4 [1, 2, 3, 4, 0] [(0, .ref (ρ 52)), (1, .ref (ρ 2)), (2, .int l2_32), (3, .int l3_32), (4, .int x32)] (kdec dk_cX5_squeeze 24 rfl) (by decide) rfl ?_
        refine kv_aload_n C 45 rfl 0 (kdec dk_cX5_squeeze 25 rfl) rfl rfl ?_
        refine kv_iload C 47 rfl 4 (kdec dk_cX5_squeeze 26 rfl) rfl ?_
        refine kv_callVv (As := [.int x32]) (rest := []) C 50 rfl 52 (k_s_add3 l D τ ρ σ w28 x32 I30 (by omega)) rfl rfl mml_TaleMachine_Slot_77 mim_yX5_add mse_yX5_add mcd_yX5_add min_yX5_add hd_yX5_add rfl rfl rfl (by decide) rfl (Nat.le_of_ble_eq_true rfl) (kdec dk_cX5_squeeze 27 rfl) (fun w36 h37 => ?_)
        obtain ⟨I38, f39⟩ := h37
        have F41 : kF [(52, some 3), (53, none)] w w36 := kF_call F34 f39 (by decide)
        refine kv_iinc C 53 rfl 3 3 [1, 2, 3, 0, 4] (fun v9 => [(0, .ref (ρ 52)), (1, .ref (ρ 2)), (2, .int l2_32), (3, .int v9), (4, .int x32)]) (kdec dk_cX5_squeeze 28 rfl) rfl (by decide) (fun _ => rfl) 1 rfl (fun x42 q43 h44e h44 h44l h44u => ?_)
        try have h44n : x42.toInt = l3_32.toInt + 1 := by omega
        clear h44 q43
        refine kv_iload C 55 rfl 4 (kdec dk_cX5_squeeze 29 rfl) rfl ?_
        refine kv_if_ne C 58 rfl 98 (kdec dk_cX5_squeeze 30 rfl) (by decide) (fun d45 => ?_) (fun d45 => ?_)
        · skip
          refine kv_goto C 32 (kdec dk_cX5_squeeze 52 rfl) (by decide) ?_
          refine kV.sub [0, 1, 2, 3] (L' := [(0, .ref (ρ 52)), (1, .ref (ρ 2)), (2, .int l2_32), (3, .int x42)]) rfl ?_
          exact ih32 w36 l2_32 x42 I38 F41 (by omega) (by omega)
        · skip
          refine kv_iload_n C 59 rfl 3 (kdec dk_cX5_squeeze 31 rfl) rfl rfl ?_
          refine kv_istore C 61 rfl 5 [1, 2, 3, 4, 5, 0] [(0, .ref (ρ 52)), (1, .ref (ρ 2)), (2, .int l2_32), (3, .int x42), (4, .int x32), (5, .int x42)] (kdec dk_cX5_squeeze 32 rfl) (by decide) rfl ?_
          refine kV.sub [0, 1, 2, 3, 5] (L' := [(0, .ref (ρ 52)), (1, .ref (ρ 2)), (2, .int l2_32), (3, .int x42), (5, .int x42)]) rfl ?_
          exact cut61 ((((1025 - (x42 : Int32).toInt)) : Int).toNat + 1) w36 l2_32 x42 x42 I38 F41 (by omega) (by omega) (by omega)
  have cut30 : ∀ (w_30 : kw) (l2_30 : Int32), kI true w_30 → kF [(52, some 3), (53, none)] w w_30 → (0 ≤ l2_30.toInt ∧ l2_30.toInt ≤ 1024) → kV p l e { frames := 1, cells := 0, slots := 0, locals := 36 } s m args below meth c (kQ below args s D τ ρ (fun o w' => o = none ∧ kI true w' ∧ kF [(52, some 3), (53, none)] w w')) 6 D τ ρ 30 [(0, .ref (ρ 52)), (1, .ref (ρ 2)), (2, .int l2_30)] [] w_30 := by
    intro w_30 l2_30 I_30 F_30 k30_0
    have gl2_30 := kf_rng l2_30
    refine kv_iconst C 31 rfl 0 (kdec dk_cX5_squeeze 16 rfl) rfl ?_
    refine kv_istore_n C 32 rfl 3 [1, 2, 3, 0] [(0, .ref (ρ 52)), (1, .ref (ρ 2)), (2, .int l2_30), (3, .int 0)] (kdec dk_cX5_squeeze 17 rfl) rfl (by decide) rfl ?_
    exact cut32 ((((1025 - (0 : Int32).toInt)) : Int).toNat + 1) w_30 l2_30 0 I_30 F_30 (by omega) (by omega)
  have cut10 : ∀ (n_10 : Nat) (w_10 : kw) (l2_10 : Int32), kI true w_10 → kF [(52, some 3), (53, none)] w w_10 → (0 ≤ l2_10.toInt ∧ l2_10.toInt ≤ 1024) → (l2_10.toInt : Int) < (n_10 : Int) → kV p l e { frames := 1, cells := 0, slots := 0, locals := 36 } s m args below meth c (kQ below args s D τ ρ (fun o w' => o = none ∧ kI true w' ∧ kF [(52, some 3), (53, none)] w w')) 6 D τ ρ 10 [(0, .ref (ρ 52)), (1, .ref (ρ 2)), (2, .int l2_10)] [] w_10 := by
    intro n_10
    induction n_10 with
    | zero => intro w_10 l2_10 I_10 F_10 k10_0 hmz; exfalso; omega
    | succ n_10 ih10 =>
      intro w_10 l2_10 I_10 F_10 k10_0 hm10
      have gl2_10 := kf_rng l2_10
      refine kv_iload_n C 11 rfl 2 (kdec dk_cX5_squeeze 6 rfl) rfl rfl ?_
      refine kv_if_le C 14 rfl 30 (kdec dk_cX5_squeeze 7 rfl) (by decide) (fun d46 => ?_) (fun d46 => ?_)
      · skip
        exact cut30 w_10 l2_10 I_10 F_10 (by omega)
      · skip
        refine kv_aload_n C 15 rfl 1 (kdec dk_cX5_squeeze 8 rfl) rfl rfl ?_
        refine kv_iload_n C 16 rfl 2 (kdec dk_cX5_squeeze 9 rfl) rfl rfl ?_
        refine kv_iconst C 17 rfl 1 (kdec dk_cX5_squeeze 10 rfl) rfl ?_
        refine kv_isub C 18 rfl (kdec dk_cX5_squeeze 11 rfl) (fun x47 q49 h48e h48 h48l h48u => ?_)
        try have h48n : x47.toInt = l2_10.toInt - (1 : Int32).toInt := by omega
        clear h48 q49
        refine kv_callSi (As := [.ref (ρ 2), .int x47]) (rest := []) C 21 rfl (k_changeAt l D τ ρ σ w_10 x47 I_10 (by omega)) mml_TaleMachine_Slot_73 mst_yX5_changeAt mcd_yX5_changeAt min_yX5_changeAt hd_yX5_changeAt rfl rfl rfl (by decide) rfl (Nat.le_of_ble_eq_true rfl) (kdec dk_cX5_squeeze 12 rfl) (fun x54 w50 h51 => ?_)
        obtain ⟨I52, f53, p55⟩ := h51
        have F56 : kF [(52, some 3), (53, none)] w w50 := kF_call F_10 f53 (by decide)
        have g57 := kf_rng x54
        refine kv_if_ne C 24 rfl 30 (kdec dk_cX5_squeeze 13 rfl) (by decide) (fun d58 => ?_) (fun d58 => ?_)
        · skip
          exact cut30 w50 l2_10 I52 F56 (by omega)
        · skip
          refine kv_iinc C 27 rfl 2 2 [1, 2, 0] (fun v9 => [(0, .ref (ρ 52)), (1, .ref (ρ 2)), (2, .int v9)]) (kdec dk_cX5_squeeze 14 rfl) rfl (by decide) (fun _ => rfl) (-1) rfl (fun x59 q60 h61e h61 h61l h61u => ?_)
          try have h61n : x59.toInt = l2_10.toInt + (-1) := by omega
          clear h61 q60
          refine kv_goto C 10 (kdec dk_cX5_squeeze 15 rfl) (by decide) ?_
          exact ih10 w50 x59 I52 F56 (by omega) (by omega)
  refine kv_aload_n C 1 rfl 0 (kdec dk_cX5_squeeze 0 rfl) rfl rfl ?_
  refine kv_iconst C 2 rfl 0 (kdec dk_cX5_squeeze 1 rfl) rfl ?_
  refine kv_put C 5 rfl 52 3 rfl rfl inX5 (by decide) mfl_TaleMachine_Slot_67 rfl tyX5 tyX5_ok nmX5 rfl rfl (kdec dk_cX5_squeeze 2 rfl) rfl rfl (fun w62 u63 => ?_)
  have I64 : kI true w62 := kI_put u63 hI (show (0 : Int) ≤ (0 : Int32).toInt by omega) (show (0 : Int32).toInt ≤ 1536 by omega)
  have F65 : kF [(52, some 3), (53, none)] w w62 := kF_put u63 hF0 rfl
  refine kv_aload_n C 6 rfl 1 (kdec dk_cX5_squeeze 3 rfl) rfl rfl ?_
  obtain ⟨x66, e67⟩ : ∃ z : Int32, w 2 3 = z := ⟨_, rfl⟩
  have b68 : (0 : Int) ≤ x66.toInt ∧ x66.toInt ≤ 1024 := by rw [← e67]; exact hI 2 3
  have e69 : w62 2 3 = x66 := ((kup_ne u63 rfl : w62 2 3 = w 2 3).trans e67)
  refine kv_getN C 9 rfl 2 3 rfl rfl inX6 (by decide) mfn_TaleMachine_Slot_70 rfl rfl (kdec dk_cX5_squeeze 4 rfl) e69 ?_
  refine kv_istore_n C 10 rfl 2 [1, 2, 0] [(0, .ref (ρ 52)), (1, .ref (ρ 2)), (2, .int x66)] (kdec dk_cX5_squeeze 5 rfl) rfl (by decide) rfl ?_
  exact cut10 ((((x66 : Int32).toInt) : Int).toNat + 1) w62 x66 I64 F65 (by omega) (by omega)

set_option maxHeartbeats 4000000 in
set_option maxRecDepth 100000 in
theorem k_s_expand3 (l : Launch) (D : va_G) (τ : Nat → ClassId) (ρ σ : Nat → Nat) (w : kw)  (hI : kI true w)  :
    kM l D τ ρ σ yX5_expand cX5_expand 4 none { frames := 3, cells := 0, slots := 0, locals := 108 } [.ref (ρ 52), .ref (ρ 2)] w
      (fun o w' => o = none ∧ kI true w' ∧ kF [(3, none)] w w') := by
  refine kM_of (own := "TaleMachine$Slot") rfl (by decide) (Nat.le_of_ble_eq_true rfl) ?_
  intro p e s m args below meth c C hr hlk
  have hF0 : kF [(3, none)] w w := kF.rf
  have c_0 : (0 : Int32).toInt = 0 := by decide
  have c_1 : (1 : Int32).toInt = 1 := by decide
  refine kV.L (L' := [(0, .ref (ρ 52)), (1, .ref (ρ 2))]) rfl ?_
  have cut8 : ∀ (n_8 : Nat) (w_8 : kw) (l2_8 l3_8 : Int32), kI true w_8 → kF [(3, none)] w w_8 → (0 ≤ l2_8.toInt ∧ l2_8.toInt ≤ 1280) → (0 ≤ l3_8.toInt ∧ l3_8.toInt ≤ 1536) → ((1537 - l3_8.toInt) : Int) < (n_8 : Int) → kV p l e { frames := 3, cells := 0, slots := 0, locals := 108 } s m args below meth c (kQ below args s D τ ρ (fun o w' => o = none ∧ kI true w' ∧ kF [(3, none)] w w')) 4 D τ ρ 8 [(0, .ref (ρ 52)), (1, .ref (ρ 2)), (2, .int l2_8), (3, .int l3_8)] [] w_8 := by
    intro n_8
    induction n_8 with
    | zero => intro w_8 l2_8 l3_8 I_8 F_8 k8_0 k8_1 hmz; exfalso; omega
    | succ n_8 ih8 =>
      intro w_8 l2_8 l3_8 I_8 F_8 k8_0 k8_1 hm8
      have gl2_8 := kf_rng l2_8
      have gl3_8 := kf_rng l3_8
      have cut77 : ∀ (w_77 : kw) (l2_77 l3_77 : Int32), kI true w_77 → kF [(3, none)] w w_77 → (0 ≤ l2_77.toInt ∧ l2_77.toInt ≤ 1279) → (l3_8.toInt ≤ l3_77.toInt ∧ l3_77.toInt < 1536) → kV p l e { frames := 3, cells := 0, slots := 0, locals := 108 } s m args below meth c (kQ below args s D τ ρ (fun o w' => o = none ∧ kI true w' ∧ kF [(3, none)] w w')) 4 D τ ρ 77 [(0, .ref (ρ 52)), (1, .ref (ρ 2)), (2, .int l2_77), (3, .int l3_77)] [] w_77 := by
        intro w_77 l2_77 l3_77 I_77 F_77 k77_0 k77_1
        have gl2_77 := kf_rng l2_77
        have gl3_77 := kf_rng l3_77
        refine kv_iinc C 80 rfl 2 2 [1, 2, 0, 3] (fun v9 => [(0, .ref (ρ 52)), (1, .ref (ρ 2)), (2, .int v9), (3, .int l3_77)]) (kdec dk_cX5_expand 47 rfl) rfl (by decide) (fun _ => rfl) 1 rfl (fun x1 q2 h3e h3 h3l h3u => ?_)
        try have h3n : x1.toInt = l2_77.toInt + 1 := by omega
        clear h3 q2
        refine kv_iinc C 83 rfl 3 3 [1, 2, 3, 0] (fun v9 => [(0, .ref (ρ 52)), (1, .ref (ρ 2)), (2, .int x1), (3, .int v9)]) (kdec dk_cX5_expand 48 rfl) rfl (by decide) (fun _ => rfl) 1 rfl (fun x4 q5 h6e h6 h6l h6u => ?_)
        try have h6n : x4.toInt = l3_77.toInt + 1 := by omega
        clear h6 q5
        refine kv_goto C 8 (kdec dk_cX5_expand 49 rfl) (by decide) ?_
        exact ih8 w_77 x1 x4 I_77 F_77 (by omega) (by omega) (by omega)
      refine kv_iload_n C 9 rfl 3 (kdec dk_cX5_expand 6 rfl) rfl rfl ?_
      refine kv_aload_n C 10 rfl 0 (kdec dk_cX5_expand 7 rfl) rfl rfl ?_
      obtain ⟨x7, e8⟩ : ∃ z : Int32, w 52 3 = z := ⟨_, rfl⟩
      have b9 : (0 : Int) ≤ x7.toInt ∧ x7.toInt ≤ 1536 := by rw [← e8]; exact hI 52 3
      have e10 : w_8 52 3 = x7 := ((F_8 52 3 rfl : w_8 52 3 = w 52 3).trans e8)
      refine kv_get C 13 rfl 52 3 rfl rfl inX5 (by decide) mfl_TaleMachine_Slot_67 rfl rfl (kdec dk_cX5_expand 8 rfl) e10 ?_
      refine kv_icmp_ge C 16 rfl 86 (kdec dk_cX5_expand 9 rfl) (by decide) (fun d11 => ?_) (fun d11 => ?_)
      · skip
        exact kv_vret C hr hlk (kdec dk_cX5_expand 50 rfl) ⟨rfl, I_8, F_8⟩
      · skip
        refine kv_iload_n C 17 rfl 2 (kdec dk_cX5_expand 10 rfl) rfl rfl ?_
        refine kv_aload_n C 18 rfl 1 (kdec dk_cX5_expand 11 rfl) rfl rfl ?_
        obtain ⟨x12, e13⟩ : ∃ z : Int32, w 2 3 = z := ⟨_, rfl⟩
        have b14 : (0 : Int) ≤ x12.toInt ∧ x12.toInt ≤ 1024 := by rw [← e13]; exact hI 2 3
        have e15 : w_8 2 3 = x12 := ((F_8 2 3 rfl : w_8 2 3 = w 2 3).trans e13)
        refine kv_getN C 21 rfl 2 3 rfl rfl inX6 (by decide) mfn_TaleMachine_Slot_70 rfl rfl (kdec dk_cX5_expand 12 rfl) e15 ?_
        refine kv_icmp_ge C 24 rfl 86 (kdec dk_cX5_expand 13 rfl) (by decide) (fun d16 => ?_) (fun d16 => ?_)
        · skip
          exact kv_vret C hr hlk (kdec dk_cX5_expand 50 rfl) ⟨rfl, I_8, F_8⟩
        · skip
          refine kv_aload_n C 25 rfl 0 (kdec dk_cX5_expand 14 rfl) rfl rfl ?_
          refine kv_getr C 28 rfl 52 0 rfl rfl inX5 (by decide) mfl_TaleMachine_Slot_11 rfl rfl (kdec dk_cX5_expand 15 rfl) ?_
          refine kv_iload_n C 29 rfl 3 (kdec dk_cX5_expand 16 rfl) rfl rfl ?_
          obtain ⟨x17, e18⟩ : ∃ z : Int32, w_8 53 (l3_8 : Int32).toNatClampNeg = z := ⟨_, rfl⟩
          have b19 : (0 : Int) ≤ x17.toInt ∧ x17.toInt ≤ 255 := by rw [← e18]; exact I_8 53 _
          refine kv_iald C 30 rfl 53 rfl (by omega) (by omega) e18 (kdec dk_cX5_expand 17 rfl) ?_
          refine kv_if_eq C 33 rfl 55 (kdec dk_cX5_expand 18 rfl) (by decide) (fun d20 => ?_) (fun d20 => ?_)
          · skip
            refine kv_iload_n C 56 rfl 3 (kdec dk_cX5_expand 33 rfl) rfl rfl ?_
            refine kv_iconst C 57 rfl 1 (kdec dk_cX5_expand 34 rfl) rfl ?_
            refine kv_iadd C 58 rfl (kdec dk_cX5_expand 35 rfl) (fun x21 q23 h22e h22 h22l h22u => ?_)
            try have h22n : x21.toInt = l3_8.toInt + (1 : Int32).toInt := by omega
            clear h22 q23
            refine kv_aload_n C 59 rfl 0 (kdec dk_cX5_expand 36 rfl) rfl rfl ?_
            refine kv_get C 62 rfl 52 3 rfl rfl inX5 (by decide) mfl_TaleMachine_Slot_67 rfl rfl (kdec dk_cX5_expand 37 rfl) e10 ?_
            refine kv_icmp_ge C 65 rfl 77 (kdec dk_cX5_expand 38 rfl) (by decide) (fun d24 => ?_) (fun d24 => ?_)
            · skip
              exact cut77 w_8 l2_8 l3_8 I_8 F_8 (by omega) (by omega)
            · skip
              refine kv_iinc C 68 rfl 3 3 [1, 2, 3, 0] (fun v9 => [(0, .ref (ρ 52)), (1, .ref (ρ 2)), (2, .int l2_8), (3, .int v9)]) (kdec dk_cX5_expand 39 rfl) rfl (by decide) (fun _ => rfl) 1 rfl (fun x25 q26 h27e h27 h27l h27u => ?_)
              try have h27n : x25.toInt = l3_8.toInt + 1 := by omega
              clear h27 q26
              refine kv_iload_n C 69 rfl 2 (kdec dk_cX5_expand 40 rfl) rfl rfl ?_
              refine kv_aload_n C 70 rfl 0 (kdec dk_cX5_expand 41 rfl) rfl rfl ?_
              refine kv_getr C 73 rfl 52 0 rfl rfl inX5 (by decide) mfl_TaleMachine_Slot_11 rfl rfl (kdec dk_cX5_expand 42 rfl) ?_
              refine kv_iload_n C 74 rfl 3 (kdec dk_cX5_expand 43 rfl) rfl rfl ?_
              obtain ⟨x28, e29⟩ : ∃ z : Int32, w_8 53 (x25 : Int32).toNatClampNeg = z := ⟨_, rfl⟩
              have b30 : (0 : Int) ≤ x28.toInt ∧ x28.toInt ≤ 255 := by rw [← e29]; exact I_8 53 _
              refine kv_iald C 75 rfl 53 rfl (by omega) (by omega) e29 (kdec dk_cX5_expand 44 rfl) ?_
              refine kv_iadd C 76 rfl (kdec dk_cX5_expand 45 rfl) (fun x31 q33 h32e h32 h32l h32u => ?_)
              try have h32n : x31.toInt = l2_8.toInt + x28.toInt := by omega
              clear h32 q33
              refine kv_istore_n C 77 rfl 2 [1, 2, 0, 3] [(0, .ref (ρ 52)), (1, .ref (ρ 2)), (2, .int x31), (3, .int x25)] (kdec dk_cX5_expand 46 rfl) rfl (by decide) rfl ?_
              exact cut77 w_8 x31 x25 I_8 F_8 (by omega) (by omega)
          · skip
            refine kv_aload_n C 34 rfl 1 (kdec dk_cX5_expand 19 rfl) rfl rfl ?_
            refine kv_getrN C 37 rfl 2 0 rfl rfl inX6 (by decide) mfn_TaleMachine_Slot_61 rfl rfl (kdec dk_cX5_expand 20 rfl) ?_
            refine kv_iload_n C 38 rfl 2 (kdec dk_cX5_expand 21 rfl) rfl rfl ?_
            refine kv_aload_n C 39 rfl 1 (kdec dk_cX5_expand 22 rfl) rfl rfl ?_
            refine kv_getrN C 42 rfl 2 1 rfl rfl inX6 (by decide) mfn_TaleMachine_Slot_64 rfl rfl (kdec dk_cX5_expand 23 rfl) ?_
            refine kv_iload_n C 43 rfl 2 (kdec dk_cX5_expand 24 rfl) rfl rfl ?_
            obtain ⟨x34, e35⟩ : ∃ z : Int32, w_8 4 (l2_8 : Int32).toNatClampNeg = z := ⟨_, rfl⟩
            have b36 : (0 : Int) ≤ x34.toInt ∧ x34.toInt ≤ 255 := by rw [← e35]; exact I_8 4 _
            refine kv_iald C 44 rfl 4 rfl (by omega) (by omega) e35 (kdec dk_cX5_expand 25 rfl) ?_
            refine kv_aload_n C 45 rfl 0 (kdec dk_cX5_expand 26 rfl) rfl rfl ?_
            refine kv_getr C 48 rfl 52 0 rfl rfl inX5 (by decide) mfl_TaleMachine_Slot_11 rfl rfl (kdec dk_cX5_expand 27 rfl) ?_
            refine kv_iload_n C 49 rfl 3 (kdec dk_cX5_expand 28 rfl) rfl rfl ?_
            obtain ⟨x37, e38⟩ : ∃ z : Int32, w_8 53 (l3_8 : Int32).toNatClampNeg = z := ⟨_, rfl⟩
            have b39 : (0 : Int) ≤ x37.toInt ∧ x37.toInt ≤ 255 := by rw [← e38]; exact I_8 53 _
            refine kv_iald C 50 rfl 53 rfl (by omega) (by omega) e38 (kdec dk_cX5_expand 29 rfl) ?_
            refine kv_ixor C 51 rfl (kdec dk_cX5_expand 30 rfl) (fun x40 h41e h41l h41u => ?_)
            have g42 := kf_xor255 h41e (by omega) (by omega) (by omega) (by omega)
            refine kv_iast C 52 rfl 3 rfl (by omega) (by omega) (kdec dk_cX5_expand 31 rfl) (fun w43 u44 => ?_)
            have I45 : kI true w43 := kI_put u44 I_8 (show (0 : Int) ≤ (x40 : Int32).toInt by omega) (show (x40 : Int32).toInt ≤ 255 by omega)
            have F46 : kF [(3, none)] w w43 := kF_put u44 F_8 rfl
            refine kv_goto C 77 (kdec dk_cX5_expand 32 rfl) (by decide) ?_
            exact cut77 w43 l2_8 l3_8 I45 F46 (by omega) (by omega)
  refine kv_aload_n C 1 rfl 1 (kdec dk_cX5_expand 0 rfl) rfl rfl ?_
  refine kv_callVNv (As := []) (rest := []) C 4 rfl 2 (k_renew l D τ ρ σ w  hI ) rfl rfl mmn_TaleMachine_Slot_81 mim_yX6_renew mse_yX6_renew mcd_yX6_renew min_yX6_renew hd_yX6_renew rfl rfl rfl (by decide) rfl (Nat.le_of_ble_eq_true rfl) (kdec dk_cX5_expand 1 rfl) (fun w47 h48 => ?_)
  obtain ⟨I49, f50⟩ := h48
  have F52 : kF [(3, none)] w w47 := kF_call hF0 f50 (by decide)
  refine kv_iconst C 5 rfl 0 (kdec dk_cX5_expand 2 rfl) rfl ?_
  refine kv_istore_n C 6 rfl 2 [1, 2, 0] [(0, .ref (ρ 52)), (1, .ref (ρ 2)), (2, .int 0)] (kdec dk_cX5_expand 3 rfl) rfl (by decide) rfl ?_
  refine kv_iconst C 7 rfl 0 (kdec dk_cX5_expand 4 rfl) rfl ?_
  refine kv_istore_n C 8 rfl 3 [1, 2, 3, 0] [(0, .ref (ρ 52)), (1, .ref (ρ 2)), (2, .int 0), (3, .int 0)] (kdec dk_cX5_expand 5 rfl) rfl (by decide) rfl ?_
  exact cut8 ((((1537 - (0 : Int32).toInt)) : Int).toNat + 1) w47 0 0 I49 F52 (by omega) (by omega) (by omega)

set_option maxHeartbeats 4000000 in
set_option maxRecDepth 100000 in
theorem k_s_keep3 (l : Launch) (D : va_G) (τ : Nat → ClassId) (ρ σ : Nat → Nat) (w : kw)  (hI : kI true w)  :
    kM l D τ ρ σ yX5_keep cX5_keep 4 none { frames := 3, cells := 0, slots := 0, locals := 108 } [.ref (ρ 52), .ref (ρ 2), .ref (ρ 5), .ref (ρ 20)] w
      (fun o w' => o = none ∧ kI true w' ∧ kF [(52, some 2), (52, some 3), (52, some 4), (52, some 5), (52, some 6), (52, some 7), (53, none), (54, some 6), (54, some 7), (55, none), (56, none), (57, none), (58, none), (59, none), (60, none)] w w' ∧ ((w' 52 5).toInt = (w 20 10).toInt)) := by
  refine kM_of (own := "TaleMachine$Slot") rfl (by decide) (Nat.le_of_ble_eq_true rfl) ?_
  intro p e s m args below meth c C hr hlk
  have hF0 : kF [(52, some 2), (52, some 3), (52, some 4), (52, some 5), (52, some 6), (52, some 7), (53, none), (54, some 6), (54, some 7), (55, none), (56, none), (57, none), (58, none), (59, none), (60, none)] w w := kF.rf
  have c_1 : (1 : Int32).toInt = 1 := by decide
  refine kV.L (L' := [(0, .ref (ρ 52)), (1, .ref (ρ 2)), (2, .ref (ρ 5)), (3, .ref (ρ 20))]) rfl ?_
  refine kv_aload_n C 1 rfl 0 (kdec dk_cX5_keep 0 rfl) rfl rfl ?_
  refine kv_aload_n C 2 rfl 1 (kdec dk_cX5_keep 1 rfl) rfl rfl ?_
  refine kv_callVv (As := [.ref (ρ 2)]) (rest := []) C 5 rfl 52 (k_s_squeeze3 l D τ ρ σ w  hI ) rfl rfl mml_TaleMachine_Slot_22 mim_yX5_squeeze mse_yX5_squeeze mcd_yX5_squeeze min_yX5_squeeze hd_yX5_squeeze rfl rfl rfl (by decide) rfl (Nat.le_of_ble_eq_true rfl) (kdec dk_cX5_keep 2 rfl) (fun w1 h2 => ?_)
  obtain ⟨I3, f4⟩ := h2
  have F6 : kF [(52, some 2), (52, some 3), (52, some 4), (52, some 5), (52, some 6), (52, some 7), (53, none), (54, some 6), (54, some 7), (55, none), (56, none), (57, none), (58, none), (59, none), (60, none)] w w1 := kF_call hF0 f4 (by decide)
  refine kv_aload_n C 6 rfl 0 (kdec dk_cX5_keep 3 rfl) rfl rfl ?_
  refine kv_getr C 9 rfl 52 1 rfl rfl inX5 (by decide) mfl_TaleMachine_Slot_18 rfl rfl (kdec dk_cX5_keep 4 rfl) ?_
  refine kv_aload_n C 10 rfl 2 (kdec dk_cX5_keep 5 rfl) rfl rfl ?_
  refine kv_callVNv (As := [.ref (ρ 5)]) (rest := []) C 13 rfl 54 (k_copyTo3 l D τ ρ σ w1  I3 ) rfl rfl mmn_TaleMachine_Slot_26 mim_yX3_copyFrom mse_yX3_copyFrom mcd_yX3_copyFrom min_yX3_copyFrom hd_yX3_copyFrom rfl rfl rfl (by decide) rfl (Nat.le_of_ble_eq_true rfl) (kdec dk_cX5_keep 6 rfl) (fun w7 h8 => ?_)
  obtain ⟨I9, f10⟩ := h8
  have F12 : kF [(52, some 2), (52, some 3), (52, some 4), (52, some 5), (52, some 6), (52, some 7), (53, none), (54, some 6), (54, some 7), (55, none), (56, none), (57, none), (58, none), (59, none), (60, none)] w w7 := kF_call F6 f10 (by decide)
  refine kv_aload_n C 14 rfl 0 (kdec dk_cX5_keep 7 rfl) rfl rfl ?_
  refine kv_aload_n C 15 rfl 3 (kdec dk_cX5_keep 8 rfl) rfl rfl ?_
  obtain ⟨x13, e14⟩ : ∃ z : Int32, w 20 8 = z := ⟨_, rfl⟩
  have b15 : (-2147483648 : Int) ≤ x13.toInt ∧ x13.toInt ≤ 2147483647 := by rw [← e14]; exact hI 20 8
  have e16 : w7 20 8 = x13 := ((f10 20 8 rfl : w7 20 8 = w1 20 8).trans ((f4 20 8 rfl : w1 20 8 = w 20 8).trans e14))
  refine kv_getN C 18 rfl 20 8 rfl rfl inX1 (by decide) mfn_TaleMachine_Slot_30 rfl rfl (kdec dk_cX5_keep 9 rfl) e16 ?_
  refine kv_put C 21 rfl 52 4 rfl rfl inX5 (by decide) mfl_TaleMachine_Slot_36 rfl tyX5 tyX5_ok nmX5 rfl rfl (kdec dk_cX5_keep 10 rfl) rfl rfl (fun w17 u18 => ?_)
  have I19 : kI true w17 := kI_put u18 I9 (kf_rng _).1 (kf_rng _).2
  have F20 : kF [(52, some 2), (52, some 3), (52, some 4), (52, some 5), (52, some 6), (52, some 7), (53, none), (54, some 6), (54, some 7), (55, none), (56, none), (57, none), (58, none), (59, none), (60, none)] w w17 := kF_put u18 F12 rfl
  refine kv_aload_n C 22 rfl 0 (kdec dk_cX5_keep 11 rfl) rfl rfl ?_
  refine kv_aload_n C 23 rfl 3 (kdec dk_cX5_keep 12 rfl) rfl rfl ?_
  obtain ⟨x21, e22⟩ : ∃ z : Int32, w 20 10 = z := ⟨_, rfl⟩
  have b23 : (0 : Int) ≤ x21.toInt ∧ x21.toInt ≤ 4 := by rw [← e22]; exact hI 20 10
  have e24 : w17 20 10 = x21 := ((kup_ne u18 rfl : w17 20 10 = w7 20 10).trans ((f10 20 10 rfl : w7 20 10 = w1 20 10).trans ((f4 20 10 rfl : w1 20 10 = w 20 10).trans e22)))
  refine kv_getN C 26 rfl 20 10 rfl rfl inX1 (by decide) mfn_TaleMachine_Slot_37 rfl rfl (kdec dk_cX5_keep 13 rfl) e24 ?_
  refine kv_put C 29 rfl 52 5 rfl rfl inX5 (by decide) mfl_TaleMachine_Slot_40 rfl tyX5 tyX5_ok nmX5 rfl rfl (kdec dk_cX5_keep 14 rfl) rfl rfl (fun w25 u26 => ?_)
  have I27 : kI true w25 := kI_put u26 I19 (show (0 : Int) ≤ (x21 : Int32).toInt by omega) (show (x21 : Int32).toInt ≤ 4 by omega)
  have F28 : kF [(52, some 2), (52, some 3), (52, some 4), (52, some 5), (52, some 6), (52, some 7), (53, none), (54, some 6), (54, some 7), (55, none), (56, none), (57, none), (58, none), (59, none), (60, none)] w w25 := kF_put u26 F20 rfl
  refine kv_aload_n C 30 rfl 0 (kdec dk_cX5_keep 15 rfl) rfl rfl ?_
  refine kv_aload_n C 31 rfl 3 (kdec dk_cX5_keep 16 rfl) rfl rfl ?_
  obtain ⟨x29, e30⟩ : ∃ z : Int32, w 20 13 = z := ⟨_, rfl⟩
  have b31 : (-2147483648 : Int) ≤ x29.toInt ∧ x29.toInt ≤ 2147483647 := by rw [← e30]; exact hI 20 13
  have e32 : w25 20 13 = x29 := ((kup_ne u26 rfl : w25 20 13 = w17 20 13).trans ((kup_ne u18 rfl : w17 20 13 = w7 20 13).trans ((f10 20 13 rfl : w7 20 13 = w1 20 13).trans ((f4 20 13 rfl : w1 20 13 = w 20 13).trans e30))))
  refine kv_getN C 34 rfl 20 13 rfl rfl inX1 (by decide) mfn_TaleMachine_Slot_41 rfl rfl (kdec dk_cX5_keep 17 rfl) e32 ?_
  refine kv_put C 37 rfl 52 6 rfl rfl inX5 (by decide) mfl_TaleMachine_Slot_44 rfl tyX5 tyX5_ok nmX5 rfl rfl (kdec dk_cX5_keep 18 rfl) rfl rfl (fun w33 u34 => ?_)
  have I35 : kI true w33 := kI_put u34 I27 (kf_rng _).1 (kf_rng _).2
  have F36 : kF [(52, some 2), (52, some 3), (52, some 4), (52, some 5), (52, some 6), (52, some 7), (53, none), (54, some 6), (54, some 7), (55, none), (56, none), (57, none), (58, none), (59, none), (60, none)] w w33 := kF_put u34 F28 rfl
  refine kv_aload_n C 38 rfl 0 (kdec dk_cX5_keep 19 rfl) rfl rfl ?_
  refine kv_aload_n C 39 rfl 3 (kdec dk_cX5_keep 20 rfl) rfl rfl ?_
  obtain ⟨x37, e38⟩ : ∃ z : Int32, w 20 14 = z := ⟨_, rfl⟩
  have b39 : (-2147483648 : Int) ≤ x37.toInt ∧ x37.toInt ≤ 2147483647 := by rw [← e38]; exact hI 20 14
  have e40 : w33 20 14 = x37 := ((kup_ne u34 rfl : w33 20 14 = w25 20 14).trans ((kup_ne u26 rfl : w25 20 14 = w17 20 14).trans ((kup_ne u18 rfl : w17 20 14 = w7 20 14).trans ((f10 20 14 rfl : w7 20 14 = w1 20 14).trans ((f4 20 14 rfl : w1 20 14 = w 20 14).trans e38)))))
  refine kv_getN C 42 rfl 20 14 rfl rfl inX1 (by decide) mfn_TaleMachine_Slot_45 rfl rfl (kdec dk_cX5_keep 21 rfl) e40 ?_
  refine kv_put C 45 rfl 52 7 rfl rfl inX5 (by decide) mfl_TaleMachine_Slot_48 rfl tyX5 tyX5_ok nmX5 rfl rfl (kdec dk_cX5_keep 22 rfl) rfl rfl (fun w41 u42 => ?_)
  have I43 : kI true w41 := kI_put u42 I35 (kf_rng _).1 (kf_rng _).2
  have F44 : kF [(52, some 2), (52, some 3), (52, some 4), (52, some 5), (52, some 6), (52, some 7), (53, none), (54, some 6), (54, some 7), (55, none), (56, none), (57, none), (58, none), (59, none), (60, none)] w w41 := kF_put u42 F36 rfl
  refine kv_aload_n C 46 rfl 0 (kdec dk_cX5_keep 23 rfl) rfl rfl ?_
  refine kv_iconst C 47 rfl 1 (kdec dk_cX5_keep 24 rfl) rfl ?_
  refine kv_put C 50 rfl 52 2 rfl rfl inX5 (by decide) mfl_TaleMachine_Slot_49 rfl tyX5 tyX5_ok nmX5 rfl rfl (kdec dk_cX5_keep 25 rfl) (kf_bool (by decide)) rfl (fun w45 u46 => ?_)
  have I47 : kI true w45 := kI_put u46 I43 (show (0 : Int) ≤ (1 : Int32).toInt by omega) (show (1 : Int32).toInt ≤ 1 by omega)
  have F48 : kF [(52, some 2), (52, some 3), (52, some 4), (52, some 5), (52, some 6), (52, some 7), (53, none), (54, some 6), (54, some 7), (55, none), (56, none), (57, none), (58, none), (59, none), (60, none)] w w45 := kF_put u46 F44 rfl
  have e49 : w45 52 5 = x21 := ((kup_ne u46 rfl : w45 52 5 = w41 52 5).trans ((kup_ne u42 rfl : w41 52 5 = w33 52 5).trans ((kup_ne u34 rfl : w33 52 5 = w25 52 5).trans (kup_eq u26))))
  exact kv_vret C hr hlk (kdec dk_cX5_keep 26 rfl) ⟨rfl, I47, F48, (by rw [e22, e49]; try omega)⟩

set_option maxHeartbeats 4000000 in
set_option maxRecDepth 100000 in
theorem k_s_giveBack3 (l : Launch) (D : va_G) (τ : Nat → ClassId) (ρ σ : Nat → Nat) (w : kw)  (hI : kI true w)  :
    kM l D τ ρ σ yX5_giveBack cX5_giveBack 4 none { frames := 4, cells := 0, slots := 0, locals := 144 } [.ref (ρ 52), .ref (ρ 2), .ref (ρ 5), .ref (ρ 20)] w
      (fun o w' => o = none ∧ kI true w' ∧ kF [(2, some 9), (3, none), (5, some 6), (5, some 7), (6, none), (7, none), (8, none), (9, none), (10, none), (11, none), (20, some 8), (20, some 10), (20, some 13), (20, some 14)] w w' ∧ ((w' 20 10).toInt = (w 52 5).toInt)) := by
  refine kM_of (own := "TaleMachine$Slot") rfl (by decide) (Nat.le_of_ble_eq_true rfl) ?_
  intro p e s m args below meth c C hr hlk
  have hF0 : kF [(2, some 9), (3, none), (5, some 6), (5, some 7), (6, none), (7, none), (8, none), (9, none), (10, none), (11, none), (20, some 8), (20, some 10), (20, some 13), (20, some 14)] w w := kF.rf
  have c_0 : (0 : Int32).toInt = 0 := by decide
  refine kV.L (L' := [(0, .ref (ρ 52)), (1, .ref (ρ 2)), (2, .ref (ρ 5)), (3, .ref (ρ 20))]) rfl ?_
  refine kv_aload_n C 1 rfl 0 (kdec dk_cX5_giveBack 0 rfl) rfl rfl ?_
  refine kv_aload_n C 2 rfl 1 (kdec dk_cX5_giveBack 1 rfl) rfl rfl ?_
  refine kv_callVv (As := [.ref (ρ 2)]) (rest := []) C 5 rfl 52 (k_s_expand3 l D τ ρ σ w  hI ) rfl rfl mml_TaleMachine_Slot_53 mim_yX5_expand mse_yX5_expand mcd_yX5_expand min_yX5_expand hd_yX5_expand rfl rfl rfl (by decide) rfl (Nat.le_of_ble_eq_true rfl) (kdec dk_cX5_giveBack 2 rfl) (fun w1 h2 => ?_)
  obtain ⟨I3, f4⟩ := h2
  have F6 : kF [(2, some 9), (3, none), (5, some 6), (5, some 7), (6, none), (7, none), (8, none), (9, none), (10, none), (11, none), (20, some 8), (20, some 10), (20, some 13), (20, some 14)] w w1 := kF_call hF0 f4 (by decide)
  refine kv_aload_n C 6 rfl 2 (kdec dk_cX5_giveBack 3 rfl) rfl rfl ?_
  refine kv_aload_n C 7 rfl 0 (kdec dk_cX5_giveBack 4 rfl) rfl rfl ?_
  refine kv_getr C 10 rfl 52 1 rfl rfl inX5 (by decide) mfl_TaleMachine_Slot_18 rfl rfl (kdec dk_cX5_giveBack 5 rfl) ?_
  refine kv_callVNv (As := [.ref (ρ 54)]) (rest := []) C 13 rfl 5 (k_copyBack3 l D τ ρ σ w1  I3 ) rfl rfl mmn_TaleMachine_Slot_26 mim_yX3_copyFrom mse_yX3_copyFrom mcd_yX3_copyFrom min_yX3_copyFrom hd_yX3_copyFrom rfl rfl rfl (by decide) rfl (Nat.le_of_ble_eq_true rfl) (kdec dk_cX5_giveBack 6 rfl) (fun w7 h8 => ?_)
  obtain ⟨I9, f10⟩ := h8
  have F12 : kF [(2, some 9), (3, none), (5, some 6), (5, some 7), (6, none), (7, none), (8, none), (9, none), (10, none), (11, none), (20, some 8), (20, some 10), (20, some 13), (20, some 14)] w w7 := kF_call F6 f10 (by decide)
  refine kv_aload_n C 14 rfl 1 (kdec dk_cX5_giveBack 7 rfl) rfl rfl ?_
  refine kv_iconst C 15 rfl 0 (kdec dk_cX5_giveBack 8 rfl) rfl ?_
  refine kv_putN C 18 rfl 2 9 rfl rfl inX6 (by decide) mfn_TaleMachine_Slot_56 rfl tyX6 tyX6_ok nmX6 rfl rfl (kdec dk_cX5_giveBack 9 rfl) rfl rfl (fun w13 u14 => ?_)
  have I15 : kI true w13 := kI_put u14 I9 (show (0 : Int) ≤ (0 : Int32).toInt by omega) (show (0 : Int32).toInt ≤ 13 by omega)
  have F16 : kF [(2, some 9), (3, none), (5, some 6), (5, some 7), (6, none), (7, none), (8, none), (9, none), (10, none), (11, none), (20, some 8), (20, some 10), (20, some 13), (20, some 14)] w w13 := kF_put u14 F12 rfl
  refine kv_aload_n C 19 rfl 3 (kdec dk_cX5_giveBack 10 rfl) rfl rfl ?_
  refine kv_aload_n C 20 rfl 0 (kdec dk_cX5_giveBack 11 rfl) rfl rfl ?_
  obtain ⟨x17, e18⟩ : ∃ z : Int32, w 52 4 = z := ⟨_, rfl⟩
  have b19 : (-2147483648 : Int) ≤ x17.toInt ∧ x17.toInt ≤ 2147483647 := by rw [← e18]; exact hI 52 4
  have e20 : w13 52 4 = x17 := ((kup_ne u14 rfl : w13 52 4 = w7 52 4).trans ((f10 52 4 rfl : w7 52 4 = w1 52 4).trans ((f4 52 4 rfl : w1 52 4 = w 52 4).trans e18)))
  refine kv_get C 23 rfl 52 4 rfl rfl inX5 (by decide) mfl_TaleMachine_Slot_36 rfl rfl (kdec dk_cX5_giveBack 12 rfl) e20 ?_
  refine kv_putN C 26 rfl 20 8 rfl rfl inX1 (by decide) mfn_TaleMachine_Slot_30 rfl tyX1 tyX1_ok nmX1 rfl rfl (kdec dk_cX5_giveBack 13 rfl) rfl rfl (fun w21 u22 => ?_)
  have I23 : kI true w21 := kI_put u22 I15 (kf_rng _).1 (kf_rng _).2
  have F24 : kF [(2, some 9), (3, none), (5, some 6), (5, some 7), (6, none), (7, none), (8, none), (9, none), (10, none), (11, none), (20, some 8), (20, some 10), (20, some 13), (20, some 14)] w w21 := kF_put u22 F16 rfl
  refine kv_aload_n C 27 rfl 3 (kdec dk_cX5_giveBack 14 rfl) rfl rfl ?_
  refine kv_aload_n C 28 rfl 0 (kdec dk_cX5_giveBack 15 rfl) rfl rfl ?_
  obtain ⟨x25, e26⟩ : ∃ z : Int32, w 52 5 = z := ⟨_, rfl⟩
  have b27 : (0 : Int) ≤ x25.toInt ∧ x25.toInt ≤ 4 := by rw [← e26]; exact hI 52 5
  have e28 : w21 52 5 = x25 := ((kup_ne u22 rfl : w21 52 5 = w13 52 5).trans ((kup_ne u14 rfl : w13 52 5 = w7 52 5).trans ((f10 52 5 rfl : w7 52 5 = w1 52 5).trans ((f4 52 5 rfl : w1 52 5 = w 52 5).trans e26))))
  refine kv_get C 31 rfl 52 5 rfl rfl inX5 (by decide) mfl_TaleMachine_Slot_40 rfl rfl (kdec dk_cX5_giveBack 16 rfl) e28 ?_
  refine kv_putN C 34 rfl 20 10 rfl rfl inX1 (by decide) mfn_TaleMachine_Slot_37 rfl tyX1 tyX1_ok nmX1 rfl rfl (kdec dk_cX5_giveBack 17 rfl) rfl rfl (fun w29 u30 => ?_)
  have I31 : kI true w29 := kI_put u30 I23 (show (0 : Int) ≤ (x25 : Int32).toInt by omega) (show (x25 : Int32).toInt ≤ 4 by omega)
  have F32 : kF [(2, some 9), (3, none), (5, some 6), (5, some 7), (6, none), (7, none), (8, none), (9, none), (10, none), (11, none), (20, some 8), (20, some 10), (20, some 13), (20, some 14)] w w29 := kF_put u30 F24 rfl
  refine kv_aload_n C 35 rfl 3 (kdec dk_cX5_giveBack 18 rfl) rfl rfl ?_
  refine kv_aload_n C 36 rfl 0 (kdec dk_cX5_giveBack 19 rfl) rfl rfl ?_
  obtain ⟨x33, e34⟩ : ∃ z : Int32, w 52 6 = z := ⟨_, rfl⟩
  have b35 : (-2147483648 : Int) ≤ x33.toInt ∧ x33.toInt ≤ 2147483647 := by rw [← e34]; exact hI 52 6
  have e36 : w29 52 6 = x33 := ((kup_ne u30 rfl : w29 52 6 = w21 52 6).trans ((kup_ne u22 rfl : w21 52 6 = w13 52 6).trans ((kup_ne u14 rfl : w13 52 6 = w7 52 6).trans ((f10 52 6 rfl : w7 52 6 = w1 52 6).trans ((f4 52 6 rfl : w1 52 6 = w 52 6).trans e34)))))
  refine kv_get C 39 rfl 52 6 rfl rfl inX5 (by decide) mfl_TaleMachine_Slot_44 rfl rfl (kdec dk_cX5_giveBack 20 rfl) e36 ?_
  refine kv_putN C 42 rfl 20 13 rfl rfl inX1 (by decide) mfn_TaleMachine_Slot_41 rfl tyX1 tyX1_ok nmX1 rfl rfl (kdec dk_cX5_giveBack 21 rfl) rfl rfl (fun w37 u38 => ?_)
  have I39 : kI true w37 := kI_put u38 I31 (kf_rng _).1 (kf_rng _).2
  have F40 : kF [(2, some 9), (3, none), (5, some 6), (5, some 7), (6, none), (7, none), (8, none), (9, none), (10, none), (11, none), (20, some 8), (20, some 10), (20, some 13), (20, some 14)] w w37 := kF_put u38 F32 rfl
  refine kv_aload_n C 43 rfl 3 (kdec dk_cX5_giveBack 22 rfl) rfl rfl ?_
  refine kv_aload_n C 44 rfl 0 (kdec dk_cX5_giveBack 23 rfl) rfl rfl ?_
  obtain ⟨x41, e42⟩ : ∃ z : Int32, w 52 7 = z := ⟨_, rfl⟩
  have b43 : (-2147483648 : Int) ≤ x41.toInt ∧ x41.toInt ≤ 2147483647 := by rw [← e42]; exact hI 52 7
  have e44 : w37 52 7 = x41 := ((kup_ne u38 rfl : w37 52 7 = w29 52 7).trans ((kup_ne u30 rfl : w29 52 7 = w21 52 7).trans ((kup_ne u22 rfl : w21 52 7 = w13 52 7).trans ((kup_ne u14 rfl : w13 52 7 = w7 52 7).trans ((f10 52 7 rfl : w7 52 7 = w1 52 7).trans ((f4 52 7 rfl : w1 52 7 = w 52 7).trans e42))))))
  refine kv_get C 47 rfl 52 7 rfl rfl inX5 (by decide) mfl_TaleMachine_Slot_48 rfl rfl (kdec dk_cX5_giveBack 24 rfl) e44 ?_
  refine kv_putN C 50 rfl 20 14 rfl rfl inX1 (by decide) mfn_TaleMachine_Slot_45 rfl tyX1 tyX1_ok nmX1 rfl rfl (kdec dk_cX5_giveBack 25 rfl) rfl rfl (fun w45 u46 => ?_)
  have I47 : kI true w45 := kI_put u46 I39 (kf_rng _).1 (kf_rng _).2
  have F48 : kF [(2, some 9), (3, none), (5, some 6), (5, some 7), (6, none), (7, none), (8, none), (9, none), (10, none), (11, none), (20, some 8), (20, some 10), (20, some 13), (20, some 14)] w w45 := kF_put u46 F40 rfl
  have e49 : w45 20 10 = x25 := ((kup_ne u46 rfl : w45 20 10 = w37 20 10).trans ((kup_ne u38 rfl : w37 20 10 = w29 20 10).trans (kup_eq u30)))
  exact kv_vret C hr hlk (kdec dk_cX5_giveBack 26 rfl) ⟨rfl, I47, F48, (by rw [e26, e49]; try omega)⟩
