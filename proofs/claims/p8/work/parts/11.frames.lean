set_option maxHeartbeats 4000000 in
set_option maxRecDepth 100000 in
theorem k_clear (l : Launch) (D : va_G) (τ : Nat → ClassId) (ρ σ : Nat → Nat) (w : kw)  (hI : kI true w)  :
    kM l D τ ρ σ yX3_clear cX3_clear 1 none { frames := 0, cells := 0, slots := 0, locals := 0 } [.ref (ρ 5)] w
      (fun o w' => o = none ∧ kI true w' ∧ kF [(5, some 6), (5, some 7), (8, none), (9, none)] w w') := by
  refine kM_of (own := "TaleMachine$Frames") rfl (by decide) (Nat.le_of_ble_eq_true rfl) ?_
  intro p e s m args below meth c C hr hlk
  have hF0 : kF [(5, some 6), (5, some 7), (8, none), (9, none)] w w := kF.rf
  have c_0 : (0 : Int32).toInt = 0 := by decide
  have c_1 : (1 : Int32).toInt = 1 := by decide
  refine kV.L (L' := [(0, .ref (ρ 5))]) rfl ?_
  refine kv_aload_n C 1 rfl 0 (kdec dk_cX3_clear 0 rfl) rfl rfl ?_
  refine kv_iconst C 2 rfl 0 (kdec dk_cX3_clear 1 rfl) rfl ?_
  refine kv_put C 5 rfl 5 6 rfl rfl inX3 (by decide) mfl_TaleMachine_Frames_31 rfl tyX3 tyX3_ok nmX3 rfl rfl (kdec dk_cX3_clear 2 rfl) rfl rfl (fun w1 u2 => ?_)
  have I3 : kI true w1 := kI_put u2 hI (show (0 : Int) ≤ (0 : Int32).toInt by omega) (show (0 : Int32).toInt ≤ 120 by omega)
  have F4 : kF [(5, some 6), (5, some 7), (8, none), (9, none)] w w1 := kF_put u2 hF0 rfl
  refine kv_aload_n C 6 rfl 0 (kdec dk_cX3_clear 3 rfl) rfl rfl ?_
  refine kv_iconst C 7 rfl 1 (kdec dk_cX3_clear 4 rfl) rfl ?_
  refine kv_put C 10 rfl 5 7 rfl rfl inX3 (by decide) mfl_TaleMachine_Frames_35 rfl tyX3 tyX3_ok nmX3 rfl rfl (kdec dk_cX3_clear 5 rfl) rfl rfl (fun w5 u6 => ?_)
  have I7 : kI true w5 := kI_put u6 I3 (show (1 : Int) ≤ (1 : Int32).toInt by omega) (show (1 : Int32).toInt ≤ 20 by omega)
  have F8 : kF [(5, some 6), (5, some 7), (8, none), (9, none)] w w5 := kF_put u6 F4 rfl
  refine kv_aload_n C 11 rfl 0 (kdec dk_cX3_clear 6 rfl) rfl rfl ?_
  refine kv_getr C 14 rfl 5 2 rfl rfl inX3 (by decide) mfl_TaleMachine_Frames_16 rfl rfl (kdec dk_cX3_clear 7 rfl) ?_
  refine kv_iconst C 15 rfl 0 (kdec dk_cX3_clear 8 rfl) rfl ?_
  refine kv_iconst C 16 rfl 0 (kdec dk_cX3_clear 9 rfl) rfl ?_
  refine kv_iast C 17 rfl 8 rfl (by omega) (by omega) (kdec dk_cX3_clear 10 rfl) (fun w9 u10 => ?_)
  have u10 : w9 = kup w5 8 0 0 := u10
  have I11 : kI true w9 := kI_put u10 I7 (show (0 : Int) ≤ (0 : Int32).toInt by omega) (show (0 : Int32).toInt ≤ 15 by omega)
  have F12 : kF [(5, some 6), (5, some 7), (8, none), (9, none)] w w9 := kF_put u10 F8 rfl
  refine kv_aload_n C 18 rfl 0 (kdec dk_cX3_clear 11 rfl) rfl rfl ?_
  refine kv_getr C 21 rfl 5 3 rfl rfl inX3 (by decide) mfl_TaleMachine_Frames_19 rfl rfl (kdec dk_cX3_clear 12 rfl) ?_
  refine kv_iconst C 22 rfl 0 (kdec dk_cX3_clear 13 rfl) rfl ?_
  refine kv_iconst C 23 rfl 0 (kdec dk_cX3_clear 14 rfl) rfl ?_
  refine kv_iast C 24 rfl 9 rfl (by omega) (by omega) (kdec dk_cX3_clear 15 rfl) (fun w13 u14 => ?_)
  have u14 : w13 = kup w9 9 0 0 := u14
  have I15 : kI true w13 := kI_put u14 I11 (show (0 : Int) ≤ (0 : Int32).toInt by omega) (show (0 : Int32).toInt ≤ 120 by omega)
  have F16 : kF [(5, some 6), (5, some 7), (8, none), (9, none)] w w13 := kF_put u14 F12 rfl
  exact kv_vret C hr hlk (kdec dk_cX3_clear 16 rfl) ⟨rfl, I15, F16⟩

set_option maxHeartbeats 4000000 in
set_option maxRecDepth 100000 in
theorem k_isFull (l : Launch) (D : va_G) (τ : Nat → ClassId) (ρ σ : Nat → Nat) (w : kw)  (hI : kI true w)  :
    kM l D τ ρ σ yX3_isFull cX3_isFull 1 (some .boolean) { frames := 0, cells := 0, slots := 0, locals := 0 } [.ref (ρ 5)] w
      (fun o w' => ∃ r : Int32, o = some (.int r) ∧ kI true w' ∧ kF [] w w' ∧ (r.toInt = 1 ∧ 20 ≤ (w 5 7).toInt ∨ r.toInt = 0 ∧ (w 5 7).toInt < 20) ∧ (0 ≤ r.toInt ∧ r.toInt ≤ 1)) := by
  refine kM_of (own := "TaleMachine$Frames") rfl (by decide) (Nat.le_of_ble_eq_true rfl) ?_
  intro p e s m args below meth c C hr hlk
  have hF0 : kF [] w w := kF.rf
  have c_0 : (0 : Int32).toInt = 0 := by decide
  have c_1 : (1 : Int32).toInt = 1 := by decide
  have c_20 : (20 : Int32).toInt = 20 := by decide
  refine kV.L (L' := [(0, .ref (ρ 5))]) rfl ?_
  refine kv_aload_n C 1 rfl 0 (kdec dk_cX3_isFull 0 rfl) rfl rfl ?_
  obtain ⟨x1, e2⟩ : ∃ z : Int32, w 5 7 = z := ⟨_, rfl⟩
  have b3 : (1 : Int) ≤ x1.toInt ∧ x1.toInt ≤ 20 := by rw [← e2]; exact hI 5 7
  refine kv_get C 4 rfl 5 7 rfl rfl inX3 (by decide) mfl_TaleMachine_Frames_35 rfl rfl (kdec dk_cX3_isFull 1 rfl) e2 ?_
  refine kv_bipush C 6 rfl 20 (kdec dk_cX3_isFull 2 rfl) rfl ?_
  refine kv_icmp_lt C 9 rfl 13 (kdec dk_cX3_isFull 3 rfl) (by decide) (fun d4 => ?_) (fun d4 => ?_)
  · skip
    refine kv_iconst C 14 rfl 0 (kdec dk_cX3_isFull 6 rfl) rfl ?_
    exact kv_zret C hr hlk (kdec dk_cX3_isFull 7 rfl) (kf_bool (by decide)) ⟨_, rfl, hI, hF0, (by rw [e2]; try omega), (by omega)⟩
  · skip
    refine kv_iconst C 10 rfl 1 (kdec dk_cX3_isFull 4 rfl) rfl ?_
    refine kv_goto C 14 (kdec dk_cX3_isFull 5 rfl) (by decide) ?_
    exact kv_zret C hr hlk (kdec dk_cX3_isFull 7 rfl) (kf_bool (by decide)) ⟨_, rfl, hI, hF0, (by rw [e2]; try omega), (by omega)⟩

set_option maxHeartbeats 4000000 in
set_option maxRecDepth 100000 in
theorem k_hasOwnWord (l : Launch) (D : va_G) (τ : Nat → ClassId) (ρ σ : Nat → Nat) (w : kw)  (hI : kI true w)  :
    kM l D τ ρ σ yX3_hasOwnWord cX3_hasOwnWord 1 (some .boolean) { frames := 0, cells := 0, slots := 0, locals := 0 } [.ref (ρ 5)] w
      (fun o w' => ∃ r : Int32, o = some (.int r) ∧ kI true w' ∧ kF [] w w' ∧ (r.toInt = 1 ∧ 1 ≤ (w 5 6).toInt ∨ r.toInt = 0) ∧ (0 ≤ r.toInt ∧ r.toInt ≤ 1)) := by
  refine kM_of (own := "TaleMachine$Frames") rfl (by decide) (Nat.le_of_ble_eq_true rfl) ?_
  intro p e s m args below meth c C hr hlk
  have hF0 : kF [] w w := kF.rf
  have c_0 : (0 : Int32).toInt = 0 := by decide
  have c_1 : (1 : Int32).toInt = 1 := by decide
  refine kV.L (L' := [(0, .ref (ρ 5))]) rfl ?_
  refine kv_aload_n C 1 rfl 0 (kdec dk_cX3_hasOwnWord 0 rfl) rfl rfl ?_
  obtain ⟨x1, e2⟩ : ∃ z : Int32, w 5 6 = z := ⟨_, rfl⟩
  have b3 : (0 : Int) ≤ x1.toInt ∧ x1.toInt ≤ 120 := by rw [← e2]; exact hI 5 6
  refine kv_get C 4 rfl 5 6 rfl rfl inX3 (by decide) mfl_TaleMachine_Frames_31 rfl rfl (kdec dk_cX3_hasOwnWord 1 rfl) e2 ?_
  refine kv_aload_n C 5 rfl 0 (kdec dk_cX3_hasOwnWord 2 rfl) rfl rfl ?_
  refine kv_getr C 8 rfl 5 3 rfl rfl inX3 (by decide) mfl_TaleMachine_Frames_19 rfl rfl (kdec dk_cX3_hasOwnWord 3 rfl) ?_
  refine kv_aload_n C 9 rfl 0 (kdec dk_cX3_hasOwnWord 4 rfl) rfl rfl ?_
  obtain ⟨x4, e5⟩ : ∃ z : Int32, w 5 7 = z := ⟨_, rfl⟩
  have b6 : (1 : Int) ≤ x4.toInt ∧ x4.toInt ≤ 20 := by rw [← e5]; exact hI 5 7
  refine kv_get C 12 rfl 5 7 rfl rfl inX3 (by decide) mfl_TaleMachine_Frames_35 rfl rfl (kdec dk_cX3_hasOwnWord 5 rfl) e5 ?_
  refine kv_iconst C 13 rfl 1 (kdec dk_cX3_hasOwnWord 6 rfl) rfl ?_
  refine kv_isub C 14 rfl (kdec dk_cX3_hasOwnWord 7 rfl) (fun x7 q9 h8e h8 h8l h8u => ?_)
  try have h8n : x7.toInt = x4.toInt - (1 : Int32).toInt := by omega
  clear h8 q9
  obtain ⟨x10, e11⟩ : ∃ z : Int32, w 9 (x7 : Int32).toNatClampNeg = z := ⟨_, rfl⟩
  have b12 : (0 : Int) ≤ x10.toInt ∧ x10.toInt ≤ 120 := by rw [← e11]; exact hI 9 _
  refine kv_iald C 15 rfl 9 rfl (by omega) (by omega) e11 (kdec dk_cX3_hasOwnWord 8 rfl) ?_
  refine kv_icmp_le C 18 rfl 22 (kdec dk_cX3_hasOwnWord 9 rfl) (by decide) (fun d13 => ?_) (fun d13 => ?_)
  · skip
    refine kv_iconst C 23 rfl 0 (kdec dk_cX3_hasOwnWord 12 rfl) rfl ?_
    exact kv_zret C hr hlk (kdec dk_cX3_hasOwnWord 13 rfl) (kf_bool (by decide)) ⟨_, rfl, hI, hF0, (by rw [e2]; try omega), (by omega)⟩
  · skip
    refine kv_iconst C 19 rfl 1 (kdec dk_cX3_hasOwnWord 10 rfl) rfl ?_
    refine kv_goto C 23 (kdec dk_cX3_hasOwnWord 11 rfl) (by decide) ?_
    exact kv_zret C hr hlk (kdec dk_cX3_hasOwnWord 13 rfl) (kf_bool (by decide)) ⟨_, rfl, hI, hF0, (by rw [e2]; try omega), (by omega)⟩

set_option maxHeartbeats 4000000 in
set_option maxRecDepth 100000 in
theorem k_localCount (l : Launch) (D : va_G) (τ : Nat → ClassId) (ρ σ : Nat → Nat) (w : kw)  (hI : kI true w)  :
    kM l D τ ρ σ yX3_localCount cX3_localCount 1 (some .int) { frames := 0, cells := 0, slots := 0, locals := 0 } [.ref (ρ 5)] w
      (fun o w' => ∃ r : Int32, o = some (.int r) ∧ kI true w' ∧ kF [] w w' ∧ (0 ≤ r.toInt ∧ r.toInt ≤ 15)) := by
  refine kM_of (own := "TaleMachine$Frames") rfl (by decide) (Nat.le_of_ble_eq_true rfl) ?_
  intro p e s m args below meth c C hr hlk
  have hF0 : kF [] w w := kF.rf
  have c_1 : (1 : Int32).toInt = 1 := by decide
  refine kV.L (L' := [(0, .ref (ρ 5))]) rfl ?_
  refine kv_aload_n C 1 rfl 0 (kdec dk_cX3_localCount 0 rfl) rfl rfl ?_
  refine kv_getr C 4 rfl 5 2 rfl rfl inX3 (by decide) mfl_TaleMachine_Frames_16 rfl rfl (kdec dk_cX3_localCount 1 rfl) ?_
  refine kv_aload_n C 5 rfl 0 (kdec dk_cX3_localCount 2 rfl) rfl rfl ?_
  obtain ⟨x1, e2⟩ : ∃ z : Int32, w 5 7 = z := ⟨_, rfl⟩
  have b3 : (1 : Int) ≤ x1.toInt ∧ x1.toInt ≤ 20 := by rw [← e2]; exact hI 5 7
  refine kv_get C 8 rfl 5 7 rfl rfl inX3 (by decide) mfl_TaleMachine_Frames_35 rfl rfl (kdec dk_cX3_localCount 3 rfl) e2 ?_
  refine kv_iconst C 9 rfl 1 (kdec dk_cX3_localCount 4 rfl) rfl ?_
  refine kv_isub C 10 rfl (kdec dk_cX3_localCount 5 rfl) (fun x4 q6 h5e h5 h5l h5u => ?_)
  try have h5n : x4.toInt = x1.toInt - (1 : Int32).toInt := by omega
  clear h5 q6
  obtain ⟨x7, e8⟩ : ∃ z : Int32, w 8 (x4 : Int32).toNatClampNeg = z := ⟨_, rfl⟩
  have b9 : (0 : Int) ≤ x7.toInt ∧ x7.toInt ≤ 15 := by rw [← e8]; exact hI 8 _
  refine kv_iald C 11 rfl 8 rfl (by omega) (by omega) e8 (kdec dk_cX3_localCount 6 rfl) ?_
  exact kv_iret C hr hlk (kdec dk_cX3_localCount 7 rfl) ⟨_, rfl, hI, hF0, (by omega)⟩

set_option maxHeartbeats 4000000 in
set_option maxRecDepth 100000 in
theorem k_localAt (l : Launch) (D : va_G) (τ : Nat → ClassId) (ρ σ : Nat → Nat) (w : kw) (a1 : Int32) (hI : kI true w) (hp0 : 1 ≤ a1.toInt ∧ a1.toInt ≤ 15) :
    kM l D τ ρ σ yX3_localAt cX3_localAt 2 (some .int) { frames := 0, cells := 0, slots := 0, locals := 0 } [.ref (ρ 5), .int a1] w
      (fun o w' => ∃ r : Int32, o = some (.int r) ∧ kI true w' ∧ kF [] w w') := by
  refine kM_of (own := "TaleMachine$Frames") rfl (by decide) (Nat.le_of_ble_eq_true rfl) ?_
  intro p e s m args below meth c C hr hlk
  have hF0 : kF [] w w := kF.rf
  have c_1 : (1 : Int32).toInt = 1 := by decide
  have c_15 : (15 : Int32).toInt = 15 := by decide
  refine kV.L (L' := [(0, .ref (ρ 5)), (1, .int a1)]) rfl ?_
  have g1 := kf_rng a1
  refine kv_aload_n C 1 rfl 0 (kdec dk_cX3_localAt 0 rfl) rfl rfl ?_
  refine kv_getr C 4 rfl 5 1 rfl rfl inX3 (by decide) mfl_TaleMachine_Frames_13 rfl rfl (kdec dk_cX3_localAt 1 rfl) ?_
  refine kv_aload_n C 5 rfl 0 (kdec dk_cX3_localAt 2 rfl) rfl rfl ?_
  obtain ⟨x2, e3⟩ : ∃ z : Int32, w 5 7 = z := ⟨_, rfl⟩
  have b4 : (1 : Int) ≤ x2.toInt ∧ x2.toInt ≤ 20 := by rw [← e3]; exact hI 5 7
  refine kv_get C 8 rfl 5 7 rfl rfl inX3 (by decide) mfl_TaleMachine_Frames_35 rfl rfl (kdec dk_cX3_localAt 3 rfl) e3 ?_
  refine kv_iconst C 9 rfl 1 (kdec dk_cX3_localAt 4 rfl) rfl ?_
  refine kv_isub C 10 rfl (kdec dk_cX3_localAt 5 rfl) (fun x5 q7 h6e h6 h6l h6u => ?_)
  try have h6n : x5.toInt = x2.toInt - (1 : Int32).toInt := by omega
  clear h6 q7
  refine kv_bipush C 12 rfl 15 (kdec dk_cX3_localAt 6 rfl) rfl ?_
  refine kv_imul C 13 rfl (kdec dk_cX3_localAt 7 rfl) (fun x8 h9e h9l h9u => ?_)
  obtain ⟨q10, g11⟩ := kf_mul x5 15
  rw [← h9e, c_15] at g11
  try have h9n : x8.toInt = 15 * x5.toInt := by omega
  clear g11 q10
  refine kv_iload_n C 14 rfl 1 (kdec dk_cX3_localAt 8 rfl) rfl rfl ?_
  refine kv_iadd C 15 rfl (kdec dk_cX3_localAt 9 rfl) (fun x12 q14 h13e h13 h13l h13u => ?_)
  try have h13n : x12.toInt = x8.toInt + a1.toInt := by omega
  clear h13 q14
  refine kv_iconst C 16 rfl 1 (kdec dk_cX3_localAt 10 rfl) rfl ?_
  refine kv_isub C 17 rfl (kdec dk_cX3_localAt 11 rfl) (fun x15 q17 h16e h16 h16l h16u => ?_)
  try have h16n : x15.toInt = x12.toInt - (1 : Int32).toInt := by omega
  clear h16 q17
  obtain ⟨x18, e19⟩ : ∃ z : Int32, w 7 (x15 : Int32).toNatClampNeg = z := ⟨_, rfl⟩
  have b20 : (-2147483648 : Int) ≤ x18.toInt ∧ x18.toInt ≤ 2147483647 := by rw [← e19]; exact hI 7 _
  refine kv_iald C 18 rfl 7 rfl (by omega) (by omega) e19 (kdec dk_cX3_localAt 12 rfl) ?_
  exact kv_iret C hr hlk (kdec dk_cX3_localAt 13 rfl) ⟨_, rfl, hI, hF0⟩

set_option maxHeartbeats 4000000 in
set_option maxRecDepth 100000 in
theorem k_setLocal (l : Launch) (D : va_G) (τ : Nat → ClassId) (ρ σ : Nat → Nat) (w : kw) (a1 : Int32) (a2 : Int32) (hI : kI true w) (hp0 : 1 ≤ a1.toInt ∧ a1.toInt ≤ 15) :
    kM l D τ ρ σ yX3_setLocal cX3_setLocal 3 none { frames := 0, cells := 0, slots := 0, locals := 0 } [.ref (ρ 5), .int a1, .int a2] w
      (fun o w' => o = none ∧ kI true w' ∧ kF [(7, none)] w w') := by
  refine kM_of (own := "TaleMachine$Frames") rfl (by decide) (Nat.le_of_ble_eq_true rfl) ?_
  intro p e s m args below meth c C hr hlk
  have hF0 : kF [(7, none)] w w := kF.rf
  have c_1 : (1 : Int32).toInt = 1 := by decide
  have c_15 : (15 : Int32).toInt = 15 := by decide
  refine kV.L (L' := [(0, .ref (ρ 5)), (1, .int a1), (2, .int a2)]) rfl ?_
  have g1 := kf_rng a1
  have g2 := kf_rng a2
  refine kv_aload_n C 1 rfl 0 (kdec dk_cX3_setLocal 0 rfl) rfl rfl ?_
  refine kv_getr C 4 rfl 5 1 rfl rfl inX3 (by decide) mfl_TaleMachine_Frames_13 rfl rfl (kdec dk_cX3_setLocal 1 rfl) ?_
  refine kv_aload_n C 5 rfl 0 (kdec dk_cX3_setLocal 2 rfl) rfl rfl ?_
  obtain ⟨x3, e4⟩ : ∃ z : Int32, w 5 7 = z := ⟨_, rfl⟩
  have b5 : (1 : Int) ≤ x3.toInt ∧ x3.toInt ≤ 20 := by rw [← e4]; exact hI 5 7
  refine kv_get C 8 rfl 5 7 rfl rfl inX3 (by decide) mfl_TaleMachine_Frames_35 rfl rfl (kdec dk_cX3_setLocal 3 rfl) e4 ?_
  refine kv_iconst C 9 rfl 1 (kdec dk_cX3_setLocal 4 rfl) rfl ?_
  refine kv_isub C 10 rfl (kdec dk_cX3_setLocal 5 rfl) (fun x6 q8 h7e h7 h7l h7u => ?_)
  try have h7n : x6.toInt = x3.toInt - (1 : Int32).toInt := by omega
  clear h7 q8
  refine kv_bipush C 12 rfl 15 (kdec dk_cX3_setLocal 6 rfl) rfl ?_
  refine kv_imul C 13 rfl (kdec dk_cX3_setLocal 7 rfl) (fun x9 h10e h10l h10u => ?_)
  obtain ⟨q11, g12⟩ := kf_mul x6 15
  rw [← h10e, c_15] at g12
  try have h10n : x9.toInt = 15 * x6.toInt := by omega
  clear g12 q11
  refine kv_iload_n C 14 rfl 1 (kdec dk_cX3_setLocal 8 rfl) rfl rfl ?_
  refine kv_iadd C 15 rfl (kdec dk_cX3_setLocal 9 rfl) (fun x13 q15 h14e h14 h14l h14u => ?_)
  try have h14n : x13.toInt = x9.toInt + a1.toInt := by omega
  clear h14 q15
  refine kv_iconst C 16 rfl 1 (kdec dk_cX3_setLocal 10 rfl) rfl ?_
  refine kv_isub C 17 rfl (kdec dk_cX3_setLocal 11 rfl) (fun x16 q18 h17e h17 h17l h17u => ?_)
  try have h17n : x16.toInt = x13.toInt - (1 : Int32).toInt := by omega
  clear h17 q18
  refine kv_iload_n C 18 rfl 2 (kdec dk_cX3_setLocal 12 rfl) rfl rfl ?_
  refine kv_iast C 19 rfl 7 rfl (by omega) (by omega) (kdec dk_cX3_setLocal 13 rfl) (fun w19 u20 => ?_)
  have I21 : kI true w19 := kI_put u20 hI (kf_rng _).1 (kf_rng _).2
  have F22 : kF [(7, none)] w w19 := kF_put u20 hF0 rfl
  exact kv_vret C hr hlk (kdec dk_cX3_setLocal 14 rfl) ⟨rfl, I21, F22⟩

set_option maxHeartbeats 4000000 in
set_option maxRecDepth 100000 in
theorem k_prepareLocal (l : Launch) (D : va_G) (τ : Nat → ClassId) (ρ σ : Nat → Nat) (w : kw) (a1 : Int32) (a2 : Int32) (hI : kI true w) (hp0 : 1 ≤ a1.toInt ∧ a1.toInt ≤ 15) (hp1 : (w 5 7).toInt < 20) :
    kM l D τ ρ σ yX3_prepareLocal cX3_prepareLocal 3 none { frames := 0, cells := 0, slots := 0, locals := 0 } [.ref (ρ 5), .int a1, .int a2] w
      (fun o w' => o = none ∧ kI true w' ∧ kF [(7, none)] w w') := by
  refine kM_of (own := "TaleMachine$Frames") rfl (by decide) (Nat.le_of_ble_eq_true rfl) ?_
  intro p e s m args below meth c C hr hlk
  have hF0 : kF [(7, none)] w w := kF.rf
  have c_1 : (1 : Int32).toInt = 1 := by decide
  have c_15 : (15 : Int32).toInt = 15 := by decide
  refine kV.L (L' := [(0, .ref (ρ 5)), (1, .int a1), (2, .int a2)]) rfl ?_
  obtain ⟨x1, e2⟩ : ∃ z : Int32, w 5 7 = z := ⟨_, rfl⟩
  have b3 : (1 : Int) ≤ x1.toInt ∧ x1.toInt ≤ 20 := by rw [← e2]; exact hI 5 7
  rw [e2] at hp1
  have g4 := kf_rng a1
  have g5 := kf_rng a2
  refine kv_aload_n C 1 rfl 0 (kdec dk_cX3_prepareLocal 0 rfl) rfl rfl ?_
  refine kv_getr C 4 rfl 5 1 rfl rfl inX3 (by decide) mfl_TaleMachine_Frames_13 rfl rfl (kdec dk_cX3_prepareLocal 1 rfl) ?_
  refine kv_aload_n C 5 rfl 0 (kdec dk_cX3_prepareLocal 2 rfl) rfl rfl ?_
  refine kv_get C 8 rfl 5 7 rfl rfl inX3 (by decide) mfl_TaleMachine_Frames_35 rfl rfl (kdec dk_cX3_prepareLocal 3 rfl) e2 ?_
  refine kv_bipush C 10 rfl 15 (kdec dk_cX3_prepareLocal 4 rfl) rfl ?_
  refine kv_imul C 11 rfl (kdec dk_cX3_prepareLocal 5 rfl) (fun x6 h7e h7l h7u => ?_)
  obtain ⟨q8, g9⟩ := kf_mul x1 15
  rw [← h7e, c_15] at g9
  try have h7n : x6.toInt = 15 * x1.toInt := by omega
  clear g9 q8
  refine kv_iload_n C 12 rfl 1 (kdec dk_cX3_prepareLocal 6 rfl) rfl rfl ?_
  refine kv_iadd C 13 rfl (kdec dk_cX3_prepareLocal 7 rfl) (fun x10 q12 h11e h11 h11l h11u => ?_)
  try have h11n : x10.toInt = x6.toInt + a1.toInt := by omega
  clear h11 q12
  refine kv_iconst C 14 rfl 1 (kdec dk_cX3_prepareLocal 8 rfl) rfl ?_
  refine kv_isub C 15 rfl (kdec dk_cX3_prepareLocal 9 rfl) (fun x13 q15 h14e h14 h14l h14u => ?_)
  try have h14n : x13.toInt = x10.toInt - (1 : Int32).toInt := by omega
  clear h14 q15
  refine kv_iload_n C 16 rfl 2 (kdec dk_cX3_prepareLocal 10 rfl) rfl rfl ?_
  refine kv_iast C 17 rfl 7 rfl (by omega) (by omega) (kdec dk_cX3_prepareLocal 11 rfl) (fun w16 u17 => ?_)
  have I18 : kI true w16 := kI_put u17 hI (kf_rng _).1 (kf_rng _).2
  have F19 : kF [(7, none)] w w16 := kF_put u17 hF0 rfl
  exact kv_vret C hr hlk (kdec dk_cX3_prepareLocal 12 rfl) ⟨rfl, I18, F19⟩

set_option maxHeartbeats 4000000 in
set_option maxRecDepth 100000 in
theorem k_enter (l : Launch) (D : va_G) (τ : Nat → ClassId) (ρ σ : Nat → Nat) (w : kw) (a1 : Int32) (a2 : Int32) (a3 : Int32) (hI : kI true w) (hp0 : 0 ≤ a1.toInt ∧ a1.toInt ≤ 15) (hp1 : 0 ≤ a2.toInt ∧ a2.toInt ≤ 255) (hp2 : (w 5 7).toInt < 20) :
    kM l D τ ρ σ yX3_enter cX3_enter 4 none { frames := 0, cells := 0, slots := 0, locals := 0 } [.ref (ρ 5), .int a1, .int a2, .int a3] w
      (fun o w' => o = none ∧ kI true w' ∧ kF [(5, some 7), (8, none), (9, none), (10, none), (11, none)] w w') := by
  refine kM_of (own := "TaleMachine$Frames") rfl (by decide) (Nat.le_of_ble_eq_true rfl) ?_
  intro p e s m args below meth c C hr hlk
  have hF0 : kF [(5, some 7), (8, none), (9, none), (10, none), (11, none)] w w := kF.rf
  have c_1 : (1 : Int32).toInt = 1 := by decide
  refine kV.L (L' := [(0, .ref (ρ 5)), (1, .int a1), (2, .int a2), (3, .int a3)]) rfl ?_
  obtain ⟨x1, e2⟩ : ∃ z : Int32, w 5 7 = z := ⟨_, rfl⟩
  have b3 : (1 : Int) ≤ x1.toInt ∧ x1.toInt ≤ 20 := by rw [← e2]; exact hI 5 7
  rw [e2] at hp2
  have g4 := kf_rng a1
  have g5 := kf_rng a2
  have g6 := kf_rng a3
  refine kv_aload_n C 1 rfl 0 (kdec dk_cX3_enter 0 rfl) rfl rfl ?_
  refine kv_getr C 4 rfl 5 2 rfl rfl inX3 (by decide) mfl_TaleMachine_Frames_16 rfl rfl (kdec dk_cX3_enter 1 rfl) ?_
  refine kv_aload_n C 5 rfl 0 (kdec dk_cX3_enter 2 rfl) rfl rfl ?_
  refine kv_get C 8 rfl 5 7 rfl rfl inX3 (by decide) mfl_TaleMachine_Frames_35 rfl rfl (kdec dk_cX3_enter 3 rfl) e2 ?_
  refine kv_iload_n C 9 rfl 1 (kdec dk_cX3_enter 4 rfl) rfl rfl ?_
  refine kv_iast C 10 rfl 8 rfl (by omega) (by omega) (kdec dk_cX3_enter 5 rfl) (fun w7 u8 => ?_)
  have I9 : kI true w7 := kI_put u8 hI (show (0 : Int) ≤ (a1 : Int32).toInt by omega) (show (a1 : Int32).toInt ≤ 15 by omega)
  have F10 : kF [(5, some 7), (8, none), (9, none), (10, none), (11, none)] w w7 := kF_put u8 hF0 rfl
  refine kv_aload_n C 11 rfl 0 (kdec dk_cX3_enter 6 rfl) rfl rfl ?_
  refine kv_getr C 14 rfl 5 3 rfl rfl inX3 (by decide) mfl_TaleMachine_Frames_19 rfl rfl (kdec dk_cX3_enter 7 rfl) ?_
  refine kv_aload_n C 15 rfl 0 (kdec dk_cX3_enter 8 rfl) rfl rfl ?_
  have e11 : w7 5 7 = x1 := ((kup_ne u8 rfl : w7 5 7 = w 5 7).trans e2)
  refine kv_get C 18 rfl 5 7 rfl rfl inX3 (by decide) mfl_TaleMachine_Frames_35 rfl rfl (kdec dk_cX3_enter 9 rfl) e11 ?_
  refine kv_aload_n C 19 rfl 0 (kdec dk_cX3_enter 10 rfl) rfl rfl ?_
  obtain ⟨x12, e13⟩ : ∃ z : Int32, w 5 6 = z := ⟨_, rfl⟩
  have b14 : (0 : Int) ≤ x12.toInt ∧ x12.toInt ≤ 120 := by rw [← e13]; exact hI 5 6
  have e15 : w7 5 6 = x12 := ((kup_ne u8 rfl : w7 5 6 = w 5 6).trans e13)
  refine kv_get C 22 rfl 5 6 rfl rfl inX3 (by decide) mfl_TaleMachine_Frames_31 rfl rfl (kdec dk_cX3_enter 11 rfl) e15 ?_
  refine kv_iast C 23 rfl 9 rfl (by omega) (by omega) (kdec dk_cX3_enter 12 rfl) (fun w16 u17 => ?_)
  have I18 : kI true w16 := kI_put u17 I9 (show (0 : Int) ≤ (x12 : Int32).toInt by omega) (show (x12 : Int32).toInt ≤ 120 by omega)
  have F19 : kF [(5, some 7), (8, none), (9, none), (10, none), (11, none)] w w16 := kF_put u17 F10 rfl
  refine kv_aload_n C 24 rfl 0 (kdec dk_cX3_enter 13 rfl) rfl rfl ?_
  refine kv_getr C 27 rfl 5 4 rfl rfl inX3 (by decide) mfl_TaleMachine_Frames_22 rfl rfl (kdec dk_cX3_enter 14 rfl) ?_
  refine kv_aload_n C 28 rfl 0 (kdec dk_cX3_enter 15 rfl) rfl rfl ?_
  have e20 : w16 5 7 = x1 := ((kup_ne u17 rfl : w16 5 7 = w7 5 7).trans e11)
  refine kv_get C 31 rfl 5 7 rfl rfl inX3 (by decide) mfl_TaleMachine_Frames_35 rfl rfl (kdec dk_cX3_enter 16 rfl) e20 ?_
  refine kv_iload_n C 32 rfl 2 (kdec dk_cX3_enter 17 rfl) rfl rfl ?_
  refine kv_iast C 33 rfl 10 rfl (by omega) (by omega) (kdec dk_cX3_enter 18 rfl) (fun w21 u22 => ?_)
  have I23 : kI true w21 := kI_put u22 I18 (show (0 : Int) ≤ (a2 : Int32).toInt by omega) (show (a2 : Int32).toInt ≤ 255 by omega)
  have F24 : kF [(5, some 7), (8, none), (9, none), (10, none), (11, none)] w w21 := kF_put u22 F19 rfl
  refine kv_aload_n C 34 rfl 0 (kdec dk_cX3_enter 19 rfl) rfl rfl ?_
  refine kv_getr C 37 rfl 5 5 rfl rfl inX3 (by decide) mfl_TaleMachine_Frames_25 rfl rfl (kdec dk_cX3_enter 20 rfl) ?_
  refine kv_aload_n C 38 rfl 0 (kdec dk_cX3_enter 21 rfl) rfl rfl ?_
  have e25 : w21 5 7 = x1 := ((kup_ne u22 rfl : w21 5 7 = w16 5 7).trans e20)
  refine kv_get C 41 rfl 5 7 rfl rfl inX3 (by decide) mfl_TaleMachine_Frames_35 rfl rfl (kdec dk_cX3_enter 22 rfl) e25 ?_
  refine kv_iload_n C 42 rfl 3 (kdec dk_cX3_enter 23 rfl) rfl rfl ?_
  refine kv_iast C 43 rfl 11 rfl (by omega) (by omega) (kdec dk_cX3_enter 24 rfl) (fun w26 u27 => ?_)
  have I28 : kI true w26 := kI_put u27 I23 (kf_rng _).1 (kf_rng _).2
  have F29 : kF [(5, some 7), (8, none), (9, none), (10, none), (11, none)] w w26 := kF_put u27 F24 rfl
  refine kv_aload_n C 44 rfl 0 (kdec dk_cX3_enter 25 rfl) rfl rfl ?_
  refine kv_dup C 45 rfl (kdec dk_cX3_enter 26 rfl) rfl ?_
  have e30 : w26 5 7 = x1 := ((kup_ne u27 rfl : w26 5 7 = w21 5 7).trans e25)
  refine kv_get C 48 rfl 5 7 rfl rfl inX3 (by decide) mfl_TaleMachine_Frames_35 rfl rfl (kdec dk_cX3_enter 27 rfl) e30 ?_
  refine kv_iconst C 49 rfl 1 (kdec dk_cX3_enter 28 rfl) rfl ?_
  refine kv_iadd C 50 rfl (kdec dk_cX3_enter 29 rfl) (fun x31 q33 h32e h32 h32l h32u => ?_)
  try have h32n : x31.toInt = x1.toInt + (1 : Int32).toInt := by omega
  clear h32 q33
  refine kv_put C 53 rfl 5 7 rfl rfl inX3 (by decide) mfl_TaleMachine_Frames_35 rfl tyX3 tyX3_ok nmX3 rfl rfl (kdec dk_cX3_enter 30 rfl) rfl rfl (fun w34 u35 => ?_)
  have I36 : kI true w34 := kI_put u35 I28 (show (1 : Int) ≤ (x31 : Int32).toInt by omega) (show (x31 : Int32).toInt ≤ 20 by omega)
  have F37 : kF [(5, some 7), (8, none), (9, none), (10, none), (11, none)] w w34 := kF_put u35 F29 rfl
  exact kv_vret C hr hlk (kdec dk_cX3_enter 31 rfl) ⟨rfl, I36, F37⟩

set_option maxHeartbeats 4000000 in
set_option maxRecDepth 100000 in
theorem k_leave (l : Launch) (D : va_G) (τ : Nat → ClassId) (ρ σ : Nat → Nat) (w : kw)  (hI : kI true w) (hp0 : 2 ≤ (w 5 7).toInt) :
    kM l D τ ρ σ yX3_leave cX3_leave 1 none { frames := 0, cells := 0, slots := 0, locals := 0 } [.ref (ρ 5)] w
      (fun o w' => o = none ∧ kI true w' ∧ kF [(5, some 6), (5, some 7)] w w') := by
  refine kM_of (own := "TaleMachine$Frames") rfl (by decide) (Nat.le_of_ble_eq_true rfl) ?_
  intro p e s m args below meth c C hr hlk
  have hF0 : kF [(5, some 6), (5, some 7)] w w := kF.rf
  have c_1 : (1 : Int32).toInt = 1 := by decide
  refine kV.L (L' := [(0, .ref (ρ 5))]) rfl ?_
  obtain ⟨x1, e2⟩ : ∃ z : Int32, w 5 7 = z := ⟨_, rfl⟩
  have b3 : (1 : Int) ≤ x1.toInt ∧ x1.toInt ≤ 20 := by rw [← e2]; exact hI 5 7
  rw [e2] at hp0
  refine kv_aload_n C 1 rfl 0 (kdec dk_cX3_leave 0 rfl) rfl rfl ?_
  refine kv_dup C 2 rfl (kdec dk_cX3_leave 1 rfl) rfl ?_
  refine kv_get C 5 rfl 5 7 rfl rfl inX3 (by decide) mfl_TaleMachine_Frames_35 rfl rfl (kdec dk_cX3_leave 2 rfl) e2 ?_
  refine kv_iconst C 6 rfl 1 (kdec dk_cX3_leave 3 rfl) rfl ?_
  refine kv_isub C 7 rfl (kdec dk_cX3_leave 4 rfl) (fun x4 q6 h5e h5 h5l h5u => ?_)
  try have h5n : x4.toInt = x1.toInt - (1 : Int32).toInt := by omega
  clear h5 q6
  refine kv_put C 10 rfl 5 7 rfl rfl inX3 (by decide) mfl_TaleMachine_Frames_35 rfl tyX3 tyX3_ok nmX3 rfl rfl (kdec dk_cX3_leave 5 rfl) rfl rfl (fun w7 u8 => ?_)
  have I9 : kI true w7 := kI_put u8 hI (show (1 : Int) ≤ (x4 : Int32).toInt by omega) (show (x4 : Int32).toInt ≤ 20 by omega)
  have F10 : kF [(5, some 6), (5, some 7)] w w7 := kF_put u8 hF0 rfl
  refine kv_aload_n C 11 rfl 0 (kdec dk_cX3_leave 6 rfl) rfl rfl ?_
  refine kv_aload_n C 12 rfl 0 (kdec dk_cX3_leave 7 rfl) rfl rfl ?_
  refine kv_getr C 15 rfl 5 3 rfl rfl inX3 (by decide) mfl_TaleMachine_Frames_19 rfl rfl (kdec dk_cX3_leave 8 rfl) ?_
  refine kv_aload_n C 16 rfl 0 (kdec dk_cX3_leave 9 rfl) rfl rfl ?_
  refine kv_get C 19 rfl 5 7 rfl rfl inX3 (by decide) mfl_TaleMachine_Frames_35 rfl rfl (kdec dk_cX3_leave 10 rfl) (kup_eq u8) ?_
  obtain ⟨x11, e12⟩ : ∃ z : Int32, w7 9 (x4 : Int32).toNatClampNeg = z := ⟨_, rfl⟩
  have b13 : (0 : Int) ≤ x11.toInt ∧ x11.toInt ≤ 120 := by rw [← e12]; exact I9 9 _
  refine kv_iald C 20 rfl 9 rfl (by omega) (by omega) e12 (kdec dk_cX3_leave 11 rfl) ?_
  refine kv_put C 23 rfl 5 6 rfl rfl inX3 (by decide) mfl_TaleMachine_Frames_31 rfl tyX3 tyX3_ok nmX3 rfl rfl (kdec dk_cX3_leave 12 rfl) rfl rfl (fun w14 u15 => ?_)
  have I16 : kI true w14 := kI_put u15 I9 (show (0 : Int) ≤ (x11 : Int32).toInt by omega) (show (x11 : Int32).toInt ≤ 120 by omega)
  have F17 : kF [(5, some 6), (5, some 7)] w w14 := kF_put u15 F10 rfl
  exact kv_vret C hr hlk (kdec dk_cX3_leave 13 rfl) ⟨rfl, I16, F17⟩
