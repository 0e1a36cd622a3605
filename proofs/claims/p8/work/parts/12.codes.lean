set_option maxHeartbeats 4000000 in
set_option maxRecDepth 100000 in
theorem k_cclearO (l : Launch) (D : va_G) (τ : Nat → ClassId) (ρ σ : Nat → Nat) (w : kw)  (hI : kI true w)  :
    kM l D τ ρ σ yX0_clear cX0_clear 1 none { frames := 0, cells := 0, slots := 0, locals := 0 } [.ref (ρ 12)] w
      (fun o w' => o = none ∧ kI true w' ∧ kF [(12, some 1)] w w' ∧ ((w' 12 1).toInt = 0)) := by
  refine kM_of (own := "TaleMachine$Codes") rfl (by decide) (Nat.le_of_ble_eq_true rfl) ?_
  intro p e s m args below meth c C hr hlk
  have hF0 : kF [(12, some 1)] w w := kF.rf
  have c_0 : (0 : Int32).toInt = 0 := by decide
  refine kV.L (L' := [(0, .ref (ρ 12))]) rfl ?_
  refine kv_aload_n C 1 rfl 0 (kdec dk_cX0_clear 0 rfl) rfl rfl ?_
  refine kv_iconst C 2 rfl 0 (kdec dk_cX0_clear 1 rfl) rfl ?_
  refine kv_put C 5 rfl 12 1 rfl rfl inX0 (by decide) mfl_TaleMachine_Codes_15 rfl tyX0 tyX0_ok nmX0 rfl rfl (kdec dk_cX0_clear 2 rfl) rfl rfl (fun w1 u2 => ?_)
  have I3 : kI true w1 := kI_put u2 hI (show (0 : Int) ≤ (0 : Int32).toInt by omega) (show (0 : Int32).toInt ≤ 2147483647 by omega)
  have F4 : kF [(12, some 1)] w w1 := kF_put u2 hF0 rfl
  exact kv_vret C hr hlk (kdec dk_cX0_clear 3 rfl) ⟨rfl, I3, F4, (by rw [(kup_eq u2)]; try omega)⟩

set_option maxHeartbeats 4000000 in
set_option maxRecDepth 100000 in
theorem k_addO (l : Launch) (D : va_G) (τ : Nat → ClassId) (ρ σ : Nat → Nat) (w : kw) (a1 : Int32) (hI : kI true w) (hp0 : (w 12 1).toInt ≤ 2147483000) :
    kM l D τ ρ σ yX0_add cX0_add 3 none { frames := 0, cells := 0, slots := 0, locals := 0 } [.ref (ρ 12), .int a1] w
      (fun o w' => o = none ∧ kI true w' ∧ kF [(12, some 1), (13, none)] w w' ∧ ((w 12 1).toInt ≤ (w' 12 1).toInt ∧ (w' 12 1).toInt ≤ (w 12 1).toInt + 1)) := by
  refine kM_of (own := "TaleMachine$Codes") rfl (by decide) (Nat.le_of_ble_eq_true rfl) ?_
  intro p e s m args below meth c C hr hlk
  have hF0 : kF [(12, some 1), (13, none)] w w := kF.rf
  have c_0 : (0 : Int32).toInt = 0 := by decide
  have c_1 : (1 : Int32).toInt = 1 := by decide
  have c_13 : (13 : Int32).toInt = 13 := by decide
  have c_32 : (32 : Int32).toInt = 32 := by decide
  have c_63 : (63 : Int32).toInt = 63 := by decide
  have c_126 : (126 : Int32).toInt = 126 := by decide
  have c_300 : (300 : Int32).toInt = 300 := by decide
  refine kV.L (L' := [(0, .ref (ρ 12)), (1, .int a1)]) rfl ?_
  obtain ⟨x1, e2⟩ : ∃ z : Int32, w 12 1 = z := ⟨_, rfl⟩
  have b3 : (0 : Int) ≤ x1.toInt ∧ x1.toInt ≤ 2147483647 := by rw [← e2]; exact hI 12 1
  rw [e2] at hp0
  have g4 := kf_rng a1
  have cut60 : ∀ (w_60 : kw) (l1_60 : Int32), kI true w_60 → kF [(12, some 1), (13, none)] w w_60 → ((w_60 12 1).toInt = (w 12 1).toInt) → kV p l e { frames := 0, cells := 0, slots := 0, locals := 0 } s m args below meth c (kQ below args s D τ ρ (fun o w' => o = none ∧ kI true w' ∧ kF [(12, some 1), (13, none)] w w' ∧ ((w 12 1).toInt ≤ (w' 12 1).toInt ∧ (w' 12 1).toInt ≤ (w 12 1).toInt + 1))) 3 D τ ρ 60 [(0, .ref (ρ 12)), (1, .int l1_60)] [] w_60 := by
    intro w_60 l1_60 I_60 F_60 k60_0
    have gl1_60 := kf_rng l1_60
    obtain ⟨x5, e6⟩ : ∃ z : Int32, w_60 12 1 = z := ⟨_, rfl⟩
    have b7 : (0 : Int) ≤ x5.toInt ∧ x5.toInt ≤ 2147483647 := by rw [← e6]; exact I_60 12 1
    rw [e2, e6] at k60_0
    refine kv_aload_n C 61 rfl 0 (kdec dk_cX0_add 32 rfl) rfl rfl ?_
    refine kv_dup C 62 rfl (kdec dk_cX0_add 33 rfl) rfl ?_
    refine kv_get C 65 rfl 12 1 rfl rfl inX0 (by decide) mfl_TaleMachine_Codes_15 rfl rfl (kdec dk_cX0_add 34 rfl) e6 ?_
    refine kv_iconst C 66 rfl 1 (kdec dk_cX0_add 35 rfl) rfl ?_
    refine kv_iadd C 67 rfl (kdec dk_cX0_add 36 rfl) (fun x8 q10 h9e h9 h9l h9u => ?_)
    try have h9n : x8.toInt = x5.toInt + (1 : Int32).toInt := by omega
    clear h9 q10
    refine kv_put C 70 rfl 12 1 rfl rfl inX0 (by decide) mfl_TaleMachine_Codes_15 rfl tyX0 tyX0_ok nmX0 rfl rfl (kdec dk_cX0_add 37 rfl) rfl rfl (fun w11 u12 => ?_)
    have I13 : kI true w11 := kI_put u12 I_60 (show (0 : Int) ≤ (x8 : Int32).toInt by omega) (show (x8 : Int32).toInt ≤ 2147483647 by omega)
    have F14 : kF [(12, some 1), (13, none)] w w11 := kF_put u12 F_60 rfl
    exact kv_vret C hr hlk (kdec dk_cX0_add 38 rfl) ⟨rfl, I13, F14, (by rw [e2, (kup_eq u12)]; try omega)⟩
  have cut40 : ∀ (w_40 : kw) (l1_40 s0_40 : Int32), kI true w_40 → kF [(12, some 1), (13, none)] w w_40 → ((w_40 12 1).toInt = (w 12 1).toInt) → ((w_40 12 1).toInt < 300) → kV p l e { frames := 0, cells := 0, slots := 0, locals := 0 } s m args below meth c (kQ below args s D τ ρ (fun o w' => o = none ∧ kI true w' ∧ kF [(12, some 1), (13, none)] w w' ∧ ((w 12 1).toInt ≤ (w' 12 1).toInt ∧ (w' 12 1).toInt ≤ (w 12 1).toInt + 1))) 3 D τ ρ 40 [(0, .ref (ρ 12)), (1, .int l1_40)] [.int s0_40] w_40 := by
    intro w_40 l1_40 s0_40 I_40 F_40 k40_0 k40_1
    have gl1_40 := kf_rng l1_40
    have gs0_40 := kf_rng s0_40
    obtain ⟨x15, e16⟩ : ∃ z : Int32, w_40 12 1 = z := ⟨_, rfl⟩
    have b17 : (0 : Int) ≤ x15.toInt ∧ x15.toInt ≤ 2147483647 := by rw [← e16]; exact I_40 12 1
    rw [e2, e16] at k40_0
    rw [e16] at k40_1
    refine kv_istore_n C 41 rfl 2 [1, 2, 0] [(0, .ref (ρ 12)), (1, .int l1_40), (2, .int s0_40)] (kdec dk_cX0_add 21 rfl) rfl (by decide) rfl ?_
    refine kv_aload_n C 42 rfl 0 (kdec dk_cX0_add 22 rfl) rfl rfl ?_
    refine kv_getr C 45 rfl 12 0 rfl rfl inX0 (by decide) mfl_TaleMachine_Codes_9 rfl rfl (kdec dk_cX0_add 23 rfl) ?_
    refine kv_aload_n C 46 rfl 0 (kdec dk_cX0_add 24 rfl) rfl rfl ?_
    refine kv_get C 49 rfl 12 1 rfl rfl inX0 (by decide) mfl_TaleMachine_Codes_15 rfl rfl (kdec dk_cX0_add 25 rfl) e16 ?_
    refine kv_iload_n C 50 rfl 2 (kdec dk_cX0_add 26 rfl) rfl rfl ?_
    refine kv_if_eq C 53 rfl 57 (kdec dk_cX0_add 27 rfl) (by decide) (fun d18 => ?_) (fun d18 => ?_)
    · skip
      refine kv_bipush C 59 rfl 63 (kdec dk_cX0_add 30 rfl) rfl ?_
      refine kv_iast C 60 rfl 13 rfl (by omega) (by omega) (kdec dk_cX0_add 31 rfl) (fun w19 u20 => ?_)
      have I21 : kI true w19 := kI_put u20 I_40 (kf_rng _).1 (kf_rng _).2
      have F22 : kF [(12, some 1), (13, none)] w w19 := kF_put u20 F_40 rfl
      have e23 : w19 12 1 = x15 := ((kup_ne u20 rfl : w19 12 1 = w_40 12 1).trans e16)
      refine kV.sub [0, 1] (L' := [(0, .ref (ρ 12)), (1, .int l1_40)]) rfl ?_
      exact cut60 w19 l1_40 I21 F22 (by rw [e2, e23]; try omega)
    · skip
      refine kv_iload_n C 54 rfl 1 (kdec dk_cX0_add 28 rfl) rfl rfl ?_
      refine kv_goto C 59 (kdec dk_cX0_add 29 rfl) (by decide) ?_
      refine kv_iast C 60 rfl 13 rfl (by omega) (by omega) (kdec dk_cX0_add 31 rfl) (fun w24 u25 => ?_)
      have I26 : kI true w24 := kI_put u25 I_40 (kf_rng _).1 (kf_rng _).2
      have F27 : kF [(12, some 1), (13, none)] w w24 := kF_put u25 F_40 rfl
      have e28 : w24 12 1 = x15 := ((kup_ne u25 rfl : w24 12 1 = w_40 12 1).trans e16)
      refine kV.sub [0, 1] (L' := [(0, .ref (ρ 12)), (1, .int l1_40)]) rfl ?_
      exact cut60 w24 l1_40 I26 F27 (by rw [e2, e28]; try omega)
  refine kv_iload_n C 1 rfl 1 (kdec dk_cX0_add 0 rfl) rfl rfl ?_
  refine kv_if_ne C 4 rfl 5 (kdec dk_cX0_add 1 rfl) (by decide) (fun d29 => ?_) (fun d29 => ?_)
  · skip
    refine kv_aload_n C 6 rfl 0 (kdec dk_cX0_add 3 rfl) rfl rfl ?_
    refine kv_get C 9 rfl 12 1 rfl rfl inX0 (by decide) mfl_TaleMachine_Codes_15 rfl rfl (kdec dk_cX0_add 4 rfl) e2 ?_
    refine kv_aload_n C 10 rfl 0 (kdec dk_cX0_add 5 rfl) rfl rfl ?_
    refine kv_getr C 13 rfl 12 0 rfl rfl inX0 (by decide) mfl_TaleMachine_Codes_9 rfl rfl (kdec dk_cX0_add 6 rfl) ?_
    refine kv_alen C 14 rfl 13 300 rfl (by decide) rfl (kdec dk_cX0_add 7 rfl) ?_
    refine kv_icmp_ge C 17 rfl 60 (kdec dk_cX0_add 8 rfl) (by decide) (fun d30 => ?_) (fun d30 => ?_)
    · skip
      exact cut60 w a1 hI hF0 (by rw [e2]; try omega)
    · skip
      refine kv_iload_n C 18 rfl 1 (kdec dk_cX0_add 9 rfl) rfl rfl ?_
      refine kv_bipush C 20 rfl 32 (kdec dk_cX0_add 10 rfl) rfl ?_
      refine kv_icmp_lt C 23 rfl 29 (kdec dk_cX0_add 11 rfl) (by decide) (fun d31 => ?_) (fun d31 => ?_)
      · skip
        refine kv_iload_n C 30 rfl 1 (kdec dk_cX0_add 15 rfl) rfl rfl ?_
        refine kv_bipush C 32 rfl 13 (kdec dk_cX0_add 16 rfl) rfl ?_
        refine kv_icmp_ne C 35 rfl 39 (kdec dk_cX0_add 17 rfl) (by decide) (fun d32 => ?_) (fun d32 => ?_)
        · skip
          refine kv_iconst C 40 rfl 0 (kdec dk_cX0_add 20 rfl) rfl ?_
          exact cut40 w a1 0 hI hF0 (by rw [e2]; try omega) (by rw [e2]; try omega)
        · skip
          refine kv_iconst C 36 rfl 1 (kdec dk_cX0_add 18 rfl) rfl ?_
          refine kv_goto C 40 (kdec dk_cX0_add 19 rfl) (by decide) ?_
          exact cut40 w a1 1 hI hF0 (by rw [e2]; try omega) (by rw [e2]; try omega)
      · skip
        refine kv_iload_n C 24 rfl 1 (kdec dk_cX0_add 12 rfl) rfl rfl ?_
        refine kv_bipush C 26 rfl 126 (kdec dk_cX0_add 13 rfl) rfl ?_
        refine kv_icmp_le C 29 rfl 35 (kdec dk_cX0_add 14 rfl) (by decide) (fun d33 => ?_) (fun d33 => ?_)
        · skip
          refine kv_iconst C 36 rfl 1 (kdec dk_cX0_add 18 rfl) rfl ?_
          refine kv_goto C 40 (kdec dk_cX0_add 19 rfl) (by decide) ?_
          exact cut40 w a1 1 hI hF0 (by rw [e2]; try omega) (by rw [e2]; try omega)
        · skip
          refine kv_iload_n C 30 rfl 1 (kdec dk_cX0_add 15 rfl) rfl rfl ?_
          refine kv_bipush C 32 rfl 13 (kdec dk_cX0_add 16 rfl) rfl ?_
          refine kv_icmp_ne C 35 rfl 39 (kdec dk_cX0_add 17 rfl) (by decide) (fun d34 => ?_) (fun d34 => ?_)
          · skip
            refine kv_iconst C 40 rfl 0 (kdec dk_cX0_add 20 rfl) rfl ?_
            exact cut40 w a1 0 hI hF0 (by rw [e2]; try omega) (by rw [e2]; try omega)
          · skip
            refine kv_iconst C 36 rfl 1 (kdec dk_cX0_add 18 rfl) rfl ?_
            refine kv_goto C 40 (kdec dk_cX0_add 19 rfl) (by decide) ?_
            exact cut40 w a1 1 hI hF0 (by rw [e2]; try omega) (by rw [e2]; try omega)
  · skip
    exact kv_vret C hr hlk (kdec dk_cX0_add 2 rfl) ⟨rfl, hI, hF0, (by rw [e2]; try omega)⟩

set_option maxHeartbeats 4000000 in
set_option maxRecDepth 100000 in
theorem k_codeAtO (l : Launch) (D : va_G) (τ : Nat → ClassId) (ρ σ : Nat → Nat) (w : kw) (a1 : Int32) (hI : kI true w)  :
    kM l D τ ρ σ yX0_codeAt cX0_codeAt 2 (some .int) { frames := 0, cells := 0, slots := 0, locals := 0 } [.ref (ρ 12), .int a1] w
      (fun o w' => ∃ r : Int32, o = some (.int r) ∧ kI true w' ∧ kF [] w w') := by
  refine kM_of (own := "TaleMachine$Codes") rfl (by decide) (Nat.le_of_ble_eq_true rfl) ?_
  intro p e s m args below meth c C hr hlk
  have hF0 : kF [] w w := kF.rf
  have c_m1 : (-1 : Int32).toInt = -1 := by decide
  have c_300 : (300 : Int32).toInt = 300 := by decide
  refine kV.L (L' := [(0, .ref (ρ 12)), (1, .int a1)]) rfl ?_
  have g1 := kf_rng a1
  refine kv_iload_n C 1 rfl 1 (kdec dk_cX0_codeAt 0 rfl) rfl rfl ?_
  refine kv_if_lt C 4 rfl 30 (kdec dk_cX0_codeAt 1 rfl) (by decide) (fun d2 => ?_) (fun d2 => ?_)
  · skip
    refine kv_iconst C 31 rfl (-1) (kdec dk_cX0_codeAt 16 rfl) rfl ?_
    exact kv_iret C hr hlk (kdec dk_cX0_codeAt 17 rfl) ⟨_, rfl, hI, hF0⟩
  · skip
    refine kv_iload_n C 5 rfl 1 (kdec dk_cX0_codeAt 2 rfl) rfl rfl ?_
    refine kv_aload_n C 6 rfl 0 (kdec dk_cX0_codeAt 3 rfl) rfl rfl ?_
    obtain ⟨x3, e4⟩ : ∃ z : Int32, w 12 1 = z := ⟨_, rfl⟩
    have b5 : (0 : Int) ≤ x3.toInt ∧ x3.toInt ≤ 2147483647 := by rw [← e4]; exact hI 12 1
    refine kv_get C 9 rfl 12 1 rfl rfl inX0 (by decide) mfl_TaleMachine_Codes_15 rfl rfl (kdec dk_cX0_codeAt 4 rfl) e4 ?_
    refine kv_icmp_ge C 12 rfl 30 (kdec dk_cX0_codeAt 5 rfl) (by decide) (fun d6 => ?_) (fun d6 => ?_)
    · skip
      refine kv_iconst C 31 rfl (-1) (kdec dk_cX0_codeAt 16 rfl) rfl ?_
      exact kv_iret C hr hlk (kdec dk_cX0_codeAt 17 rfl) ⟨_, rfl, hI, hF0⟩
    · skip
      refine kv_iload_n C 13 rfl 1 (kdec dk_cX0_codeAt 6 rfl) rfl rfl ?_
      refine kv_aload_n C 14 rfl 0 (kdec dk_cX0_codeAt 7 rfl) rfl rfl ?_
      refine kv_getr C 17 rfl 12 0 rfl rfl inX0 (by decide) mfl_TaleMachine_Codes_9 rfl rfl (kdec dk_cX0_codeAt 8 rfl) ?_
      refine kv_alen C 18 rfl 13 300 rfl (by decide) rfl (kdec dk_cX0_codeAt 9 rfl) ?_
      refine kv_icmp_ge C 21 rfl 30 (kdec dk_cX0_codeAt 10 rfl) (by decide) (fun d7 => ?_) (fun d7 => ?_)
      · skip
        refine kv_iconst C 31 rfl (-1) (kdec dk_cX0_codeAt 16 rfl) rfl ?_
        exact kv_iret C hr hlk (kdec dk_cX0_codeAt 17 rfl) ⟨_, rfl, hI, hF0⟩
      · skip
        refine kv_aload_n C 22 rfl 0 (kdec dk_cX0_codeAt 11 rfl) rfl rfl ?_
        refine kv_getr C 25 rfl 12 0 rfl rfl inX0 (by decide) mfl_TaleMachine_Codes_9 rfl rfl (kdec dk_cX0_codeAt 12 rfl) ?_
        refine kv_iload_n C 26 rfl 1 (kdec dk_cX0_codeAt 13 rfl) rfl rfl ?_
        obtain ⟨x8, e9⟩ : ∃ z : Int32, w 13 (a1 : Int32).toNatClampNeg = z := ⟨_, rfl⟩
        have b10 : (-2147483648 : Int) ≤ x8.toInt ∧ x8.toInt ≤ 2147483647 := by rw [← e9]; exact hI 13 _
        refine kv_iald C 27 rfl 13 rfl (by omega) (by omega) e9 (kdec dk_cX0_codeAt 14 rfl) ?_
        refine kv_goto C 31 (kdec dk_cX0_codeAt 15 rfl) (by decide) ?_
        exact kv_iret C hr hlk (kdec dk_cX0_codeAt 17 rfl) ⟨_, rfl, hI, hF0⟩

set_option maxHeartbeats 4000000 in
set_option maxRecDepth 100000 in
theorem k_cclearS (l : Launch) (D : va_G) (τ : Nat → ClassId) (ρ σ : Nat → Nat) (w : kw)  (hI : kI true w)  :
    kM l D τ ρ σ yX0_clear cX0_clear 1 none { frames := 0, cells := 0, slots := 0, locals := 0 } [.ref (ρ 14)] w
      (fun o w' => o = none ∧ kI true w' ∧ kF [(14, some 1)] w w' ∧ ((w' 14 1).toInt = 0)) := by
  refine kM_of (own := "TaleMachine$Codes") rfl (by decide) (Nat.le_of_ble_eq_true rfl) ?_
  intro p e s m args below meth c C hr hlk
  have hF0 : kF [(14, some 1)] w w := kF.rf
  have c_0 : (0 : Int32).toInt = 0 := by decide
  refine kV.L (L' := [(0, .ref (ρ 14))]) rfl ?_
  refine kv_aload_n C 1 rfl 0 (kdec dk_cX0_clear 0 rfl) rfl rfl ?_
  refine kv_iconst C 2 rfl 0 (kdec dk_cX0_clear 1 rfl) rfl ?_
  refine kv_put C 5 rfl 14 1 rfl rfl inX0 (by decide) mfl_TaleMachine_Codes_15 rfl tyX0 tyX0_ok nmX0 rfl rfl (kdec dk_cX0_clear 2 rfl) rfl rfl (fun w1 u2 => ?_)
  have I3 : kI true w1 := kI_put u2 hI (show (0 : Int) ≤ (0 : Int32).toInt by omega) (show (0 : Int32).toInt ≤ 2147483647 by omega)
  have F4 : kF [(14, some 1)] w w1 := kF_put u2 hF0 rfl
  exact kv_vret C hr hlk (kdec dk_cX0_clear 3 rfl) ⟨rfl, I3, F4, (by rw [(kup_eq u2)]; try omega)⟩

set_option maxHeartbeats 4000000 in
set_option maxRecDepth 100000 in
theorem k_addS (l : Launch) (D : va_G) (τ : Nat → ClassId) (ρ σ : Nat → Nat) (w : kw) (a1 : Int32) (hI : kI true w) (hp0 : (w 14 1).toInt ≤ 2147483000) :
    kM l D τ ρ σ yX0_add cX0_add 3 none { frames := 0, cells := 0, slots := 0, locals := 0 } [.ref (ρ 14), .int a1] w
      (fun o w' => o = none ∧ kI true w' ∧ kF [(14, some 1), (15, none)] w w' ∧ ((w 14 1).toInt ≤ (w' 14 1).toInt ∧ (w' 14 1).toInt ≤ (w 14 1).toInt + 1)) := by
  refine kM_of (own := "TaleMachine$Codes") rfl (by decide) (Nat.le_of_ble_eq_true rfl) ?_
  intro p e s m args below meth c C hr hlk
  have hF0 : kF [(14, some 1), (15, none)] w w := kF.rf
  have c_0 : (0 : Int32).toInt = 0 := by decide
  have c_1 : (1 : Int32).toInt = 1 := by decide
  have c_13 : (13 : Int32).toInt = 13 := by decide
  have c_32 : (32 : Int32).toInt = 32 := by decide
  have c_63 : (63 : Int32).toInt = 63 := by decide
  have c_126 : (126 : Int32).toInt = 126 := by decide
  have c_200 : (200 : Int32).toInt = 200 := by decide
  refine kV.L (L' := [(0, .ref (ρ 14)), (1, .int a1)]) rfl ?_
  obtain ⟨x1, e2⟩ : ∃ z : Int32, w 14 1 = z := ⟨_, rfl⟩
  have b3 : (0 : Int) ≤ x1.toInt ∧ x1.toInt ≤ 2147483647 := by rw [← e2]; exact hI 14 1
  rw [e2] at hp0
  have g4 := kf_rng a1
  have cut60 : ∀ (w_60 : kw) (l1_60 : Int32), kI true w_60 → kF [(14, some 1), (15, none)] w w_60 → ((w_60 14 1).toInt = (w 14 1).toInt) → kV p l e { frames := 0, cells := 0, slots := 0, locals := 0 } s m args below meth c (kQ below args s D τ ρ (fun o w' => o = none ∧ kI true w' ∧ kF [(14, some 1), (15, none)] w w' ∧ ((w 14 1).toInt ≤ (w' 14 1).toInt ∧ (w' 14 1).toInt ≤ (w 14 1).toInt + 1))) 3 D τ ρ 60 [(0, .ref (ρ 14)), (1, .int l1_60)] [] w_60 := by
    intro w_60 l1_60 I_60 F_60 k60_0
    have gl1_60 := kf_rng l1_60
    obtain ⟨x5, e6⟩ : ∃ z : Int32, w_60 14 1 = z := ⟨_, rfl⟩
    have b7 : (0 : Int) ≤ x5.toInt ∧ x5.toInt ≤ 2147483647 := by rw [← e6]; exact I_60 14 1
    rw [e2, e6] at k60_0
    refine kv_aload_n C 61 rfl 0 (kdec dk_cX0_add 32 rfl) rfl rfl ?_
    refine kv_dup C 62 rfl (kdec dk_cX0_add 33 rfl) rfl ?_
    refine kv_get C 65 rfl 14 1 rfl rfl inX0 (by decide) mfl_TaleMachine_Codes_15 rfl rfl (kdec dk_cX0_add 34 rfl) e6 ?_
    refine kv_iconst C 66 rfl 1 (kdec dk_cX0_add 35 rfl) rfl ?_
    refine kv_iadd C 67 rfl (kdec dk_cX0_add 36 rfl) (fun x8 q10 h9e h9 h9l h9u => ?_)
    try have h9n : x8.toInt = x5.toInt + (1 : Int32).toInt := by omega
    clear h9 q10
    refine kv_put C 70 rfl 14 1 rfl rfl inX0 (by decide) mfl_TaleMachine_Codes_15 rfl tyX0 tyX0_ok nmX0 rfl rfl (kdec dk_cX0_add 37 rfl) rfl rfl (fun w11 u12 => ?_)
    have I13 : kI true w11 := kI_put u12 I_60 (show (0 : Int) ≤ (x8 : Int32).toInt by omega) (show (x8 : Int32).toInt ≤ 2147483647 by omega)
    have F14 : kF [(14, some 1), (15, none)] w w11 := kF_put u12 F_60 rfl
    exact kv_vret C hr hlk (kdec dk_cX0_add 38 rfl) ⟨rfl, I13, F14, (by rw [e2, (kup_eq u12)]; try omega)⟩
  have cut40 : ∀ (w_40 : kw) (l1_40 s0_40 : Int32), kI true w_40 → kF [(14, some 1), (15, none)] w w_40 → ((w_40 14 1).toInt = (w 14 1).toInt) → ((w_40 14 1).toInt < 200) → kV p l e { frames := 0, cells := 0, slots := 0, locals := 0 } s m args below meth c (kQ below args s D τ ρ (fun o w' => o = none ∧ kI true w' ∧ kF [(14, some 1), (15, none)] w w' ∧ ((w 14 1).toInt ≤ (w' 14 1).toInt ∧ (w' 14 1).toInt ≤ (w 14 1).toInt + 1))) 3 D τ ρ 40 [(0, .ref (ρ 14)), (1, .int l1_40)] [.int s0_40] w_40 := by
    intro w_40 l1_40 s0_40 I_40 F_40 k40_0 k40_1
    have gl1_40 := kf_rng l1_40
    have gs0_40 := kf_rng s0_40
    obtain ⟨x15, e16⟩ : ∃ z : Int32, w_40 14 1 = z := ⟨_, rfl⟩
    have b17 : (0 : Int) ≤ x15.toInt ∧ x15.toInt ≤ 2147483647 := by rw [← e16]; exact I_40 14 1
    rw [e2, e16] at k40_0
    rw [e16] at k40_1
    refine kv_istore_n C 41 rfl 2 [1, 2, 0] [(0, .ref (ρ 14)), (1, .int l1_40), (2, .int s0_40)] (kdec dk_cX0_add 21 rfl) rfl (by decide) rfl ?_
    refine kv_aload_n C 42 rfl 0 (kdec dk_cX0_add 22 rfl) rfl rfl ?_
    refine kv_getr C 45 rfl 14 0 rfl rfl inX0 (by decide) mfl_TaleMachine_Codes_9 rfl rfl (kdec dk_cX0_add 23 rfl) ?_
    refine kv_aload_n C 46 rfl 0 (kdec dk_cX0_add 24 rfl) rfl rfl ?_
    refine kv_get C 49 rfl 14 1 rfl rfl inX0 (by decide) mfl_TaleMachine_Codes_15 rfl rfl (kdec dk_cX0_add 25 rfl) e16 ?_
    refine kv_iload_n C 50 rfl 2 (kdec dk_cX0_add 26 rfl) rfl rfl ?_
    refine kv_if_eq C 53 rfl 57 (kdec dk_cX0_add 27 rfl) (by decide) (fun d18 => ?_) (fun d18 => ?_)
    · skip
      refine kv_bipush C 59 rfl 63 (kdec dk_cX0_add 30 rfl) rfl ?_
      refine kv_iast C 60 rfl 15 rfl (by omega) (by omega) (kdec dk_cX0_add 31 rfl) (fun w19 u20 => ?_)
      have I21 : kI true w19 := kI_put u20 I_40 (kf_rng _).1 (kf_rng _).2
      have F22 : kF [(14, some 1), (15, none)] w w19 := kF_put u20 F_40 rfl
      have e23 : w19 14 1 = x15 := ((kup_ne u20 rfl : w19 14 1 = w_40 14 1).trans e16)
      refine kV.sub [0, 1] (L' := [(0, .ref (ρ 14)), (1, .int l1_40)]) rfl ?_
      exact cut60 w19 l1_40 I21 F22 (by rw [e2, e23]; try omega)
    · skip
      refine kv_iload_n C 54 rfl 1 (kdec dk_cX0_add 28 rfl) rfl rfl ?_
      refine kv_goto C 59 (kdec dk_cX0_add 29 rfl) (by decide) ?_
      refine kv_iast C 60 rfl 15 rfl (by omega) (by omega) (kdec dk_cX0_add 31 rfl) (fun w24 u25 => ?_)
      have I26 : kI true w24 := kI_put u25 I_40 (kf_rng _).1 (kf_rng _).2
      have F27 : kF [(14, some 1), (15, none)] w w24 := kF_put u25 F_40 rfl
      have e28 : w24 14 1 = x15 := ((kup_ne u25 rfl : w24 14 1 = w_40 14 1).trans e16)
      refine kV.sub [0, 1] (L' := [(0, .ref (ρ 14)), (1, .int l1_40)]) rfl ?_
      exact cut60 w24 l1_40 I26 F27 (by rw [e2, e28]; try omega)
  refine kv_iload_n C 1 rfl 1 (kdec dk_cX0_add 0 rfl) rfl rfl ?_
  refine kv_if_ne C 4 rfl 5 (kdec dk_cX0_add 1 rfl) (by decide) (fun d29 => ?_) (fun d29 => ?_)
  · skip
    refine kv_aload_n C 6 rfl 0 (kdec dk_cX0_add 3 rfl) rfl rfl ?_
    refine kv_get C 9 rfl 14 1 rfl rfl inX0 (by decide) mfl_TaleMachine_Codes_15 rfl rfl (kdec dk_cX0_add 4 rfl) e2 ?_
    refine kv_aload_n C 10 rfl 0 (kdec dk_cX0_add 5 rfl) rfl rfl ?_
    refine kv_getr C 13 rfl 14 0 rfl rfl inX0 (by decide) mfl_TaleMachine_Codes_9 rfl rfl (kdec dk_cX0_add 6 rfl) ?_
    refine kv_alen C 14 rfl 15 200 rfl (by decide) rfl (kdec dk_cX0_add 7 rfl) ?_
    refine kv_icmp_ge C 17 rfl 60 (kdec dk_cX0_add 8 rfl) (by decide) (fun d30 => ?_) (fun d30 => ?_)
    · skip
      exact cut60 w a1 hI hF0 (by rw [e2]; try omega)
    · skip
      refine kv_iload_n C 18 rfl 1 (kdec dk_cX0_add 9 rfl) rfl rfl ?_
      refine kv_bipush C 20 rfl 32 (kdec dk_cX0_add 10 rfl) rfl ?_
      refine kv_icmp_lt C 23 rfl 29 (kdec dk_cX0_add 11 rfl) (by decide) (fun d31 => ?_) (fun d31 => ?_)
      · skip
        refine kv_iload_n C 30 rfl 1 (kdec dk_cX0_add 15 rfl) rfl rfl ?_
        refine kv_bipush C 32 rfl 13 (kdec dk_cX0_add 16 rfl) rfl ?_
        refine kv_icmp_ne C 35 rfl 39 (kdec dk_cX0_add 17 rfl) (by decide) (fun d32 => ?_) (fun d32 => ?_)
        · skip
          refine kv_iconst C 40 rfl 0 (kdec dk_cX0_add 20 rfl) rfl ?_
          exact cut40 w a1 0 hI hF0 (by rw [e2]; try omega) (by rw [e2]; try omega)
        · skip
          refine kv_iconst C 36 rfl 1 (kdec dk_cX0_add 18 rfl) rfl ?_
          refine kv_goto C 40 (kdec dk_cX0_add 19 rfl) (by decide) ?_
          exact cut40 w a1 1 hI hF0 (by rw [e2]; try omega) (by rw [e2]; try omega)
      · skip
        refine kv_iload_n C 24 rfl 1 (kdec dk_cX0_add 12 rfl) rfl rfl ?_
        refine kv_bipush C 26 rfl 126 (kdec dk_cX0_add 13 rfl) rfl ?_
        refine kv_icmp_le C 29 rfl 35 (kdec dk_cX0_add 14 rfl) (by decide) (fun d33 => ?_) (fun d33 => ?_)
        · skip
          refine kv_iconst C 36 rfl 1 (kdec dk_cX0_add 18 rfl) rfl ?_
          refine kv_goto C 40 (kdec dk_cX0_add 19 rfl) (by decide) ?_
          exact cut40 w a1 1 hI hF0 (by rw [e2]; try omega) (by rw [e2]; try omega)
        · skip
          refine kv_iload_n C 30 rfl 1 (kdec dk_cX0_add 15 rfl) rfl rfl ?_
          refine kv_bipush C 32 rfl 13 (kdec dk_cX0_add 16 rfl) rfl ?_
          refine kv_icmp_ne C 35 rfl 39 (kdec dk_cX0_add 17 rfl) (by decide) (fun d34 => ?_) (fun d34 => ?_)
          · skip
            refine kv_iconst C 40 rfl 0 (kdec dk_cX0_add 20 rfl) rfl ?_
            exact cut40 w a1 0 hI hF0 (by rw [e2]; try omega) (by rw [e2]; try omega)
          · skip
            refine kv_iconst C 36 rfl 1 (kdec dk_cX0_add 18 rfl) rfl ?_
            refine kv_goto C 40 (kdec dk_cX0_add 19 rfl) (by decide) ?_
            exact cut40 w a1 1 hI hF0 (by rw [e2]; try omega) (by rw [e2]; try omega)
  · skip
    exact kv_vret C hr hlk (kdec dk_cX0_add 2 rfl) ⟨rfl, hI, hF0, (by rw [e2]; try omega)⟩

set_option maxHeartbeats 4000000 in
set_option maxRecDepth 100000 in
theorem k_codeAtS (l : Launch) (D : va_G) (τ : Nat → ClassId) (ρ σ : Nat → Nat) (w : kw) (a1 : Int32) (hI : kI true w)  :
    kM l D τ ρ σ yX0_codeAt cX0_codeAt 2 (some .int) { frames := 0, cells := 0, slots := 0, locals := 0 } [.ref (ρ 14), .int a1] w
      (fun o w' => ∃ r : Int32, o = some (.int r) ∧ kI true w' ∧ kF [] w w') := by
  refine kM_of (own := "TaleMachine$Codes") rfl (by decide) (Nat.le_of_ble_eq_true rfl) ?_
  intro p e s m args below meth c C hr hlk
  have hF0 : kF [] w w := kF.rf
  have c_m1 : (-1 : Int32).toInt = -1 := by decide
  have c_200 : (200 : Int32).toInt = 200 := by decide
  refine kV.L (L' := [(0, .ref (ρ 14)), (1, .int a1)]) rfl ?_
  have g1 := kf_rng a1
  refine kv_iload_n C 1 rfl 1 (kdec dk_cX0_codeAt 0 rfl) rfl rfl ?_
  refine kv_if_lt C 4 rfl 30 (kdec dk_cX0_codeAt 1 rfl) (by decide) (fun d2 => ?_) (fun d2 => ?_)
  · skip
    refine kv_iconst C 31 rfl (-1) (kdec dk_cX0_codeAt 16 rfl) rfl ?_
    exact kv_iret C hr hlk (kdec dk_cX0_codeAt 17 rfl) ⟨_, rfl, hI, hF0⟩
  · skip
    refine kv_iload_n C 5 rfl 1 (kdec dk_cX0_codeAt 2 rfl) rfl rfl ?_
    refine kv_aload_n C 6 rfl 0 (kdec dk_cX0_codeAt 3 rfl) rfl rfl ?_
    obtain ⟨x3, e4⟩ : ∃ z : Int32, w 14 1 = z := ⟨_, rfl⟩
    have b5 : (0 : Int) ≤ x3.toInt ∧ x3.toInt ≤ 2147483647 := by rw [← e4]; exact hI 14 1
    refine kv_get C 9 rfl 14 1 rfl rfl inX0 (by decide) mfl_TaleMachine_Codes_15 rfl rfl (kdec dk_cX0_codeAt 4 rfl) e4 ?_
    refine kv_icmp_ge C 12 rfl 30 (kdec dk_cX0_codeAt 5 rfl) (by decide) (fun d6 => ?_) (fun d6 => ?_)
    · skip
      refine kv_iconst C 31 rfl (-1) (kdec dk_cX0_codeAt 16 rfl) rfl ?_
      exact kv_iret C hr hlk (kdec dk_cX0_codeAt 17 rfl) ⟨_, rfl, hI, hF0⟩
    · skip
      refine kv_iload_n C 13 rfl 1 (kdec dk_cX0_codeAt 6 rfl) rfl rfl ?_
      refine kv_aload_n C 14 rfl 0 (kdec dk_cX0_codeAt 7 rfl) rfl rfl ?_
      refine kv_getr C 17 rfl 14 0 rfl rfl inX0 (by decide) mfl_TaleMachine_Codes_9 rfl rfl (kdec dk_cX0_codeAt 8 rfl) ?_
      refine kv_alen C 18 rfl 15 200 rfl (by decide) rfl (kdec dk_cX0_codeAt 9 rfl) ?_
      refine kv_icmp_ge C 21 rfl 30 (kdec dk_cX0_codeAt 10 rfl) (by decide) (fun d7 => ?_) (fun d7 => ?_)
      · skip
        refine kv_iconst C 31 rfl (-1) (kdec dk_cX0_codeAt 16 rfl) rfl ?_
        exact kv_iret C hr hlk (kdec dk_cX0_codeAt 17 rfl) ⟨_, rfl, hI, hF0⟩
      · skip
        refine kv_aload_n C 22 rfl 0 (kdec dk_cX0_codeAt 11 rfl) rfl rfl ?_
        refine kv_getr C 25 rfl 14 0 rfl rfl inX0 (by decide) mfl_TaleMachine_Codes_9 rfl rfl (kdec dk_cX0_codeAt 12 rfl) ?_
        refine kv_iload_n C 26 rfl 1 (kdec dk_cX0_codeAt 13 rfl) rfl rfl ?_
        obtain ⟨x8, e9⟩ : ∃ z : Int32, w 15 (a1 : Int32).toNatClampNeg = z := ⟨_, rfl⟩
        have b10 : (-2147483648 : Int) ≤ x8.toInt ∧ x8.toInt ≤ 2147483647 := by rw [← e9]; exact hI 15 _
        refine kv_iald C 27 rfl 15 rfl (by omega) (by omega) e9 (kdec dk_cX0_codeAt 14 rfl) ?_
        refine kv_goto C 31 (kdec dk_cX0_codeAt 15 rfl) (by decide) ?_
        exact kv_iret C hr hlk (kdec dk_cX0_codeAt 17 rfl) ⟨_, rfl, hI, hF0⟩

set_option maxHeartbeats 4000000 in
set_option maxRecDepth 100000 in
theorem k_addNumber (l : Launch) (D : va_G) (τ : Nat → ClassId) (ρ σ : Nat → Nat) (w : kw) (a1 : Int32) (hI : kI true w) (hp0 : (w 12 1).toInt ≤ 2147482900) :
    kM l D τ ρ σ yX0_addNumber cX0_addNumber 5 none { frames := 1, cells := 0, slots := 0, locals := 36 } [.ref (ρ 12), .int a1] w
      (fun o w' => o = none ∧ kI true w' ∧ kF [(12, some 1), (13, none)] w w' ∧ ((w' 12 1).toInt ≤ (w 12 1).toInt + 40)) := by
  refine kM_of (own := "TaleMachine$Codes") rfl (by decide) (Nat.le_of_ble_eq_true rfl) ?_
  intro p e s m args below meth c C hr hlk
  have hF0 : kF [(12, some 1), (13, none)] w w := kF.rf
  have c_0 : (0 : Int32).toInt = 0 := by decide
  have c_1 : (1 : Int32).toInt = 1 := by decide
  have c_10 : (10 : Int32).toInt = 10 := by decide
  have c_45 : (45 : Int32).toInt = 45 := by decide
  have c_48 : (48 : Int32).toInt = 48 := by decide
  have c_10000 : (10000 : Int32).toInt = 10000 := by decide
  refine kV.L (L' := [(0, .ref (ρ 12)), (1, .int a1)]) rfl ?_
  obtain ⟨x1, e2⟩ : ∃ z : Int32, w 12 1 = z := ⟨_, rfl⟩
  have b3 : (0 : Int) ≤ x1.toInt ∧ x1.toInt ≤ 2147483647 := by rw [← e2]; exact hI 12 1
  rw [e2] at hp0
  have g4 := kf_rng a1
  have cut22 : ∀ (n_22 : Nat) (w_22 : kw) (l1_22 l2_22 l3_22 l4_22 : Int32), kI true w_22 → kF [(12, some 1), (13, none)] w w_22 → (l4_22.toInt = 10000 ∧ (w_22 12 1).toInt ≤ (w 12 1).toInt + 1 ∨ l4_22.toInt = 1000 ∧ (w_22 12 1).toInt ≤ (w 12 1).toInt + 2 ∨ l4_22.toInt = 100 ∧ (w_22 12 1).toInt ≤ (w 12 1).toInt + 3 ∨ l4_22.toInt = 10 ∧ (w_22 12 1).toInt ≤ (w 12 1).toInt + 4 ∨ l4_22.toInt = 1 ∧ (w_22 12 1).toInt ≤ (w 12 1).toInt + 5 ∨ l4_22.toInt = 0 ∧ (w_22 12 1).toInt ≤ (w 12 1).toInt + 6) → (l4_22.toInt : Int) < (n_22 : Int) → kV p l e { frames := 1, cells := 0, slots := 0, locals := 36 } s m args below meth c (kQ below args s D τ ρ (fun o w' => o = none ∧ kI true w' ∧ kF [(12, some 1), (13, none)] w w' ∧ ((w' 12 1).toInt ≤ (w 12 1).toInt + 40))) 5 D τ ρ 22 [(0, .ref (ρ 12)), (1, .int l1_22), (2, .int l2_22), (3, .int l3_22), (4, .int l4_22)] [] w_22 := by
    intro n_22
    induction n_22 with
    | zero => intro w_22 l1_22 l2_22 l3_22 l4_22 I_22 F_22 k22_0 hmz; exfalso; omega
    | succ n_22 ih22 =>
      intro w_22 l1_22 l2_22 l3_22 l4_22 I_22 F_22 k22_0 hm22
      have gl1_22 := kf_rng l1_22
      have gl2_22 := kf_rng l2_22
      have gl3_22 := kf_rng l3_22
      have gl4_22 := kf_rng l4_22
      obtain ⟨x5, e6⟩ : ∃ z : Int32, w_22 12 1 = z := ⟨_, rfl⟩
      have b7 : (0 : Int) ≤ x5.toInt ∧ x5.toInt ≤ 2147483647 := by rw [← e6]; exact I_22 12 1
      rw [e2, e6] at k22_0
      have cut68 : ∀ (w_68 : kw) (l1_68 l2_68 l3_68 l4_68 : Int32), kI true w_68 → kF [(12, some 1), (13, none)] w w_68 → (l4_68.toInt = l4_22.toInt) → (l4_68.toInt = 10000 ∧ (w_68 12 1).toInt ≤ (w 12 1).toInt + 2 ∨ l4_68.toInt = 1000 ∧ (w_68 12 1).toInt ≤ (w 12 1).toInt + 3 ∨ l4_68.toInt = 100 ∧ (w_68 12 1).toInt ≤ (w 12 1).toInt + 4 ∨ l4_68.toInt = 10 ∧ (w_68 12 1).toInt ≤ (w 12 1).toInt + 5 ∨ l4_68.toInt = 1 ∧ (w_68 12 1).toInt ≤ (w 12 1).toInt + 6) → kV p l e { frames := 1, cells := 0, slots := 0, locals := 36 } s m args below meth c (kQ below args s D τ ρ (fun o w' => o = none ∧ kI true w' ∧ kF [(12, some 1), (13, none)] w w' ∧ ((w' 12 1).toInt ≤ (w 12 1).toInt + 40))) 5 D τ ρ 68 [(0, .ref (ρ 12)), (1, .int l1_68), (2, .int l2_68), (3, .int l3_68), (4, .int l4_68)] [] w_68 := by
        intro w_68 l1_68 l2_68 l3_68 l4_68 I_68 F_68 k68_0 k68_1
        have gl1_68 := kf_rng l1_68
        have gl2_68 := kf_rng l2_68
        have gl3_68 := kf_rng l3_68
        have gl4_68 := kf_rng l4_68
        obtain ⟨x8, e9⟩ : ∃ z : Int32, w_68 12 1 = z := ⟨_, rfl⟩
        have b10 : (0 : Int) ≤ x8.toInt ∧ x8.toInt ≤ 2147483647 := by rw [← e9]; exact I_68 12 1
        rw [e2, e9] at k68_1
        refine kv_iload C 70 rfl 4 (kdec dk_cX0_addNumber 38 rfl) rfl ?_
        refine kv_bipush C 72 rfl 10 (kdec dk_cX0_addNumber 39 rfl) rfl ?_
        refine kv_idiv C 73 rfl (kdec dk_cX0_addNumber 40 rfl) (by decide) (fun x11 h12e h12l h12u => ?_)
        have g13 := kf_div h12e (by omega) (by decide)
        rw [c_10] at g13
        refine kv_istore C 75 rfl 4 [1, 2, 3, 4, 0] [(0, .ref (ρ 12)), (1, .int l1_68), (2, .int l2_68), (3, .int l3_68), (4, .int x11)] (kdec dk_cX0_addNumber 41 rfl) (by decide) rfl ?_
        refine kv_goto C 22 (kdec dk_cX0_addNumber 42 rfl) (by decide) ?_
        exact ih22 w_68 l1_68 l2_68 l3_68 x11 I_68 F_68 (by rw [e2, e9]; try omega) (by omega)
      refine kv_iload C 24 rfl 4 (kdec dk_cX0_addNumber 12 rfl) rfl ?_
      refine kv_iconst C 25 rfl 1 (kdec dk_cX0_addNumber 13 rfl) rfl ?_
      refine kv_icmp_lt C 28 rfl 78 (kdec dk_cX0_addNumber 14 rfl) (by decide) (fun d14 => ?_) (fun d14 => ?_)
      · skip
        exact kv_vret C hr hlk (kdec dk_cX0_addNumber 43 rfl) ⟨rfl, I_22, F_22, (by rw [e2, e6]; try omega)⟩
      · skip
        refine kv_iload_n C 29 rfl 3 (kdec dk_cX0_addNumber 15 rfl) rfl rfl ?_
        refine kv_if_ne C 32 rfl 44 (kdec dk_cX0_addNumber 16 rfl) (by decide) (fun d15 => ?_) (fun d15 => ?_)
        · skip
          refine kv_iconst C 45 rfl 1 (kdec dk_cX0_addNumber 23 rfl) rfl ?_
          refine kv_goto C 49 (kdec dk_cX0_addNumber 24 rfl) (by decide) ?_
          refine kv_istore_n C 50 rfl 3 [1, 2, 3, 0, 4] [(0, .ref (ρ 12)), (1, .int l1_22), (2, .int l2_22), (3, .int 1), (4, .int l4_22)] (kdec dk_cX0_addNumber 26 rfl) rfl (by decide) rfl ?_
          refine kv_iload_n C 51 rfl 3 (kdec dk_cX0_addNumber 27 rfl) rfl rfl ?_
          refine kv_if_eq C 54 rfl 68 (kdec dk_cX0_addNumber 28 rfl) (by decide) (fun d16 => ?_) (fun d16 => ?_)
          · exfalso; omega
          · skip
            refine kv_aload_n C 55 rfl 0 (kdec dk_cX0_addNumber 29 rfl) rfl rfl ?_
            refine kv_bipush C 57 rfl 48 (kdec dk_cX0_addNumber 30 rfl) rfl ?_
            refine kv_iload_n C 58 rfl 2 (kdec dk_cX0_addNumber 31 rfl) rfl rfl ?_
            refine kv_iload C 60 rfl 4 (kdec dk_cX0_addNumber 32 rfl) rfl ?_
            refine kv_idiv C 61 rfl (kdec dk_cX0_addNumber 33 rfl) (fun h9 => by have := kc_eq_t0 h9; omega) (fun x17 h18e h18l h18u => ?_)
            refine kv_bipush C 63 rfl 10 (kdec dk_cX0_addNumber 34 rfl) rfl ?_
            refine kv_irem C 64 rfl (kdec dk_cX0_addNumber 35 rfl) (by decide) (fun x19 h20e h20l h20u => ?_)
            refine kv_iadd C 65 rfl (kdec dk_cX0_addNumber 36 rfl) (fun x21 q23 h22e h22 h22l h22u => ?_)
            try have h22n : x21.toInt = (48 : Int32).toInt + x19.toInt := by omega
            clear h22 q23
            refine kv_callVv (As := [.int x21]) (rest := []) C 68 rfl 12 (k_addO l D τ ρ σ w_22 x21 I_22 (by rw [e6]; try omega)) rfl rfl mml_TaleMachine_Codes_19 mim_yX0_add mse_yX0_add mcd_yX0_add min_yX0_add hd_yX0_add rfl rfl rfl (by decide) rfl (Nat.le_of_ble_eq_true rfl) (kdec dk_cX0_addNumber 37 rfl) (fun w24 h25 => ?_)
            obtain ⟨I26, f27, p29⟩ := h25
            have F30 : kF [(12, some 1), (13, none)] w w24 := kF_call F_22 f27 (by decide)
            obtain ⟨x31, e32⟩ : ∃ z : Int32, w24 12 1 = z := ⟨_, rfl⟩
            have b33 : (0 : Int) ≤ x31.toInt ∧ x31.toInt ≤ 2147483647 := by rw [← e32]; exact I26 12 1
            rw [e6, e32] at p29
            exact cut68 w24 l1_22 l2_22 1 l4_22 I26 F30 (by omega) (by rw [e2, e32]; try omega)
        · skip
          refine kv_iload_n C 33 rfl 2 (kdec dk_cX0_addNumber 17 rfl) rfl rfl ?_
          refine kv_iload C 35 rfl 4 (kdec dk_cX0_addNumber 18 rfl) rfl ?_
          refine kv_icmp_ge C 38 rfl 44 (kdec dk_cX0_addNumber 19 rfl) (by decide) (fun d34 => ?_) (fun d34 => ?_)
          · skip
            refine kv_iconst C 45 rfl 1 (kdec dk_cX0_addNumber 23 rfl) rfl ?_
            refine kv_goto C 49 (kdec dk_cX0_addNumber 24 rfl) (by decide) ?_
            refine kv_istore_n C 50 rfl 3 [1, 2, 3, 0, 4] [(0, .ref (ρ 12)), (1, .int l1_22), (2, .int l2_22), (3, .int 1), (4, .int l4_22)] (kdec dk_cX0_addNumber 26 rfl) rfl (by decide) rfl ?_
            refine kv_iload_n C 51 rfl 3 (kdec dk_cX0_addNumber 27 rfl) rfl rfl ?_
            refine kv_if_eq C 54 rfl 68 (kdec dk_cX0_addNumber 28 rfl) (by decide) (fun d35 => ?_) (fun d35 => ?_)
            · exfalso; omega
            · skip
              refine kv_aload_n C 55 rfl 0 (kdec dk_cX0_addNumber 29 rfl) rfl rfl ?_
              refine kv_bipush C 57 rfl 48 (kdec dk_cX0_addNumber 30 rfl) rfl ?_
              refine kv_iload_n C 58 rfl 2 (kdec dk_cX0_addNumber 31 rfl) rfl rfl ?_
              refine kv_iload C 60 rfl 4 (kdec dk_cX0_addNumber 32 rfl) rfl ?_
              refine kv_idiv C 61 rfl (kdec dk_cX0_addNumber 33 rfl) (fun h9 => by have := kc_eq_t0 h9; omega) (fun x36 h37e h37l h37u => ?_)
              refine kv_bipush C 63 rfl 10 (kdec dk_cX0_addNumber 34 rfl) rfl ?_
              refine kv_irem C 64 rfl (kdec dk_cX0_addNumber 35 rfl) (by decide) (fun x38 h39e h39l h39u => ?_)
              refine kv_iadd C 65 rfl (kdec dk_cX0_addNumber 36 rfl) (fun x40 q42 h41e h41 h41l h41u => ?_)
              try have h41n : x40.toInt = (48 : Int32).toInt + x38.toInt := by omega
              clear h41 q42
              refine kv_callVv (As := [.int x40]) (rest := []) C 68 rfl 12 (k_addO l D τ ρ σ w_22 x40 I_22 (by rw [e6]; try omega)) rfl rfl mml_TaleMachine_Codes_19 mim_yX0_add mse_yX0_add mcd_yX0_add min_yX0_add hd_yX0_add rfl rfl rfl (by decide) rfl (Nat.le_of_ble_eq_true rfl) (kdec dk_cX0_addNumber 37 rfl) (fun w43 h44 => ?_)
              obtain ⟨I45, f46, p48⟩ := h44
              have F49 : kF [(12, some 1), (13, none)] w w43 := kF_call F_22 f46 (by decide)
              obtain ⟨x50, e51⟩ : ∃ z : Int32, w43 12 1 = z := ⟨_, rfl⟩
              have b52 : (0 : Int) ≤ x50.toInt ∧ x50.toInt ≤ 2147483647 := by rw [← e51]; exact I45 12 1
              rw [e6, e51] at p48
              exact cut68 w43 l1_22 l2_22 1 l4_22 I45 F49 (by omega) (by rw [e2, e51]; try omega)
          · skip
            refine kv_iload C 40 rfl 4 (kdec dk_cX0_addNumber 20 rfl) rfl ?_
            refine kv_iconst C 41 rfl 1 (kdec dk_cX0_addNumber 21 rfl) rfl ?_
            refine kv_icmp_ne C 44 rfl 48 (kdec dk_cX0_addNumber 22 rfl) (by decide) (fun d53 => ?_) (fun d53 => ?_)
            · skip
              refine kv_iconst C 49 rfl 0 (kdec dk_cX0_addNumber 25 rfl) rfl ?_
              refine kv_istore_n C 50 rfl 3 [1, 2, 3, 0, 4] [(0, .ref (ρ 12)), (1, .int l1_22), (2, .int l2_22), (3, .int 0), (4, .int l4_22)] (kdec dk_cX0_addNumber 26 rfl) rfl (by decide) rfl ?_
              refine kv_iload_n C 51 rfl 3 (kdec dk_cX0_addNumber 27 rfl) rfl rfl ?_
              refine kv_if_eq C 54 rfl 68 (kdec dk_cX0_addNumber 28 rfl) (by decide) (fun d54 => ?_) (fun d54 => ?_)
              · skip
                exact cut68 w_22 l1_22 l2_22 0 l4_22 I_22 F_22 (by omega) (by rw [e2, e6]; try omega)
              · exfalso; omega
            · skip
              refine kv_iconst C 45 rfl 1 (kdec dk_cX0_addNumber 23 rfl) rfl ?_
              refine kv_goto C 49 (kdec dk_cX0_addNumber 24 rfl) (by decide) ?_
              refine kv_istore_n C 50 rfl 3 [1, 2, 3, 0, 4] [(0, .ref (ρ 12)), (1, .int l1_22), (2, .int l2_22), (3, .int 1), (4, .int l4_22)] (kdec dk_cX0_addNumber 26 rfl) rfl (by decide) rfl ?_
              refine kv_iload_n C 51 rfl 3 (kdec dk_cX0_addNumber 27 rfl) rfl rfl ?_
              refine kv_if_eq C 54 rfl 68 (kdec dk_cX0_addNumber 28 rfl) (by decide) (fun d55 => ?_) (fun d55 => ?_)
              · exfalso; omega
              · skip
                refine kv_aload_n C 55 rfl 0 (kdec dk_cX0_addNumber 29 rfl) rfl rfl ?_
                refine kv_bipush C 57 rfl 48 (kdec dk_cX0_addNumber 30 rfl) rfl ?_
                refine kv_iload_n C 58 rfl 2 (kdec dk_cX0_addNumber 31 rfl) rfl rfl ?_
                refine kv_iload C 60 rfl 4 (kdec dk_cX0_addNumber 32 rfl) rfl ?_
                refine kv_idiv C 61 rfl (kdec dk_cX0_addNumber 33 rfl) (fun h9 => by have := kc_eq_t0 h9; omega) (fun x56 h57e h57l h57u => ?_)
                refine kv_bipush C 63 rfl 10 (kdec dk_cX0_addNumber 34 rfl) rfl ?_
                refine kv_irem C 64 rfl (kdec dk_cX0_addNumber 35 rfl) (by decide) (fun x58 h59e h59l h59u => ?_)
                refine kv_iadd C 65 rfl (kdec dk_cX0_addNumber 36 rfl) (fun x60 q62 h61e h61 h61l h61u => ?_)
                try have h61n : x60.toInt = (48 : Int32).toInt + x58.toInt := by omega
                clear h61 q62
                refine kv_callVv (As := [.int x60]) (rest := []) C 68 rfl 12 (k_addO l D τ ρ σ w_22 x60 I_22 (by rw [e6]; try omega)) rfl rfl mml_TaleMachine_Codes_19 mim_yX0_add mse_yX0_add mcd_yX0_add min_yX0_add hd_yX0_add rfl rfl rfl (by decide) rfl (Nat.le_of_ble_eq_true rfl) (kdec dk_cX0_addNumber 37 rfl) (fun w63 h64 => ?_)
                obtain ⟨I65, f66, p68⟩ := h64
                have F69 : kF [(12, some 1), (13, none)] w w63 := kF_call F_22 f66 (by decide)
                obtain ⟨x70, e71⟩ : ∃ z : Int32, w63 12 1 = z := ⟨_, rfl⟩
                have b72 : (0 : Int) ≤ x70.toInt ∧ x70.toInt ≤ 2147483647 := by rw [← e71]; exact I65 12 1
                rw [e6, e71] at p68
                exact cut68 w63 l1_22 l2_22 1 l4_22 I65 F69 (by omega) (by rw [e2, e71]; try omega)
  have cut10 : ∀ (w_10 : kw) (l1_10 : Int32), kI true w_10 → kF [(12, some 1), (13, none)] w w_10 → ((w_10 12 1).toInt ≤ (w 12 1).toInt + 1) → kV p l e { frames := 1, cells := 0, slots := 0, locals := 36 } s m args below meth c (kQ below args s D τ ρ (fun o w' => o = none ∧ kI true w' ∧ kF [(12, some 1), (13, none)] w w' ∧ ((w' 12 1).toInt ≤ (w 12 1).toInt + 40))) 5 D τ ρ 10 [(0, .ref (ρ 12)), (1, .int l1_10)] [] w_10 := by
    intro w_10 l1_10 I_10 F_10 k10_0
    have gl1_10 := kf_rng l1_10
    obtain ⟨x73, e74⟩ : ∃ z : Int32, w_10 12 1 = z := ⟨_, rfl⟩
    have b75 : (0 : Int) ≤ x73.toInt ∧ x73.toInt ≤ 2147483647 := by rw [← e74]; exact I_10 12 1
    rw [e2, e74] at k10_0
    refine kv_iload_n C 11 rfl 1 (kdec dk_cX0_addNumber 5 rfl) rfl rfl ?_
    refine kv_abs C 14 rfl mml_TaleMachine_Codes_23 jm_abs_s jm_init jm_abs_c (by decide) (Nat.le_of_ble_eq_true rfl) (kdec dk_cX0_addNumber 6 rfl) (fun x76 => ?_)
    have g78 := kf_rng x76
    refine kv_istore_n C 15 rfl 2 [1, 2, 0] [(0, .ref (ρ 12)), (1, .int l1_10), (2, .int x76)] (kdec dk_cX0_addNumber 7 rfl) rfl (by decide) rfl ?_
    refine kv_iconst C 16 rfl 0 (kdec dk_cX0_addNumber 8 rfl) rfl ?_
    refine kv_istore_n C 17 rfl 3 [1, 2, 3, 0] [(0, .ref (ρ 12)), (1, .int l1_10), (2, .int x76), (3, .int 0)] (kdec dk_cX0_addNumber 9 rfl) rfl (by decide) rfl ?_
    refine kv_sipush C 20 rfl 10000 (kdec dk_cX0_addNumber 10 rfl) rfl ?_
    refine kv_istore C 22 rfl 4 [1, 2, 3, 4, 0] [(0, .ref (ρ 12)), (1, .int l1_10), (2, .int x76), (3, .int 0), (4, .int 10000)] (kdec dk_cX0_addNumber 11 rfl) (by decide) rfl ?_
    exact cut22 ((((10000 : Int32).toInt) : Int).toNat + 1) w_10 l1_10 x76 0 10000 I_10 F_10 (by rw [e2, e74]; try omega) (by omega)
  refine kv_iload_n C 1 rfl 1 (kdec dk_cX0_addNumber 0 rfl) rfl rfl ?_
  refine kv_if_ge C 4 rfl 10 (kdec dk_cX0_addNumber 1 rfl) (by decide) (fun d79 => ?_) (fun d79 => ?_)
  · skip
    exact cut10 w a1 hI hF0 (by rw [e2]; try omega)
  · skip
    refine kv_aload_n C 5 rfl 0 (kdec dk_cX0_addNumber 2 rfl) rfl rfl ?_
    refine kv_bipush C 7 rfl 45 (kdec dk_cX0_addNumber 3 rfl) rfl ?_
    refine kv_callVv (As := [.int 45]) (rest := []) C 10 rfl 12 (k_addO l D τ ρ σ w 45 hI (by rw [e2]; try omega)) rfl rfl mml_TaleMachine_Codes_19 mim_yX0_add mse_yX0_add mcd_yX0_add min_yX0_add hd_yX0_add rfl rfl rfl (by decide) rfl (Nat.le_of_ble_eq_true rfl) (kdec dk_cX0_addNumber 4 rfl) (fun w80 h81 => ?_)
    obtain ⟨I82, f83, p85⟩ := h81
    have F86 : kF [(12, some 1), (13, none)] w w80 := kF_call hF0 f83 (by decide)
    obtain ⟨x87, e88⟩ : ∃ z : Int32, w80 12 1 = z := ⟨_, rfl⟩
    have b89 : (0 : Int) ≤ x87.toInt ∧ x87.toInt ≤ 2147483647 := by rw [← e88]; exact I82 12 1
    rw [e2, e88] at p85
    exact cut10 w80 a1 I82 F86 (by rw [e2, e88]; try omega)
