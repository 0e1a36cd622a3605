set_option maxHeartbeats 4000000 in
set_option maxRecDepth 100000 in
theorem k_x_tells (l : Launch) (D : va_G) (τ : Nat → ClassId) (ρ σ : Nat → Nat) (w : kw) (a1 : Int32) (hI : kI false w) (hp0 : (w 61 31).toInt ≤ 2147483000 ∧ (w 61 29).toInt ≤ 2147483000) :
    kM l D τ ρ σ yX10_tells cX10_tells 3 none { frames := 1, cells := 0, slots := 0, locals := 36 } [.ref (ρ 61), .int a1] w
      (fun o w' => o = none ∧ kI false w' ∧ kF [(61, some 29), (61, some 31), (72, none), (73, none)] w w' ∧ ((w' 61 31).toInt ≤ (w 61 31).toInt + 1 ∧ (w' 61 29).toInt ≤ (w 61 29).toInt + 1) ∧ (¬ a1.toInt = 0 ∨ (w' 61 31).toInt = (w 61 31).toInt ∧ (w' 61 29).toInt = (w 61 29).toInt)) := by
  refine kM_of (own := "TaleMachineModel") rfl (by decide) (Nat.le_of_ble_eq_true rfl) ?_
  intro p e s m args below meth c C hr hlk
  have hF0 : kF [(61, some 29), (61, some 31), (72, none), (73, none)] w w := kF.rf
  have c_1 : (1 : Int32).toInt = 1 := by decide
  have c_13 : (13 : Int32).toInt = 13 := by decide
  have c_63 : (63 : Int32).toInt = 63 := by decide
  have c_200 : (200 : Int32).toInt = 200 := by decide
  have c_300 : (300 : Int32).toInt = 300 := by decide
  refine kV.L (L' := [(0, .ref (ρ 61)), (1, .int a1)]) rfl ?_
  obtain ⟨x1, e2⟩ : ∃ z : Int32, w 61 31 = z := ⟨_, rfl⟩
  have b3 : (0 : Int) ≤ x1.toInt ∧ x1.toInt ≤ 2147483647 := by rw [← e2]; exact hI 61 31
  obtain ⟨x4, e5⟩ : ∃ z : Int32, w 61 29 = z := ⟨_, rfl⟩
  have b6 : (0 : Int) ≤ x4.toInt ∧ x4.toInt ≤ 2147483647 := by rw [← e5]; exact hI 61 29
  rw [e2, e5] at hp0
  have g7 := kf_rng a1
  have cut31 : ∀ (w_31 : kw) (s0_31 : Int32), kI false w_31 → kF [(61, some 29), (61, some 31), (72, none), (73, none)] w w_31 → (¬ a1.toInt = 0) → ((w_31 61 31).toInt = (w 61 31).toInt ∧ (w_31 61 29).toInt = (w 61 29).toInt) → kV p l e { frames := 1, cells := 0, slots := 0, locals := 36 } s m args below meth c (kQ below args s D τ ρ (fun o w' => o = none ∧ kI false w' ∧ kF [(61, some 29), (61, some 31), (72, none), (73, none)] w w' ∧ ((w' 61 31).toInt ≤ (w 61 31).toInt + 1 ∧ (w' 61 29).toInt ≤ (w 61 29).toInt + 1) ∧ (¬ a1.toInt = 0 ∨ (w' 61 31).toInt = (w 61 31).toInt ∧ (w' 61 29).toInt = (w 61 29).toInt))) 3 D τ ρ 31 [(0, .ref (ρ 61))] [.int s0_31] w_31 := by
    intro w_31 s0_31 I_31 F_31 k31_0 k31_1
    have gs0_31 := kf_rng s0_31
    obtain ⟨x8, e9⟩ : ∃ z : Int32, w_31 61 31 = z := ⟨_, rfl⟩
    have b10 : (0 : Int) ≤ x8.toInt ∧ x8.toInt ≤ 2147483647 := by rw [← e9]; exact I_31 61 31
    obtain ⟨x11, e12⟩ : ∃ z : Int32, w_31 61 29 = z := ⟨_, rfl⟩
    have b13 : (0 : Int) ≤ x11.toInt ∧ x11.toInt ≤ 2147483647 := by rw [← e12]; exact I_31 61 29
    rw [e2, e5, e9, e12] at k31_1
    refine kv_istore_n C 32 rfl 2 [1, 0] [(0, .ref (ρ 61)), (2, .int s0_31)] (kdec dk_cX10_tells 15 rfl) rfl (by decide) rfl ?_
    refine kv_aload_n C 33 rfl 0 (kdec dk_cX10_tells 16 rfl) rfl rfl ?_
    obtain ⟨x14, e15⟩ : ∃ z : Int32, w 61 28 = z := ⟨_, rfl⟩
    have b16 : (0 : Int) ≤ x14.toInt ∧ x14.toInt ≤ 1 := by rw [← e15]; exact hI 61 28
    have e17 : w_31 61 28 = x14 := ((F_31 61 28 rfl : w_31 61 28 = w 61 28).trans e15)
    refine kv_get C 36 rfl 61 28 rfl rfl inX10 (by decide) mfl_TaleMachineModel_244 rfl rfl (kdec dk_cX10_tells 17 rfl) e17 ?_
    refine kv_if_eq C 39 rfl 72 (kdec dk_cX10_tells 18 rfl) (by decide) (fun d18 => ?_) (fun d18 => ?_)
    · skip
      refine kv_aload_n C 73 rfl 0 (kdec dk_cX10_tells 36 rfl) rfl rfl ?_
      refine kv_get C 76 rfl 61 31 rfl rfl inX10 (by decide) mfl_TaleMachineModel_157 rfl rfl (kdec dk_cX10_tells 37 rfl) e9 ?_
      refine kv_sipush C 79 rfl 300 (kdec dk_cX10_tells 38 rfl) rfl ?_
      refine kv_icmp_ge C 82 rfl 92 (kdec dk_cX10_tells 39 rfl) (by decide) (fun d19 => ?_) (fun d19 => ?_)
      · skip
        refine kv_aload_n C 93 rfl 0 (kdec dk_cX10_tells 46 rfl) rfl rfl ?_
        refine kv_dup C 94 rfl (kdec dk_cX10_tells 47 rfl) rfl ?_
        refine kv_get C 97 rfl 61 31 rfl rfl inX10 (by decide) mfl_TaleMachineModel_157 rfl rfl (kdec dk_cX10_tells 48 rfl) e9 ?_
        refine kv_iconst C 98 rfl 1 (kdec dk_cX10_tells 49 rfl) rfl ?_
        refine kv_iadd C 99 rfl (kdec dk_cX10_tells 50 rfl) (fun x20 q22 h21e h21 h21l h21u => ?_)
        try have h21n : x20.toInt = x8.toInt + (1 : Int32).toInt := by omega
        clear h21 q22
        refine kv_put C 102 rfl 61 31 rfl rfl inX10 (by decide) mfl_TaleMachineModel_157 rfl tyX10 tyX10_ok nmX10 rfl rfl (kdec dk_cX10_tells 51 rfl) rfl rfl (fun w23 u24 => ?_)
        have I25 : kI false w23 := kI_put u24 I_31 (show (0 : Int) ≤ (x20 : Int32).toInt by omega) (show (x20 : Int32).toInt ≤ 2147483647 by omega)
        have F26 : kF [(61, some 29), (61, some 31), (72, none), (73, none)] w w23 := kF_put u24 F_31 rfl
        have e27 : w23 61 29 = x11 := ((kup_ne u24 rfl : w23 61 29 = w_31 61 29).trans e12)
        exact kv_vret C hr hlk (kdec dk_cX10_tells 52 rfl) ⟨rfl, I25, F26, (by rw [e2, e5, (kup_eq u24), e27]; try omega), (by rw [e2, e5, (kup_eq u24), e27]; try omega)⟩
      · skip
        refine kv_aload_n C 83 rfl 0 (kdec dk_cX10_tells 40 rfl) rfl rfl ?_
        refine kv_getr C 86 rfl 61 32 rfl rfl inX10 (by decide) mfl_TaleMachineModel_43 rfl rfl (kdec dk_cX10_tells 41 rfl) ?_
        refine kv_aload_n C 87 rfl 0 (kdec dk_cX10_tells 42 rfl) rfl rfl ?_
        refine kv_get C 90 rfl 61 31 rfl rfl inX10 (by decide) mfl_TaleMachineModel_157 rfl rfl (kdec dk_cX10_tells 43 rfl) e9 ?_
        refine kv_iload_n C 91 rfl 1 (kdec dk_cX10_tells 44 rfl) rfl rfl ?_
        refine kv_iast C 92 rfl 73 rfl (by omega) (by omega) (kdec dk_cX10_tells 45 rfl) (fun w28 u29 => ?_)
        have I30 : kI false w28 := kI_put u29 I_31 (kf_rng _).1 (kf_rng _).2
        have F31 : kF [(61, some 29), (61, some 31), (72, none), (73, none)] w w28 := kF_put u29 F_31 rfl
        refine kv_aload_n C 93 rfl 0 (kdec dk_cX10_tells 46 rfl) rfl rfl ?_
        refine kv_dup C 94 rfl (kdec dk_cX10_tells 47 rfl) rfl ?_
        have e32 : w28 61 31 = x8 := ((kup_ne u29 rfl : w28 61 31 = w_31 61 31).trans e9)
        refine kv_get C 97 rfl 61 31 rfl rfl inX10 (by decide) mfl_TaleMachineModel_157 rfl rfl (kdec dk_cX10_tells 48 rfl) e32 ?_
        refine kv_iconst C 98 rfl 1 (kdec dk_cX10_tells 49 rfl) rfl ?_
        refine kv_iadd C 99 rfl (kdec dk_cX10_tells 50 rfl) (fun x33 q35 h34e h34 h34l h34u => ?_)
        try have h34n : x33.toInt = x8.toInt + (1 : Int32).toInt := by omega
        clear h34 q35
        refine kv_put C 102 rfl 61 31 rfl rfl inX10 (by decide) mfl_TaleMachineModel_157 rfl tyX10 tyX10_ok nmX10 rfl rfl (kdec dk_cX10_tells 51 rfl) rfl rfl (fun w36 u37 => ?_)
        have I38 : kI false w36 := kI_put u37 I30 (show (0 : Int) ≤ (x33 : Int32).toInt by omega) (show (x33 : Int32).toInt ≤ 2147483647 by omega)
        have F39 : kF [(61, some 29), (61, some 31), (72, none), (73, none)] w w36 := kF_put u37 F31 rfl
        have e40 : w36 61 29 = x11 := ((kup_ne u37 rfl : w36 61 29 = w28 61 29).trans ((kup_ne u29 rfl : w28 61 29 = w_31 61 29).trans e12))
        exact kv_vret C hr hlk (kdec dk_cX10_tells 52 rfl) ⟨rfl, I38, F39, (by rw [e2, e5, (kup_eq u37), e40]; try omega), (by rw [e2, e5, (kup_eq u37), e40]; try omega)⟩
    · skip
      refine kv_aload_n C 40 rfl 0 (kdec dk_cX10_tells 19 rfl) rfl rfl ?_
      refine kv_get C 43 rfl 61 29 rfl rfl inX10 (by decide) mfl_TaleMachineModel_247 rfl rfl (kdec dk_cX10_tells 20 rfl) e12 ?_
      refine kv_sipush C 46 rfl 200 (kdec dk_cX10_tells 21 rfl) rfl ?_
      refine kv_icmp_ge C 49 rfl 59 (kdec dk_cX10_tells 22 rfl) (by decide) (fun d41 => ?_) (fun d41 => ?_)
      · skip
        refine kv_aload_n C 60 rfl 0 (kdec dk_cX10_tells 29 rfl) rfl rfl ?_
        refine kv_dup C 61 rfl (kdec dk_cX10_tells 30 rfl) rfl ?_
        refine kv_get C 64 rfl 61 29 rfl rfl inX10 (by decide) mfl_TaleMachineModel_247 rfl rfl (kdec dk_cX10_tells 31 rfl) e12 ?_
        refine kv_iconst C 65 rfl 1 (kdec dk_cX10_tells 32 rfl) rfl ?_
        refine kv_iadd C 66 rfl (kdec dk_cX10_tells 33 rfl) (fun x42 q44 h43e h43 h43l h43u => ?_)
        try have h43n : x42.toInt = x11.toInt + (1 : Int32).toInt := by omega
        clear h43 q44
        refine kv_put C 69 rfl 61 29 rfl rfl inX10 (by decide) mfl_TaleMachineModel_247 rfl tyX10 tyX10_ok nmX10 rfl rfl (kdec dk_cX10_tells 34 rfl) rfl rfl (fun w45 u46 => ?_)
        have I47 : kI false w45 := kI_put u46 I_31 (show (0 : Int) ≤ (x42 : Int32).toInt by omega) (show (x42 : Int32).toInt ≤ 2147483647 by omega)
        have F48 : kF [(61, some 29), (61, some 31), (72, none), (73, none)] w w45 := kF_put u46 F_31 rfl
        refine kv_goto C 102 (kdec dk_cX10_tells 35 rfl) (by decide) ?_
        have e49 : w45 61 31 = x8 := ((kup_ne u46 rfl : w45 61 31 = w_31 61 31).trans e9)
        exact kv_vret C hr hlk (kdec dk_cX10_tells 52 rfl) ⟨rfl, I47, F48, (by rw [e2, e5, e49, (kup_eq u46)]; try omega), (by rw [e2, e5, e49, (kup_eq u46)]; try omega)⟩
      · skip
        refine kv_aload_n C 50 rfl 0 (kdec dk_cX10_tells 23 rfl) rfl rfl ?_
        refine kv_getr C 53 rfl 61 30 rfl rfl inX10 (by decide) mfl_TaleMachineModel_40 rfl rfl (kdec dk_cX10_tells 24 rfl) ?_
        refine kv_aload_n C 54 rfl 0 (kdec dk_cX10_tells 25 rfl) rfl rfl ?_
        refine kv_get C 57 rfl 61 29 rfl rfl inX10 (by decide) mfl_TaleMachineModel_247 rfl rfl (kdec dk_cX10_tells 26 rfl) e12 ?_
        refine kv_iload_n C 58 rfl 1 (kdec dk_cX10_tells 27 rfl) rfl rfl ?_
        refine kv_iast C 59 rfl 72 rfl (by omega) (by omega) (kdec dk_cX10_tells 28 rfl) (fun w50 u51 => ?_)
        have I52 : kI false w50 := kI_put u51 I_31 (kf_rng _).1 (kf_rng _).2
        have F53 : kF [(61, some 29), (61, some 31), (72, none), (73, none)] w w50 := kF_put u51 F_31 rfl
        refine kv_aload_n C 60 rfl 0 (kdec dk_cX10_tells 29 rfl) rfl rfl ?_
        refine kv_dup C 61 rfl (kdec dk_cX10_tells 30 rfl) rfl ?_
        have e54 : w50 61 29 = x11 := ((kup_ne u51 rfl : w50 61 29 = w_31 61 29).trans e12)
        refine kv_get C 64 rfl 61 29 rfl rfl inX10 (by decide) mfl_TaleMachineModel_247 rfl rfl (kdec dk_cX10_tells 31 rfl) e54 ?_
        refine kv_iconst C 65 rfl 1 (kdec dk_cX10_tells 32 rfl) rfl ?_
        refine kv_iadd C 66 rfl (kdec dk_cX10_tells 33 rfl) (fun x55 q57 h56e h56 h56l h56u => ?_)
        try have h56n : x55.toInt = x11.toInt + (1 : Int32).toInt := by omega
        clear h56 q57
        refine kv_put C 69 rfl 61 29 rfl rfl inX10 (by decide) mfl_TaleMachineModel_247 rfl tyX10 tyX10_ok nmX10 rfl rfl (kdec dk_cX10_tells 34 rfl) rfl rfl (fun w58 u59 => ?_)
        have I60 : kI false w58 := kI_put u59 I52 (show (0 : Int) ≤ (x55 : Int32).toInt by omega) (show (x55 : Int32).toInt ≤ 2147483647 by omega)
        have F61 : kF [(61, some 29), (61, some 31), (72, none), (73, none)] w w58 := kF_put u59 F53 rfl
        refine kv_goto C 102 (kdec dk_cX10_tells 35 rfl) (by decide) ?_
        have e62 : w58 61 31 = x8 := ((kup_ne u59 rfl : w58 61 31 = w50 61 31).trans ((kup_ne u51 rfl : w50 61 31 = w_31 61 31).trans e9))
        exact kv_vret C hr hlk (kdec dk_cX10_tells 52 rfl) ⟨rfl, I60, F61, (by rw [e2, e5, e62, (kup_eq u59)]; try omega), (by rw [e2, e5, e62, (kup_eq u59)]; try omega)⟩
  refine kv_iload_n C 1 rfl 1 (kdec dk_cX10_tells 0 rfl) rfl rfl ?_
  refine kv_if_ne C 4 rfl 5 (kdec dk_cX10_tells 1 rfl) (by decide) (fun d63 => ?_) (fun d63 => ?_)
  · skip
    refine kv_iload_n C 6 rfl 1 (kdec dk_cX10_tells 3 rfl) rfl rfl ?_
    refine kv_bipush C 8 rfl 13 (kdec dk_cX10_tells 4 rfl) rfl ?_
    refine kv_icmp_eq C 11 rfl 25 (kdec dk_cX10_tells 5 rfl) (by decide) (fun d64 => ?_) (fun d64 => ?_)
    · skip
      refine kv_iload_n C 26 rfl 1 (kdec dk_cX10_tells 12 rfl) rfl rfl ?_
      refine kv_goto C 31 (kdec dk_cX10_tells 13 rfl) (by decide) ?_
      refine kV.sub [0] (L' := [(0, .ref (ρ 61))]) rfl ?_
      exact cut31 w a1 hI hF0 (by omega) (by rw [e2, e5]; try omega)
    · skip
      refine kv_iload_n C 12 rfl 1 (kdec dk_cX10_tells 6 rfl) rfl rfl ?_
      refine kv_i2l C 13 rfl (kdec dk_cX10_tells 7 rfl) ?_
      have h65 := kf_i2l a1
      refine kv_ldc2 C 16 rfl 32 (kdec dk_cX10_tells 8 rfl) mcl_TaleMachineModel_240 ?_
      have h66 : (32 : Int64).toInt = 32 := by decide
      refine kv_ldc2 C 19 rfl 126 (kdec dk_cX10_tells 9 rfl) mcl_TaleMachineModel_242 ?_
      have h67 : (126 : Int64).toInt = 126 := by decide
      refine kv_callSi (As := [.long (a1 : Int32).toInt64, .long (32 : Int64), .long (126 : Int64)]) (rest := []) C 22 rfl (k_x_in l D τ ρ σ w (a1 : Int32).toInt64 (32 : Int64) (126 : Int64) hI ) mml_TaleMachineModel_94 mst_yX10_in mcd_yX10_in min_yX10_in hd_yX10_in rfl rfl rfl (by decide) rfl (Nat.le_of_ble_eq_true rfl) (kdec dk_cX10_tells 10 rfl) (fun x72 w68 h69 => ?_)
      obtain ⟨I70, f71, p73, p74⟩ := h69
      have F75 : kF [(61, some 29), (61, some 31), (72, none), (73, none)] w w68 := kF_call hF0 f71 (by decide)
      have g76 := kf_rng x72
      refine kv_if_eq C 25 rfl 29 (kdec dk_cX10_tells 11 rfl) (by decide) (fun d77 => ?_) (fun d77 => ?_)
      · skip
        refine kv_bipush C 31 rfl 63 (kdec dk_cX10_tells 14 rfl) rfl ?_
        have e78 : w68 61 31 = x1 := ((f71 61 31 rfl : w68 61 31 = w 61 31).trans e2)
        have e79 : w68 61 29 = x4 := ((f71 61 29 rfl : w68 61 29 = w 61 29).trans e5)
        refine kV.sub [0] (L' := [(0, .ref (ρ 61))]) rfl ?_
        exact cut31 w68 63 I70 F75 (by omega) (by rw [e2, e5, e78, e79]; try omega)
      · skip
        refine kv_iload_n C 26 rfl 1 (kdec dk_cX10_tells 12 rfl) rfl rfl ?_
        refine kv_goto C 31 (kdec dk_cX10_tells 13 rfl) (by decide) ?_
        have e80 : w68 61 31 = x1 := ((f71 61 31 rfl : w68 61 31 = w 61 31).trans e2)
        have e81 : w68 61 29 = x4 := ((f71 61 29 rfl : w68 61 29 = w 61 29).trans e5)
        refine kV.sub [0] (L' := [(0, .ref (ρ 61))]) rfl ?_
        exact cut31 w68 a1 I70 F75 (by omega) (by rw [e2, e5, e80, e81]; try omega)
  · skip
    exact kv_vret C hr hlk (kdec dk_cX10_tells 2 rfl) ⟨rfl, hI, hF0, (by rw [e2, e5]; try omega), (by rw [e2, e5]; try omega)⟩

set_option maxHeartbeats 4000000 in
set_option maxRecDepth 100000 in
theorem k_x_tellsOf (l : Launch) (D : va_G) (τ : Nat → ClassId) (ρ σ : Nat → Nat) (w : kw) (a1 : Int32) (hI : kI false w) (hp0 : 0 ≤ a1.toInt) (hp1 : (w 61 31).toInt ≤ 2147483000 ∧ (w 61 29).toInt ≤ 2147483000) :
    kM l D τ ρ σ yX10_tellsOf cX10_tellsOf 2 none { frames := 2, cells := 0, slots := 0, locals := 72 } [.ref (ρ 61), .int a1] w
      (fun o w' => o = none ∧ kI false w' ∧ kF [(61, some 13), (61, some 29), (61, some 31), (61, some 43), (72, none), (73, none)] w w' ∧ ((w 61 43).toInt ≤ (w' 61 43).toInt ∧ (w' 61 31).toInt + (w 61 43).toInt ≤ (w 61 31).toInt + (w' 61 43).toInt ∧ (w' 61 29).toInt + (w 61 43).toInt ≤ (w 61 29).toInt + (w' 61 43).toInt) ∧ ((w 61 13).toInt = 0 ∨ ¬ (w' 61 13).toInt = 0)) := by
  refine kM_of (own := "TaleMachineModel") rfl (by decide) (Nat.le_of_ble_eq_true rfl) ?_
  intro p e s m args below meth c C hr hlk
  have hF0 : kF [(61, some 13), (61, some 29), (61, some 31), (61, some 43), (72, none), (73, none)] w w := kF.rf
  have c_0 : (0 : Int32).toInt = 0 := by decide
  have c_1 : (1 : Int32).toInt = 1 := by decide
  have c_13 : (13 : Int32).toInt = 13 := by decide
  have c_500 : (500 : Int32).toInt = 500 := by decide
  refine kV.L (L' := [(0, .ref (ρ 61)), (1, .int a1)]) rfl ?_
  obtain ⟨x1, e2⟩ : ∃ z : Int32, w 61 31 = z := ⟨_, rfl⟩
  have b3 : (0 : Int) ≤ x1.toInt ∧ x1.toInt ≤ 2147483647 := by rw [← e2]; exact hI 61 31
  obtain ⟨x4, e5⟩ : ∃ z : Int32, w 61 29 = z := ⟨_, rfl⟩
  have b6 : (0 : Int) ≤ x4.toInt ∧ x4.toInt ≤ 2147483647 := by rw [← e5]; exact hI 61 29
  rw [e2, e5] at hp1
  have g7 := kf_rng a1
  refine kv_iload_n C 1 rfl 1 (kdec dk_cX10_tellsOf 0 rfl) rfl rfl ?_
  refine kv_if_le C 4 rfl 23 (kdec dk_cX10_tellsOf 1 rfl) (by decide) (fun d8 => ?_) (fun d8 => ?_)
  · skip
    refine kv_aload_n C 24 rfl 0 (kdec dk_cX10_tellsOf 10 rfl) rfl rfl ?_
    refine kv_dup C 25 rfl (kdec dk_cX10_tellsOf 11 rfl) rfl ?_
    obtain ⟨x9, e10⟩ : ∃ z : Int32, w 61 43 = z := ⟨_, rfl⟩
    have b11 : (0 : Int) ≤ x9.toInt ∧ x9.toInt ≤ 500 := by rw [← e10]; exact hI 61 43
    refine kv_get C 28 rfl 61 43 rfl rfl inX10 (by decide) mfl_TaleMachineModel_250 rfl rfl (kdec dk_cX10_tellsOf 12 rfl) e10 ?_
    refine kv_iload_n C 29 rfl 1 (kdec dk_cX10_tellsOf 13 rfl) rfl rfl ?_
    refine kv_if_le C 32 rfl 36 (kdec dk_cX10_tellsOf 14 rfl) (by decide) (fun d12 => ?_) (fun d12 => ?_)
    · skip
      refine kv_iconst C 37 rfl 0 (kdec dk_cX10_tellsOf 17 rfl) rfl ?_
      refine kv_iadd C 38 rfl (kdec dk_cX10_tellsOf 18 rfl) (fun x13 q15 h14e h14 h14l h14u => ?_)
      try have h14n : x13.toInt = x9.toInt + (0 : Int32).toInt := by omega
      clear h14 q15
      refine kv_put C 41 rfl 61 43 rfl rfl inX10 (by decide) mfl_TaleMachineModel_250 rfl tyX10 tyX10_ok nmX10 rfl rfl (kdec dk_cX10_tellsOf 19 rfl) rfl rfl (fun w16 u17 => ?_)
      have I18 : kI false w16 := kI_put u17 hI (show (0 : Int) ≤ (x13 : Int32).toInt by omega) (show (x13 : Int32).toInt ≤ 500 by omega)
      have F19 : kF [(61, some 13), (61, some 29), (61, some 31), (61, some 43), (72, none), (73, none)] w w16 := kF_put u17 hF0 rfl
      refine kv_aload_n C 42 rfl 0 (kdec dk_cX10_tellsOf 20 rfl) rfl rfl ?_
      refine kv_iload_n C 43 rfl 1 (kdec dk_cX10_tellsOf 21 rfl) rfl rfl ?_
      have e20 : w16 61 31 = x1 := ((kup_ne u17 rfl : w16 61 31 = w 61 31).trans e2)
      have e21 : w16 61 29 = x4 := ((kup_ne u17 rfl : w16 61 29 = w 61 29).trans e5)
      refine kv_callVv (As := [.int a1]) (rest := []) C 46 rfl 61 (k_x_tells l D τ ρ σ w16 a1 I18 (by rw [e20, e21]; try omega)) rfl rfl mml_TaleMachineModel_253 mim_yX10_tells mse_yX10_tells mcd_yX10_tells min_yX10_tells hd_yX10_tells rfl rfl rfl (by decide) rfl (Nat.le_of_ble_eq_true rfl) (kdec dk_cX10_tellsOf 22 rfl) (fun w22 h23 => ?_)
      obtain ⟨I24, f25, p27, p28⟩ := h23
      have F29 : kF [(61, some 13), (61, some 29), (61, some 31), (61, some 43), (72, none), (73, none)] w w22 := kF_call F19 f25 (by decide)
      obtain ⟨x30, e31⟩ : ∃ z : Int32, w22 61 31 = z := ⟨_, rfl⟩
      have b32 : (0 : Int) ≤ x30.toInt ∧ x30.toInt ≤ 2147483647 := by rw [← e31]; exact I24 61 31
      obtain ⟨x33, e34⟩ : ∃ z : Int32, w22 61 29 = z := ⟨_, rfl⟩
      have b35 : (0 : Int) ≤ x33.toInt ∧ x33.toInt ≤ 2147483647 := by rw [← e34]; exact I24 61 29
      rw [e20, e21, e31, e34] at p27
      rw [e20, e21, e31, e34] at p28
      have e36 : w22 61 43 = x13 := ((f25 61 43 rfl : w22 61 43 = w16 61 43).trans (kup_eq u17))
      obtain ⟨x37, e38⟩ : ∃ z : Int32, w 61 13 = z := ⟨_, rfl⟩
      have b39 : (0 : Int) ≤ x37.toInt ∧ x37.toInt ≤ 13 := by rw [← e38]; exact hI 61 13
      have e40 : w22 61 13 = x37 := ((f25 61 13 rfl : w22 61 13 = w16 61 13).trans ((kup_ne u17 rfl : w16 61 13 = w 61 13).trans e38))
      exact kv_vret C hr hlk (kdec dk_cX10_tellsOf 23 rfl) ⟨rfl, I24, F29, (by rw [e10, e2, e5, e36, e31, e34]; try omega), (by rw [e38, e40]; try omega)⟩
    · skip
      refine kv_iconst C 33 rfl 1 (kdec dk_cX10_tellsOf 15 rfl) rfl ?_
      refine kv_goto C 37 (kdec dk_cX10_tellsOf 16 rfl) (by decide) ?_
      refine kv_iadd C 38 rfl (kdec dk_cX10_tellsOf 18 rfl) (fun x41 q43 h42e h42 h42l h42u => ?_)
      try have h42n : x41.toInt = x9.toInt + (1 : Int32).toInt := by omega
      clear h42 q43
      refine kv_put C 41 rfl 61 43 rfl rfl inX10 (by decide) mfl_TaleMachineModel_250 rfl tyX10 tyX10_ok nmX10 rfl rfl (kdec dk_cX10_tellsOf 19 rfl) rfl rfl (fun w44 u45 => ?_)
      have I46 : kI false w44 := kI_put u45 hI (show (0 : Int) ≤ (x41 : Int32).toInt by omega) (show (x41 : Int32).toInt ≤ 500 by omega)
      have F47 : kF [(61, some 13), (61, some 29), (61, some 31), (61, some 43), (72, none), (73, none)] w w44 := kF_put u45 hF0 rfl
      refine kv_aload_n C 42 rfl 0 (kdec dk_cX10_tellsOf 20 rfl) rfl rfl ?_
      refine kv_iload_n C 43 rfl 1 (kdec dk_cX10_tellsOf 21 rfl) rfl rfl ?_
      have e48 : w44 61 31 = x1 := ((kup_ne u45 rfl : w44 61 31 = w 61 31).trans e2)
      have e49 : w44 61 29 = x4 := ((kup_ne u45 rfl : w44 61 29 = w 61 29).trans e5)
      refine kv_callVv (As := [.int a1]) (rest := []) C 46 rfl 61 (k_x_tells l D τ ρ σ w44 a1 I46 (by rw [e48, e49]; try omega)) rfl rfl mml_TaleMachineModel_253 mim_yX10_tells mse_yX10_tells mcd_yX10_tells min_yX10_tells hd_yX10_tells rfl rfl rfl (by decide) rfl (Nat.le_of_ble_eq_true rfl) (kdec dk_cX10_tellsOf 22 rfl) (fun w50 h51 => ?_)
      obtain ⟨I52, f53, p55, p56⟩ := h51
      have F57 : kF [(61, some 13), (61, some 29), (61, some 31), (61, some 43), (72, none), (73, none)] w w50 := kF_call F47 f53 (by decide)
      obtain ⟨x58, e59⟩ : ∃ z : Int32, w50 61 31 = z := ⟨_, rfl⟩
      have b60 : (0 : Int) ≤ x58.toInt ∧ x58.toInt ≤ 2147483647 := by rw [← e59]; exact I52 61 31
      obtain ⟨x61, e62⟩ : ∃ z : Int32, w50 61 29 = z := ⟨_, rfl⟩
      have b63 : (0 : Int) ≤ x61.toInt ∧ x61.toInt ≤ 2147483647 := by rw [← e62]; exact I52 61 29
      rw [e48, e49, e59, e62] at p55
      rw [e48, e49, e59, e62] at p56
      have e64 : w50 61 43 = x41 := ((f53 61 43 rfl : w50 61 43 = w44 61 43).trans (kup_eq u45))
      obtain ⟨x65, e66⟩ : ∃ z : Int32, w 61 13 = z := ⟨_, rfl⟩
      have b67 : (0 : Int) ≤ x65.toInt ∧ x65.toInt ≤ 13 := by rw [← e66]; exact hI 61 13
      have e68 : w50 61 13 = x65 := ((f53 61 13 rfl : w50 61 13 = w44 61 13).trans ((kup_ne u45 rfl : w44 61 13 = w 61 13).trans e66))
      exact kv_vret C hr hlk (kdec dk_cX10_tellsOf 23 rfl) ⟨rfl, I52, F57, (by rw [e10, e2, e5, e64, e59, e62]; try omega), (by rw [e66, e68]; try omega)⟩
  · skip
    refine kv_aload_n C 5 rfl 0 (kdec dk_cX10_tellsOf 2 rfl) rfl rfl ?_
    obtain ⟨x69, e70⟩ : ∃ z : Int32, w 61 43 = z := ⟨_, rfl⟩
    have b71 : (0 : Int) ≤ x69.toInt ∧ x69.toInt ≤ 500 := by rw [← e70]; exact hI 61 43
    refine kv_get C 8 rfl 61 43 rfl rfl inX10 (by decide) mfl_TaleMachineModel_250 rfl rfl (kdec dk_cX10_tellsOf 3 rfl) e70 ?_
    refine kv_sipush C 11 rfl 500 (kdec dk_cX10_tellsOf 4 rfl) rfl ?_
    refine kv_icmp_ne C 14 rfl 23 (kdec dk_cX10_tellsOf 5 rfl) (by decide) (fun d72 => ?_) (fun d72 => ?_)
    · skip
      refine kv_aload_n C 24 rfl 0 (kdec dk_cX10_tellsOf 10 rfl) rfl rfl ?_
      refine kv_dup C 25 rfl (kdec dk_cX10_tellsOf 11 rfl) rfl ?_
      refine kv_get C 28 rfl 61 43 rfl rfl inX10 (by decide) mfl_TaleMachineModel_250 rfl rfl (kdec dk_cX10_tellsOf 12 rfl) e70 ?_
      refine kv_iload_n C 29 rfl 1 (kdec dk_cX10_tellsOf 13 rfl) rfl rfl ?_
      refine kv_if_le C 32 rfl 36 (kdec dk_cX10_tellsOf 14 rfl) (by decide) (fun d73 => ?_) (fun d73 => ?_)
      · skip
        refine kv_iconst C 37 rfl 0 (kdec dk_cX10_tellsOf 17 rfl) rfl ?_
        refine kv_iadd C 38 rfl (kdec dk_cX10_tellsOf 18 rfl) (fun x74 q76 h75e h75 h75l h75u => ?_)
        try have h75n : x74.toInt = x69.toInt + (0 : Int32).toInt := by omega
        clear h75 q76
        refine kv_put C 41 rfl 61 43 rfl rfl inX10 (by decide) mfl_TaleMachineModel_250 rfl tyX10 tyX10_ok nmX10 rfl rfl (kdec dk_cX10_tellsOf 19 rfl) rfl rfl (fun w77 u78 => ?_)
        have I79 : kI false w77 := kI_put u78 hI (show (0 : Int) ≤ (x74 : Int32).toInt by omega) (show (x74 : Int32).toInt ≤ 500 by omega)
        have F80 : kF [(61, some 13), (61, some 29), (61, some 31), (61, some 43), (72, none), (73, none)] w w77 := kF_put u78 hF0 rfl
        refine kv_aload_n C 42 rfl 0 (kdec dk_cX10_tellsOf 20 rfl) rfl rfl ?_
        refine kv_iload_n C 43 rfl 1 (kdec dk_cX10_tellsOf 21 rfl) rfl rfl ?_
        have e81 : w77 61 31 = x1 := ((kup_ne u78 rfl : w77 61 31 = w 61 31).trans e2)
        have e82 : w77 61 29 = x4 := ((kup_ne u78 rfl : w77 61 29 = w 61 29).trans e5)
        refine kv_callVv (As := [.int a1]) (rest := []) C 46 rfl 61 (k_x_tells l D τ ρ σ w77 a1 I79 (by rw [e81, e82]; try omega)) rfl rfl mml_TaleMachineModel_253 mim_yX10_tells mse_yX10_tells mcd_yX10_tells min_yX10_tells hd_yX10_tells rfl rfl rfl (by decide) rfl (Nat.le_of_ble_eq_true rfl) (kdec dk_cX10_tellsOf 22 rfl) (fun w83 h84 => ?_)
        obtain ⟨I85, f86, p88, p89⟩ := h84
        have F90 : kF [(61, some 13), (61, some 29), (61, some 31), (61, some 43), (72, none), (73, none)] w w83 := kF_call F80 f86 (by decide)
        obtain ⟨x91, e92⟩ : ∃ z : Int32, w83 61 31 = z := ⟨_, rfl⟩
        have b93 : (0 : Int) ≤ x91.toInt ∧ x91.toInt ≤ 2147483647 := by rw [← e92]; exact I85 61 31
        obtain ⟨x94, e95⟩ : ∃ z : Int32, w83 61 29 = z := ⟨_, rfl⟩
        have b96 : (0 : Int) ≤ x94.toInt ∧ x94.toInt ≤ 2147483647 := by rw [← e95]; exact I85 61 29
        rw [e81, e82, e92, e95] at p88
        rw [e81, e82, e92, e95] at p89
        have e97 : w83 61 43 = x74 := ((f86 61 43 rfl : w83 61 43 = w77 61 43).trans (kup_eq u78))
        obtain ⟨x98, e99⟩ : ∃ z : Int32, w 61 13 = z := ⟨_, rfl⟩
        have b100 : (0 : Int) ≤ x98.toInt ∧ x98.toInt ≤ 13 := by rw [← e99]; exact hI 61 13
        have e101 : w83 61 13 = x98 := ((f86 61 13 rfl : w83 61 13 = w77 61 13).trans ((kup_ne u78 rfl : w77 61 13 = w 61 13).trans e99))
        exact kv_vret C hr hlk (kdec dk_cX10_tellsOf 23 rfl) ⟨rfl, I85, F90, (by rw [e70, e2, e5, e97, e92, e95]; try omega), (by rw [e99, e101]; try omega)⟩
      · skip
        refine kv_iconst C 33 rfl 1 (kdec dk_cX10_tellsOf 15 rfl) rfl ?_
        refine kv_goto C 37 (kdec dk_cX10_tellsOf 16 rfl) (by decide) ?_
        refine kv_iadd C 38 rfl (kdec dk_cX10_tellsOf 18 rfl) (fun x102 q104 h103e h103 h103l h103u => ?_)
        try have h103n : x102.toInt = x69.toInt + (1 : Int32).toInt := by omega
        clear h103 q104
        refine kv_put C 41 rfl 61 43 rfl rfl inX10 (by decide) mfl_TaleMachineModel_250 rfl tyX10 tyX10_ok nmX10 rfl rfl (kdec dk_cX10_tellsOf 19 rfl) rfl rfl (fun w105 u106 => ?_)
        have I107 : kI false w105 := kI_put u106 hI (show (0 : Int) ≤ (x102 : Int32).toInt by omega) (show (x102 : Int32).toInt ≤ 500 by omega)
        have F108 : kF [(61, some 13), (61, some 29), (61, some 31), (61, some 43), (72, none), (73, none)] w w105 := kF_put u106 hF0 rfl
        refine kv_aload_n C 42 rfl 0 (kdec dk_cX10_tellsOf 20 rfl) rfl rfl ?_
        refine kv_iload_n C 43 rfl 1 (kdec dk_cX10_tellsOf 21 rfl) rfl rfl ?_
        have e109 : w105 61 31 = x1 := ((kup_ne u106 rfl : w105 61 31 = w 61 31).trans e2)
        have e110 : w105 61 29 = x4 := ((kup_ne u106 rfl : w105 61 29 = w 61 29).trans e5)
        refine kv_callVv (As := [.int a1]) (rest := []) C 46 rfl 61 (k_x_tells l D τ ρ σ w105 a1 I107 (by rw [e109, e110]; try omega)) rfl rfl mml_TaleMachineModel_253 mim_yX10_tells mse_yX10_tells mcd_yX10_tells min_yX10_tells hd_yX10_tells rfl rfl rfl (by decide) rfl (Nat.le_of_ble_eq_true rfl) (kdec dk_cX10_tellsOf 22 rfl) (fun w111 h112 => ?_)
        obtain ⟨I113, f114, p116, p117⟩ := h112
        have F118 : kF [(61, some 13), (61, some 29), (61, some 31), (61, some 43), (72, none), (73, none)] w w111 := kF_call F108 f114 (by decide)
        obtain ⟨x119, e120⟩ : ∃ z : Int32, w111 61 31 = z := ⟨_, rfl⟩
        have b121 : (0 : Int) ≤ x119.toInt ∧ x119.toInt ≤ 2147483647 := by rw [← e120]; exact I113 61 31
        obtain ⟨x122, e123⟩ : ∃ z : Int32, w111 61 29 = z := ⟨_, rfl⟩
        have b124 : (0 : Int) ≤ x122.toInt ∧ x122.toInt ≤ 2147483647 := by rw [← e123]; exact I113 61 29
        rw [e109, e110, e120, e123] at p116
        rw [e109, e110, e120, e123] at p117
        have e125 : w111 61 43 = x102 := ((f114 61 43 rfl : w111 61 43 = w105 61 43).trans (kup_eq u106))
        obtain ⟨x126, e127⟩ : ∃ z : Int32, w 61 13 = z := ⟨_, rfl⟩
        have b128 : (0 : Int) ≤ x126.toInt ∧ x126.toInt ≤ 13 := by rw [← e127]; exact hI 61 13
        have e129 : w111 61 13 = x126 := ((f114 61 13 rfl : w111 61 13 = w105 61 13).trans ((kup_ne u106 rfl : w105 61 13 = w 61 13).trans e127))
        exact kv_vret C hr hlk (kdec dk_cX10_tellsOf 23 rfl) ⟨rfl, I113, F118, (by rw [e70, e2, e5, e125, e120, e123]; try omega), (by rw [e127, e129]; try omega)⟩
    · skip
      refine kv_aload_n C 15 rfl 0 (kdec dk_cX10_tellsOf 6 rfl) rfl rfl ?_
      refine kv_bipush C 17 rfl 13 (kdec dk_cX10_tellsOf 7 rfl) rfl ?_
      refine kv_callVv (As := [.int 13]) (rest := []) C 20 rfl 61 (k_x_halts l D τ ρ σ w 13 hI (by omega)) rfl rfl mml_TaleMachineModel_160 mim_yX10_halts mse_yX10_halts mcd_yX10_halts min_yX10_halts hd_yX10_halts rfl rfl rfl (by decide) rfl (Nat.le_of_ble_eq_true rfl) (kdec dk_cX10_tellsOf 8 rfl) (fun w130 h131 => ?_)
      obtain ⟨I132, f133, p135⟩ := h131
      have F136 : kF [(61, some 13), (61, some 29), (61, some 31), (61, some 43), (72, none), (73, none)] w w130 := kF_call hF0 f133 (by decide)
      obtain ⟨x137, e138⟩ : ∃ z : Int32, w 61 13 = z := ⟨_, rfl⟩
      have b139 : (0 : Int) ≤ x137.toInt ∧ x137.toInt ≤ 13 := by rw [← e138]; exact hI 61 13
      obtain ⟨x140, e141⟩ : ∃ z : Int32, w130 61 13 = z := ⟨_, rfl⟩
      have b142 : (0 : Int) ≤ x140.toInt ∧ x140.toInt ≤ 13 := by rw [← e141]; exact I132 61 13
      rw [e138, e141] at p135
      refine kv_goto C 46 (kdec dk_cX10_tellsOf 9 rfl) (by decide) ?_
      have e143 : w130 61 43 = x69 := ((f133 61 43 rfl : w130 61 43 = w 61 43).trans e70)
      have e144 : w130 61 31 = x1 := ((f133 61 31 rfl : w130 61 31 = w 61 31).trans e2)
      have e145 : w130 61 29 = x4 := ((f133 61 29 rfl : w130 61 29 = w 61 29).trans e5)
      exact kv_vret C hr hlk (kdec dk_cX10_tellsOf 23 rfl) ⟨rfl, I132, F136, (by rw [e70, e2, e5, e143, e144, e145]; try omega), (by rw [e138, e141]; try omega)⟩

set_option maxHeartbeats 4000000 in
set_option maxRecDepth 100000 in
theorem k_x_tellsText (l : Launch) (D : va_G) (τ : Nat → ClassId) (ρ σ : Nat → Nat) (w : kw) (a1 : Int32) (hI : kI false w) (hp0 : (w 61 31).toInt ≤ 2147482000 ∧ (w 61 29).toInt ≤ 2147482000) :
    kM l D τ ρ σ yX10_tellsText cX10_tellsText 10 (some .int) { frames := 3, cells := 0, slots := 0, locals := 108 } [.ref (ρ 61), .int a1] w
      (fun o w' => ∃ r : Int32, o = some (.int r) ∧ kI false w' ∧ kF [(61, some 13), (61, some 29), (61, some 31), (61, some 43), (72, none), (73, none), (81, none), (82, none), (83, none)] w w' ∧ ((w' 61 31).toInt ≤ (w 61 31).toInt + 500 ∧ (w' 61 29).toInt ≤ (w 61 29).toInt + 500) ∧ (0 ≤ r.toInt ∧ r.toInt ≤ 65535)) := by
  refine kM_of (own := "TaleMachineModel") rfl (by decide) (Nat.le_of_ble_eq_true rfl) ?_
  intro p e s m args below meth c C hr hlk
  have hF0 : kF [(61, some 13), (61, some 29), (61, some 31), (61, some 43), (72, none), (73, none), (81, none), (82, none), (83, none)] w w := kF.rf
  have c_0 : (0 : Int32).toInt = 0 := by decide
  have c_1 : (1 : Int32).toInt = 1 := by decide
  have c_2 : (2 : Int32).toInt = 2 := by decide
  have c_3 : (3 : Int32).toInt = 3 := by decide
  have c_4 : (4 : Int32).toInt = 4 := by decide
  have c_5 : (5 : Int32).toInt = 5 := by decide
  have c_6 : (6 : Int32).toInt = 6 := by decide
  have c_7 : (7 : Int32).toInt = 7 := by decide
  have c_8 : (8 : Int32).toInt = 8 := by decide
  have c_10 : (10 : Int32).toInt = 10 := by decide
  have c_12 : (12 : Int32).toInt = 12 := by decide
  have c_13 : (13 : Int32).toInt = 13 := by decide
  have c_31 : (31 : Int32).toInt = 31 := by decide
  have c_32 : (32 : Int32).toInt = 32 := by decide
  have c_65 : (65 : Int32).toInt = 65 := by decide
  have c_97 : (97 : Int32).toInt = 97 := by decide
  have c_2000 : (2000 : Int32).toInt = 2000 := by decide
  have c_32767 : (32767 : Int32).toInt = 32767 := by decide
  have c_65535 : (65535 : Int32).toInt = 65535 := by decide
  refine kV.L (L' := [(0, .ref (ρ 61)), (1, .int a1)]) rfl ?_
  obtain ⟨x1, e2⟩ : ∃ z : Int32, w 61 31 = z := ⟨_, rfl⟩
  have b3 : (0 : Int) ≤ x1.toInt ∧ x1.toInt ≤ 2147483647 := by rw [← e2]; exact hI 61 31
  obtain ⟨x4, e5⟩ : ∃ z : Int32, w 61 29 = z := ⟨_, rfl⟩
  have b6 : (0 : Int) ≤ x4.toInt ∧ x4.toInt ≤ 2147483647 := by rw [← e5]; exact hI 61 29
  rw [e2, e5] at hp0
  have g7 := kf_rng a1
  have cut471 : ∀ (w_471 : kw), kI false w_471 → kF [(61, some 13), (61, some 29), (61, some 31), (61, some 43), (72, none), (73, none), (81, none), (82, none), (83, none)] w w_471 → ((w_471 61 31).toInt ≤ (w 61 31).toInt + 500 ∧ (w_471 61 29).toInt ≤ (w 61 29).toInt + 500) → kV p l e { frames := 3, cells := 0, slots := 0, locals := 108 } s m args below meth c (kQ below args s D τ ρ (fun o w' => ∃ r : Int32, o = some (.int r) ∧ kI false w' ∧ kF [(61, some 13), (61, some 29), (61, some 31), (61, some 43), (72, none), (73, none), (81, none), (82, none), (83, none)] w w' ∧ ((w' 61 31).toInt ≤ (w 61 31).toInt + 500 ∧ (w' 61 29).toInt ≤ (w 61 29).toInt + 500) ∧ (0 ≤ r.toInt ∧ r.toInt ≤ 65535))) 10 D τ ρ 471 [(0, .ref (ρ 61))] [] w_471 := by
    intro w_471  I_471 F_471 k471_0
    obtain ⟨x8, e9⟩ : ∃ z : Int32, w_471 61 31 = z := ⟨_, rfl⟩
    have b10 : (0 : Int) ≤ x8.toInt ∧ x8.toInt ≤ 2147483647 := by rw [← e9]; exact I_471 61 31
    obtain ⟨x11, e12⟩ : ∃ z : Int32, w_471 61 29 = z := ⟨_, rfl⟩
    have b13 : (0 : Int) ≤ x11.toInt ∧ x11.toInt ≤ 2147483647 := by rw [← e12]; exact I_471 61 29
    rw [e2, e5, e9, e12] at k471_0
    refine kv_aload_n C 472 rfl 0 (kdec dk_cX10_tellsText 273 rfl) rfl rfl ?_
    refine kv_getr C 475 rfl 61 40 rfl rfl inX10 (by decide) mfl_TaleMachineModel_68 rfl rfl (kdec dk_cX10_tellsText 274 rfl) ?_
    refine kv_iconst C 476 rfl 0 (kdec dk_cX10_tellsText 275 rfl) rfl ?_
    obtain ⟨x14, e15⟩ : ∃ z : Int32, w_471 81 0 = z := ⟨_, rfl⟩
    have b16 : (0 : Int) ≤ x14.toInt ∧ x14.toInt ≤ 65535 := by rw [← e15]; exact I_471 81 0
    refine kv_iald C 477 rfl 81 rfl (by omega) (by omega) (show w_471 81 (0 : Int32).toNatClampNeg = x14 from e15) (kdec dk_cX10_tellsText 276 rfl) ?_
    exact kv_iret C hr hlk (kdec dk_cX10_tellsText 277 rfl) ⟨_, rfl, I_471, F_471, (by rw [e2, e5, e9, e12]; try omega), (by omega)⟩
  have cut45 : ∀ (n_45 : Nat) (w_45 : kw) (l2_45 l3_45 l4_45 l5_45 l6_45 l7_45 : Int32), kI false w_45 → kF [(61, some 13), (61, some 29), (61, some 31), (61, some 43), (72, none), (73, none), (81, none), (82, none), (83, none)] w w_45 → (l2_45.toInt = 0 ∨ l2_45.toInt = 1) → (0 ≤ l5_45.toInt ∧ l5_45.toInt ≤ 31) → (0 ≤ l6_45.toInt ∧ l6_45.toInt ≤ 2000) → (0 ≤ l7_45.toInt ∧ l7_45.toInt ≤ 1) → ((w_45 61 31).toInt ≤ (w 61 31).toInt + (w_45 61 43).toInt ∧ (w_45 61 29).toInt ≤ (w 61 29).toInt + (w_45 61 43).toInt) → (0 ≤ (w_45 83 0).toInt ∧ 0 ≤ (w_45 83 1).toInt ∧ (w_45 61 13).toInt ≤ 13) → ((20 * (2001 - l6_45.toInt) + 6 * l2_45.toInt + 2 * (w_45 83 0).toInt + 2 * (w_45 83 1).toInt + l7_45.toInt + 13 - (w_45 61 13).toInt) : Int) < (n_45 : Int) → kV p l e { frames := 3, cells := 0, slots := 0, locals := 108 } s m args below meth c (kQ below args s D τ ρ (fun o w' => ∃ r : Int32, o = some (.int r) ∧ kI false w' ∧ kF [(61, some 13), (61, some 29), (61, some 31), (61, some 43), (72, none), (73, none), (81, none), (82, none), (83, none)] w w' ∧ ((w' 61 31).toInt ≤ (w 61 31).toInt + 500 ∧ (w' 61 29).toInt ≤ (w 61 29).toInt + 500) ∧ (0 ≤ r.toInt ∧ r.toInt ≤ 65535))) 10 D τ ρ 45 [(0, .ref (ρ 61)), (2, .int l2_45), (3, .int l3_45), (4, .int l4_45), (5, .int l5_45), (6, .int l6_45), (7, .int l7_45)] [] w_45 := by
    intro n_45
    induction n_45 with
    | zero => intro w_45 l2_45 l3_45 l4_45 l5_45 l6_45 l7_45 I_45 F_45 k45_0 k45_1 k45_2 k45_3 k45_4 k45_5 hmz; exfalso; omega
    | succ n_45 ih45 =>
      intro w_45 l2_45 l3_45 l4_45 l5_45 l6_45 l7_45 I_45 F_45 k45_0 k45_1 k45_2 k45_3 k45_4 k45_5 hm45
      have gl2_45 := kf_rng l2_45
      have gl3_45 := kf_rng l3_45
      have gl4_45 := kf_rng l4_45
      have gl5_45 := kf_rng l5_45
      have gl6_45 := kf_rng l6_45
      have gl7_45 := kf_rng l7_45
      obtain ⟨x17, e18⟩ : ∃ z : Int32, w_45 61 31 = z := ⟨_, rfl⟩
      have b19 : (0 : Int) ≤ x17.toInt ∧ x17.toInt ≤ 2147483647 := by rw [← e18]; exact I_45 61 31
      obtain ⟨x20, e21⟩ : ∃ z : Int32, w_45 61 43 = z := ⟨_, rfl⟩
      have b22 : (0 : Int) ≤ x20.toInt ∧ x20.toInt ≤ 500 := by rw [← e21]; exact I_45 61 43
      obtain ⟨x23, e24⟩ : ∃ z : Int32, w_45 61 29 = z := ⟨_, rfl⟩
      have b25 : (0 : Int) ≤ x23.toInt ∧ x23.toInt ≤ 2147483647 := by rw [← e24]; exact I_45 61 29
      rw [e2, e5, e18, e21, e24] at k45_4
      obtain ⟨x26, e27⟩ : ∃ z : Int32, w_45 83 0 = z := ⟨_, rfl⟩
      have b28 : (0 : Int) ≤ x26.toInt ∧ x26.toInt ≤ 3 := by rw [← e27]; exact I_45 83 0
      obtain ⟨x29, e30⟩ : ∃ z : Int32, w_45 83 1 = z := ⟨_, rfl⟩
      have b31 : (0 : Int) ≤ x29.toInt ∧ x29.toInt ≤ 3 := by rw [← e30]; exact I_45 83 1
      obtain ⟨x32, e33⟩ : ∃ z : Int32, w_45 61 13 = z := ⟨_, rfl⟩
      have b34 : (0 : Int) ≤ x32.toInt ∧ x32.toInt ≤ 13 := by rw [← e33]; exact I_45 61 13
      rw [e27, e30, e33] at k45_5
      rw [e27, e30, e33] at hm45
      have cut212 : ∀ (w_212 : kw) (l2_212 l3_212 l4_212 l5_212 l6_212 l7_212 l8_212 : Int32), kI false w_212 → kF [(61, some 13), (61, some 29), (61, some 31), (61, some 43), (72, none), (73, none), (81, none), (82, none), (83, none)] w w_212 → (l2_212.toInt = l2_45.toInt ∧ 0 ≤ l2_212.toInt ∧ l2_212.toInt ≤ 1) → (0 ≤ l5_212.toInt ∧ l5_212.toInt ≤ 31) → (1 ≤ l6_212.toInt ∧ l6_212.toInt ≤ 2000 ∧ l6_212.toInt = l6_45.toInt + 1) → (l7_212.toInt = 1 ∧ l7_45.toInt = 1) → (0 ≤ l8_212.toInt ∧ l8_212.toInt ≤ 31) → ((w_212 61 31).toInt ≤ (w 61 31).toInt + (w_212 61 43).toInt ∧ (w_212 61 29).toInt ≤ (w 61 29).toInt + (w_212 61 43).toInt) → ((w_212 61 13).toInt = 0 ∧ (w_45 61 13).toInt = 0) → ((w_212 83 0).toInt + (w_212 83 1).toInt ≤ (w_45 83 0).toInt + (w_45 83 1).toInt + 1) → kV p l e { frames := 3, cells := 0, slots := 0, locals := 108 } s m args below meth c (kQ below args s D τ ρ (fun o w' => ∃ r : Int32, o = some (.int r) ∧ kI false w' ∧ kF [(61, some 13), (61, some 29), (61, some 31), (61, some 43), (72, none), (73, none), (81, none), (82, none), (83, none)] w w' ∧ ((w' 61 31).toInt ≤ (w 61 31).toInt + 500 ∧ (w' 61 29).toInt ≤ (w 61 29).toInt + 500) ∧ (0 ≤ r.toInt ∧ r.toInt ≤ 65535))) 10 D τ ρ 212 [(0, .ref (ρ 61)), (2, .int l2_212), (3, .int l3_212), (4, .int l4_212), (5, .int l5_212), (6, .int l6_212), (7, .int l7_212), (8, .int l8_212)] [] w_212 := by
        intro w_212 l2_212 l3_212 l4_212 l5_212 l6_212 l7_212 l8_212 I_212 F_212 k212_0 k212_1 k212_2 k212_3 k212_4 k212_5 k212_6 k212_7
        have gl2_212 := kf_rng l2_212
        have gl3_212 := kf_rng l3_212
        have gl4_212 := kf_rng l4_212
        have gl5_212 := kf_rng l5_212
        have gl6_212 := kf_rng l6_212
        have gl7_212 := kf_rng l7_212
        have gl8_212 := kf_rng l8_212
        obtain ⟨x35, e36⟩ : ∃ z : Int32, w_212 61 31 = z := ⟨_, rfl⟩
        have b37 : (0 : Int) ≤ x35.toInt ∧ x35.toInt ≤ 2147483647 := by rw [← e36]; exact I_212 61 31
        obtain ⟨x38, e39⟩ : ∃ z : Int32, w_212 61 43 = z := ⟨_, rfl⟩
        have b40 : (0 : Int) ≤ x38.toInt ∧ x38.toInt ≤ 500 := by rw [← e39]; exact I_212 61 43
        obtain ⟨x41, e42⟩ : ∃ z : Int32, w_212 61 29 = z := ⟨_, rfl⟩
        have b43 : (0 : Int) ≤ x41.toInt ∧ x41.toInt ≤ 2147483647 := by rw [← e42]; exact I_212 61 29
        rw [e2, e5, e36, e39, e42] at k212_5
        obtain ⟨x44, e45⟩ : ∃ z : Int32, w_212 61 13 = z := ⟨_, rfl⟩
        have b46 : (0 : Int) ≤ x44.toInt ∧ x44.toInt ≤ 13 := by rw [← e45]; exact I_212 61 13
        rw [e45, e33] at k212_6
        obtain ⟨x47, e48⟩ : ∃ z : Int32, w_212 83 0 = z := ⟨_, rfl⟩
        have b49 : (0 : Int) ≤ x47.toInt ∧ x47.toInt ≤ 3 := by rw [← e48]; exact I_212 83 0
        obtain ⟨x50, e51⟩ : ∃ z : Int32, w_212 83 1 = z := ⟨_, rfl⟩
        have b52 : (0 : Int) ≤ x50.toInt ∧ x50.toInt ≤ 3 := by rw [← e51]; exact I_212 83 1
        rw [e48, e51, e27, e30] at k212_7
        refine kv_iload C 214 rfl 3 (kdec dk_cX10_tellsText 129 rfl) rfl ?_
        refine kv_iconst C 215 rfl 1 (kdec dk_cX10_tellsText 130 rfl) rfl ?_
        refine kv_icmp_ne C 218 rfl 278 (kdec dk_cX10_tellsText 131 rfl) (by decide) (fun d53 => ?_) (fun d53 => ?_)
        · skip
          refine kv_iload C 280 rfl 3 (kdec dk_cX10_tellsText 173 rfl) rfl ?_
          refine kv_iconst C 281 rfl 2 (kdec dk_cX10_tellsText 174 rfl) rfl ?_
          refine kv_icmp_ne C 284 rfl 294 (kdec dk_cX10_tellsText 175 rfl) (by decide) (fun d54 => ?_) (fun d54 => ?_)
          · skip
            refine kv_iload C 296 rfl 3 (kdec dk_cX10_tellsText 181 rfl) rfl ?_
            refine kv_iconst C 297 rfl 3 (kdec dk_cX10_tellsText 182 rfl) rfl ?_
            refine kv_icmp_ne C 300 rfl 318 (kdec dk_cX10_tellsText 183 rfl) (by decide) (fun d55 => ?_) (fun d55 => ?_)
            · skip
              refine kv_iload C 320 rfl 7 (kdec dk_cX10_tellsText 194 rfl) rfl ?_
              refine kv_iconst C 321 rfl 4 (kdec dk_cX10_tellsText 195 rfl) rfl ?_
              refine kv_icmp_eq C 324 rfl 330 (kdec dk_cX10_tellsText 196 rfl) (by decide) (fun d56 => ?_) (fun d56 => ?_)
              · skip
                refine kv_iload C 332 rfl 7 (kdec dk_cX10_tellsText 200 rfl) rfl ?_
                refine kv_iconst C 333 rfl 3 (kdec dk_cX10_tellsText 201 rfl) rfl ?_
                refine kv_isub C 334 rfl (kdec dk_cX10_tellsText 202 rfl) (fun x57 q59 h58e h58 h58l h58u => ?_)
                try have h58n : x57.toInt = l8_212.toInt - (3 : Int32).toInt := by omega
                clear h58 q59
                refine kv_istore_n C 335 rfl 3 [1, 2, 0, 3, 4, 5, 6, 7] [(0, .ref (ρ 61)), (2, .int l2_212), (3, .int x57), (4, .int l4_212), (5, .int l5_212), (6, .int l6_212), (7, .int l7_212), (8, .int l8_212)] (kdec dk_cX10_tellsText 203 rfl) rfl (by decide) rfl ?_
                refine kv_goto C 468 (kdec dk_cX10_tellsText 204 rfl) (by decide) ?_
                refine kv_goto C 45 (kdec dk_cX10_tellsText 272 rfl) (by decide) ?_
                refine kV.sub [0, 1, 2, 3, 4, 5, 6] (L' := [(0, .ref (ρ 61)), (2, .int l2_212), (3, .int x57), (4, .int l4_212), (5, .int l5_212), (6, .int l6_212), (7, .int l7_212)]) rfl ?_
                exact ih45 w_212 l2_212 x57 l4_212 l5_212 l6_212 l7_212 I_212 F_212 (by omega) (by omega) (by omega) (by omega) (by rw [e2, e5, e36, e39, e42]; try omega) (by rw [e48, e51, e45]; try omega) (by rw [e48, e51, e45]; try omega)
              · skip
                refine kv_iload C 326 rfl 7 (kdec dk_cX10_tellsText 197 rfl) rfl ?_
                refine kv_iconst C 327 rfl 5 (kdec dk_cX10_tellsText 198 rfl) rfl ?_
                refine kv_icmp_ne C 330 rfl 338 (kdec dk_cX10_tellsText 199 rfl) (by decide) (fun d60 => ?_) (fun d60 => ?_)
                · skip
                  refine kv_iload C 340 rfl 7 (kdec dk_cX10_tellsText 205 rfl) rfl ?_
                  refine kv_i2l C 341 rfl (kdec dk_cX10_tellsText 206 rfl) ?_
                  have h61 := kf_i2l l8_212
                  refine kv_lconst C 342 rfl 1 (kdec dk_cX10_tellsText 207 rfl) rfl ?_
                  have h62 : (1 : Int64).toInt = 1 := by decide
                  refine kv_ldc2 C 345 rfl 3 (kdec dk_cX10_tellsText 208 rfl) mcl_TaleMachineModel_259 ?_
                  have h63 : (3 : Int64).toInt = 3 := by decide
                  refine kv_callSi (As := [.long (l8_212 : Int32).toInt64, .long (1 : Int64), .long (3 : Int64)]) (rest := []) C 348 rfl (k_x_in l D τ ρ σ w_212 (l8_212 : Int32).toInt64 (1 : Int64) (3 : Int64) I_212 ) mml_TaleMachineModel_94 mst_yX10_in mcd_yX10_in min_yX10_in hd_yX10_in rfl rfl rfl (by decide) rfl (Nat.le_of_ble_eq_true rfl) (kdec dk_cX10_tellsText 209 rfl) (fun x68 w64 h65 => ?_)
                  obtain ⟨I66, f67, p69, p70⟩ := h65
                  have F71 : kF [(61, some 13), (61, some 29), (61, some 31), (61, some 43), (72, none), (73, none), (81, none), (82, none), (83, none)] w w64 := kF_call F_212 f67 (by decide)
                  have g72 := kf_rng x68
                  refine kv_if_eq C 351 rfl 374 (kdec dk_cX10_tellsText 210 rfl) (by decide) (fun d73 => ?_) (fun d73 => ?_)
                  · skip
                    refine kv_iload C 376 rfl 7 (kdec dk_cX10_tellsText 224 rfl) rfl ?_
                    refine kv_if_ne C 379 rfl 388 (kdec dk_cX10_tellsText 225 rfl) (by decide) (fun d74 => ?_) (fun d74 => ?_)
                    · skip
                      refine kv_iload_n C 389 rfl 2 (kdec dk_cX10_tellsText 230 rfl) rfl rfl ?_
                      refine kv_if_ne C 392 rfl 407 (kdec dk_cX10_tellsText 231 rfl) (by decide) (fun d75 => ?_) (fun d75 => ?_)
                      · skip
                        refine kv_iload_n C 408 rfl 2 (kdec dk_cX10_tellsText 240 rfl) rfl rfl ?_
                        refine kv_iconst C 409 rfl 1 (kdec dk_cX10_tellsText 241 rfl) rfl ?_
                        refine kv_icmp_ne C 412 rfl 427 (kdec dk_cX10_tellsText 242 rfl) (by decide) (fun d76 => ?_) (fun d76 => ?_)
                        · skip
                          refine kv_iload C 429 rfl 7 (kdec dk_cX10_tellsText 251 rfl) rfl ?_
                          refine kv_bipush C 431 rfl 6 (kdec dk_cX10_tellsText 252 rfl) rfl ?_
                          refine kv_icmp_ne C 434 rfl 440 (kdec dk_cX10_tellsText 253 rfl) (by decide) (fun d77 => ?_) (fun d77 => ?_)
                          · skip
                            refine kv_aload_n C 441 rfl 0 (kdec dk_cX10_tellsText 257 rfl) rfl rfl ?_
                            refine kv_iload C 443 rfl 7 (kdec dk_cX10_tellsText 258 rfl) rfl ?_
                            refine kv_bipush C 445 rfl 7 (kdec dk_cX10_tellsText 259 rfl) rfl ?_
                            refine kv_icmp_ne C 448 rfl 453 (kdec dk_cX10_tellsText 260 rfl) (by decide) (fun d78 => ?_) (fun d78 => ?_)
                            · skip
                              refine kv_aload_n C 454 rfl 0 (kdec dk_cX10_tellsText 263 rfl) rfl rfl ?_
                              refine kv_getr C 457 rfl 61 0 rfl rfl inX10 (by decide) mfl_TaleMachineModel_7 rfl rfl (kdec dk_cX10_tellsText 264 rfl) ?_
                              refine kv_iload C 459 rfl 7 (kdec dk_cX10_tellsText 265 rfl) rfl ?_
                              refine kv_bipush C 461 rfl 8 (kdec dk_cX10_tellsText 266 rfl) rfl ?_
                              refine kv_isub C 462 rfl (kdec dk_cX10_tellsText 267 rfl) (fun x79 q81 h80e h80 h80l h80u => ?_)
                              try have h80n : x79.toInt = l8_212.toInt - (8 : Int32).toInt := by omega
                              clear h80 q81
                              obtain ⟨x82, e83⟩ : ∃ z : Int32, w64 62 (x79 : Int32).toNatClampNeg = z := ⟨_, rfl⟩
                              have b84 : (0 : Int) ≤ x82.toInt ∧ x82.toInt ≤ 255 := by rw [← e83]; exact I66 62 _
                              refine kv_iald C 463 rfl 62 rfl (by omega) (by omega) e83 (kdec dk_cX10_tellsText 268 rfl) ?_
                              have e85 : w64 61 31 = x35 := ((f67 61 31 rfl : w64 61 31 = w_212 61 31).trans e36)
                              have e86 : w64 61 29 = x41 := ((f67 61 29 rfl : w64 61 29 = w_212 61 29).trans e42)
                              refine kv_callVv (As := [.int x82]) (rest := []) C 466 rfl 61 (k_x_tellsOf l D τ ρ σ w64 x82 I66 (by omega) (by rw [e85, e86]; try omega)) rfl rfl mml_TaleMachineModel_256 mim_yX10_tellsOf mse_yX10_tellsOf mcd_yX10_tellsOf min_yX10_tellsOf hd_yX10_tellsOf rfl rfl rfl (by decide) rfl (Nat.le_of_ble_eq_true rfl) (kdec dk_cX10_tellsText 269 rfl) (fun w87 h88 => ?_)
                              obtain ⟨I89, f90, p92, p93⟩ := h88
                              have F94 : kF [(61, some 13), (61, some 29), (61, some 31), (61, some 43), (72, none), (73, none), (81, none), (82, none), (83, none)] w w87 := kF_call F71 f90 (by decide)
                              have e95 : w64 61 43 = x38 := ((f67 61 43 rfl : w64 61 43 = w_212 61 43).trans e39)
                              obtain ⟨x96, e97⟩ : ∃ z : Int32, w87 61 43 = z := ⟨_, rfl⟩
                              have b98 : (0 : Int) ≤ x96.toInt ∧ x96.toInt ≤ 500 := by rw [← e97]; exact I89 61 43
                              obtain ⟨x99, e100⟩ : ∃ z : Int32, w87 61 31 = z := ⟨_, rfl⟩
                              have b101 : (0 : Int) ≤ x99.toInt ∧ x99.toInt ≤ 2147483647 := by rw [← e100]; exact I89 61 31
                              obtain ⟨x102, e103⟩ : ∃ z : Int32, w87 61 29 = z := ⟨_, rfl⟩
                              have b104 : (0 : Int) ≤ x102.toInt ∧ x102.toInt ≤ 2147483647 := by rw [← e103]; exact I89 61 29
                              rw [e95, e85, e86, e97, e100, e103] at p92
                              have e105 : w64 61 13 = x44 := ((f67 61 13 rfl : w64 61 13 = w_212 61 13).trans e45)
                              obtain ⟨x106, e107⟩ : ∃ z : Int32, w87 61 13 = z := ⟨_, rfl⟩
                              have b108 : (0 : Int) ≤ x106.toInt ∧ x106.toInt ≤ 13 := by rw [← e107]; exact I89 61 13
                              rw [e105, e107] at p93
                              refine kv_iconst C 467 rfl 0 (kdec dk_cX10_tellsText 270 rfl) rfl ?_
                              refine kv_istore_n C 468 rfl 3 [1, 2, 0, 3, 4, 5, 6, 7] [(0, .ref (ρ 61)), (2, .int l2_212), (3, .int 0), (4, .int l4_212), (5, .int l5_212), (6, .int l6_212), (7, .int l7_212), (8, .int l8_212)] (kdec dk_cX10_tellsText 271 rfl) rfl (by decide) rfl ?_
                              refine kv_goto C 45 (kdec dk_cX10_tellsText 272 rfl) (by decide) ?_
                              have e109 : w87 83 0 = x47 := ((f90 83 0 rfl : w87 83 0 = w64 83 0).trans ((f67 83 0 rfl : w64 83 0 = w_212 83 0).trans e48))
                              have e110 : w87 83 1 = x50 := ((f90 83 1 rfl : w87 83 1 = w64 83 1).trans ((f67 83 1 rfl : w64 83 1 = w_212 83 1).trans e51))
                              refine kV.sub [0, 1, 2, 3, 4, 5, 6] (L' := [(0, .ref (ρ 61)), (2, .int l2_212), (3, .int 0), (4, .int l4_212), (5, .int l5_212), (6, .int l6_212), (7, .int l7_212)]) rfl ?_
                              exact ih45 w87 l2_212 0 l4_212 l5_212 l6_212 l7_212 I89 F94 (by omega) (by omega) (by omega) (by omega) (by rw [e2, e5, e100, e97, e103]; try omega) (by rw [e109, e110, e107]; try omega) (by rw [e109, e110, e107]; try omega)
                            · skip
                              refine kv_bipush C 450 rfl 13 (kdec dk_cX10_tellsText 261 rfl) rfl ?_
                              refine kv_goto C 463 (kdec dk_cX10_tellsText 262 rfl) (by decide) ?_
                              have e111 : w64 61 31 = x35 := ((f67 61 31 rfl : w64 61 31 = w_212 61 31).trans e36)
                              have e112 : w64 61 29 = x41 := ((f67 61 29 rfl : w64 61 29 = w_212 61 29).trans e42)
                              refine kv_callVv (As := [.int 13]) (rest := []) C 466 rfl 61 (k_x_tellsOf l D τ ρ σ w64 13 I66 (by omega) (by rw [e111, e112]; try omega)) rfl rfl mml_TaleMachineModel_256 mim_yX10_tellsOf mse_yX10_tellsOf mcd_yX10_tellsOf min_yX10_tellsOf hd_yX10_tellsOf rfl rfl rfl (by decide) rfl (Nat.le_of_ble_eq_true rfl) (kdec dk_cX10_tellsText 269 rfl) (fun w113 h114 => ?_)
                              obtain ⟨I115, f116, p118, p119⟩ := h114
                              have F120 : kF [(61, some 13), (61, some 29), (61, some 31), (61, some 43), (72, none), (73, none), (81, none), (82, none), (83, none)] w w113 := kF_call F71 f116 (by decide)
                              have e121 : w64 61 43 = x38 := ((f67 61 43 rfl : w64 61 43 = w_212 61 43).trans e39)
                              obtain ⟨x122, e123⟩ : ∃ z : Int32, w113 61 43 = z := ⟨_, rfl⟩
                              have b124 : (0 : Int) ≤ x122.toInt ∧ x122.toInt ≤ 500 := by rw [← e123]; exact I115 61 43
                              obtain ⟨x125, e126⟩ : ∃ z : Int32, w113 61 31 = z := ⟨_, rfl⟩
                              have b127 : (0 : Int) ≤ x125.toInt ∧ x125.toInt ≤ 2147483647 := by rw [← e126]; exact I115 61 31
                              obtain ⟨x128, e129⟩ : ∃ z : Int32, w113 61 29 = z := ⟨_, rfl⟩
                              have b130 : (0 : Int) ≤ x128.toInt ∧ x128.toInt ≤ 2147483647 := by rw [← e129]; exact I115 61 29
                              rw [e121, e111, e112, e123, e126, e129] at p118
                              have e131 : w64 61 13 = x44 := ((f67 61 13 rfl : w64 61 13 = w_212 61 13).trans e45)
                              obtain ⟨x132, e133⟩ : ∃ z : Int32, w113 61 13 = z := ⟨_, rfl⟩
                              have b134 : (0 : Int) ≤ x132.toInt ∧ x132.toInt ≤ 13 := by rw [← e133]; exact I115 61 13
                              rw [e131, e133] at p119
                              refine kv_iconst C 467 rfl 0 (kdec dk_cX10_tellsText 270 rfl) rfl ?_
                              refine kv_istore_n C 468 rfl 3 [1, 2, 0, 3, 4, 5, 6, 7] [(0, .ref (ρ 61)), (2, .int l2_212), (3, .int 0), (4, .int l4_212), (5, .int l5_212), (6, .int l6_212), (7, .int l7_212), (8, .int l8_212)] (kdec dk_cX10_tellsText 271 rfl) rfl (by decide) rfl ?_
                              refine kv_goto C 45 (kdec dk_cX10_tellsText 272 rfl) (by decide) ?_
                              have e135 : w113 83 0 = x47 := ((f116 83 0 rfl : w113 83 0 = w64 83 0).trans ((f67 83 0 rfl : w64 83 0 = w_212 83 0).trans e48))
                              have e136 : w113 83 1 = x50 := ((f116 83 1 rfl : w113 83 1 = w64 83 1).trans ((f67 83 1 rfl : w64 83 1 = w_212 83 1).trans e51))
                              refine kV.sub [0, 1, 2, 3, 4, 5, 6] (L' := [(0, .ref (ρ 61)), (2, .int l2_212), (3, .int 0), (4, .int l4_212), (5, .int l5_212), (6, .int l6_212), (7, .int l7_212)]) rfl ?_
                              exact ih45 w113 l2_212 0 l4_212 l5_212 l6_212 l7_212 I115 F120 (by omega) (by omega) (by omega) (by omega) (by rw [e2, e5, e126, e123, e129]; try omega) (by rw [e135, e136, e133]; try omega) (by rw [e135, e136, e133]; try omega)
                          · skip
                            refine kv_iconst C 435 rfl 2 (kdec dk_cX10_tellsText 254 rfl) rfl ?_
                            refine kv_istore C 437 rfl 4 [1, 2, 3, 0, 4, 5, 6, 7] [(0, .ref (ρ 61)), (2, .int l2_212), (3, .int l3_212), (4, .int 2), (5, .int l5_212), (6, .int l6_212), (7, .int l7_212), (8, .int l8_212)] (kdec dk_cX10_tellsText 255 rfl) (by decide) rfl ?_
                            refine kv_goto C 466 (kdec dk_cX10_tellsText 256 rfl) (by decide) ?_
                            refine kv_iconst C 467 rfl 0 (kdec dk_cX10_tellsText 270 rfl) rfl ?_
                            refine kv_istore_n C 468 rfl 3 [1, 2, 0, 3, 4, 5, 6, 7] [(0, .ref (ρ 61)), (2, .int l2_212), (3, .int 0), (4, .int 2), (5, .int l5_212), (6, .int l6_212), (7, .int l7_212), (8, .int l8_212)] (kdec dk_cX10_tellsText 271 rfl) rfl (by decide) rfl ?_
                            refine kv_goto C 45 (kdec dk_cX10_tellsText 272 rfl) (by decide) ?_
                            have e137 : w64 61 31 = x35 := ((f67 61 31 rfl : w64 61 31 = w_212 61 31).trans e36)
                            have e138 : w64 61 43 = x38 := ((f67 61 43 rfl : w64 61 43 = w_212 61 43).trans e39)
                            have e139 : w64 61 29 = x41 := ((f67 61 29 rfl : w64 61 29 = w_212 61 29).trans e42)
                            have e140 : w64 83 0 = x47 := ((f67 83 0 rfl : w64 83 0 = w_212 83 0).trans e48)
                            have e141 : w64 83 1 = x50 := ((f67 83 1 rfl : w64 83 1 = w_212 83 1).trans e51)
                            have e142 : w64 61 13 = x44 := ((f67 61 13 rfl : w64 61 13 = w_212 61 13).trans e45)
                            refine kV.sub [0, 1, 2, 3, 4, 5, 6] (L' := [(0, .ref (ρ 61)), (2, .int l2_212), (3, .int 0), (4, .int 2), (5, .int l5_212), (6, .int l6_212), (7, .int l7_212)]) rfl ?_
                            exact ih45 w64 l2_212 0 2 l5_212 l6_212 l7_212 I66 F71 (by omega) (by omega) (by omega) (by omega) (by rw [e2, e5, e137, e138, e139]; try omega) (by rw [e140, e141, e142]; try omega) (by rw [e140, e141, e142]; try omega)
                        · skip
                          refine kv_aload_n C 413 rfl 0 (kdec dk_cX10_tellsText 243 rfl) rfl rfl ?_
                          refine kv_bipush C 415 rfl 65 (kdec dk_cX10_tellsText 244 rfl) rfl ?_
                          refine kv_iload C 417 rfl 7 (kdec dk_cX10_tellsText 245 rfl) rfl ?_
                          refine kv_iadd C 418 rfl (kdec dk_cX10_tellsText 246 rfl) (fun x143 q145 h144e h144 h144l h144u => ?_)
                          try have h144n : x143.toInt = (65 : Int32).toInt + l8_212.toInt := by omega
                          clear h144 q145
                          refine kv_bipush C 420 rfl 6 (kdec dk_cX10_tellsText 247 rfl) rfl ?_
                          refine kv_isub C 421 rfl (kdec dk_cX10_tellsText 248 rfl) (fun x146 q148 h147e h147 h147l h147u => ?_)
                          try have h147n : x146.toInt = x143.toInt - (6 : Int32).toInt := by omega
                          clear h147 q148
                          have e149 : w64 61 31 = x35 := ((f67 61 31 rfl : w64 61 31 = w_212 61 31).trans e36)
                          have e150 : w64 61 29 = x41 := ((f67 61 29 rfl : w64 61 29 = w_212 61 29).trans e42)
                          refine kv_callVv (As := [.int x146]) (rest := []) C 424 rfl 61 (k_x_tellsOf l D τ ρ σ w64 x146 I66 (by omega) (by rw [e149, e150]; try omega)) rfl rfl mml_TaleMachineModel_256 mim_yX10_tellsOf mse_yX10_tellsOf mcd_yX10_tellsOf min_yX10_tellsOf hd_yX10_tellsOf rfl rfl rfl (by decide) rfl (Nat.le_of_ble_eq_true rfl) (kdec dk_cX10_tellsText 249 rfl) (fun w151 h152 => ?_)
                          obtain ⟨I153, f154, p156, p157⟩ := h152
                          have F158 : kF [(61, some 13), (61, some 29), (61, some 31), (61, some 43), (72, none), (73, none), (81, none), (82, none), (83, none)] w w151 := kF_call F71 f154 (by decide)
                          have e159 : w64 61 43 = x38 := ((f67 61 43 rfl : w64 61 43 = w_212 61 43).trans e39)
                          obtain ⟨x160, e161⟩ : ∃ z : Int32, w151 61 43 = z := ⟨_, rfl⟩
                          have b162 : (0 : Int) ≤ x160.toInt ∧ x160.toInt ≤ 500 := by rw [← e161]; exact I153 61 43
                          obtain ⟨x163, e164⟩ : ∃ z : Int32, w151 61 31 = z := ⟨_, rfl⟩
                          have b165 : (0 : Int) ≤ x163.toInt ∧ x163.toInt ≤ 2147483647 := by rw [← e164]; exact I153 61 31
                          obtain ⟨x166, e167⟩ : ∃ z : Int32, w151 61 29 = z := ⟨_, rfl⟩
                          have b168 : (0 : Int) ≤ x166.toInt ∧ x166.toInt ≤ 2147483647 := by rw [← e167]; exact I153 61 29
                          rw [e159, e149, e150, e161, e164, e167] at p156
                          have e169 : w64 61 13 = x44 := ((f67 61 13 rfl : w64 61 13 = w_212 61 13).trans e45)
                          obtain ⟨x170, e171⟩ : ∃ z : Int32, w151 61 13 = z := ⟨_, rfl⟩
                          have b172 : (0 : Int) ≤ x170.toInt ∧ x170.toInt ≤ 13 := by rw [← e171]; exact I153 61 13
                          rw [e169, e171] at p157
                          refine kv_goto C 466 (kdec dk_cX10_tellsText 250 rfl) (by decide) ?_
                          refine kv_iconst C 467 rfl 0 (kdec dk_cX10_tellsText 270 rfl) rfl ?_
                          refine kv_istore_n C 468 rfl 3 [1, 2, 0, 3, 4, 5, 6, 7] [(0, .ref (ρ 61)), (2, .int l2_212), (3, .int 0), (4, .int l4_212), (5, .int l5_212), (6, .int l6_212), (7, .int l7_212), (8, .int l8_212)] (kdec dk_cX10_tellsText 271 rfl) rfl (by decide) rfl ?_
                          refine kv_goto C 45 (kdec dk_cX10_tellsText 272 rfl) (by decide) ?_
                          have e173 : w151 83 0 = x47 := ((f154 83 0 rfl : w151 83 0 = w64 83 0).trans ((f67 83 0 rfl : w64 83 0 = w_212 83 0).trans e48))
                          have e174 : w151 83 1 = x50 := ((f154 83 1 rfl : w151 83 1 = w64 83 1).trans ((f67 83 1 rfl : w64 83 1 = w_212 83 1).trans e51))
                          refine kV.sub [0, 1, 2, 3, 4, 5, 6] (L' := [(0, .ref (ρ 61)), (2, .int l2_212), (3, .int 0), (4, .int l4_212), (5, .int l5_212), (6, .int l6_212), (7, .int l7_212)]) rfl ?_
                          exact ih45 w151 l2_212 0 l4_212 l5_212 l6_212 l7_212 I153 F158 (by omega) (by omega) (by omega) (by omega) (by rw [e2, e5, e164, e161, e167]; try omega) (by rw [e173, e174, e171]; try omega) (by rw [e173, e174, e171]; try omega)
                      · skip
                        refine kv_aload_n C 393 rfl 0 (kdec dk_cX10_tellsText 232 rfl) rfl rfl ?_
                        refine kv_bipush C 395 rfl 97 (kdec dk_cX10_tellsText 233 rfl) rfl ?_
                        refine kv_iload C 397 rfl 7 (kdec dk_cX10_tellsText 234 rfl) rfl ?_
                        refine kv_iadd C 398 rfl (kdec dk_cX10_tellsText 235 rfl) (fun x175 q177 h176e h176 h176l h176u => ?_)
                        try have h176n : x175.toInt = (97 : Int32).toInt + l8_212.toInt := by omega
                        clear h176 q177
                        refine kv_bipush C 400 rfl 6 (kdec dk_cX10_tellsText 236 rfl) rfl ?_
                        refine kv_isub C 401 rfl (kdec dk_cX10_tellsText 237 rfl) (fun x178 q180 h179e h179 h179l h179u => ?_)
                        try have h179n : x178.toInt = x175.toInt - (6 : Int32).toInt := by omega
                        clear h179 q180
                        have e181 : w64 61 31 = x35 := ((f67 61 31 rfl : w64 61 31 = w_212 61 31).trans e36)
                        have e182 : w64 61 29 = x41 := ((f67 61 29 rfl : w64 61 29 = w_212 61 29).trans e42)
                        refine kv_callVv (As := [.int x178]) (rest := []) C 404 rfl 61 (k_x_tellsOf l D τ ρ σ w64 x178 I66 (by omega) (by rw [e181, e182]; try omega)) rfl rfl mml_TaleMachineModel_256 mim_yX10_tellsOf mse_yX10_tellsOf mcd_yX10_tellsOf min_yX10_tellsOf hd_yX10_tellsOf rfl rfl rfl (by decide) rfl (Nat.le_of_ble_eq_true rfl) (kdec dk_cX10_tellsText 238 rfl) (fun w183 h184 => ?_)
                        obtain ⟨I185, f186, p188, p189⟩ := h184
                        have F190 : kF [(61, some 13), (61, some 29), (61, some 31), (61, some 43), (72, none), (73, none), (81, none), (82, none), (83, none)] w w183 := kF_call F71 f186 (by decide)
                        have e191 : w64 61 43 = x38 := ((f67 61 43 rfl : w64 61 43 = w_212 61 43).trans e39)
                        obtain ⟨x192, e193⟩ : ∃ z : Int32, w183 61 43 = z := ⟨_, rfl⟩
                        have b194 : (0 : Int) ≤ x192.toInt ∧ x192.toInt ≤ 500 := by rw [← e193]; exact I185 61 43
                        obtain ⟨x195, e196⟩ : ∃ z : Int32, w183 61 31 = z := ⟨_, rfl⟩
                        have b197 : (0 : Int) ≤ x195.toInt ∧ x195.toInt ≤ 2147483647 := by rw [← e196]; exact I185 61 31
                        obtain ⟨x198, e199⟩ : ∃ z : Int32, w183 61 29 = z := ⟨_, rfl⟩
                        have b200 : (0 : Int) ≤ x198.toInt ∧ x198.toInt ≤ 2147483647 := by rw [← e199]; exact I185 61 29
                        rw [e191, e181, e182, e193, e196, e199] at p188
                        have e201 : w64 61 13 = x44 := ((f67 61 13 rfl : w64 61 13 = w_212 61 13).trans e45)
                        obtain ⟨x202, e203⟩ : ∃ z : Int32, w183 61 13 = z := ⟨_, rfl⟩
                        have b204 : (0 : Int) ≤ x202.toInt ∧ x202.toInt ≤ 13 := by rw [← e203]; exact I185 61 13
                        rw [e201, e203] at p189
                        refine kv_goto C 466 (kdec dk_cX10_tellsText 239 rfl) (by decide) ?_
                        refine kv_iconst C 467 rfl 0 (kdec dk_cX10_tellsText 270 rfl) rfl ?_
                        refine kv_istore_n C 468 rfl 3 [1, 2, 0, 3, 4, 5, 6, 7] [(0, .ref (ρ 61)), (2, .int l2_212), (3, .int 0), (4, .int l4_212), (5, .int l5_212), (6, .int l6_212), (7, .int l7_212), (8, .int l8_212)] (kdec dk_cX10_tellsText 271 rfl) rfl (by decide) rfl ?_
                        refine kv_goto C 45 (kdec dk_cX10_tellsText 272 rfl) (by decide) ?_
                        have e205 : w183 83 0 = x47 := ((f186 83 0 rfl : w183 83 0 = w64 83 0).trans ((f67 83 0 rfl : w64 83 0 = w_212 83 0).trans e48))
                        have e206 : w183 83 1 = x50 := ((f186 83 1 rfl : w183 83 1 = w64 83 1).trans ((f67 83 1 rfl : w64 83 1 = w_212 83 1).trans e51))
                        refine kV.sub [0, 1, 2, 3, 4, 5, 6] (L' := [(0, .ref (ρ 61)), (2, .int l2_212), (3, .int 0), (4, .int l4_212), (5, .int l5_212), (6, .int l6_212), (7, .int l7_212)]) rfl ?_
                        exact ih45 w183 l2_212 0 l4_212 l5_212 l6_212 l7_212 I185 F190 (by omega) (by omega) (by omega) (by omega) (by rw [e2, e5, e196, e193, e199]; try omega) (by rw [e205, e206, e203]; try omega) (by rw [e205, e206, e203]; try omega)
                    · skip
                      refine kv_aload_n C 380 rfl 0 (kdec dk_cX10_tellsText 226 rfl) rfl rfl ?_
                      refine kv_bipush C 382 rfl 32 (kdec dk_cX10_tellsText 227 rfl) rfl ?_
                      have e207 : w64 61 31 = x35 := ((f67 61 31 rfl : w64 61 31 = w_212 61 31).trans e36)
                      have e208 : w64 61 29 = x41 := ((f67 61 29 rfl : w64 61 29 = w_212 61 29).trans e42)
                      refine kv_callVv (As := [.int 32]) (rest := []) C 385 rfl 61 (k_x_tellsOf l D τ ρ σ w64 32 I66 (by omega) (by rw [e207, e208]; try omega)) rfl rfl mml_TaleMachineModel_256 mim_yX10_tellsOf mse_yX10_tellsOf mcd_yX10_tellsOf min_yX10_tellsOf hd_yX10_tellsOf rfl rfl rfl (by decide) rfl (Nat.le_of_ble_eq_true rfl) (kdec dk_cX10_tellsText 228 rfl) (fun w209 h210 => ?_)
                      obtain ⟨I211, f212, p214, p215⟩ := h210
                      have F216 : kF [(61, some 13), (61, some 29), (61, some 31), (61, some 43), (72, none), (73, none), (81, none), (82, none), (83, none)] w w209 := kF_call F71 f212 (by decide)
                      have e217 : w64 61 43 = x38 := ((f67 61 43 rfl : w64 61 43 = w_212 61 43).trans e39)
                      obtain ⟨x218, e219⟩ : ∃ z : Int32, w209 61 43 = z := ⟨_, rfl⟩
                      have b220 : (0 : Int) ≤ x218.toInt ∧ x218.toInt ≤ 500 := by rw [← e219]; exact I211 61 43
                      obtain ⟨x221, e222⟩ : ∃ z : Int32, w209 61 31 = z := ⟨_, rfl⟩
                      have b223 : (0 : Int) ≤ x221.toInt ∧ x221.toInt ≤ 2147483647 := by rw [← e222]; exact I211 61 31
                      obtain ⟨x224, e225⟩ : ∃ z : Int32, w209 61 29 = z := ⟨_, rfl⟩
                      have b226 : (0 : Int) ≤ x224.toInt ∧ x224.toInt ≤ 2147483647 := by rw [← e225]; exact I211 61 29
                      rw [e217, e207, e208, e219, e222, e225] at p214
                      have e227 : w64 61 13 = x44 := ((f67 61 13 rfl : w64 61 13 = w_212 61 13).trans e45)
                      obtain ⟨x228, e229⟩ : ∃ z : Int32, w209 61 13 = z := ⟨_, rfl⟩
                      have b230 : (0 : Int) ≤ x228.toInt ∧ x228.toInt ≤ 13 := by rw [← e229]; exact I211 61 13
                      rw [e227, e229] at p215
                      refine kv_goto C 466 (kdec dk_cX10_tellsText 229 rfl) (by decide) ?_
                      refine kv_iconst C 467 rfl 0 (kdec dk_cX10_tellsText 270 rfl) rfl ?_
                      refine kv_istore_n C 468 rfl 3 [1, 2, 0, 3, 4, 5, 6, 7] [(0, .ref (ρ 61)), (2, .int l2_212), (3, .int 0), (4, .int l4_212), (5, .int l5_212), (6, .int l6_212), (7, .int l7_212), (8, .int l8_212)] (kdec dk_cX10_tellsText 271 rfl) rfl (by decide) rfl ?_
                      refine kv_goto C 45 (kdec dk_cX10_tellsText 272 rfl) (by decide) ?_
                      have e231 : w209 83 0 = x47 := ((f212 83 0 rfl : w209 83 0 = w64 83 0).trans ((f67 83 0 rfl : w64 83 0 = w_212 83 0).trans e48))
                      have e232 : w209 83 1 = x50 := ((f212 83 1 rfl : w209 83 1 = w64 83 1).trans ((f67 83 1 rfl : w64 83 1 = w_212 83 1).trans e51))
                      refine kV.sub [0, 1, 2, 3, 4, 5, 6] (L' := [(0, .ref (ρ 61)), (2, .int l2_212), (3, .int 0), (4, .int l4_212), (5, .int l5_212), (6, .int l6_212), (7, .int l7_212)]) rfl ?_
                      exact ih45 w209 l2_212 0 l4_212 l5_212 l6_212 l7_212 I211 F216 (by omega) (by omega) (by omega) (by omega) (by rw [e2, e5, e222, e219, e225]; try omega) (by rw [e231, e232, e229]; try omega) (by rw [e231, e232, e229]; try omega)
                  · skip
                    refine kv_iload_n C 352 rfl 1 (kdec dk_cX10_tellsText 211 rfl) rfl rfl ?_
                    refine kv_iconst C 353 rfl 1 (kdec dk_cX10_tellsText 212 rfl) rfl ?_
                    refine kv_icmp_ne C 356 rfl 362 (kdec dk_cX10_tellsText 213 rfl) (by decide) (fun d233 => ?_) (fun d233 => ?_)
                    · skip
                      refine kv_iconst C 363 rfl 1 (kdec dk_cX10_tellsText 217 rfl) rfl ?_
                      refine kv_istore C 365 rfl 4 [1, 2, 3, 0, 4, 5, 6, 7] [(0, .ref (ρ 61)), (2, .int l2_212), (3, .int l3_212), (4, .int 1), (5, .int l5_212), (6, .int l6_212), (7, .int l7_212), (8, .int l8_212)] (kdec dk_cX10_tellsText 218 rfl) (by decide) rfl ?_
                      refine kv_iload C 367 rfl 7 (kdec dk_cX10_tellsText 219 rfl) rfl ?_
                      refine kv_istore C 369 rfl 5 [1, 2, 3, 4, 0, 5, 6, 7] [(0, .ref (ρ 61)), (2, .int l2_212), (3, .int l3_212), (4, .int 1), (5, .int l8_212), (6, .int l6_212), (7, .int l7_212), (8, .int l8_212)] (kdec dk_cX10_tellsText 220 rfl) (by decide) rfl ?_
                      refine kv_iconst C 370 rfl 0 (kdec dk_cX10_tellsText 221 rfl) rfl ?_
                      refine kv_istore_n C 371 rfl 3 [1, 2, 0, 3, 4, 5, 6, 7] [(0, .ref (ρ 61)), (2, .int l2_212), (3, .int 0), (4, .int 1), (5, .int l8_212), (6, .int l6_212), (7, .int l7_212), (8, .int l8_212)] (kdec dk_cX10_tellsText 222 rfl) rfl (by decide) rfl ?_
                      refine kv_goto C 468 (kdec dk_cX10_tellsText 223 rfl) (by decide) ?_
                      refine kv_goto C 45 (kdec dk_cX10_tellsText 272 rfl) (by decide) ?_
                      have e234 : w64 61 31 = x35 := ((f67 61 31 rfl : w64 61 31 = w_212 61 31).trans e36)
                      have e235 : w64 61 43 = x38 := ((f67 61 43 rfl : w64 61 43 = w_212 61 43).trans e39)
                      have e236 : w64 61 29 = x41 := ((f67 61 29 rfl : w64 61 29 = w_212 61 29).trans e42)
                      have e237 : w64 83 0 = x47 := ((f67 83 0 rfl : w64 83 0 = w_212 83 0).trans e48)
                      have e238 : w64 83 1 = x50 := ((f67 83 1 rfl : w64 83 1 = w_212 83 1).trans e51)
                      have e239 : w64 61 13 = x44 := ((f67 61 13 rfl : w64 61 13 = w_212 61 13).trans e45)
                      refine kV.sub [0, 1, 2, 3, 4, 5, 6] (L' := [(0, .ref (ρ 61)), (2, .int l2_212), (3, .int 0), (4, .int 1), (5, .int l8_212), (6, .int l6_212), (7, .int l7_212)]) rfl ?_
                      exact ih45 w64 l2_212 0 1 l8_212 l6_212 l7_212 I66 F71 (by omega) (by omega) (by omega) (by omega) (by rw [e2, e5, e234, e235, e236]; try omega) (by rw [e237, e238, e239]; try omega) (by rw [e237, e238, e239]; try omega)
                    · skip
                      refine kv_aload_n C 357 rfl 0 (kdec dk_cX10_tellsText 214 rfl) rfl rfl ?_
                      refine kv_bipush C 359 rfl 12 (kdec dk_cX10_tellsText 215 rfl) rfl ?_
                      refine kv_callVv (As := [.int 12]) (rest := []) C 362 rfl 61 (k_x_halts l D τ ρ σ w64 12 I66 (by omega)) rfl rfl mml_TaleMachineModel_160 mim_yX10_halts mse_yX10_halts mcd_yX10_halts min_yX10_halts hd_yX10_halts rfl rfl rfl (by decide) rfl (Nat.le_of_ble_eq_true rfl) (kdec dk_cX10_tellsText 216 rfl) (fun w240 h241 => ?_)
                      obtain ⟨I242, f243, p245⟩ := h241
                      have F246 : kF [(61, some 13), (61, some 29), (61, some 31), (61, some 43), (72, none), (73, none), (81, none), (82, none), (83, none)] w w240 := kF_call F71 f243 (by decide)
                      have e247 : w64 61 13 = x44 := ((f67 61 13 rfl : w64 61 13 = w_212 61 13).trans e45)
                      obtain ⟨x248, e249⟩ : ∃ z : Int32, w240 61 13 = z := ⟨_, rfl⟩
                      have b250 : (0 : Int) ≤ x248.toInt ∧ x248.toInt ≤ 13 := by rw [← e249]; exact I242 61 13
                      rw [e247, e249] at p245
                      refine kv_iconst C 363 rfl 1 (kdec dk_cX10_tellsText 217 rfl) rfl ?_
                      refine kv_istore C 365 rfl 4 [1, 2, 3, 0, 4, 5, 6, 7] [(0, .ref (ρ 61)), (2, .int l2_212), (3, .int l3_212), (4, .int 1), (5, .int l5_212), (6, .int l6_212), (7, .int l7_212), (8, .int l8_212)] (kdec dk_cX10_tellsText 218 rfl) (by decide) rfl ?_
                      refine kv_iload C 367 rfl 7 (kdec dk_cX10_tellsText 219 rfl) rfl ?_
                      refine kv_istore C 369 rfl 5 [1, 2, 3, 4, 0, 5, 6, 7] [(0, .ref (ρ 61)), (2, .int l2_212), (3, .int l3_212), (4, .int 1), (5, .int l8_212), (6, .int l6_212), (7, .int l7_212), (8, .int l8_212)] (kdec dk_cX10_tellsText 220 rfl) (by decide) rfl ?_
                      refine kv_iconst C 370 rfl 0 (kdec dk_cX10_tellsText 221 rfl) rfl ?_
                      refine kv_istore_n C 371 rfl 3 [1, 2, 0, 3, 4, 5, 6, 7] [(0, .ref (ρ 61)), (2, .int l2_212), (3, .int 0), (4, .int 1), (5, .int l8_212), (6, .int l6_212), (7, .int l7_212), (8, .int l8_212)] (kdec dk_cX10_tellsText 222 rfl) rfl (by decide) rfl ?_
                      refine kv_goto C 468 (kdec dk_cX10_tellsText 223 rfl) (by decide) ?_
                      refine kv_goto C 45 (kdec dk_cX10_tellsText 272 rfl) (by decide) ?_
                      have e251 : w240 61 31 = x35 := ((f243 61 31 rfl : w240 61 31 = w64 61 31).trans ((f67 61 31 rfl : w64 61 31 = w_212 61 31).trans e36))
                      have e252 : w240 61 43 = x38 := ((f243 61 43 rfl : w240 61 43 = w64 61 43).trans ((f67 61 43 rfl : w64 61 43 = w_212 61 43).trans e39))
                      have e253 : w240 61 29 = x41 := ((f243 61 29 rfl : w240 61 29 = w64 61 29).trans ((f67 61 29 rfl : w64 61 29 = w_212 61 29).trans e42))
                      have e254 : w240 83 0 = x47 := ((f243 83 0 rfl : w240 83 0 = w64 83 0).trans ((f67 83 0 rfl : w64 83 0 = w_212 83 0).trans e48))
                      have e255 : w240 83 1 = x50 := ((f243 83 1 rfl : w240 83 1 = w64 83 1).trans ((f67 83 1 rfl : w64 83 1 = w_212 83 1).trans e51))
                      refine kV.sub [0, 1, 2, 3, 4, 5, 6] (L' := [(0, .ref (ρ 61)), (2, .int l2_212), (3, .int 0), (4, .int 1), (5, .int l8_212), (6, .int l6_212), (7, .int l7_212)]) rfl ?_
                      exact ih45 w240 l2_212 0 1 l8_212 l6_212 l7_212 I242 F246 (by omega) (by omega) (by omega) (by omega) (by rw [e2, e5, e251, e252, e253]; try omega) (by rw [e254, e255, e249]; try omega) (by rw [e254, e255, e249]; try omega)
                · skip
                  refine kv_iload C 332 rfl 7 (kdec dk_cX10_tellsText 200 rfl) rfl ?_
                  refine kv_iconst C 333 rfl 3 (kdec dk_cX10_tellsText 201 rfl) rfl ?_
                  refine kv_isub C 334 rfl (kdec dk_cX10_tellsText 202 rfl) (fun x256 q258 h257e h257 h257l h257u => ?_)
                  try have h257n : x256.toInt = l8_212.toInt - (3 : Int32).toInt := by omega
                  clear h257 q258
                  refine kv_istore_n C 335 rfl 3 [1, 2, 0, 3, 4, 5, 6, 7] [(0, .ref (ρ 61)), (2, .int l2_212), (3, .int x256), (4, .int l4_212), (5, .int l5_212), (6, .int l6_212), (7, .int l7_212), (8, .int l8_212)] (kdec dk_cX10_tellsText 203 rfl) rfl (by decide) rfl ?_
                  refine kv_goto C 468 (kdec dk_cX10_tellsText 204 rfl) (by decide) ?_
                  refine kv_goto C 45 (kdec dk_cX10_tellsText 272 rfl) (by decide) ?_
                  refine kV.sub [0, 1, 2, 3, 4, 5, 6] (L' := [(0, .ref (ρ 61)), (2, .int l2_212), (3, .int x256), (4, .int l4_212), (5, .int l5_212), (6, .int l6_212), (7, .int l7_212)]) rfl ?_
                  exact ih45 w_212 l2_212 x256 l4_212 l5_212 l6_212 l7_212 I_212 F_212 (by omega) (by omega) (by omega) (by omega) (by rw [e2, e5, e36, e39, e42]; try omega) (by rw [e48, e51, e45]; try omega) (by rw [e48, e51, e45]; try omega)
            · skip
              refine kv_iconst C 301 rfl 0 (kdec dk_cX10_tellsText 184 rfl) rfl ?_
              refine kv_istore C 303 rfl 4 [1, 2, 3, 0, 4, 5, 6, 7] [(0, .ref (ρ 61)), (2, .int l2_212), (3, .int l3_212), (4, .int 0), (5, .int l5_212), (6, .int l6_212), (7, .int l7_212), (8, .int l8_212)] (kdec dk_cX10_tellsText 185 rfl) (by decide) rfl ?_
              refine kv_aload_n C 304 rfl 0 (kdec dk_cX10_tellsText 186 rfl) rfl rfl ?_
              refine kv_bipush C 306 rfl 32 (kdec dk_cX10_tellsText 187 rfl) rfl ?_
              refine kv_iload C 308 rfl 4 (kdec dk_cX10_tellsText 188 rfl) rfl ?_
              refine kv_imul C 309 rfl (kdec dk_cX10_tellsText 189 rfl) (fun x259 h260e h260l h260u => ?_)
              obtain ⟨q261, g262⟩ := kf_mul 32 l5_212
              rw [← h260e, c_32] at g262
              try have h260n : x259.toInt = 32 * l5_212.toInt := by omega
              clear g262 q261
              refine kv_iload C 311 rfl 7 (kdec dk_cX10_tellsText 190 rfl) rfl ?_
              refine kv_iadd C 312 rfl (kdec dk_cX10_tellsText 191 rfl) (fun x263 q265 h264e h264 h264l h264u => ?_)
              try have h264n : x263.toInt = x259.toInt + l8_212.toInt := by omega
              clear h264 q265
              refine kv_callVv (As := [.int x263]) (rest := []) C 315 rfl 61 (k_x_tellsOf l D τ ρ σ w_212 x263 I_212 (by omega) (by rw [e36, e42]; try omega)) rfl rfl mml_TaleMachineModel_256 mim_yX10_tellsOf mse_yX10_tellsOf mcd_yX10_tellsOf min_yX10_tellsOf hd_yX10_tellsOf rfl rfl rfl (by decide) rfl (Nat.le_of_ble_eq_true rfl) (kdec dk_cX10_tellsText 192 rfl) (fun w266 h267 => ?_)
              obtain ⟨I268, f269, p271, p272⟩ := h267
              have F273 : kF [(61, some 13), (61, some 29), (61, some 31), (61, some 43), (72, none), (73, none), (81, none), (82, none), (83, none)] w w266 := kF_call F_212 f269 (by decide)
              obtain ⟨x274, e275⟩ : ∃ z : Int32, w266 61 43 = z := ⟨_, rfl⟩
              have b276 : (0 : Int) ≤ x274.toInt ∧ x274.toInt ≤ 500 := by rw [← e275]; exact I268 61 43
              obtain ⟨x277, e278⟩ : ∃ z : Int32, w266 61 31 = z := ⟨_, rfl⟩
              have b279 : (0 : Int) ≤ x277.toInt ∧ x277.toInt ≤ 2147483647 := by rw [← e278]; exact I268 61 31
              obtain ⟨x280, e281⟩ : ∃ z : Int32, w266 61 29 = z := ⟨_, rfl⟩
              have b282 : (0 : Int) ≤ x280.toInt ∧ x280.toInt ≤ 2147483647 := by rw [← e281]; exact I268 61 29
              rw [e39, e36, e42, e275, e278, e281] at p271
              obtain ⟨x283, e284⟩ : ∃ z : Int32, w266 61 13 = z := ⟨_, rfl⟩
              have b285 : (0 : Int) ≤ x283.toInt ∧ x283.toInt ≤ 13 := by rw [← e284]; exact I268 61 13
              rw [e45, e284] at p272
              refine kv_goto C 468 (kdec dk_cX10_tellsText 193 rfl) (by decide) ?_
              refine kv_goto C 45 (kdec dk_cX10_tellsText 272 rfl) (by decide) ?_
              have e286 : w266 83 0 = x47 := ((f269 83 0 rfl : w266 83 0 = w_212 83 0).trans e48)
              have e287 : w266 83 1 = x50 := ((f269 83 1 rfl : w266 83 1 = w_212 83 1).trans e51)
              refine kV.sub [0, 1, 2, 3, 4, 5, 6] (L' := [(0, .ref (ρ 61)), (2, .int l2_212), (3, .int l3_212), (4, .int 0), (5, .int l5_212), (6, .int l6_212), (7, .int l7_212)]) rfl ?_
              exact ih45 w266 l2_212 l3_212 0 l5_212 l6_212 l7_212 I268 F273 (by omega) (by omega) (by omega) (by omega) (by rw [e2, e5, e278, e275, e281]; try omega) (by rw [e286, e287, e284]; try omega) (by rw [e286, e287, e284]; try omega)
          · skip
            refine kv_iload C 286 rfl 7 (kdec dk_cX10_tellsText 176 rfl) rfl ?_
            refine kv_istore C 288 rfl 5 [1, 2, 3, 4, 0, 5, 6, 7] [(0, .ref (ρ 61)), (2, .int l2_212), (3, .int l3_212), (4, .int l4_212), (5, .int l8_212), (6, .int l6_212), (7, .int l7_212), (8, .int l8_212)] (kdec dk_cX10_tellsText 177 rfl) (by decide) rfl ?_
            refine kv_iconst C 289 rfl 3 (kdec dk_cX10_tellsText 178 rfl) rfl ?_
            refine kv_istore C 291 rfl 4 [1, 2, 3, 0, 4, 5, 6, 7] [(0, .ref (ρ 61)), (2, .int l2_212), (3, .int l3_212), (4, .int 3), (5, .int l8_212), (6, .int l6_212), (7, .int l7_212), (8, .int l8_212)] (kdec dk_cX10_tellsText 179 rfl) (by decide) rfl ?_
            refine kv_goto C 468 (kdec dk_cX10_tellsText 180 rfl) (by decide) ?_
            refine kv_goto C 45 (kdec dk_cX10_tellsText 272 rfl) (by decide) ?_
            refine kV.sub [0, 1, 2, 3, 4, 5, 6] (L' := [(0, .ref (ρ 61)), (2, .int l2_212), (3, .int l3_212), (4, .int 3), (5, .int l8_212), (6, .int l6_212), (7, .int l7_212)]) rfl ?_
            exact ih45 w_212 l2_212 l3_212 3 l8_212 l6_212 l7_212 I_212 F_212 (by omega) (by omega) (by omega) (by omega) (by rw [e2, e5, e36, e39, e42]; try omega) (by rw [e48, e51, e45]; try omega) (by rw [e48, e51, e45]; try omega)
        · skip
          refine kv_iconst C 219 rfl 0 (kdec dk_cX10_tellsText 132 rfl) rfl ?_
          refine kv_istore C 221 rfl 4 [1, 2, 3, 0, 4, 5, 6, 7] [(0, .ref (ρ 61)), (2, .int l2_212), (3, .int l3_212), (4, .int 0), (5, .int l5_212), (6, .int l6_212), (7, .int l7_212), (8, .int l8_212)] (kdec dk_cX10_tellsText 133 rfl) (by decide) rfl ?_
          refine kv_iconst C 222 rfl 0 (kdec dk_cX10_tellsText 134 rfl) rfl ?_
          refine kv_istore_n C 223 rfl 3 [1, 2, 0, 3, 4, 5, 6, 7] [(0, .ref (ρ 61)), (2, .int l2_212), (3, .int 0), (4, .int 0), (5, .int l5_212), (6, .int l6_212), (7, .int l7_212), (8, .int l8_212)] (kdec dk_cX10_tellsText 135 rfl) rfl (by decide) rfl ?_
          refine kv_aload_n C 224 rfl 0 (kdec dk_cX10_tellsText 136 rfl) rfl rfl ?_
          refine kv_aload_n C 225 rfl 0 (kdec dk_cX10_tellsText 137 rfl) rfl rfl ?_
          obtain ⟨x288, e289⟩ : ∃ z : Int32, w 61 11 = z := ⟨_, rfl⟩
          have b290 : (0 : Int) ≤ x288.toInt ∧ x288.toInt ≤ 65535 := by rw [← e289]; exact hI 61 11
          have e291 : w_212 61 11 = x288 := ((F_212 61 11 rfl : w_212 61 11 = w 61 11).trans e289)
          refine kv_get C 228 rfl 61 11 rfl rfl inX10 (by decide) mfl_TaleMachineModel_130 rfl rfl (kdec dk_cX10_tellsText 138 rfl) e291 ?_
          refine kv_iconst C 229 rfl 2 (kdec dk_cX10_tellsText 139 rfl) rfl ?_
          refine kv_bipush C 231 rfl 32 (kdec dk_cX10_tellsText 140 rfl) rfl ?_
          refine kv_iload C 233 rfl 4 (kdec dk_cX10_tellsText 141 rfl) rfl ?_
          refine kv_iconst C 234 rfl 1 (kdec dk_cX10_tellsText 142 rfl) rfl ?_
          refine kv_isub C 235 rfl (kdec dk_cX10_tellsText 143 rfl) (fun x292 q294 h293e h293 h293l h293u => ?_)
          try have h293n : x292.toInt = l5_212.toInt - (1 : Int32).toInt := by omega
          clear h293 q294
          refine kv_imul C 236 rfl (kdec dk_cX10_tellsText 144 rfl) (fun x295 h296e h296l h296u => ?_)
          obtain ⟨q297, g298⟩ := kf_mul 32 x292
          rw [← h296e, c_32] at g298
          try have h296n : x295.toInt = 32 * x292.toInt := by omega
          clear g298 q297
          refine kv_iload C 238 rfl 7 (kdec dk_cX10_tellsText 145 rfl) rfl ?_
          refine kv_iadd C 239 rfl (kdec dk_cX10_tellsText 146 rfl) (fun x299 q301 h300e h300 h300l h300u => ?_)
          try have h300n : x299.toInt = x295.toInt + l8_212.toInt := by omega
          clear h300 q301
          refine kv_imul C 240 rfl (kdec dk_cX10_tellsText 147 rfl) (fun x302 h303e h303l h303u => ?_)
          obtain ⟨q304, g305⟩ := kf_mul 2 x299
          rw [← h303e, c_2] at g305
          try have h303n : x302.toInt = 2 * x299.toInt := by omega
          clear g305 q304
          refine kv_iadd C 241 rfl (kdec dk_cX10_tellsText 148 rfl) (fun x306 q308 h307e h307 h307l h307u => ?_)
          try have h307n : x306.toInt = x288.toInt + x302.toInt := by omega
          clear h307 q308
          refine kv_callVi (As := [.int x306]) (rest := []) C 244 rfl 61 (k_x_wordAt l D τ ρ σ w_212 x306 I_212 ) rfl rfl mml_TaleMachineModel_178 mim_yX10_wordAt mse_yX10_wordAt mcd_yX10_wordAt min_yX10_wordAt hd_yX10_wordAt rfl rfl rfl (by decide) rfl (Nat.le_of_ble_eq_true rfl) (kdec dk_cX10_tellsText 149 rfl) (fun x313 w309 h310 => ?_)
          obtain ⟨I311, f312, p314, p315⟩ := h310
          have F316 : kF [(61, some 13), (61, some 29), (61, some 31), (61, some 43), (72, none), (73, none), (81, none), (82, none), (83, none)] w w309 := kF_call F_212 f312 (by decide)
          have g317 := kf_rng x313
          obtain ⟨x318, e319⟩ : ∃ z : Int32, w309 61 13 = z := ⟨_, rfl⟩
          have b320 : (0 : Int) ≤ x318.toInt ∧ x318.toInt ≤ 13 := by rw [← e319]; exact I311 61 13
          rw [e45, e319] at p315
          refine kv_istore C 246 rfl 9 [1, 2, 3, 4, 5, 6, 7, 8, 0] [(0, .ref (ρ 61)), (2, .int l2_212), (3, .int 0), (4, .int 0), (5, .int l5_212), (6, .int l6_212), (7, .int l7_212), (8, .int l8_212), (9, .int x313)] (kdec dk_cX10_tellsText 150 rfl) (by decide) rfl ?_
          refine kv_iconst C 247 rfl 1 (kdec dk_cX10_tellsText 151 rfl) rfl ?_
          refine kv_istore_n C 248 rfl 2 [1, 0, 2, 3, 4, 5, 6, 7, 8] [(0, .ref (ρ 61)), (2, .int 1), (3, .int 0), (4, .int 0), (5, .int l5_212), (6, .int l6_212), (7, .int l7_212), (8, .int l8_212), (9, .int x313)] (kdec dk_cX10_tellsText 152 rfl) rfl (by decide) rfl ?_
          refine kv_aload_n C 249 rfl 0 (kdec dk_cX10_tellsText 153 rfl) rfl rfl ?_
          refine kv_getr C 252 rfl 61 40 rfl rfl inX10 (by decide) mfl_TaleMachineModel_68 rfl rfl (kdec dk_cX10_tellsText 154 rfl) ?_
          refine kv_iconst C 253 rfl 1 (kdec dk_cX10_tellsText 155 rfl) rfl ?_
          refine kv_iconst C 254 rfl 2 (kdec dk_cX10_tellsText 156 rfl) rfl ?_
          refine kv_iload C 256 rfl 8 (kdec dk_cX10_tellsText 157 rfl) rfl ?_
          refine kv_imul C 257 rfl (kdec dk_cX10_tellsText 158 rfl) (fun x321 h322e h322l h322u => ?_)
          obtain ⟨q323, g324⟩ := kf_mul 2 x313
          rw [← h322e, c_2] at g324
          try have h322n : x321.toInt = 2 * x313.toInt := by omega
          clear g324 q323
          refine kv_ldc C 259 rfl 65535 (kdec dk_cX10_tellsText 159 rfl) mco_TaleMachineModel_104 ?_
          refine kv_iand C 260 rfl (kdec dk_cX10_tellsText 160 rfl) (fun x325 h326e h326l h326u => ?_)
          have g327 := kf_and65535 h326e
          refine kv_iast C 261 rfl 81 rfl (by omega) (by omega) (kdec dk_cX10_tellsText 161 rfl) (fun w328 u329 => ?_)
          have u329 : w328 = kup w309 81 1 x325 := u329
          have I330 : kI false w328 := kI_put u329 I311 (show (0 : Int) ≤ (x325 : Int32).toInt by omega) (show (x325 : Int32).toInt ≤ 65535 by omega)
          have F331 : kF [(61, some 13), (61, some 29), (61, some 31), (61, some 43), (72, none), (73, none), (81, none), (82, none), (83, none)] w w328 := kF_put u329 F316 rfl
          refine kv_aload_n C 262 rfl 0 (kdec dk_cX10_tellsText 162 rfl) rfl rfl ?_
          refine kv_getr C 265 rfl 61 42 rfl rfl inX10 (by decide) mfl_TaleMachineModel_74 rfl rfl (kdec dk_cX10_tellsText 163 rfl) ?_
          refine kv_iconst C 266 rfl 1 (kdec dk_cX10_tellsText 164 rfl) rfl ?_
          refine kv_iconst C 267 rfl 3 (kdec dk_cX10_tellsText 165 rfl) rfl ?_
          refine kv_iast C 268 rfl 83 rfl (by omega) (by omega) (kdec dk_cX10_tellsText 166 rfl) (fun w332 u333 => ?_)
          have u333 : w332 = kup w328 83 1 3 := u333
          have I334 : kI false w332 := kI_put u333 I330 (show (0 : Int) ≤ (3 : Int32).toInt by omega) (show (3 : Int32).toInt ≤ 3 by omega)
          have F335 : kF [(61, some 13), (61, some 29), (61, some 31), (61, some 43), (72, none), (73, none), (81, none), (82, none), (83, none)] w w332 := kF_put u333 F331 rfl
          refine kv_aload_n C 269 rfl 0 (kdec dk_cX10_tellsText 167 rfl) rfl rfl ?_
          refine kv_getr C 272 rfl 61 41 rfl rfl inX10 (by decide) mfl_TaleMachineModel_71 rfl rfl (kdec dk_cX10_tellsText 168 rfl) ?_
          refine kv_iconst C 273 rfl 1 (kdec dk_cX10_tellsText 169 rfl) rfl ?_
          refine kv_iconst C 274 rfl 0 (kdec dk_cX10_tellsText 170 rfl) rfl ?_
          refine kv_iast C 275 rfl 82 rfl (by omega) (by omega) (kdec dk_cX10_tellsText 171 rfl) (fun w336 u337 => ?_)
          have u337 : w336 = kup w332 82 1 0 := u337
          have I338 : kI false w336 := kI_put u337 I334 (show (0 : Int) ≤ (0 : Int32).toInt by omega) (show (0 : Int32).toInt ≤ 65535 by omega)
          have F339 : kF [(61, some 13), (61, some 29), (61, some 31), (61, some 43), (72, none), (73, none), (81, none), (82, none), (83, none)] w w336 := kF_put u337 F335 rfl
          refine kv_goto C 468 (kdec dk_cX10_tellsText 172 rfl) (by decide) ?_
          refine kv_goto C 45 (kdec dk_cX10_tellsText 272 rfl) (by decide) ?_
          have e340 : w336 61 31 = x35 := ((kup_ne u337 rfl : w336 61 31 = w332 61 31).trans ((kup_ne u333 rfl : w332 61 31 = w328 61 31).trans ((kup_ne u329 rfl : w328 61 31 = w309 61 31).trans ((f312 61 31 rfl : w309 61 31 = w_212 61 31).trans e36))))
          have e341 : w336 61 43 = x38 := ((kup_ne u337 rfl : w336 61 43 = w332 61 43).trans ((kup_ne u333 rfl : w332 61 43 = w328 61 43).trans ((kup_ne u329 rfl : w328 61 43 = w309 61 43).trans ((f312 61 43 rfl : w309 61 43 = w_212 61 43).trans e39))))
          have e342 : w336 61 29 = x41 := ((kup_ne u337 rfl : w336 61 29 = w332 61 29).trans ((kup_ne u333 rfl : w332 61 29 = w328 61 29).trans ((kup_ne u329 rfl : w328 61 29 = w309 61 29).trans ((f312 61 29 rfl : w309 61 29 = w_212 61 29).trans e42))))
          have e343 : w336 83 0 = x47 := ((kup_ne u337 rfl : w336 83 0 = w332 83 0).trans ((kup_ne u333 rfl : w332 83 0 = w328 83 0).trans ((kup_ne u329 rfl : w328 83 0 = w309 83 0).trans ((f312 83 0 rfl : w309 83 0 = w_212 83 0).trans e48))))
          have e344 : w336 83 1 = 3 := ((kup_ne u337 rfl : w336 83 1 = w332 83 1).trans (kup_eq u333))
          have e345 : w336 61 13 = x318 := ((kup_ne u337 rfl : w336 61 13 = w332 61 13).trans ((kup_ne u333 rfl : w332 61 13 = w328 61 13).trans ((kup_ne u329 rfl : w328 61 13 = w309 61 13).trans e319)))
          refine kV.sub [0, 1, 2, 3, 4, 5, 6] (L' := [(0, .ref (ρ 61)), (2, .int 1), (3, .int 0), (4, .int 0), (5, .int l5_212), (6, .int l6_212), (7, .int l7_212)]) rfl ?_
          exact ih45 w336 1 0 0 l5_212 l6_212 l7_212 I338 F339 (by omega) (by omega) (by omega) (by omega) (by rw [e2, e5, e340, e341, e342]; try omega) (by rw [e343, e344, e345]; try omega) (by rw [e343, e344, e345]; try omega)
      rcases (show l2_45.toInt = 0 ∨ l2_45.toInt = 1 by omega) with hs45 | hs45
      · obtain rfl := kf_eqc (0) (by decide) hs45
        refine kv_iload C 47 rfl 6 (kdec dk_cX10_tellsText 32 rfl) rfl ?_
        refine kv_if_eq C 50 rfl 471 (kdec dk_cX10_tellsText 33 rfl) (by decide) (fun d346 => ?_) (fun d346 => ?_)
        · skip
          refine kV.sub [0] (L' := [(0, .ref (ρ 61))]) rfl ?_
          exact cut471 w_45  I_45 F_45 (by rw [e2, e5, e18, e24]; try omega)
        · skip
          refine kv_aload_n C 51 rfl 0 (kdec dk_cX10_tellsText 34 rfl) rfl rfl ?_
          refine kv_get C 54 rfl 61 13 rfl rfl inX10 (by decide) mfl_TaleMachineModel_148 rfl rfl (kdec dk_cX10_tellsText 35 rfl) e33 ?_
          refine kv_if_ne C 57 rfl 471 (kdec dk_cX10_tellsText 36 rfl) (by decide) (fun d347 => ?_) (fun d347 => ?_)
          · skip
            refine kV.sub [0] (L' := [(0, .ref (ρ 61))]) rfl ?_
            exact cut471 w_45  I_45 F_45 (by rw [e2, e5, e18, e24]; try omega)
          · skip
            refine kv_aload_n C 58 rfl 0 (kdec dk_cX10_tellsText 37 rfl) rfl rfl ?_
            refine kv_getr C 61 rfl 61 42 rfl rfl inX10 (by decide) mfl_TaleMachineModel_74 rfl rfl (kdec dk_cX10_tellsText 38 rfl) ?_
            refine kv_iload_n C 62 rfl 1 (kdec dk_cX10_tellsText 39 rfl) rfl rfl ?_
            refine kv_iald C 63 rfl 83 rfl (by omega) (by omega) (show w_45 83 (0 : Int32).toNatClampNeg = x26 from e27) (kdec dk_cX10_tellsText 40 rfl) ?_
            refine kv_iconst C 64 rfl 3 (kdec dk_cX10_tellsText 41 rfl) rfl ?_
            refine kv_icmp_ne C 67 rfl 159 (kdec dk_cX10_tellsText 42 rfl) (by decide) (fun d348 => ?_) (fun d348 => ?_)
            · skip
              refine kv_iload C 161 rfl 5 (kdec dk_cX10_tellsText 97 rfl) rfl ?_
              refine kv_sipush C 164 rfl 2000 (kdec dk_cX10_tellsText 98 rfl) rfl ?_
              refine kv_icmp_ne C 167 rfl 176 (kdec dk_cX10_tellsText 99 rfl) (by decide) (fun d349 => ?_) (fun d349 => ?_)
              · skip
                refine kv_iinc C 179 rfl 6 5 [1, 2, 3, 4, 5, 0, 6] (fun v9 => [(0, .ref (ρ 61)), (2, .int 0), (3, .int l3_45), (4, .int l4_45), (5, .int l5_45), (6, .int v9), (7, .int l7_45)]) (kdec dk_cX10_tellsText 104 rfl) rfl (by decide) (fun _ => rfl) 1 rfl (fun x350 q351 h352e h352 h352l h352u => ?_)
                try have h352n : x350.toInt = l6_45.toInt + 1 := by omega
                clear h352 q351
                refine kv_aload_n C 180 rfl 0 (kdec dk_cX10_tellsText 105 rfl) rfl rfl ?_
                refine kv_getr C 183 rfl 61 41 rfl rfl inX10 (by decide) mfl_TaleMachineModel_71 rfl rfl (kdec dk_cX10_tellsText 106 rfl) ?_
                refine kv_iload_n C 184 rfl 1 (kdec dk_cX10_tellsText 107 rfl) rfl rfl ?_
                obtain ⟨x353, e354⟩ : ∃ z : Int32, w_45 82 0 = z := ⟨_, rfl⟩
                have b355 : (0 : Int) ≤ x353.toInt ∧ x353.toInt ≤ 65535 := by rw [← e354]; exact I_45 82 0
                refine kv_iald C 185 rfl 82 rfl (by omega) (by omega) (show w_45 82 (0 : Int32).toNatClampNeg = x353 from e354) (kdec dk_cX10_tellsText 108 rfl) ?_
                refine kv_bipush C 187 rfl 10 (kdec dk_cX10_tellsText 109 rfl) rfl ?_
                refine kv_iconst C 188 rfl 5 (kdec dk_cX10_tellsText 110 rfl) rfl ?_
                refine kv_aload_n C 189 rfl 0 (kdec dk_cX10_tellsText 111 rfl) rfl rfl ?_
                refine kv_getr C 192 rfl 61 42 rfl rfl inX10 (by decide) mfl_TaleMachineModel_74 rfl rfl (kdec dk_cX10_tellsText 112 rfl) ?_
                refine kv_iload_n C 193 rfl 1 (kdec dk_cX10_tellsText 113 rfl) rfl rfl ?_
                refine kv_iald C 194 rfl 83 rfl (by omega) (by omega) (show w_45 83 (0 : Int32).toNatClampNeg = x26 from e27) (kdec dk_cX10_tellsText 114 rfl) ?_
                refine kv_imul C 195 rfl (kdec dk_cX10_tellsText 115 rfl) (fun x356 h357e h357l h357u => ?_)
                obtain ⟨q358, g359⟩ := kf_mul 5 x26
                rw [← h357e, c_5] at g359
                try have h357n : x356.toInt = 5 * x26.toInt := by omega
                clear g359 q358
                refine kv_isub C 196 rfl (kdec dk_cX10_tellsText 116 rfl) (fun x360 q362 h361e h361 h361l h361u => ?_)
                try have h361n : x360.toInt = (10 : Int32).toInt - x356.toInt := by omega
                clear h361 q362
                refine kv_ishr C 197 rfl (kdec dk_cX10_tellsText 117 rfl) (fun x363 h364e h364l h364u => ?_)
                refine kv_bipush C 199 rfl 31 (kdec dk_cX10_tellsText 118 rfl) rfl ?_
                refine kv_iand C 200 rfl (kdec dk_cX10_tellsText 119 rfl) (fun x365 h366e h366l h366u => ?_)
                have g367 := kf_and31 h366e
                refine kv_istore C 202 rfl 8 [1, 2, 3, 4, 5, 6, 7, 0] [(0, .ref (ρ 61)), (2, .int 0), (3, .int l3_45), (4, .int l4_45), (5, .int l5_45), (6, .int x350), (7, .int l7_45), (8, .int x365)] (kdec dk_cX10_tellsText 120 rfl) (by decide) rfl ?_
                refine kv_aload_n C 203 rfl 0 (kdec dk_cX10_tellsText 121 rfl) rfl rfl ?_
                refine kv_getr C 206 rfl 61 42 rfl rfl inX10 (by decide) mfl_TaleMachineModel_74 rfl rfl (kdec dk_cX10_tellsText 122 rfl) ?_
                refine kv_iload_n C 207 rfl 1 (kdec dk_cX10_tellsText 123 rfl) rfl rfl ?_
                refine kv_dup2 C 208 rfl (kdec dk_cX10_tellsText 124 rfl) rfl rfl ?_
                refine kv_iald C 209 rfl 83 rfl (by omega) (by omega) (show w_45 83 (0 : Int32).toNatClampNeg = x26 from e27) (kdec dk_cX10_tellsText 125 rfl) ?_
                refine kv_iconst C 210 rfl 1 (kdec dk_cX10_tellsText 126 rfl) rfl ?_
                refine kv_iadd C 211 rfl (kdec dk_cX10_tellsText 127 rfl) (fun x368 q370 h369e h369 h369l h369u => ?_)
                try have h369n : x368.toInt = x26.toInt + (1 : Int32).toInt := by omega
                clear h369 q370
                refine kv_iast C 212 rfl 83 rfl (by omega) (by omega) (kdec dk_cX10_tellsText 128 rfl) (fun w371 u372 => ?_)
                have u372 : w371 = kup w_45 83 0 x368 := u372
                have I373 : kI false w371 := kI_put u372 I_45 (show (0 : Int) ≤ (x368 : Int32).toInt by omega) (show (x368 : Int32).toInt ≤ 3 by omega)
                have F374 : kF [(61, some 13), (61, some 29), (61, some 31), (61, some 43), (72, none), (73, none), (81, none), (82, none), (83, none)] w w371 := kF_put u372 F_45 rfl
                have e375 : w371 61 31 = x17 := ((kup_ne u372 rfl : w371 61 31 = w_45 61 31).trans e18)
                have e376 : w371 61 43 = x20 := ((kup_ne u372 rfl : w371 61 43 = w_45 61 43).trans e21)
                have e377 : w371 61 29 = x23 := ((kup_ne u372 rfl : w371 61 29 = w_45 61 29).trans e24)
                have e378 : w371 61 13 = x32 := ((kup_ne u372 rfl : w371 61 13 = w_45 61 13).trans e33)
                have e379 : w371 83 1 = x29 := ((kup_ne u372 rfl : w371 83 1 = w_45 83 1).trans e30)
                exact cut212 w371 0 l3_45 l4_45 l5_45 x350 l7_45 x365 I373 F374 (by omega) (by omega) (by omega) (by omega) (by omega) (by rw [e2, e5, e375, e376, e377]; try omega) (by rw [e378, e33]; try omega) (by rw [(kup_eq u372), e379, e27, e30]; try omega)
              · skip
                refine kv_aload_n C 168 rfl 0 (kdec dk_cX10_tellsText 100 rfl) rfl rfl ?_
                refine kv_bipush C 170 rfl 13 (kdec dk_cX10_tellsText 101 rfl) rfl ?_
                refine kv_callVv (As := [.int 13]) (rest := []) C 173 rfl 61 (k_x_halts l D τ ρ σ w_45 13 I_45 (by omega)) rfl rfl mml_TaleMachineModel_160 mim_yX10_halts mse_yX10_halts mcd_yX10_halts min_yX10_halts hd_yX10_halts rfl rfl rfl (by decide) rfl (Nat.le_of_ble_eq_true rfl) (kdec dk_cX10_tellsText 102 rfl) (fun w380 h381 => ?_)
                obtain ⟨I382, f383, p385⟩ := h381
                have F386 : kF [(61, some 13), (61, some 29), (61, some 31), (61, some 43), (72, none), (73, none), (81, none), (82, none), (83, none)] w w380 := kF_call F_45 f383 (by decide)
                obtain ⟨x387, e388⟩ : ∃ z : Int32, w380 61 13 = z := ⟨_, rfl⟩
                have b389 : (0 : Int) ≤ x387.toInt ∧ x387.toInt ≤ 13 := by rw [← e388]; exact I382 61 13
                rw [e33, e388] at p385
                refine kv_goto C 45 (kdec dk_cX10_tellsText 103 rfl) (by decide) ?_
                have e390 : w380 61 31 = x17 := ((f383 61 31 rfl : w380 61 31 = w_45 61 31).trans e18)
                have e391 : w380 61 43 = x20 := ((f383 61 43 rfl : w380 61 43 = w_45 61 43).trans e21)
                have e392 : w380 61 29 = x23 := ((f383 61 29 rfl : w380 61 29 = w_45 61 29).trans e24)
                have e393 : w380 83 0 = x26 := ((f383 83 0 rfl : w380 83 0 = w_45 83 0).trans e27)
                have e394 : w380 83 1 = x29 := ((f383 83 1 rfl : w380 83 1 = w_45 83 1).trans e30)
                exact ih45 w380 0 l3_45 l4_45 l5_45 l6_45 l7_45 I382 F386 (by omega) (by omega) (by omega) (by omega) (by rw [e2, e5, e390, e391, e392]; try omega) (by rw [e393, e394, e388]; try omega) (by rw [e393, e394, e388]; try omega)
            · skip
              refine kv_aload_n C 68 rfl 0 (kdec dk_cX10_tellsText 43 rfl) rfl rfl ?_
              refine kv_getr C 71 rfl 61 41 rfl rfl inX10 (by decide) mfl_TaleMachineModel_71 rfl rfl (kdec dk_cX10_tellsText 44 rfl) ?_
              refine kv_iload_n C 72 rfl 1 (kdec dk_cX10_tellsText 45 rfl) rfl rfl ?_
              obtain ⟨x395, e396⟩ : ∃ z : Int32, w_45 82 0 = z := ⟨_, rfl⟩
              have b397 : (0 : Int) ≤ x395.toInt ∧ x395.toInt ≤ 65535 := by rw [← e396]; exact I_45 82 0
              refine kv_iald C 73 rfl 82 rfl (by omega) (by omega) (show w_45 82 (0 : Int32).toNatClampNeg = x395 from e396) (kdec dk_cX10_tellsText 46 rfl) ?_
              refine kv_sipush C 76 rfl 32767 (kdec dk_cX10_tellsText 47 rfl) rfl ?_
              refine kv_icmp_le C 79 rfl 83 (kdec dk_cX10_tellsText 48 rfl) (by decide) (fun d398 => ?_) (fun d398 => ?_)
              · skip
                refine kv_iconst C 84 rfl 0 (kdec dk_cX10_tellsText 51 rfl) rfl ?_
                refine kv_istore C 86 rfl 8 [1, 2, 3, 4, 5, 6, 7, 0] [(0, .ref (ρ 61)), (2, .int 0), (3, .int l3_45), (4, .int l4_45), (5, .int l5_45), (6, .int l6_45), (7, .int l7_45), (8, .int 0)] (kdec dk_cX10_tellsText 52 rfl) (by decide) rfl ?_
                refine kv_iload C 88 rfl 7 (kdec dk_cX10_tellsText 53 rfl) rfl ?_
                refine kv_if_eq C 91 rfl 101 (kdec dk_cX10_tellsText 54 rfl) (by decide) (fun d399 => ?_) (fun d399 => ?_)
                · skip
                  refine kv_iload C 103 rfl 7 (kdec dk_cX10_tellsText 60 rfl) rfl ?_
                  refine kv_if_eq C 106 rfl 116 (kdec dk_cX10_tellsText 61 rfl) (by decide) (fun d400 => ?_) (fun d400 => ?_)
                  · skip
                    refine kv_aload_n C 117 rfl 0 (kdec dk_cX10_tellsText 69 rfl) rfl rfl ?_
                    refine kv_getr C 120 rfl 61 41 rfl rfl inX10 (by decide) mfl_TaleMachineModel_71 rfl rfl (kdec dk_cX10_tellsText 70 rfl) ?_
                    refine kv_iload_n C 121 rfl 1 (kdec dk_cX10_tellsText 71 rfl) rfl rfl ?_
                    refine kv_aload_n C 122 rfl 0 (kdec dk_cX10_tellsText 72 rfl) rfl rfl ?_
                    refine kv_aload_n C 123 rfl 0 (kdec dk_cX10_tellsText 73 rfl) rfl rfl ?_
                    refine kv_getr C 126 rfl 61 40 rfl rfl inX10 (by decide) mfl_TaleMachineModel_68 rfl rfl (kdec dk_cX10_tellsText 74 rfl) ?_
                    refine kv_iload_n C 127 rfl 1 (kdec dk_cX10_tellsText 75 rfl) rfl rfl ?_
                    obtain ⟨x401, e402⟩ : ∃ z : Int32, w_45 81 0 = z := ⟨_, rfl⟩
                    have b403 : (0 : Int) ≤ x401.toInt ∧ x401.toInt ≤ 65535 := by rw [← e402]; exact I_45 81 0
                    refine kv_iald C 128 rfl 81 rfl (by omega) (by omega) (show w_45 81 (0 : Int32).toNatClampNeg = x401 from e402) (kdec dk_cX10_tellsText 76 rfl) ?_
                    refine kv_callVi (As := [.int x401]) (rest := [.int 0, .ref (ρ 82)]) C 131 rfl 61 (k_x_wordAt l D τ ρ σ w_45 x401 I_45 ) rfl rfl mml_TaleMachineModel_178 mim_yX10_wordAt mse_yX10_wordAt mcd_yX10_wordAt min_yX10_wordAt hd_yX10_wordAt rfl rfl rfl (by decide) rfl (Nat.le_of_ble_eq_true rfl) (kdec dk_cX10_tellsText 77 rfl) (fun x408 w404 h405 => ?_)
                    obtain ⟨I406, f407, p409, p410⟩ := h405
                    have F411 : kF [(61, some 13), (61, some 29), (61, some 31), (61, some 43), (72, none), (73, none), (81, none), (82, none), (83, none)] w w404 := kF_call F_45 f407 (by decide)
                    have g412 := kf_rng x408
                    obtain ⟨x413, e414⟩ : ∃ z : Int32, w404 61 13 = z := ⟨_, rfl⟩
                    have b415 : (0 : Int) ≤ x413.toInt ∧ x413.toInt ≤ 13 := by rw [← e414]; exact I406 61 13
                    rw [e33, e414] at p410
                    refine kv_iast C 132 rfl 82 rfl (by omega) (by omega) (kdec dk_cX10_tellsText 78 rfl) (fun w416 u417 => ?_)
                    have u417 : w416 = kup w404 82 0 x408 := u417
                    have I418 : kI false w416 := kI_put u417 I406 (show (0 : Int) ≤ (x408 : Int32).toInt by omega) (show (x408 : Int32).toInt ≤ 65535 by omega)
                    have F419 : kF [(61, some 13), (61, some 29), (61, some 31), (61, some 43), (72, none), (73, none), (81, none), (82, none), (83, none)] w w416 := kF_put u417 F411 rfl
                    refine kv_aload_n C 133 rfl 0 (kdec dk_cX10_tellsText 79 rfl) rfl rfl ?_
                    refine kv_getr C 136 rfl 61 40 rfl rfl inX10 (by decide) mfl_TaleMachineModel_68 rfl rfl (kdec dk_cX10_tellsText 80 rfl) ?_
                    refine kv_iload_n C 137 rfl 1 (kdec dk_cX10_tellsText 81 rfl) rfl rfl ?_
                    refine kv_aload_n C 138 rfl 0 (kdec dk_cX10_tellsText 82 rfl) rfl rfl ?_
                    refine kv_getr C 141 rfl 61 40 rfl rfl inX10 (by decide) mfl_TaleMachineModel_68 rfl rfl (kdec dk_cX10_tellsText 83 rfl) ?_
                    refine kv_iload_n C 142 rfl 1 (kdec dk_cX10_tellsText 84 rfl) rfl rfl ?_
                    have e420 : w416 81 0 = x401 := ((kup_ne u417 rfl : w416 81 0 = w404 81 0).trans ((f407 81 0 rfl : w404 81 0 = w_45 81 0).trans e402))
                    refine kv_iald C 143 rfl 81 rfl (by omega) (by omega) (show w416 81 (0 : Int32).toNatClampNeg = x401 from e420) (kdec dk_cX10_tellsText 85 rfl) ?_
                    refine kv_iconst C 144 rfl 2 (kdec dk_cX10_tellsText 86 rfl) rfl ?_
                    refine kv_iadd C 145 rfl (kdec dk_cX10_tellsText 87 rfl) (fun x421 q423 h422e h422 h422l h422u => ?_)
                    try have h422n : x421.toInt = x401.toInt + (2 : Int32).toInt := by omega
                    clear h422 q423
                    refine kv_ldc C 147 rfl 65535 (kdec dk_cX10_tellsText 88 rfl) mco_TaleMachineModel_104 ?_
                    refine kv_iand C 148 rfl (kdec dk_cX10_tellsText 89 rfl) (fun x424 h425e h425l h425u => ?_)
                    have g426 := kf_and65535 h425e
                    refine kv_iast C 149 rfl 81 rfl (by omega) (by omega) (kdec dk_cX10_tellsText 90 rfl) (fun w427 u428 => ?_)
                    have u428 : w427 = kup w416 81 0 x424 := u428
                    have I429 : kI false w427 := kI_put u428 I418 (show (0 : Int) ≤ (x424 : Int32).toInt by omega) (show (x424 : Int32).toInt ≤ 65535 by omega)
                    have F430 : kF [(61, some 13), (61, some 29), (61, some 31), (61, some 43), (72, none), (73, none), (81, none), (82, none), (83, none)] w w427 := kF_put u428 F419 rfl
                    refine kv_aload_n C 150 rfl 0 (kdec dk_cX10_tellsText 91 rfl) rfl rfl ?_
                    refine kv_getr C 153 rfl 61 42 rfl rfl inX10 (by decide) mfl_TaleMachineModel_74 rfl rfl (kdec dk_cX10_tellsText 92 rfl) ?_
                    refine kv_iload_n C 154 rfl 1 (kdec dk_cX10_tellsText 93 rfl) rfl rfl ?_
                    refine kv_iconst C 155 rfl 0 (kdec dk_cX10_tellsText 94 rfl) rfl ?_
                    refine kv_iast C 156 rfl 83 rfl (by omega) (by omega) (kdec dk_cX10_tellsText 95 rfl) (fun w431 u432 => ?_)
                    have u432 : w431 = kup w427 83 0 0 := u432
                    have I433 : kI false w431 := kI_put u432 I429 (show (0 : Int) ≤ (0 : Int32).toInt by omega) (show (0 : Int32).toInt ≤ 3 by omega)
                    have F434 : kF [(61, some 13), (61, some 29), (61, some 31), (61, some 43), (72, none), (73, none), (81, none), (82, none), (83, none)] w w431 := kF_put u432 F430 rfl
                    refine kv_goto C 45 (kdec dk_cX10_tellsText 96 rfl) (by decide) ?_
                    have e435 : w431 61 31 = x17 := ((kup_ne u432 rfl : w431 61 31 = w427 61 31).trans ((kup_ne u428 rfl : w427 61 31 = w416 61 31).trans ((kup_ne u417 rfl : w416 61 31 = w404 61 31).trans ((f407 61 31 rfl : w404 61 31 = w_45 61 31).trans e18))))
                    have e436 : w431 61 43 = x20 := ((kup_ne u432 rfl : w431 61 43 = w427 61 43).trans ((kup_ne u428 rfl : w427 61 43 = w416 61 43).trans ((kup_ne u417 rfl : w416 61 43 = w404 61 43).trans ((f407 61 43 rfl : w404 61 43 = w_45 61 43).trans e21))))
                    have e437 : w431 61 29 = x23 := ((kup_ne u432 rfl : w431 61 29 = w427 61 29).trans ((kup_ne u428 rfl : w427 61 29 = w416 61 29).trans ((kup_ne u417 rfl : w416 61 29 = w404 61 29).trans ((f407 61 29 rfl : w404 61 29 = w_45 61 29).trans e24))))
                    have e438 : w431 83 1 = x29 := ((kup_ne u432 rfl : w431 83 1 = w427 83 1).trans ((kup_ne u428 rfl : w427 83 1 = w416 83 1).trans ((kup_ne u417 rfl : w416 83 1 = w404 83 1).trans ((f407 83 1 rfl : w404 83 1 = w_45 83 1).trans e30))))
                    have e439 : w431 61 13 = x413 := ((kup_ne u432 rfl : w431 61 13 = w427 61 13).trans ((kup_ne u428 rfl : w427 61 13 = w416 61 13).trans ((kup_ne u417 rfl : w416 61 13 = w404 61 13).trans e414)))
                    refine kV.sub [0, 1, 2, 3, 4, 5, 6] (L' := [(0, .ref (ρ 61)), (2, .int 0), (3, .int l3_45), (4, .int l4_45), (5, .int l5_45), (6, .int l6_45), (7, .int l7_45)]) rfl ?_
                    exact ih45 w431 0 l3_45 l4_45 l5_45 l6_45 l7_45 I433 F434 (by omega) (by omega) (by omega) (by omega) (by rw [e2, e5, e435, e436, e437]; try omega) (by rw [(kup_eq u432), e438, e439]; try omega) (by rw [(kup_eq u432), e438, e439]; try omega)
                  · exfalso; omega
                · exfalso; omega
              · skip
                refine kv_iconst C 80 rfl 1 (kdec dk_cX10_tellsText 49 rfl) rfl ?_
                refine kv_goto C 84 (kdec dk_cX10_tellsText 50 rfl) (by decide) ?_
                refine kv_istore C 86 rfl 8 [1, 2, 3, 4, 5, 6, 7, 0] [(0, .ref (ρ 61)), (2, .int 0), (3, .int l3_45), (4, .int l4_45), (5, .int l5_45), (6, .int l6_45), (7, .int l7_45), (8, .int 1)] (kdec dk_cX10_tellsText 52 rfl) (by decide) rfl ?_
                refine kv_iload C 88 rfl 7 (kdec dk_cX10_tellsText 53 rfl) rfl ?_
                refine kv_if_eq C 91 rfl 101 (kdec dk_cX10_tellsText 54 rfl) (by decide) (fun d440 => ?_) (fun d440 => ?_)
                · exfalso; omega
                · skip
                  refine kv_iload_n C 92 rfl 1 (kdec dk_cX10_tellsText 55 rfl) rfl rfl ?_
                  refine kv_if_ne C 95 rfl 101 (kdec dk_cX10_tellsText 56 rfl) (by decide) (fun d441 => ?_) (fun d441 => ?_)
                  · exfalso; omega
                  · skip
                    refine kv_iconst C 96 rfl 0 (kdec dk_cX10_tellsText 57 rfl) rfl ?_
                    refine kv_istore C 98 rfl 7 [1, 2, 3, 4, 5, 6, 0, 7] [(0, .ref (ρ 61)), (2, .int 0), (3, .int l3_45), (4, .int l4_45), (5, .int l5_45), (6, .int l6_45), (7, .int 0), (8, .int 1)] (kdec dk_cX10_tellsText 58 rfl) (by decide) rfl ?_
                    refine kv_goto C 45 (kdec dk_cX10_tellsText 59 rfl) (by decide) ?_
                    refine kV.sub [0, 1, 2, 3, 4, 5, 6] (L' := [(0, .ref (ρ 61)), (2, .int 0), (3, .int l3_45), (4, .int l4_45), (5, .int l5_45), (6, .int l6_45), (7, .int 0)]) rfl ?_
                    exact ih45 w_45 0 l3_45 l4_45 l5_45 l6_45 0 I_45 F_45 (by omega) (by omega) (by omega) (by omega) (by rw [e2, e5, e18, e21, e24]; try omega) (by rw [e27, e30, e33]; try omega) (by rw [e27, e30, e33]; try omega)
      · obtain rfl := kf_eqc (1) (by decide) hs45
        refine kv_iload C 47 rfl 6 (kdec dk_cX10_tellsText 32 rfl) rfl ?_
        refine kv_if_eq C 50 rfl 471 (kdec dk_cX10_tellsText 33 rfl) (by decide) (fun d442 => ?_) (fun d442 => ?_)
        · skip
          refine kV.sub [0] (L' := [(0, .ref (ρ 61))]) rfl ?_
          exact cut471 w_45  I_45 F_45 (by rw [e2, e5, e18, e24]; try omega)
        · skip
          refine kv_aload_n C 51 rfl 0 (kdec dk_cX10_tellsText 34 rfl) rfl rfl ?_
          refine kv_get C 54 rfl 61 13 rfl rfl inX10 (by decide) mfl_TaleMachineModel_148 rfl rfl (kdec dk_cX10_tellsText 35 rfl) e33 ?_
          refine kv_if_ne C 57 rfl 471 (kdec dk_cX10_tellsText 36 rfl) (by decide) (fun d443 => ?_) (fun d443 => ?_)
          · skip
            refine kV.sub [0] (L' := [(0, .ref (ρ 61))]) rfl ?_
            exact cut471 w_45  I_45 F_45 (by rw [e2, e5, e18, e24]; try omega)
          · skip
            refine kv_aload_n C 58 rfl 0 (kdec dk_cX10_tellsText 37 rfl) rfl rfl ?_
            refine kv_getr C 61 rfl 61 42 rfl rfl inX10 (by decide) mfl_TaleMachineModel_74 rfl rfl (kdec dk_cX10_tellsText 38 rfl) ?_
            refine kv_iload_n C 62 rfl 1 (kdec dk_cX10_tellsText 39 rfl) rfl rfl ?_
            refine kv_iald C 63 rfl 83 rfl (by omega) (by omega) (show w_45 83 (1 : Int32).toNatClampNeg = x29 from e30) (kdec dk_cX10_tellsText 40 rfl) ?_
            refine kv_iconst C 64 rfl 3 (kdec dk_cX10_tellsText 41 rfl) rfl ?_
            refine kv_icmp_ne C 67 rfl 159 (kdec dk_cX10_tellsText 42 rfl) (by decide) (fun d444 => ?_) (fun d444 => ?_)
            · skip
              refine kv_iload C 161 rfl 5 (kdec dk_cX10_tellsText 97 rfl) rfl ?_
              refine kv_sipush C 164 rfl 2000 (kdec dk_cX10_tellsText 98 rfl) rfl ?_
              refine kv_icmp_ne C 167 rfl 176 (kdec dk_cX10_tellsText 99 rfl) (by decide) (fun d445 => ?_) (fun d445 => ?_)
              · skip
                refine kv_iinc C 179 rfl 6 5 [1, 2, 3, 4, 5, 0, 6] (fun v9 => [(0, .ref (ρ 61)), (2, .int 1), (3, .int l3_45), (4, .int l4_45), (5, .int l5_45), (6, .int v9), (7, .int l7_45)]) (kdec dk_cX10_tellsText 104 rfl) rfl (by decide) (fun _ => rfl) 1 rfl (fun x446 q447 h448e h448 h448l h448u => ?_)
                try have h448n : x446.toInt = l6_45.toInt + 1 := by omega
                clear h448 q447
                refine kv_aload_n C 180 rfl 0 (kdec dk_cX10_tellsText 105 rfl) rfl rfl ?_
                refine kv_getr C 183 rfl 61 41 rfl rfl inX10 (by decide) mfl_TaleMachineModel_71 rfl rfl (kdec dk_cX10_tellsText 106 rfl) ?_
                refine kv_iload_n C 184 rfl 1 (kdec dk_cX10_tellsText 107 rfl) rfl rfl ?_
                obtain ⟨x449, e450⟩ : ∃ z : Int32, w_45 82 1 = z := ⟨_, rfl⟩
                have b451 : (0 : Int) ≤ x449.toInt ∧ x449.toInt ≤ 65535 := by rw [← e450]; exact I_45 82 1
                refine kv_iald C 185 rfl 82 rfl (by omega) (by omega) (show w_45 82 (1 : Int32).toNatClampNeg = x449 from e450) (kdec dk_cX10_tellsText 108 rfl) ?_
                refine kv_bipush C 187 rfl 10 (kdec dk_cX10_tellsText 109 rfl) rfl ?_
                refine kv_iconst C 188 rfl 5 (kdec dk_cX10_tellsText 110 rfl) rfl ?_
                refine kv_aload_n C 189 rfl 0 (kdec dk_cX10_tellsText 111 rfl) rfl rfl ?_
                refine kv_getr C 192 rfl 61 42 rfl rfl inX10 (by decide) mfl_TaleMachineModel_74 rfl rfl (kdec dk_cX10_tellsText 112 rfl) ?_
                refine kv_iload_n C 193 rfl 1 (kdec dk_cX10_tellsText 113 rfl) rfl rfl ?_
                refine kv_iald C 194 rfl 83 rfl (by omega) (by omega) (show w_45 83 (1 : Int32).toNatClampNeg = x29 from e30) (kdec dk_cX10_tellsText 114 rfl) ?_
                refine kv_imul C 195 rfl (kdec dk_cX10_tellsText 115 rfl) (fun x452 h453e h453l h453u => ?_)
                obtain ⟨q454, g455⟩ := kf_mul 5 x29
                rw [← h453e, c_5] at g455
                try have h453n : x452.toInt = 5 * x29.toInt := by omega
                clear g455 q454
                refine kv_isub C 196 rfl (kdec dk_cX10_tellsText 116 rfl) (fun x456 q458 h457e h457 h457l h457u => ?_)
                try have h457n : x456.toInt = (10 : Int32).toInt - x452.toInt := by omega
                clear h457 q458
                refine kv_ishr C 197 rfl (kdec dk_cX10_tellsText 117 rfl) (fun x459 h460e h460l h460u => ?_)
                refine kv_bipush C 199 rfl 31 (kdec dk_cX10_tellsText 118 rfl) rfl ?_
                refine kv_iand C 200 rfl (kdec dk_cX10_tellsText 119 rfl) (fun x461 h462e h462l h462u => ?_)
                have g463 := kf_and31 h462e
                refine kv_istore C 202 rfl 8 [1, 2, 3, 4, 5, 6, 7, 0] [(0, .ref (ρ 61)), (2, .int 1), (3, .int l3_45), (4, .int l4_45), (5, .int l5_45), (6, .int x446), (7, .int l7_45), (8, .int x461)] (kdec dk_cX10_tellsText 120 rfl) (by decide) rfl ?_
                refine kv_aload_n C 203 rfl 0 (kdec dk_cX10_tellsText 121 rfl) rfl rfl ?_
                refine kv_getr C 206 rfl 61 42 rfl rfl inX10 (by decide) mfl_TaleMachineModel_74 rfl rfl (kdec dk_cX10_tellsText 122 rfl) ?_
                refine kv_iload_n C 207 rfl 1 (kdec dk_cX10_tellsText 123 rfl) rfl rfl ?_
                refine kv_dup2 C 208 rfl (kdec dk_cX10_tellsText 124 rfl) rfl rfl ?_
                refine kv_iald C 209 rfl 83 rfl (by omega) (by omega) (show w_45 83 (1 : Int32).toNatClampNeg = x29 from e30) (kdec dk_cX10_tellsText 125 rfl) ?_
                refine kv_iconst C 210 rfl 1 (kdec dk_cX10_tellsText 126 rfl) rfl ?_
                refine kv_iadd C 211 rfl (kdec dk_cX10_tellsText 127 rfl) (fun x464 q466 h465e h465 h465l h465u => ?_)
                try have h465n : x464.toInt = x29.toInt + (1 : Int32).toInt := by omega
                clear h465 q466
                refine kv_iast C 212 rfl 83 rfl (by omega) (by omega) (kdec dk_cX10_tellsText 128 rfl) (fun w467 u468 => ?_)
                have u468 : w467 = kup w_45 83 1 x464 := u468
                have I469 : kI false w467 := kI_put u468 I_45 (show (0 : Int) ≤ (x464 : Int32).toInt by omega) (show (x464 : Int32).toInt ≤ 3 by omega)
                have F470 : kF [(61, some 13), (61, some 29), (61, some 31), (61, some 43), (72, none), (73, none), (81, none), (82, none), (83, none)] w w467 := kF_put u468 F_45 rfl
                have e471 : w467 61 31 = x17 := ((kup_ne u468 rfl : w467 61 31 = w_45 61 31).trans e18)
                have e472 : w467 61 43 = x20 := ((kup_ne u468 rfl : w467 61 43 = w_45 61 43).trans e21)
                have e473 : w467 61 29 = x23 := ((kup_ne u468 rfl : w467 61 29 = w_45 61 29).trans e24)
                have e474 : w467 61 13 = x32 := ((kup_ne u468 rfl : w467 61 13 = w_45 61 13).trans e33)
                have e475 : w467 83 0 = x26 := ((kup_ne u468 rfl : w467 83 0 = w_45 83 0).trans e27)
                exact cut212 w467 1 l3_45 l4_45 l5_45 x446 l7_45 x461 I469 F470 (by omega) (by omega) (by omega) (by omega) (by omega) (by rw [e2, e5, e471, e472, e473]; try omega) (by rw [e474, e33]; try omega) (by rw [e475, (kup_eq u468), e27, e30]; try omega)
              · skip
                refine kv_aload_n C 168 rfl 0 (kdec dk_cX10_tellsText 100 rfl) rfl rfl ?_
                refine kv_bipush C 170 rfl 13 (kdec dk_cX10_tellsText 101 rfl) rfl ?_
                refine kv_callVv (As := [.int 13]) (rest := []) C 173 rfl 61 (k_x_halts l D τ ρ σ w_45 13 I_45 (by omega)) rfl rfl mml_TaleMachineModel_160 mim_yX10_halts mse_yX10_halts mcd_yX10_halts min_yX10_halts hd_yX10_halts rfl rfl rfl (by decide) rfl (Nat.le_of_ble_eq_true rfl) (kdec dk_cX10_tellsText 102 rfl) (fun w476 h477 => ?_)
                obtain ⟨I478, f479, p481⟩ := h477
                have F482 : kF [(61, some 13), (61, some 29), (61, some 31), (61, some 43), (72, none), (73, none), (81, none), (82, none), (83, none)] w w476 := kF_call F_45 f479 (by decide)
                obtain ⟨x483, e484⟩ : ∃ z : Int32, w476 61 13 = z := ⟨_, rfl⟩
                have b485 : (0 : Int) ≤ x483.toInt ∧ x483.toInt ≤ 13 := by rw [← e484]; exact I478 61 13
                rw [e33, e484] at p481
                refine kv_goto C 45 (kdec dk_cX10_tellsText 103 rfl) (by decide) ?_
                have e486 : w476 61 31 = x17 := ((f479 61 31 rfl : w476 61 31 = w_45 61 31).trans e18)
                have e487 : w476 61 43 = x20 := ((f479 61 43 rfl : w476 61 43 = w_45 61 43).trans e21)
                have e488 : w476 61 29 = x23 := ((f479 61 29 rfl : w476 61 29 = w_45 61 29).trans e24)
                have e489 : w476 83 0 = x26 := ((f479 83 0 rfl : w476 83 0 = w_45 83 0).trans e27)
                have e490 : w476 83 1 = x29 := ((f479 83 1 rfl : w476 83 1 = w_45 83 1).trans e30)
                exact ih45 w476 1 l3_45 l4_45 l5_45 l6_45 l7_45 I478 F482 (by omega) (by omega) (by omega) (by omega) (by rw [e2, e5, e486, e487, e488]; try omega) (by rw [e489, e490, e484]; try omega) (by rw [e489, e490, e484]; try omega)
            · skip
              refine kv_aload_n C 68 rfl 0 (kdec dk_cX10_tellsText 43 rfl) rfl rfl ?_
              refine kv_getr C 71 rfl 61 41 rfl rfl inX10 (by decide) mfl_TaleMachineModel_71 rfl rfl (kdec dk_cX10_tellsText 44 rfl) ?_
              refine kv_iload_n C 72 rfl 1 (kdec dk_cX10_tellsText 45 rfl) rfl rfl ?_
              obtain ⟨x491, e492⟩ : ∃ z : Int32, w_45 82 1 = z := ⟨_, rfl⟩
              have b493 : (0 : Int) ≤ x491.toInt ∧ x491.toInt ≤ 65535 := by rw [← e492]; exact I_45 82 1
              refine kv_iald C 73 rfl 82 rfl (by omega) (by omega) (show w_45 82 (1 : Int32).toNatClampNeg = x491 from e492) (kdec dk_cX10_tellsText 46 rfl) ?_
              refine kv_sipush C 76 rfl 32767 (kdec dk_cX10_tellsText 47 rfl) rfl ?_
              refine kv_icmp_le C 79 rfl 83 (kdec dk_cX10_tellsText 48 rfl) (by decide) (fun d494 => ?_) (fun d494 => ?_)
              · skip
                refine kv_iconst C 84 rfl 0 (kdec dk_cX10_tellsText 51 rfl) rfl ?_
                refine kv_istore C 86 rfl 8 [1, 2, 3, 4, 5, 6, 7, 0] [(0, .ref (ρ 61)), (2, .int 1), (3, .int l3_45), (4, .int l4_45), (5, .int l5_45), (6, .int l6_45), (7, .int l7_45), (8, .int 0)] (kdec dk_cX10_tellsText 52 rfl) (by decide) rfl ?_
                refine kv_iload C 88 rfl 7 (kdec dk_cX10_tellsText 53 rfl) rfl ?_
                refine kv_if_eq C 91 rfl 101 (kdec dk_cX10_tellsText 54 rfl) (by decide) (fun d495 => ?_) (fun d495 => ?_)
                · skip
                  refine kv_iload C 103 rfl 7 (kdec dk_cX10_tellsText 60 rfl) rfl ?_
                  refine kv_if_eq C 106 rfl 116 (kdec dk_cX10_tellsText 61 rfl) (by decide) (fun d496 => ?_) (fun d496 => ?_)
                  · skip
                    refine kv_aload_n C 117 rfl 0 (kdec dk_cX10_tellsText 69 rfl) rfl rfl ?_
                    refine kv_getr C 120 rfl 61 41 rfl rfl inX10 (by decide) mfl_TaleMachineModel_71 rfl rfl (kdec dk_cX10_tellsText 70 rfl) ?_
                    refine kv_iload_n C 121 rfl 1 (kdec dk_cX10_tellsText 71 rfl) rfl rfl ?_
                    refine kv_aload_n C 122 rfl 0 (kdec dk_cX10_tellsText 72 rfl) rfl rfl ?_
                    refine kv_aload_n C 123 rfl 0 (kdec dk_cX10_tellsText 73 rfl) rfl rfl ?_
                    refine kv_getr C 126 rfl 61 40 rfl rfl inX10 (by decide) mfl_TaleMachineModel_68 rfl rfl (kdec dk_cX10_tellsText 74 rfl) ?_
                    refine kv_iload_n C 127 rfl 1 (kdec dk_cX10_tellsText 75 rfl) rfl rfl ?_
                    obtain ⟨x497, e498⟩ : ∃ z : Int32, w_45 81 1 = z := ⟨_, rfl⟩
                    have b499 : (0 : Int) ≤ x497.toInt ∧ x497.toInt ≤ 65535 := by rw [← e498]; exact I_45 81 1
                    refine kv_iald C 128 rfl 81 rfl (by omega) (by omega) (show w_45 81 (1 : Int32).toNatClampNeg = x497 from e498) (kdec dk_cX10_tellsText 76 rfl) ?_
                    refine kv_callVi (As := [.int x497]) (rest := [.int 1, .ref (ρ 82)]) C 131 rfl 61 (k_x_wordAt l D τ ρ σ w_45 x497 I_45 ) rfl rfl mml_TaleMachineModel_178 mim_yX10_wordAt mse_yX10_wordAt mcd_yX10_wordAt min_yX10_wordAt hd_yX10_wordAt rfl rfl rfl (by decide) rfl (Nat.le_of_ble_eq_true rfl) (kdec dk_cX10_tellsText 77 rfl) (fun x504 w500 h501 => ?_)
                    obtain ⟨I502, f503, p505, p506⟩ := h501
                    have F507 : kF [(61, some 13), (61, some 29), (61, some 31), (61, some 43), (72, none), (73, none), (81, none), (82, none), (83, none)] w w500 := kF_call F_45 f503 (by decide)
                    have g508 := kf_rng x504
                    obtain ⟨x509, e510⟩ : ∃ z : Int32, w500 61 13 = z := ⟨_, rfl⟩
                    have b511 : (0 : Int) ≤ x509.toInt ∧ x509.toInt ≤ 13 := by rw [← e510]; exact I502 61 13
                    rw [e33, e510] at p506
                    refine kv_iast C 132 rfl 82 rfl (by omega) (by omega) (kdec dk_cX10_tellsText 78 rfl) (fun w512 u513 => ?_)
                    have u513 : w512 = kup w500 82 1 x504 := u513
                    have I514 : kI false w512 := kI_put u513 I502 (show (0 : Int) ≤ (x504 : Int32).toInt by omega) (show (x504 : Int32).toInt ≤ 65535 by omega)
                    have F515 : kF [(61, some 13), (61, some 29), (61, some 31), (61, some 43), (72, none), (73, none), (81, none), (82, none), (83, none)] w w512 := kF_put u513 F507 rfl
                    refine kv_aload_n C 133 rfl 0 (kdec dk_cX10_tellsText 79 rfl) rfl rfl ?_
                    refine kv_getr C 136 rfl 61 40 rfl rfl inX10 (by decide) mfl_TaleMachineModel_68 rfl rfl (kdec dk_cX10_tellsText 80 rfl) ?_
                    refine kv_iload_n C 137 rfl 1 (kdec dk_cX10_tellsText 81 rfl) rfl rfl ?_
                    refine kv_aload_n C 138 rfl 0 (kdec dk_cX10_tellsText 82 rfl) rfl rfl ?_
                    refine kv_getr C 141 rfl 61 40 rfl rfl inX10 (by decide) mfl_TaleMachineModel_68 rfl rfl (kdec dk_cX10_tellsText 83 rfl) ?_
                    refine kv_iload_n C 142 rfl 1 (kdec dk_cX10_tellsText 84 rfl) rfl rfl ?_
                    have e516 : w512 81 1 = x497 := ((kup_ne u513 rfl : w512 81 1 = w500 81 1).trans ((f503 81 1 rfl : w500 81 1 = w_45 81 1).trans e498))
                    refine kv_iald C 143 rfl 81 rfl (by omega) (by omega) (show w512 81 (1 : Int32).toNatClampNeg = x497 from e516) (kdec dk_cX10_tellsText 85 rfl) ?_
                    refine kv_iconst C 144 rfl 2 (kdec dk_cX10_tellsText 86 rfl) rfl ?_
                    refine kv_iadd C 145 rfl (kdec dk_cX10_tellsText 87 rfl) (fun x517 q519 h518e h518 h518l h518u => ?_)
                    try have h518n : x517.toInt = x497.toInt + (2 : Int32).toInt := by omega
                    clear h518 q519
                    refine kv_ldc C 147 rfl 65535 (kdec dk_cX10_tellsText 88 rfl) mco_TaleMachineModel_104 ?_
                    refine kv_iand C 148 rfl (kdec dk_cX10_tellsText 89 rfl) (fun x520 h521e h521l h521u => ?_)
                    have g522 := kf_and65535 h521e
                    refine kv_iast C 149 rfl 81 rfl (by omega) (by omega) (kdec dk_cX10_tellsText 90 rfl) (fun w523 u524 => ?_)
                    have u524 : w523 = kup w512 81 1 x520 := u524
                    have I525 : kI false w523 := kI_put u524 I514 (show (0 : Int) ≤ (x520 : Int32).toInt by omega) (show (x520 : Int32).toInt ≤ 65535 by omega)
                    have F526 : kF [(61, some 13), (61, some 29), (61, some 31), (61, some 43), (72, none), (73, none), (81, none), (82, none), (83, none)] w w523 := kF_put u524 F515 rfl
                    refine kv_aload_n C 150 rfl 0 (kdec dk_cX10_tellsText 91 rfl) rfl rfl ?_
                    refine kv_getr C 153 rfl 61 42 rfl rfl inX10 (by decide) mfl_TaleMachineModel_74 rfl rfl (kdec dk_cX10_tellsText 92 rfl) ?_
                    refine kv_iload_n C 154 rfl 1 (kdec dk_cX10_tellsText 93 rfl) rfl rfl ?_
                    refine kv_iconst C 155 rfl 0 (kdec dk_cX10_tellsText 94 rfl) rfl ?_
                    refine kv_iast C 156 rfl 83 rfl (by omega) (by omega) (kdec dk_cX10_tellsText 95 rfl) (fun w527 u528 => ?_)
                    have u528 : w527 = kup w523 83 1 0 := u528
                    have I529 : kI false w527 := kI_put u528 I525 (show (0 : Int) ≤ (0 : Int32).toInt by omega) (show (0 : Int32).toInt ≤ 3 by omega)
                    have F530 : kF [(61, some 13), (61, some 29), (61, some 31), (61, some 43), (72, none), (73, none), (81, none), (82, none), (83, none)] w w527 := kF_put u528 F526 rfl
                    refine kv_goto C 45 (kdec dk_cX10_tellsText 96 rfl) (by decide) ?_
                    have e531 : w527 61 31 = x17 := ((kup_ne u528 rfl : w527 61 31 = w523 61 31).trans ((kup_ne u524 rfl : w523 61 31 = w512 61 31).trans ((kup_ne u513 rfl : w512 61 31 = w500 61 31).trans ((f503 61 31 rfl : w500 61 31 = w_45 61 31).trans e18))))
                    have e532 : w527 61 43 = x20 := ((kup_ne u528 rfl : w527 61 43 = w523 61 43).trans ((kup_ne u524 rfl : w523 61 43 = w512 61 43).trans ((kup_ne u513 rfl : w512 61 43 = w500 61 43).trans ((f503 61 43 rfl : w500 61 43 = w_45 61 43).trans e21))))
                    have e533 : w527 61 29 = x23 := ((kup_ne u528 rfl : w527 61 29 = w523 61 29).trans ((kup_ne u524 rfl : w523 61 29 = w512 61 29).trans ((kup_ne u513 rfl : w512 61 29 = w500 61 29).trans ((f503 61 29 rfl : w500 61 29 = w_45 61 29).trans e24))))
                    have e534 : w527 83 0 = x26 := ((kup_ne u528 rfl : w527 83 0 = w523 83 0).trans ((kup_ne u524 rfl : w523 83 0 = w512 83 0).trans ((kup_ne u513 rfl : w512 83 0 = w500 83 0).trans ((f503 83 0 rfl : w500 83 0 = w_45 83 0).trans e27))))
                    have e535 : w527 61 13 = x509 := ((kup_ne u528 rfl : w527 61 13 = w523 61 13).trans ((kup_ne u524 rfl : w523 61 13 = w512 61 13).trans ((kup_ne u513 rfl : w512 61 13 = w500 61 13).trans e510)))
                    refine kV.sub [0, 1, 2, 3, 4, 5, 6] (L' := [(0, .ref (ρ 61)), (2, .int 1), (3, .int l3_45), (4, .int l4_45), (5, .int l5_45), (6, .int l6_45), (7, .int l7_45)]) rfl ?_
                    exact ih45 w527 1 l3_45 l4_45 l5_45 l6_45 l7_45 I529 F530 (by omega) (by omega) (by omega) (by omega) (by rw [e2, e5, e531, e532, e533]; try omega) (by rw [e534, (kup_eq u528), e535]; try omega) (by rw [e534, (kup_eq u528), e535]; try omega)
                  · exfalso; omega
                · exfalso; omega
              · skip
                refine kv_iconst C 80 rfl 1 (kdec dk_cX10_tellsText 49 rfl) rfl ?_
                refine kv_goto C 84 (kdec dk_cX10_tellsText 50 rfl) (by decide) ?_
                refine kv_istore C 86 rfl 8 [1, 2, 3, 4, 5, 6, 7, 0] [(0, .ref (ρ 61)), (2, .int 1), (3, .int l3_45), (4, .int l4_45), (5, .int l5_45), (6, .int l6_45), (7, .int l7_45), (8, .int 1)] (kdec dk_cX10_tellsText 52 rfl) (by decide) rfl ?_
                refine kv_iload C 88 rfl 7 (kdec dk_cX10_tellsText 53 rfl) rfl ?_
                refine kv_if_eq C 91 rfl 101 (kdec dk_cX10_tellsText 54 rfl) (by decide) (fun d536 => ?_) (fun d536 => ?_)
                · exfalso; omega
                · skip
                  refine kv_iload_n C 92 rfl 1 (kdec dk_cX10_tellsText 55 rfl) rfl rfl ?_
                  refine kv_if_ne C 95 rfl 101 (kdec dk_cX10_tellsText 56 rfl) (by decide) (fun d537 => ?_) (fun d537 => ?_)
                  · skip
                    refine kv_iload C 103 rfl 7 (kdec dk_cX10_tellsText 60 rfl) rfl ?_
                    refine kv_if_eq C 106 rfl 116 (kdec dk_cX10_tellsText 61 rfl) (by decide) (fun d538 => ?_) (fun d538 => ?_)
                    · exfalso; omega
                    · skip
                      refine kv_iconst C 107 rfl 0 (kdec dk_cX10_tellsText 62 rfl) rfl ?_
                      refine kv_istore_n C 108 rfl 2 [1, 0, 2, 3, 4, 5, 6, 7] [(0, .ref (ρ 61)), (2, .int 0), (3, .int l3_45), (4, .int l4_45), (5, .int l5_45), (6, .int l6_45), (7, .int l7_45), (8, .int 1)] (kdec dk_cX10_tellsText 63 rfl) rfl (by decide) rfl ?_
                      refine kv_iconst C 109 rfl 0 (kdec dk_cX10_tellsText 64 rfl) rfl ?_
                      refine kv_istore_n C 110 rfl 3 [1, 2, 0, 3, 4, 5, 6, 7] [(0, .ref (ρ 61)), (2, .int 0), (3, .int 0), (4, .int l4_45), (5, .int l5_45), (6, .int l6_45), (7, .int l7_45), (8, .int 1)] (kdec dk_cX10_tellsText 65 rfl) rfl (by decide) rfl ?_
                      refine kv_iconst C 111 rfl 0 (kdec dk_cX10_tellsText 66 rfl) rfl ?_
                      refine kv_istore C 113 rfl 4 [1, 2, 3, 0, 4, 5, 6, 7] [(0, .ref (ρ 61)), (2, .int 0), (3, .int 0), (4, .int 0), (5, .int l5_45), (6, .int l6_45), (7, .int l7_45), (8, .int 1)] (kdec dk_cX10_tellsText 67 rfl) (by decide) rfl ?_
                      refine kv_goto C 45 (kdec dk_cX10_tellsText 68 rfl) (by decide) ?_
                      refine kV.sub [0, 1, 2, 3, 4, 5, 6] (L' := [(0, .ref (ρ 61)), (2, .int 0), (3, .int 0), (4, .int 0), (5, .int l5_45), (6, .int l6_45), (7, .int l7_45)]) rfl ?_
                      exact ih45 w_45 0 0 0 l5_45 l6_45 l7_45 I_45 F_45 (by omega) (by omega) (by omega) (by omega) (by rw [e2, e5, e18, e21, e24]; try omega) (by rw [e27, e30, e33]; try omega) (by rw [e27, e30, e33]; try omega)
                  · exfalso; omega
  refine kv_iconst C 1 rfl 0 (kdec dk_cX10_tellsText 0 rfl) rfl ?_
  refine kv_istore_n C 2 rfl 2 [1, 2, 0] [(0, .ref (ρ 61)), (1, .int a1), (2, .int 0)] (kdec dk_cX10_tellsText 1 rfl) rfl (by decide) rfl ?_
  refine kv_aload_n C 3 rfl 0 (kdec dk_cX10_tellsText 2 rfl) rfl rfl ?_
  refine kv_iconst C 4 rfl 0 (kdec dk_cX10_tellsText 3 rfl) rfl ?_
  refine kv_put C 7 rfl 61 43 rfl rfl inX10 (by decide) mfl_TaleMachineModel_250 rfl tyX10 tyX10_ok nmX10 rfl rfl (kdec dk_cX10_tellsText 4 rfl) rfl rfl (fun w539 u540 => ?_)
  have I541 : kI false w539 := kI_put u540 hI (show (0 : Int) ≤ (0 : Int32).toInt by omega) (show (0 : Int32).toInt ≤ 500 by omega)
  have F542 : kF [(61, some 13), (61, some 29), (61, some 31), (61, some 43), (72, none), (73, none), (81, none), (82, none), (83, none)] w w539 := kF_put u540 hF0 rfl
  refine kv_aload_n C 8 rfl 0 (kdec dk_cX10_tellsText 5 rfl) rfl rfl ?_
  refine kv_getr C 11 rfl 61 40 rfl rfl inX10 (by decide) mfl_TaleMachineModel_68 rfl rfl (kdec dk_cX10_tellsText 6 rfl) ?_
  refine kv_iconst C 12 rfl 0 (kdec dk_cX10_tellsText 7 rfl) rfl ?_
  refine kv_iload_n C 13 rfl 1 (kdec dk_cX10_tellsText 8 rfl) rfl rfl ?_
  refine kv_ldc C 15 rfl 65535 (kdec dk_cX10_tellsText 9 rfl) mco_TaleMachineModel_104 ?_
  refine kv_iand C 16 rfl (kdec dk_cX10_tellsText 10 rfl) (fun x543 h544e h544l h544u => ?_)
  have g545 := kf_and65535 h544e
  refine kv_iast C 17 rfl 81 rfl (by omega) (by omega) (kdec dk_cX10_tellsText 11 rfl) (fun w546 u547 => ?_)
  have u547 : w546 = kup w539 81 0 x543 := u547
  have I548 : kI false w546 := kI_put u547 I541 (show (0 : Int) ≤ (x543 : Int32).toInt by omega) (show (x543 : Int32).toInt ≤ 65535 by omega)
  have F549 : kF [(61, some 13), (61, some 29), (61, some 31), (61, some 43), (72, none), (73, none), (81, none), (82, none), (83, none)] w w546 := kF_put u547 F542 rfl
  refine kv_aload_n C 18 rfl 0 (kdec dk_cX10_tellsText 12 rfl) rfl rfl ?_
  refine kv_getr C 21 rfl 61 42 rfl rfl inX10 (by decide) mfl_TaleMachineModel_74 rfl rfl (kdec dk_cX10_tellsText 13 rfl) ?_
  refine kv_iconst C 22 rfl 0 (kdec dk_cX10_tellsText 14 rfl) rfl ?_
  refine kv_iconst C 23 rfl 3 (kdec dk_cX10_tellsText 15 rfl) rfl ?_
  refine kv_iast C 24 rfl 83 rfl (by omega) (by omega) (kdec dk_cX10_tellsText 16 rfl) (fun w550 u551 => ?_)
  have u551 : w550 = kup w546 83 0 3 := u551
  have I552 : kI false w550 := kI_put u551 I548 (show (0 : Int) ≤ (3 : Int32).toInt by omega) (show (3 : Int32).toInt ≤ 3 by omega)
  have F553 : kF [(61, some 13), (61, some 29), (61, some 31), (61, some 43), (72, none), (73, none), (81, none), (82, none), (83, none)] w w550 := kF_put u551 F549 rfl
  refine kv_aload_n C 25 rfl 0 (kdec dk_cX10_tellsText 17 rfl) rfl rfl ?_
  refine kv_getr C 28 rfl 61 41 rfl rfl inX10 (by decide) mfl_TaleMachineModel_71 rfl rfl (kdec dk_cX10_tellsText 18 rfl) ?_
  refine kv_iconst C 29 rfl 0 (kdec dk_cX10_tellsText 19 rfl) rfl ?_
  refine kv_iconst C 30 rfl 0 (kdec dk_cX10_tellsText 20 rfl) rfl ?_
  refine kv_iast C 31 rfl 82 rfl (by omega) (by omega) (kdec dk_cX10_tellsText 21 rfl) (fun w554 u555 => ?_)
  have u555 : w554 = kup w550 82 0 0 := u555
  have I556 : kI false w554 := kI_put u555 I552 (show (0 : Int) ≤ (0 : Int32).toInt by omega) (show (0 : Int32).toInt ≤ 65535 by omega)
  have F557 : kF [(61, some 13), (61, some 29), (61, some 31), (61, some 43), (72, none), (73, none), (81, none), (82, none), (83, none)] w w554 := kF_put u555 F553 rfl
  refine kv_iconst C 32 rfl 0 (kdec dk_cX10_tellsText 22 rfl) rfl ?_
  refine kv_istore_n C 33 rfl 3 [1, 2, 3, 0] [(0, .ref (ρ 61)), (1, .int a1), (2, .int 0), (3, .int 0)] (kdec dk_cX10_tellsText 23 rfl) rfl (by decide) rfl ?_
  refine kv_iconst C 34 rfl 0 (kdec dk_cX10_tellsText 24 rfl) rfl ?_
  refine kv_istore C 36 rfl 4 [1, 2, 3, 4, 0] [(0, .ref (ρ 61)), (1, .int a1), (2, .int 0), (3, .int 0), (4, .int 0)] (kdec dk_cX10_tellsText 25 rfl) (by decide) rfl ?_
  refine kv_iconst C 37 rfl 0 (kdec dk_cX10_tellsText 26 rfl) rfl ?_
  refine kv_istore C 39 rfl 5 [1, 2, 3, 4, 5, 0] [(0, .ref (ρ 61)), (1, .int a1), (2, .int 0), (3, .int 0), (4, .int 0), (5, .int 0)] (kdec dk_cX10_tellsText 27 rfl) (by decide) rfl ?_
  refine kv_iconst C 40 rfl 0 (kdec dk_cX10_tellsText 28 rfl) rfl ?_
  refine kv_istore C 42 rfl 6 [1, 2, 3, 4, 5, 6, 0] [(0, .ref (ρ 61)), (1, .int a1), (2, .int 0), (3, .int 0), (4, .int 0), (5, .int 0), (6, .int 0)] (kdec dk_cX10_tellsText 29 rfl) (by decide) rfl ?_
  refine kv_iconst C 43 rfl 1 (kdec dk_cX10_tellsText 30 rfl) rfl ?_
  refine kv_istore C 45 rfl 7 [1, 2, 3, 4, 5, 6, 7, 0] [(0, .ref (ρ 61)), (1, .int a1), (2, .int 0), (3, .int 0), (4, .int 0), (5, .int 0), (6, .int 0), (7, .int 1)] (kdec dk_cX10_tellsText 31 rfl) (by decide) rfl ?_
  have e558 : w554 61 31 = x1 := ((kup_ne u555 rfl : w554 61 31 = w550 61 31).trans ((kup_ne u551 rfl : w550 61 31 = w546 61 31).trans ((kup_ne u547 rfl : w546 61 31 = w539 61 31).trans ((kup_ne u540 rfl : w539 61 31 = w 61 31).trans e2))))
  have e559 : w554 61 43 = 0 := ((kup_ne u555 rfl : w554 61 43 = w550 61 43).trans ((kup_ne u551 rfl : w550 61 43 = w546 61 43).trans ((kup_ne u547 rfl : w546 61 43 = w539 61 43).trans (kup_eq u540))))
  have e560 : w554 61 29 = x4 := ((kup_ne u555 rfl : w554 61 29 = w550 61 29).trans ((kup_ne u551 rfl : w550 61 29 = w546 61 29).trans ((kup_ne u547 rfl : w546 61 29 = w539 61 29).trans ((kup_ne u540 rfl : w539 61 29 = w 61 29).trans e5))))
  have e561 : w554 83 0 = 3 := ((kup_ne u555 rfl : w554 83 0 = w550 83 0).trans (kup_eq u551))
  obtain ⟨x562, e563⟩ : ∃ z : Int32, w 83 1 = z := ⟨_, rfl⟩
  have b564 : (0 : Int) ≤ x562.toInt ∧ x562.toInt ≤ 3 := by rw [← e563]; exact hI 83 1
  have e565 : w554 83 1 = x562 := ((kup_ne u555 rfl : w554 83 1 = w550 83 1).trans ((kup_ne u551 rfl : w550 83 1 = w546 83 1).trans ((kup_ne u547 rfl : w546 83 1 = w539 83 1).trans ((kup_ne u540 rfl : w539 83 1 = w 83 1).trans e563))))
  obtain ⟨x566, e567⟩ : ∃ z : Int32, w 61 13 = z := ⟨_, rfl⟩
  have b568 : (0 : Int) ≤ x566.toInt ∧ x566.toInt ≤ 13 := by rw [← e567]; exact hI 61 13
  have e569 : w554 61 13 = x566 := ((kup_ne u555 rfl : w554 61 13 = w550 61 13).trans ((kup_ne u551 rfl : w550 61 13 = w546 61 13).trans ((kup_ne u547 rfl : w546 61 13 = w539 61 13).trans ((kup_ne u540 rfl : w539 61 13 = w 61 13).trans e567))))
  refine kV.sub [0, 2, 3, 4, 5, 6, 7] (L' := [(0, .ref (ρ 61)), (2, .int 0), (3, .int 0), (4, .int 0), (5, .int 0), (6, .int 0), (7, .int 1)]) rfl ?_
  exact cut45 ((((20 * (2001 - (0 : Int32).toInt) + 6 * (0 : Int32).toInt + 2 * (w554 83 0).toInt + 2 * (w554 83 1).toInt + (1 : Int32).toInt + 13 - (w554 61 13).toInt)) : Int).toNat + 1) w554 0 0 0 0 0 1 I556 F557 (by omega) (by omega) (by omega) (by omega) (by rw [e2, e5, e558, e559, e560]; try omega) (by rw [e561, e565, e569]; try omega) (by omega)

set_option maxHeartbeats 4000000 in
set_option maxRecDepth 100000 in
theorem k_x_tellsNumber (l : Launch) (D : va_G) (τ : Nat → ClassId) (ρ σ : Nat → Nat) (w : kw) (a1 : Int32) (hI : kI false w) (hp0 : (w 61 31).toInt ≤ 2147482900 ∧ (w 61 29).toInt ≤ 2147482900) :
    kM l D τ ρ σ yX10_tellsNumber cX10_tellsNumber 4 none { frames := 2, cells := 0, slots := 0, locals := 72 } [.ref (ρ 61), .int a1] w
      (fun o w' => o = none ∧ kI false w' ∧ kF [(61, some 29), (61, some 31), (72, none), (73, none)] w w' ∧ ((w' 61 31).toInt ≤ (w 61 31).toInt + 12 ∧ (w' 61 29).toInt ≤ (w 61 29).toInt + 12)) := by
  refine kM_of (own := "TaleMachineModel") rfl (by decide) (Nat.le_of_ble_eq_true rfl) ?_
  intro p e s m args below meth c C hr hlk
  have hF0 : kF [(61, some 29), (61, some 31), (72, none), (73, none)] w w := kF.rf
  have c_0 : (0 : Int32).toInt = 0 := by decide
  have c_1 : (1 : Int32).toInt = 1 := by decide
  have c_9 : (9 : Int32).toInt = 9 := by decide
  have c_10 : (10 : Int32).toInt = 10 := by decide
  have c_45 : (45 : Int32).toInt = 45 := by decide
  have c_48 : (48 : Int32).toInt = 48 := by decide
  have c_100 : (100 : Int32).toInt = 100 := by decide
  have c_1000 : (1000 : Int32).toInt = 1000 := by decide
  have c_10000 : (10000 : Int32).toInt = 10000 := by decide
  have c_100000 : (100000 : Int32).toInt = 100000 := by decide
  have c_1000000 : (1000000 : Int32).toInt = 1000000 := by decide
  have c_10000000 : (10000000 : Int32).toInt = 10000000 := by decide
  have c_100000000 : (100000000 : Int32).toInt = 100000000 := by decide
  have c_1000000000 : (1000000000 : Int32).toInt = 1000000000 := by decide
  refine kV.L (L' := [(0, .ref (ρ 61)), (1, .int a1)]) rfl ?_
  obtain ⟨x1, e2⟩ : ∃ z : Int32, w 61 31 = z := ⟨_, rfl⟩
  have b3 : (0 : Int) ≤ x1.toInt ∧ x1.toInt ≤ 2147483647 := by rw [← e2]; exact hI 61 31
  obtain ⟨x4, e5⟩ : ∃ z : Int32, w 61 29 = z := ⟨_, rfl⟩
  have b6 : (0 : Int) ≤ x4.toInt ∧ x4.toInt ≤ 2147483647 := by rw [← e5]; exact hI 61 29
  rw [e2, e5] at hp0
  have g7 := kf_rng a1
  have cut33 : ∀ (n_33 : Nat) (w_33 : kw) (l2_33 l3_33 : Int32), kI false w_33 → kF [(61, some 29), (61, some 31), (72, none), (73, none)] w w_33 → (l3_33.toInt = 0 ∧ (w_33 61 31).toInt ≤ (w 61 31).toInt + 12 ∧ (w_33 61 29).toInt ≤ (w 61 29).toInt + 12 ∨ l3_33.toInt = 1 ∧ (w_33 61 31).toInt ≤ (w 61 31).toInt + 11 ∧ (w_33 61 29).toInt ≤ (w 61 29).toInt + 11 ∨ l3_33.toInt = 10 ∧ (w_33 61 31).toInt ≤ (w 61 31).toInt + 10 ∧ (w_33 61 29).toInt ≤ (w 61 29).toInt + 10 ∨ l3_33.toInt = 100 ∧ (w_33 61 31).toInt ≤ (w 61 31).toInt + 9 ∧ (w_33 61 29).toInt ≤ (w 61 29).toInt + 9 ∨ l3_33.toInt = 1000 ∧ (w_33 61 31).toInt ≤ (w 61 31).toInt + 8 ∧ (w_33 61 29).toInt ≤ (w 61 29).toInt + 8 ∨ l3_33.toInt = 10000 ∧ (w_33 61 31).toInt ≤ (w 61 31).toInt + 7 ∧ (w_33 61 29).toInt ≤ (w 61 29).toInt + 7 ∨ l3_33.toInt = 100000 ∧ (w_33 61 31).toInt ≤ (w 61 31).toInt + 6 ∧ (w_33 61 29).toInt ≤ (w 61 29).toInt + 6 ∨ l3_33.toInt = 1000000 ∧ (w_33 61 31).toInt ≤ (w 61 31).toInt + 5 ∧ (w_33 61 29).toInt ≤ (w 61 29).toInt + 5 ∨ l3_33.toInt = 10000000 ∧ (w_33 61 31).toInt ≤ (w 61 31).toInt + 4 ∧ (w_33 61 29).toInt ≤ (w 61 29).toInt + 4 ∨ l3_33.toInt = 100000000 ∧ (w_33 61 31).toInt ≤ (w 61 31).toInt + 3 ∧ (w_33 61 29).toInt ≤ (w 61 29).toInt + 3 ∨ l3_33.toInt = 1000000000 ∧ (w_33 61 31).toInt ≤ (w 61 31).toInt + 2 ∧ (w_33 61 29).toInt ≤ (w 61 29).toInt + 2) → (l3_33.toInt : Int) < (n_33 : Int) → kV p l e { frames := 2, cells := 0, slots := 0, locals := 72 } s m args below meth c (kQ below args s D τ ρ (fun o w' => o = none ∧ kI false w' ∧ kF [(61, some 29), (61, some 31), (72, none), (73, none)] w w' ∧ ((w' 61 31).toInt ≤ (w 61 31).toInt + 12 ∧ (w' 61 29).toInt ≤ (w 61 29).toInt + 12))) 4 D τ ρ 33 [(0, .ref (ρ 61)), (2, .int l2_33), (3, .int l3_33)] [] w_33 := by
    intro n_33
    induction n_33 with
    | zero => intro w_33 l2_33 l3_33 I_33 F_33 k33_0 hmz; exfalso; omega
    | succ n_33 ih33 =>
      intro w_33 l2_33 l3_33 I_33 F_33 k33_0 hm33
      have gl2_33 := kf_rng l2_33
      have gl3_33 := kf_rng l3_33
      obtain ⟨x8, e9⟩ : ∃ z : Int32, w_33 61 31 = z := ⟨_, rfl⟩
      have b10 : (0 : Int) ≤ x8.toInt ∧ x8.toInt ≤ 2147483647 := by rw [← e9]; exact I_33 61 31
      obtain ⟨x11, e12⟩ : ∃ z : Int32, w_33 61 29 = z := ⟨_, rfl⟩
      have b13 : (0 : Int) ≤ x11.toInt ∧ x11.toInt ≤ 2147483647 := by rw [← e12]; exact I_33 61 29
      rw [e2, e5, e9, e12] at k33_0
      rcases (show l3_33.toInt = 0 ∨ l3_33.toInt = 1 ∨ l3_33.toInt = 10 ∨ l3_33.toInt = 100 ∨ l3_33.toInt = 1000 ∨ l3_33.toInt = 10000 ∨ l3_33.toInt = 100000 ∨ l3_33.toInt = 1000000 ∨ l3_33.toInt = 10000000 ∨ l3_33.toInt = 100000000 ∨ l3_33.toInt = 1000000000 by omega) with hs33 | hs33 | hs33 | hs33 | hs33 | hs33 | hs33 | hs33 | hs33 | hs33 | hs33
      · obtain rfl := kf_eqc (0) (by decide) hs33
        have ks33_0 : (w_33 61 31).toInt ≤ (w 61 31).toInt + 12 ∧ (w_33 61 29).toInt ≤ (w 61 29).toInt + 12 := by rw [e2, e5, e9, e12]; omega
        rw [e2, e5, e9, e12] at ks33_0
        clear k33_0
        refine kv_iload_n C 34 rfl 2 (kdec dk_cX10_tellsNumber 22 rfl) rfl rfl ?_
        refine kv_if_le C 37 rfl 58 (kdec dk_cX10_tellsNumber 23 rfl) (by decide) (fun d14 => ?_) (fun d14 => ?_)
        · skip
          exact kv_vret C hr hlk (kdec dk_cX10_tellsNumber 38 rfl) ⟨rfl, I_33, F_33, (by rw [e2, e5, e9, e12]; try omega)⟩
        · exfalso; omega
      · obtain rfl := kf_eqc (1) (by decide) hs33
        have ks33_0 : (w_33 61 31).toInt ≤ (w 61 31).toInt + 11 ∧ (w_33 61 29).toInt ≤ (w 61 29).toInt + 11 := by rw [e2, e5, e9, e12]; omega
        rw [e2, e5, e9, e12] at ks33_0
        clear k33_0
        refine kv_iload_n C 34 rfl 2 (kdec dk_cX10_tellsNumber 22 rfl) rfl rfl ?_
        refine kv_if_le C 37 rfl 58 (kdec dk_cX10_tellsNumber 23 rfl) (by decide) (fun d15 => ?_) (fun d15 => ?_)
        · exfalso; omega
        · skip
          refine kv_aload_n C 38 rfl 0 (kdec dk_cX10_tellsNumber 24 rfl) rfl rfl ?_
          refine kv_bipush C 40 rfl 48 (kdec dk_cX10_tellsNumber 25 rfl) rfl ?_
          refine kv_iload_n C 41 rfl 1 (kdec dk_cX10_tellsNumber 26 rfl) rfl rfl ?_
          refine kv_iload_n C 42 rfl 2 (kdec dk_cX10_tellsNumber 27 rfl) rfl rfl ?_
          refine kv_idiv C 43 rfl (kdec dk_cX10_tellsNumber 28 rfl) (by decide) (fun x16 h17e h17l h17u => ?_)
          have g18 := kf_divc h17e (by decide)
          rw [c_1] at g18
          refine kv_bipush C 45 rfl 10 (kdec dk_cX10_tellsNumber 29 rfl) rfl ?_
          refine kv_irem C 46 rfl (kdec dk_cX10_tellsNumber 30 rfl) (by decide) (fun x19 h20e h20l h20u => ?_)
          refine kv_iadd C 47 rfl (kdec dk_cX10_tellsNumber 31 rfl) (fun x21 q23 h22e h22 h22l h22u => ?_)
          try have h22n : x21.toInt = (48 : Int32).toInt + x19.toInt := by omega
          clear h22 q23
          refine kv_callVv (As := [.int x21]) (rest := []) C 50 rfl 61 (k_x_tells l D τ ρ σ w_33 x21 I_33 (by rw [e9, e12]; try omega)) rfl rfl mml_TaleMachineModel_253 mim_yX10_tells mse_yX10_tells mcd_yX10_tells min_yX10_tells hd_yX10_tells rfl rfl rfl (by decide) rfl (Nat.le_of_ble_eq_true rfl) (kdec dk_cX10_tellsNumber 32 rfl) (fun w24 h25 => ?_)
          obtain ⟨I26, f27, p29, p30⟩ := h25
          have F31 : kF [(61, some 29), (61, some 31), (72, none), (73, none)] w w24 := kF_call F_33 f27 (by decide)
          obtain ⟨x32, e33⟩ : ∃ z : Int32, w24 61 31 = z := ⟨_, rfl⟩
          have b34 : (0 : Int) ≤ x32.toInt ∧ x32.toInt ≤ 2147483647 := by rw [← e33]; exact I26 61 31
          obtain ⟨x35, e36⟩ : ∃ z : Int32, w24 61 29 = z := ⟨_, rfl⟩
          have b37 : (0 : Int) ≤ x35.toInt ∧ x35.toInt ≤ 2147483647 := by rw [← e36]; exact I26 61 29
          rw [e9, e12, e33, e36] at p29
          rw [e9, e12, e33, e36] at p30
          refine kv_iload_n C 51 rfl 2 (kdec dk_cX10_tellsNumber 33 rfl) rfl rfl ?_
          refine kv_bipush C 53 rfl 10 (kdec dk_cX10_tellsNumber 34 rfl) rfl ?_
          refine kv_idiv C 54 rfl (kdec dk_cX10_tellsNumber 35 rfl) (by decide) (fun x38 h39e h39l h39u => ?_)
          obtain rfl : x38 = 0 := by rw [h39e]; decide
          refine kv_istore_n C 55 rfl 3 [1, 2, 0] [(0, .ref (ρ 61)), (2, .int l2_33), (3, .int 0)] (kdec dk_cX10_tellsNumber 36 rfl) rfl (by decide) rfl ?_
          refine kv_goto C 33 (kdec dk_cX10_tellsNumber 37 rfl) (by decide) ?_
          exact ih33 w24 l2_33 0 I26 F31 (by rw [e2, e5, e33, e36]; exact (Or.inl ⟨by omega, by omega, by omega⟩)) (by omega)
      · obtain rfl := kf_eqc (10) (by decide) hs33
        have ks33_0 : (w_33 61 31).toInt ≤ (w 61 31).toInt + 10 ∧ (w_33 61 29).toInt ≤ (w 61 29).toInt + 10 := by rw [e2, e5, e9, e12]; omega
        rw [e2, e5, e9, e12] at ks33_0
        clear k33_0
        refine kv_iload_n C 34 rfl 2 (kdec dk_cX10_tellsNumber 22 rfl) rfl rfl ?_
        refine kv_if_le C 37 rfl 58 (kdec dk_cX10_tellsNumber 23 rfl) (by decide) (fun d40 => ?_) (fun d40 => ?_)
        · exfalso; omega
        · skip
          refine kv_aload_n C 38 rfl 0 (kdec dk_cX10_tellsNumber 24 rfl) rfl rfl ?_
          refine kv_bipush C 40 rfl 48 (kdec dk_cX10_tellsNumber 25 rfl) rfl ?_
          refine kv_iload_n C 41 rfl 1 (kdec dk_cX10_tellsNumber 26 rfl) rfl rfl ?_
          refine kv_iload_n C 42 rfl 2 (kdec dk_cX10_tellsNumber 27 rfl) rfl rfl ?_
          refine kv_idiv C 43 rfl (kdec dk_cX10_tellsNumber 28 rfl) (by decide) (fun x41 h42e h42l h42u => ?_)
          have g43 := kf_divc h42e (by decide)
          rw [c_10] at g43
          refine kv_bipush C 45 rfl 10 (kdec dk_cX10_tellsNumber 29 rfl) rfl ?_
          refine kv_irem C 46 rfl (kdec dk_cX10_tellsNumber 30 rfl) (by decide) (fun x44 h45e h45l h45u => ?_)
          refine kv_iadd C 47 rfl (kdec dk_cX10_tellsNumber 31 rfl) (fun x46 q48 h47e h47 h47l h47u => ?_)
          try have h47n : x46.toInt = (48 : Int32).toInt + x44.toInt := by omega
          clear h47 q48
          refine kv_callVv (As := [.int x46]) (rest := []) C 50 rfl 61 (k_x_tells l D τ ρ σ w_33 x46 I_33 (by rw [e9, e12]; try omega)) rfl rfl mml_TaleMachineModel_253 mim_yX10_tells mse_yX10_tells mcd_yX10_tells min_yX10_tells hd_yX10_tells rfl rfl rfl (by decide) rfl (Nat.le_of_ble_eq_true rfl) (kdec dk_cX10_tellsNumber 32 rfl) (fun w49 h50 => ?_)
          obtain ⟨I51, f52, p54, p55⟩ := h50
          have F56 : kF [(61, some 29), (61, some 31), (72, none), (73, none)] w w49 := kF_call F_33 f52 (by decide)
          obtain ⟨x57, e58⟩ : ∃ z : Int32, w49 61 31 = z := ⟨_, rfl⟩
          have b59 : (0 : Int) ≤ x57.toInt ∧ x57.toInt ≤ 2147483647 := by rw [← e58]; exact I51 61 31
          obtain ⟨x60, e61⟩ : ∃ z : Int32, w49 61 29 = z := ⟨_, rfl⟩
          have b62 : (0 : Int) ≤ x60.toInt ∧ x60.toInt ≤ 2147483647 := by rw [← e61]; exact I51 61 29
          rw [e9, e12, e58, e61] at p54
          rw [e9, e12, e58, e61] at p55
          refine kv_iload_n C 51 rfl 2 (kdec dk_cX10_tellsNumber 33 rfl) rfl rfl ?_
          refine kv_bipush C 53 rfl 10 (kdec dk_cX10_tellsNumber 34 rfl) rfl ?_
          refine kv_idiv C 54 rfl (kdec dk_cX10_tellsNumber 35 rfl) (by decide) (fun x63 h64e h64l h64u => ?_)
          obtain rfl : x63 = 1 := by rw [h64e]; decide
          refine kv_istore_n C 55 rfl 3 [1, 2, 0] [(0, .ref (ρ 61)), (2, .int l2_33), (3, .int 1)] (kdec dk_cX10_tellsNumber 36 rfl) rfl (by decide) rfl ?_
          refine kv_goto C 33 (kdec dk_cX10_tellsNumber 37 rfl) (by decide) ?_
          exact ih33 w49 l2_33 1 I51 F56 (by rw [e2, e5, e58, e61]; exact (Or.inr (Or.inl ⟨by omega, by omega, by omega⟩))) (by omega)
      · obtain rfl := kf_eqc (100) (by decide) hs33
        have ks33_0 : (w_33 61 31).toInt ≤ (w 61 31).toInt + 9 ∧ (w_33 61 29).toInt ≤ (w 61 29).toInt + 9 := by rw [e2, e5, e9, e12]; omega
        rw [e2, e5, e9, e12] at ks33_0
        clear k33_0
        refine kv_iload_n C 34 rfl 2 (kdec dk_cX10_tellsNumber 22 rfl) rfl rfl ?_
        refine kv_if_le C 37 rfl 58 (kdec dk_cX10_tellsNumber 23 rfl) (by decide) (fun d65 => ?_) (fun d65 => ?_)
        · exfalso; omega
        · skip
          refine kv_aload_n C 38 rfl 0 (kdec dk_cX10_tellsNumber 24 rfl) rfl rfl ?_
          refine kv_bipush C 40 rfl 48 (kdec dk_cX10_tellsNumber 25 rfl) rfl ?_
          refine kv_iload_n C 41 rfl 1 (kdec dk_cX10_tellsNumber 26 rfl) rfl rfl ?_
          refine kv_iload_n C 42 rfl 2 (kdec dk_cX10_tellsNumber 27 rfl) rfl rfl ?_
          refine kv_idiv C 43 rfl (kdec dk_cX10_tellsNumber 28 rfl) (by decide) (fun x66 h67e h67l h67u => ?_)
          have g68 := kf_divc h67e (by decide)
          rw [c_100] at g68
          refine kv_bipush C 45 rfl 10 (kdec dk_cX10_tellsNumber 29 rfl) rfl ?_
          refine kv_irem C 46 rfl (kdec dk_cX10_tellsNumber 30 rfl) (by decide) (fun x69 h70e h70l h70u => ?_)
          refine kv_iadd C 47 rfl (kdec dk_cX10_tellsNumber 31 rfl) (fun x71 q73 h72e h72 h72l h72u => ?_)
          try have h72n : x71.toInt = (48 : Int32).toInt + x69.toInt := by omega
          clear h72 q73
          refine kv_callVv (As := [.int x71]) (rest := []) C 50 rfl 61 (k_x_tells l D τ ρ σ w_33 x71 I_33 (by rw [e9, e12]; try omega)) rfl rfl mml_TaleMachineModel_253 mim_yX10_tells mse_yX10_tells mcd_yX10_tells min_yX10_tells hd_yX10_tells rfl rfl rfl (by decide) rfl (Nat.le_of_ble_eq_true rfl) (kdec dk_cX10_tellsNumber 32 rfl) (fun w74 h75 => ?_)
          obtain ⟨I76, f77, p79, p80⟩ := h75
          have F81 : kF [(61, some 29), (61, some 31), (72, none), (73, none)] w w74 := kF_call F_33 f77 (by decide)
          obtain ⟨x82, e83⟩ : ∃ z : Int32, w74 61 31 = z := ⟨_, rfl⟩
          have b84 : (0 : Int) ≤ x82.toInt ∧ x82.toInt ≤ 2147483647 := by rw [← e83]; exact I76 61 31
          obtain ⟨x85, e86⟩ : ∃ z : Int32, w74 61 29 = z := ⟨_, rfl⟩
          have b87 : (0 : Int) ≤ x85.toInt ∧ x85.toInt ≤ 2147483647 := by rw [← e86]; exact I76 61 29
          rw [e9, e12, e83, e86] at p79
          rw [e9, e12, e83, e86] at p80
          refine kv_iload_n C 51 rfl 2 (kdec dk_cX10_tellsNumber 33 rfl) rfl rfl ?_
          refine kv_bipush C 53 rfl 10 (kdec dk_cX10_tellsNumber 34 rfl) rfl ?_
          refine kv_idiv C 54 rfl (kdec dk_cX10_tellsNumber 35 rfl) (by decide) (fun x88 h89e h89l h89u => ?_)
          obtain rfl : x88 = 10 := by rw [h89e]; decide
          refine kv_istore_n C 55 rfl 3 [1, 2, 0] [(0, .ref (ρ 61)), (2, .int l2_33), (3, .int 10)] (kdec dk_cX10_tellsNumber 36 rfl) rfl (by decide) rfl ?_
          refine kv_goto C 33 (kdec dk_cX10_tellsNumber 37 rfl) (by decide) ?_
          exact ih33 w74 l2_33 10 I76 F81 (by rw [e2, e5, e83, e86]; exact (Or.inr (Or.inr (Or.inl ⟨by omega, by omega, by omega⟩)))) (by omega)
      · obtain rfl := kf_eqc (1000) (by decide) hs33
        have ks33_0 : (w_33 61 31).toInt ≤ (w 61 31).toInt + 8 ∧ (w_33 61 29).toInt ≤ (w 61 29).toInt + 8 := by rw [e2, e5, e9, e12]; omega
        rw [e2, e5, e9, e12] at ks33_0
        clear k33_0
        refine kv_iload_n C 34 rfl 2 (kdec dk_cX10_tellsNumber 22 rfl) rfl rfl ?_
        refine kv_if_le C 37 rfl 58 (kdec dk_cX10_tellsNumber 23 rfl) (by decide) (fun d90 => ?_) (fun d90 => ?_)
        · exfalso; omega
        · skip
          refine kv_aload_n C 38 rfl 0 (kdec dk_cX10_tellsNumber 24 rfl) rfl rfl ?_
          refine kv_bipush C 40 rfl 48 (kdec dk_cX10_tellsNumber 25 rfl) rfl ?_
          refine kv_iload_n C 41 rfl 1 (kdec dk_cX10_tellsNumber 26 rfl) rfl rfl ?_
          refine kv_iload_n C 42 rfl 2 (kdec dk_cX10_tellsNumber 27 rfl) rfl rfl ?_
          refine kv_idiv C 43 rfl (kdec dk_cX10_tellsNumber 28 rfl) (by decide) (fun x91 h92e h92l h92u => ?_)
          have g93 := kf_divc h92e (by decide)
          rw [c_1000] at g93
          refine kv_bipush C 45 rfl 10 (kdec dk_cX10_tellsNumber 29 rfl) rfl ?_
          refine kv_irem C 46 rfl (kdec dk_cX10_tellsNumber 30 rfl) (by decide) (fun x94 h95e h95l h95u => ?_)
          refine kv_iadd C 47 rfl (kdec dk_cX10_tellsNumber 31 rfl) (fun x96 q98 h97e h97 h97l h97u => ?_)
          try have h97n : x96.toInt = (48 : Int32).toInt + x94.toInt := by omega
          clear h97 q98
          refine kv_callVv (As := [.int x96]) (rest := []) C 50 rfl 61 (k_x_tells l D τ ρ σ w_33 x96 I_33 (by rw [e9, e12]; try omega)) rfl rfl mml_TaleMachineModel_253 mim_yX10_tells mse_yX10_tells mcd_yX10_tells min_yX10_tells hd_yX10_tells rfl rfl rfl (by decide) rfl (Nat.le_of_ble_eq_true rfl) (kdec dk_cX10_tellsNumber 32 rfl) (fun w99 h100 => ?_)
          obtain ⟨I101, f102, p104, p105⟩ := h100
          have F106 : kF [(61, some 29), (61, some 31), (72, none), (73, none)] w w99 := kF_call F_33 f102 (by decide)
          obtain ⟨x107, e108⟩ : ∃ z : Int32, w99 61 31 = z := ⟨_, rfl⟩
          have b109 : (0 : Int) ≤ x107.toInt ∧ x107.toInt ≤ 2147483647 := by rw [← e108]; exact I101 61 31
          obtain ⟨x110, e111⟩ : ∃ z : Int32, w99 61 29 = z := ⟨_, rfl⟩
          have b112 : (0 : Int) ≤ x110.toInt ∧ x110.toInt ≤ 2147483647 := by rw [← e111]; exact I101 61 29
          rw [e9, e12, e108, e111] at p104
          rw [e9, e12, e108, e111] at p105
          refine kv_iload_n C 51 rfl 2 (kdec dk_cX10_tellsNumber 33 rfl) rfl rfl ?_
          refine kv_bipush C 53 rfl 10 (kdec dk_cX10_tellsNumber 34 rfl) rfl ?_
          refine kv_idiv C 54 rfl (kdec dk_cX10_tellsNumber 35 rfl) (by decide) (fun x113 h114e h114l h114u => ?_)
          obtain rfl : x113 = 100 := by rw [h114e]; decide
          refine kv_istore_n C 55 rfl 3 [1, 2, 0] [(0, .ref (ρ 61)), (2, .int l2_33), (3, .int 100)] (kdec dk_cX10_tellsNumber 36 rfl) rfl (by decide) rfl ?_
          refine kv_goto C 33 (kdec dk_cX10_tellsNumber 37 rfl) (by decide) ?_
          exact ih33 w99 l2_33 100 I101 F106 (by rw [e2, e5, e108, e111]; exact (Or.inr (Or.inr (Or.inr (Or.inl ⟨by omega, by omega, by omega⟩))))) (by omega)
      · obtain rfl := kf_eqc (10000) (by decide) hs33
        have ks33_0 : (w_33 61 31).toInt ≤ (w 61 31).toInt + 7 ∧ (w_33 61 29).toInt ≤ (w 61 29).toInt + 7 := by rw [e2, e5, e9, e12]; omega
        rw [e2, e5, e9, e12] at ks33_0
        clear k33_0
        refine kv_iload_n C 34 rfl 2 (kdec dk_cX10_tellsNumber 22 rfl) rfl rfl ?_
        refine kv_if_le C 37 rfl 58 (kdec dk_cX10_tellsNumber 23 rfl) (by decide) (fun d115 => ?_) (fun d115 => ?_)
        · exfalso; omega
        · skip
          refine kv_aload_n C 38 rfl 0 (kdec dk_cX10_tellsNumber 24 rfl) rfl rfl ?_
          refine kv_bipush C 40 rfl 48 (kdec dk_cX10_tellsNumber 25 rfl) rfl ?_
          refine kv_iload_n C 41 rfl 1 (kdec dk_cX10_tellsNumber 26 rfl) rfl rfl ?_
          refine kv_iload_n C 42 rfl 2 (kdec dk_cX10_tellsNumber 27 rfl) rfl rfl ?_
          refine kv_idiv C 43 rfl (kdec dk_cX10_tellsNumber 28 rfl) (by decide) (fun x116 h117e h117l h117u => ?_)
          have g118 := kf_divc h117e (by decide)
          rw [c_10000] at g118
          refine kv_bipush C 45 rfl 10 (kdec dk_cX10_tellsNumber 29 rfl) rfl ?_
          refine kv_irem C 46 rfl (kdec dk_cX10_tellsNumber 30 rfl) (by decide) (fun x119 h120e h120l h120u => ?_)
          refine kv_iadd C 47 rfl (kdec dk_cX10_tellsNumber 31 rfl) (fun x121 q123 h122e h122 h122l h122u => ?_)
          try have h122n : x121.toInt = (48 : Int32).toInt + x119.toInt := by omega
          clear h122 q123
          refine kv_callVv (As := [.int x121]) (rest := []) C 50 rfl 61 (k_x_tells l D τ ρ σ w_33 x121 I_33 (by rw [e9, e12]; try omega)) rfl rfl mml_TaleMachineModel_253 mim_yX10_tells mse_yX10_tells mcd_yX10_tells min_yX10_tells hd_yX10_tells rfl rfl rfl (by decide) rfl (Nat.le_of_ble_eq_true rfl) (kdec dk_cX10_tellsNumber 32 rfl) (fun w124 h125 => ?_)
          obtain ⟨I126, f127, p129, p130⟩ := h125
          have F131 : kF [(61, some 29), (61, some 31), (72, none), (73, none)] w w124 := kF_call F_33 f127 (by decide)
          obtain ⟨x132, e133⟩ : ∃ z : Int32, w124 61 31 = z := ⟨_, rfl⟩
          have b134 : (0 : Int) ≤ x132.toInt ∧ x132.toInt ≤ 2147483647 := by rw [← e133]; exact I126 61 31
          obtain ⟨x135, e136⟩ : ∃ z : Int32, w124 61 29 = z := ⟨_, rfl⟩
          have b137 : (0 : Int) ≤ x135.toInt ∧ x135.toInt ≤ 2147483647 := by rw [← e136]; exact I126 61 29
          rw [e9, e12, e133, e136] at p129
          rw [e9, e12, e133, e136] at p130
          refine kv_iload_n C 51 rfl 2 (kdec dk_cX10_tellsNumber 33 rfl) rfl rfl ?_
          refine kv_bipush C 53 rfl 10 (kdec dk_cX10_tellsNumber 34 rfl) rfl ?_
          refine kv_idiv C 54 rfl (kdec dk_cX10_tellsNumber 35 rfl) (by decide) (fun x138 h139e h139l h139u => ?_)
          obtain rfl : x138 = 1000 := by rw [h139e]; decide
          refine kv_istore_n C 55 rfl 3 [1, 2, 0] [(0, .ref (ρ 61)), (2, .int l2_33), (3, .int 1000)] (kdec dk_cX10_tellsNumber 36 rfl) rfl (by decide) rfl ?_
          refine kv_goto C 33 (kdec dk_cX10_tellsNumber 37 rfl) (by decide) ?_
          exact ih33 w124 l2_33 1000 I126 F131 (by rw [e2, e5, e133, e136]; exact (Or.inr (Or.inr (Or.inr (Or.inr (Or.inl ⟨by omega, by omega, by omega⟩)))))) (by omega)
      · obtain rfl := kf_eqc (100000) (by decide) hs33
        have ks33_0 : (w_33 61 31).toInt ≤ (w 61 31).toInt + 6 ∧ (w_33 61 29).toInt ≤ (w 61 29).toInt + 6 := by rw [e2, e5, e9, e12]; omega
        rw [e2, e5, e9, e12] at ks33_0
        clear k33_0
        refine kv_iload_n C 34 rfl 2 (kdec dk_cX10_tellsNumber 22 rfl) rfl rfl ?_
        refine kv_if_le C 37 rfl 58 (kdec dk_cX10_tellsNumber 23 rfl) (by decide) (fun d140 => ?_) (fun d140 => ?_)
        · exfalso; omega
        · skip
          refine kv_aload_n C 38 rfl 0 (kdec dk_cX10_tellsNumber 24 rfl) rfl rfl ?_
          refine kv_bipush C 40 rfl 48 (kdec dk_cX10_tellsNumber 25 rfl) rfl ?_
          refine kv_iload_n C 41 rfl 1 (kdec dk_cX10_tellsNumber 26 rfl) rfl rfl ?_
          refine kv_iload_n C 42 rfl 2 (kdec dk_cX10_tellsNumber 27 rfl) rfl rfl ?_
          refine kv_idiv C 43 rfl (kdec dk_cX10_tellsNumber 28 rfl) (by decide) (fun x141 h142e h142l h142u => ?_)
          have g143 := kf_divc h142e (by decide)
          rw [c_100000] at g143
          refine kv_bipush C 45 rfl 10 (kdec dk_cX10_tellsNumber 29 rfl) rfl ?_
          refine kv_irem C 46 rfl (kdec dk_cX10_tellsNumber 30 rfl) (by decide) (fun x144 h145e h145l h145u => ?_)
          refine kv_iadd C 47 rfl (kdec dk_cX10_tellsNumber 31 rfl) (fun x146 q148 h147e h147 h147l h147u => ?_)
          try have h147n : x146.toInt = (48 : Int32).toInt + x144.toInt := by omega
          clear h147 q148
          refine kv_callVv (As := [.int x146]) (rest := []) C 50 rfl 61 (k_x_tells l D τ ρ σ w_33 x146 I_33 (by rw [e9, e12]; try omega)) rfl rfl mml_TaleMachineModel_253 mim_yX10_tells mse_yX10_tells mcd_yX10_tells min_yX10_tells hd_yX10_tells rfl rfl rfl (by decide) rfl (Nat.le_of_ble_eq_true rfl) (kdec dk_cX10_tellsNumber 32 rfl) (fun w149 h150 => ?_)
          obtain ⟨I151, f152, p154, p155⟩ := h150
          have F156 : kF [(61, some 29), (61, some 31), (72, none), (73, none)] w w149 := kF_call F_33 f152 (by decide)
          obtain ⟨x157, e158⟩ : ∃ z : Int32, w149 61 31 = z := ⟨_, rfl⟩
          have b159 : (0 : Int) ≤ x157.toInt ∧ x157.toInt ≤ 2147483647 := by rw [← e158]; exact I151 61 31
          obtain ⟨x160, e161⟩ : ∃ z : Int32, w149 61 29 = z := ⟨_, rfl⟩
          have b162 : (0 : Int) ≤ x160.toInt ∧ x160.toInt ≤ 2147483647 := by rw [← e161]; exact I151 61 29
          rw [e9, e12, e158, e161] at p154
          rw [e9, e12, e158, e161] at p155
          refine kv_iload_n C 51 rfl 2 (kdec dk_cX10_tellsNumber 33 rfl) rfl rfl ?_
          refine kv_bipush C 53 rfl 10 (kdec dk_cX10_tellsNumber 34 rfl) rfl ?_
          refine kv_idiv C 54 rfl (kdec dk_cX10_tellsNumber 35 rfl) (by decide) (fun x163 h164e h164l h164u => ?_)
          obtain rfl : x163 = 10000 := by rw [h164e]; decide
          refine kv_istore_n C 55 rfl 3 [1, 2, 0] [(0, .ref (ρ 61)), (2, .int l2_33), (3, .int 10000)] (kdec dk_cX10_tellsNumber 36 rfl) rfl (by decide) rfl ?_
          refine kv_goto C 33 (kdec dk_cX10_tellsNumber 37 rfl) (by decide) ?_
          exact ih33 w149 l2_33 10000 I151 F156 (by rw [e2, e5, e158, e161]; exact (Or.inr (Or.inr (Or.inr (Or.inr (Or.inr (Or.inl ⟨by omega, by omega, by omega⟩))))))) (by omega)
      · obtain rfl := kf_eqc (1000000) (by decide) hs33
        have ks33_0 : (w_33 61 31).toInt ≤ (w 61 31).toInt + 5 ∧ (w_33 61 29).toInt ≤ (w 61 29).toInt + 5 := by rw [e2, e5, e9, e12]; omega
        rw [e2, e5, e9, e12] at ks33_0
        clear k33_0
        refine kv_iload_n C 34 rfl 2 (kdec dk_cX10_tellsNumber 22 rfl) rfl rfl ?_
        refine kv_if_le C 37 rfl 58 (kdec dk_cX10_tellsNumber 23 rfl) (by decide) (fun d165 => ?_) (fun d165 => ?_)
        · exfalso; omega
        · skip
          refine kv_aload_n C 38 rfl 0 (kdec dk_cX10_tellsNumber 24 rfl) rfl rfl ?_
          refine kv_bipush C 40 rfl 48 (kdec dk_cX10_tellsNumber 25 rfl) rfl ?_
          refine kv_iload_n C 41 rfl 1 (kdec dk_cX10_tellsNumber 26 rfl) rfl rfl ?_
          refine kv_iload_n C 42 rfl 2 (kdec dk_cX10_tellsNumber 27 rfl) rfl rfl ?_
          refine kv_idiv C 43 rfl (kdec dk_cX10_tellsNumber 28 rfl) (by decide) (fun x166 h167e h167l h167u => ?_)
          have g168 := kf_divc h167e (by decide)
          rw [c_1000000] at g168
          refine kv_bipush C 45 rfl 10 (kdec dk_cX10_tellsNumber 29 rfl) rfl ?_
          refine kv_irem C 46 rfl (kdec dk_cX10_tellsNumber 30 rfl) (by decide) (fun x169 h170e h170l h170u => ?_)
          refine kv_iadd C 47 rfl (kdec dk_cX10_tellsNumber 31 rfl) (fun x171 q173 h172e h172 h172l h172u => ?_)
          try have h172n : x171.toInt = (48 : Int32).toInt + x169.toInt := by omega
          clear h172 q173
          refine kv_callVv (As := [.int x171]) (rest := []) C 50 rfl 61 (k_x_tells l D τ ρ σ w_33 x171 I_33 (by rw [e9, e12]; try omega)) rfl rfl mml_TaleMachineModel_253 mim_yX10_tells mse_yX10_tells mcd_yX10_tells min_yX10_tells hd_yX10_tells rfl rfl rfl (by decide) rfl (Nat.le_of_ble_eq_true rfl) (kdec dk_cX10_tellsNumber 32 rfl) (fun w174 h175 => ?_)
          obtain ⟨I176, f177, p179, p180⟩ := h175
          have F181 : kF [(61, some 29), (61, some 31), (72, none), (73, none)] w w174 := kF_call F_33 f177 (by decide)
          obtain ⟨x182, e183⟩ : ∃ z : Int32, w174 61 31 = z := ⟨_, rfl⟩
          have b184 : (0 : Int) ≤ x182.toInt ∧ x182.toInt ≤ 2147483647 := by rw [← e183]; exact I176 61 31
          obtain ⟨x185, e186⟩ : ∃ z : Int32, w174 61 29 = z := ⟨_, rfl⟩
          have b187 : (0 : Int) ≤ x185.toInt ∧ x185.toInt ≤ 2147483647 := by rw [← e186]; exact I176 61 29
          rw [e9, e12, e183, e186] at p179
          rw [e9, e12, e183, e186] at p180
          refine kv_iload_n C 51 rfl 2 (kdec dk_cX10_tellsNumber 33 rfl) rfl rfl ?_
          refine kv_bipush C 53 rfl 10 (kdec dk_cX10_tellsNumber 34 rfl) rfl ?_
          refine kv_idiv C 54 rfl (kdec dk_cX10_tellsNumber 35 rfl) (by decide) (fun x188 h189e h189l h189u => ?_)
          obtain rfl : x188 = 100000 := by rw [h189e]; decide
          refine kv_istore_n C 55 rfl 3 [1, 2, 0] [(0, .ref (ρ 61)), (2, .int l2_33), (3, .int 100000)] (kdec dk_cX10_tellsNumber 36 rfl) rfl (by decide) rfl ?_
          refine kv_goto C 33 (kdec dk_cX10_tellsNumber 37 rfl) (by decide) ?_
          exact ih33 w174 l2_33 100000 I176 F181 (by rw [e2, e5, e183, e186]; exact (Or.inr (Or.inr (Or.inr (Or.inr (Or.inr (Or.inr (Or.inl ⟨by omega, by omega, by omega⟩)))))))) (by omega)
      · obtain rfl := kf_eqc (10000000) (by decide) hs33
        have ks33_0 : (w_33 61 31).toInt ≤ (w 61 31).toInt + 4 ∧ (w_33 61 29).toInt ≤ (w 61 29).toInt + 4 := by rw [e2, e5, e9, e12]; omega
        rw [e2, e5, e9, e12] at ks33_0
        clear k33_0
        refine kv_iload_n C 34 rfl 2 (kdec dk_cX10_tellsNumber 22 rfl) rfl rfl ?_
        refine kv_if_le C 37 rfl 58 (kdec dk_cX10_tellsNumber 23 rfl) (by decide) (fun d190 => ?_) (fun d190 => ?_)
        · exfalso; omega
        · skip
          refine kv_aload_n C 38 rfl 0 (kdec dk_cX10_tellsNumber 24 rfl) rfl rfl ?_
          refine kv_bipush C 40 rfl 48 (kdec dk_cX10_tellsNumber 25 rfl) rfl ?_
          refine kv_iload_n C 41 rfl 1 (kdec dk_cX10_tellsNumber 26 rfl) rfl rfl ?_
          refine kv_iload_n C 42 rfl 2 (kdec dk_cX10_tellsNumber 27 rfl) rfl rfl ?_
          refine kv_idiv C 43 rfl (kdec dk_cX10_tellsNumber 28 rfl) (by decide) (fun x191 h192e h192l h192u => ?_)
          have g193 := kf_divc h192e (by decide)
          rw [c_10000000] at g193
          refine kv_bipush C 45 rfl 10 (kdec dk_cX10_tellsNumber 29 rfl) rfl ?_
          refine kv_irem C 46 rfl (kdec dk_cX10_tellsNumber 30 rfl) (by decide) (fun x194 h195e h195l h195u => ?_)
          refine kv_iadd C 47 rfl (kdec dk_cX10_tellsNumber 31 rfl) (fun x196 q198 h197e h197 h197l h197u => ?_)
          try have h197n : x196.toInt = (48 : Int32).toInt + x194.toInt := by omega
          clear h197 q198
          refine kv_callVv (As := [.int x196]) (rest := []) C 50 rfl 61 (k_x_tells l D τ ρ σ w_33 x196 I_33 (by rw [e9, e12]; try omega)) rfl rfl mml_TaleMachineModel_253 mim_yX10_tells mse_yX10_tells mcd_yX10_tells min_yX10_tells hd_yX10_tells rfl rfl rfl (by decide) rfl (Nat.le_of_ble_eq_true rfl) (kdec dk_cX10_tellsNumber 32 rfl) (fun w199 h200 => ?_)
          obtain ⟨I201, f202, p204, p205⟩ := h200
          have F206 : kF [(61, some 29), (61, some 31), (72, none), (73, none)] w w199 := kF_call F_33 f202 (by decide)
          obtain ⟨x207, e208⟩ : ∃ z : Int32, w199 61 31 = z := ⟨_, rfl⟩
          have b209 : (0 : Int) ≤ x207.toInt ∧ x207.toInt ≤ 2147483647 := by rw [← e208]; exact I201 61 31
          obtain ⟨x210, e211⟩ : ∃ z : Int32, w199 61 29 = z := ⟨_, rfl⟩
          have b212 : (0 : Int) ≤ x210.toInt ∧ x210.toInt ≤ 2147483647 := by rw [← e211]; exact I201 61 29
          rw [e9, e12, e208, e211] at p204
          rw [e9, e12, e208, e211] at p205
          refine kv_iload_n C 51 rfl 2 (kdec dk_cX10_tellsNumber 33 rfl) rfl rfl ?_
          refine kv_bipush C 53 rfl 10 (kdec dk_cX10_tellsNumber 34 rfl) rfl ?_
          refine kv_idiv C 54 rfl (kdec dk_cX10_tellsNumber 35 rfl) (by decide) (fun x213 h214e h214l h214u => ?_)
          obtain rfl : x213 = 1000000 := by rw [h214e]; decide
          refine kv_istore_n C 55 rfl 3 [1, 2, 0] [(0, .ref (ρ 61)), (2, .int l2_33), (3, .int 1000000)] (kdec dk_cX10_tellsNumber 36 rfl) rfl (by decide) rfl ?_
          refine kv_goto C 33 (kdec dk_cX10_tellsNumber 37 rfl) (by decide) ?_
          exact ih33 w199 l2_33 1000000 I201 F206 (by rw [e2, e5, e208, e211]; exact (Or.inr (Or.inr (Or.inr (Or.inr (Or.inr (Or.inr (Or.inr (Or.inl ⟨by omega, by omega, by omega⟩))))))))) (by omega)
      · obtain rfl := kf_eqc (100000000) (by decide) hs33
        have ks33_0 : (w_33 61 31).toInt ≤ (w 61 31).toInt + 3 ∧ (w_33 61 29).toInt ≤ (w 61 29).toInt + 3 := by rw [e2, e5, e9, e12]; omega
        rw [e2, e5, e9, e12] at ks33_0
        clear k33_0
        refine kv_iload_n C 34 rfl 2 (kdec dk_cX10_tellsNumber 22 rfl) rfl rfl ?_
        refine kv_if_le C 37 rfl 58 (kdec dk_cX10_tellsNumber 23 rfl) (by decide) (fun d215 => ?_) (fun d215 => ?_)
        · exfalso; omega
        · skip
          refine kv_aload_n C 38 rfl 0 (kdec dk_cX10_tellsNumber 24 rfl) rfl rfl ?_
          refine kv_bipush C 40 rfl 48 (kdec dk_cX10_tellsNumber 25 rfl) rfl ?_
          refine kv_iload_n C 41 rfl 1 (kdec dk_cX10_tellsNumber 26 rfl) rfl rfl ?_
          refine kv_iload_n C 42 rfl 2 (kdec dk_cX10_tellsNumber 27 rfl) rfl rfl ?_
          refine kv_idiv C 43 rfl (kdec dk_cX10_tellsNumber 28 rfl) (by decide) (fun x216 h217e h217l h217u => ?_)
          have g218 := kf_divc h217e (by decide)
          rw [c_100000000] at g218
          refine kv_bipush C 45 rfl 10 (kdec dk_cX10_tellsNumber 29 rfl) rfl ?_
          refine kv_irem C 46 rfl (kdec dk_cX10_tellsNumber 30 rfl) (by decide) (fun x219 h220e h220l h220u => ?_)
          refine kv_iadd C 47 rfl (kdec dk_cX10_tellsNumber 31 rfl) (fun x221 q223 h222e h222 h222l h222u => ?_)
          try have h222n : x221.toInt = (48 : Int32).toInt + x219.toInt := by omega
          clear h222 q223
          refine kv_callVv (As := [.int x221]) (rest := []) C 50 rfl 61 (k_x_tells l D τ ρ σ w_33 x221 I_33 (by rw [e9, e12]; try omega)) rfl rfl mml_TaleMachineModel_253 mim_yX10_tells mse_yX10_tells mcd_yX10_tells min_yX10_tells hd_yX10_tells rfl rfl rfl (by decide) rfl (Nat.le_of_ble_eq_true rfl) (kdec dk_cX10_tellsNumber 32 rfl) (fun w224 h225 => ?_)
          obtain ⟨I226, f227, p229, p230⟩ := h225
          have F231 : kF [(61, some 29), (61, some 31), (72, none), (73, none)] w w224 := kF_call F_33 f227 (by decide)
          obtain ⟨x232, e233⟩ : ∃ z : Int32, w224 61 31 = z := ⟨_, rfl⟩
          have b234 : (0 : Int) ≤ x232.toInt ∧ x232.toInt ≤ 2147483647 := by rw [← e233]; exact I226 61 31
          obtain ⟨x235, e236⟩ : ∃ z : Int32, w224 61 29 = z := ⟨_, rfl⟩
          have b237 : (0 : Int) ≤ x235.toInt ∧ x235.toInt ≤ 2147483647 := by rw [← e236]; exact I226 61 29
          rw [e9, e12, e233, e236] at p229
          rw [e9, e12, e233, e236] at p230
          refine kv_iload_n C 51 rfl 2 (kdec dk_cX10_tellsNumber 33 rfl) rfl rfl ?_
          refine kv_bipush C 53 rfl 10 (kdec dk_cX10_tellsNumber 34 rfl) rfl ?_
          refine kv_idiv C 54 rfl (kdec dk_cX10_tellsNumber 35 rfl) (by decide) (fun x238 h239e h239l h239u => ?_)
          obtain rfl : x238 = 10000000 := by rw [h239e]; decide
          refine kv_istore_n C 55 rfl 3 [1, 2, 0] [(0, .ref (ρ 61)), (2, .int l2_33), (3, .int 10000000)] (kdec dk_cX10_tellsNumber 36 rfl) rfl (by decide) rfl ?_
          refine kv_goto C 33 (kdec dk_cX10_tellsNumber 37 rfl) (by decide) ?_
          exact ih33 w224 l2_33 10000000 I226 F231 (by rw [e2, e5, e233, e236]; exact (Or.inr (Or.inr (Or.inr (Or.inr (Or.inr (Or.inr (Or.inr (Or.inr (Or.inl ⟨by omega, by omega, by omega⟩)))))))))) (by omega)
      · obtain rfl := kf_eqc (1000000000) (by decide) hs33
        have ks33_0 : (w_33 61 31).toInt ≤ (w 61 31).toInt + 2 ∧ (w_33 61 29).toInt ≤ (w 61 29).toInt + 2 := by rw [e2, e5, e9, e12]; omega
        rw [e2, e5, e9, e12] at ks33_0
        clear k33_0
        refine kv_iload_n C 34 rfl 2 (kdec dk_cX10_tellsNumber 22 rfl) rfl rfl ?_
        refine kv_if_le C 37 rfl 58 (kdec dk_cX10_tellsNumber 23 rfl) (by decide) (fun d240 => ?_) (fun d240 => ?_)
        · exfalso; omega
        · skip
          refine kv_aload_n C 38 rfl 0 (kdec dk_cX10_tellsNumber 24 rfl) rfl rfl ?_
          refine kv_bipush C 40 rfl 48 (kdec dk_cX10_tellsNumber 25 rfl) rfl ?_
          refine kv_iload_n C 41 rfl 1 (kdec dk_cX10_tellsNumber 26 rfl) rfl rfl ?_
          refine kv_iload_n C 42 rfl 2 (kdec dk_cX10_tellsNumber 27 rfl) rfl rfl ?_
          refine kv_idiv C 43 rfl (kdec dk_cX10_tellsNumber 28 rfl) (by decide) (fun x241 h242e h242l h242u => ?_)
          have g243 := kf_divc h242e (by decide)
          rw [c_1000000000] at g243
          refine kv_bipush C 45 rfl 10 (kdec dk_cX10_tellsNumber 29 rfl) rfl ?_
          refine kv_irem C 46 rfl (kdec dk_cX10_tellsNumber 30 rfl) (by decide) (fun x244 h245e h245l h245u => ?_)
          refine kv_iadd C 47 rfl (kdec dk_cX10_tellsNumber 31 rfl) (fun x246 q248 h247e h247 h247l h247u => ?_)
          try have h247n : x246.toInt = (48 : Int32).toInt + x244.toInt := by omega
          clear h247 q248
          refine kv_callVv (As := [.int x246]) (rest := []) C 50 rfl 61 (k_x_tells l D τ ρ σ w_33 x246 I_33 (by rw [e9, e12]; try omega)) rfl rfl mml_TaleMachineModel_253 mim_yX10_tells mse_yX10_tells mcd_yX10_tells min_yX10_tells hd_yX10_tells rfl rfl rfl (by decide) rfl (Nat.le_of_ble_eq_true rfl) (kdec dk_cX10_tellsNumber 32 rfl) (fun w249 h250 => ?_)
          obtain ⟨I251, f252, p254, p255⟩ := h250
          have F256 : kF [(61, some 29), (61, some 31), (72, none), (73, none)] w w249 := kF_call F_33 f252 (by decide)
          obtain ⟨x257, e258⟩ : ∃ z : Int32, w249 61 31 = z := ⟨_, rfl⟩
          have b259 : (0 : Int) ≤ x257.toInt ∧ x257.toInt ≤ 2147483647 := by rw [← e258]; exact I251 61 31
          obtain ⟨x260, e261⟩ : ∃ z : Int32, w249 61 29 = z := ⟨_, rfl⟩
          have b262 : (0 : Int) ≤ x260.toInt ∧ x260.toInt ≤ 2147483647 := by rw [← e261]; exact I251 61 29
          rw [e9, e12, e258, e261] at p254
          rw [e9, e12, e258, e261] at p255
          refine kv_iload_n C 51 rfl 2 (kdec dk_cX10_tellsNumber 33 rfl) rfl rfl ?_
          refine kv_bipush C 53 rfl 10 (kdec dk_cX10_tellsNumber 34 rfl) rfl ?_
          refine kv_idiv C 54 rfl (kdec dk_cX10_tellsNumber 35 rfl) (by decide) (fun x263 h264e h264l h264u => ?_)
          obtain rfl : x263 = 100000000 := by rw [h264e]; decide
          refine kv_istore_n C 55 rfl 3 [1, 2, 0] [(0, .ref (ρ 61)), (2, .int l2_33), (3, .int 100000000)] (kdec dk_cX10_tellsNumber 36 rfl) rfl (by decide) rfl ?_
          refine kv_goto C 33 (kdec dk_cX10_tellsNumber 37 rfl) (by decide) ?_
          exact ih33 w249 l2_33 100000000 I251 F256 (by rw [e2, e5, e258, e261]; exact (Or.inr (Or.inr (Or.inr (Or.inr (Or.inr (Or.inr (Or.inr (Or.inr (Or.inr (Or.inl ⟨by omega, by omega, by omega⟩))))))))))) (by omega)
  have cut17 : ∀ (n_17 : Nat) (w_17 : kw) (l2_17 l3_17 : Int32), kI false w_17 → kF [(61, some 29), (61, some 31), (72, none), (73, none)] w w_17 → (l3_17.toInt = 1 ∨ l3_17.toInt = 10 ∨ l3_17.toInt = 100 ∨ l3_17.toInt = 1000 ∨ l3_17.toInt = 10000 ∨ l3_17.toInt = 100000 ∨ l3_17.toInt = 1000000 ∨ l3_17.toInt = 10000000 ∨ l3_17.toInt = 100000000 ∨ l3_17.toInt = 1000000000) → ((w_17 61 31).toInt ≤ (w 61 31).toInt + 1 ∧ (w_17 61 29).toInt ≤ (w 61 29).toInt + 1) → ((2000000000 - l3_17.toInt) : Int) < (n_17 : Int) → kV p l e { frames := 2, cells := 0, slots := 0, locals := 72 } s m args below meth c (kQ below args s D τ ρ (fun o w' => o = none ∧ kI false w' ∧ kF [(61, some 29), (61, some 31), (72, none), (73, none)] w w' ∧ ((w' 61 31).toInt ≤ (w 61 31).toInt + 12 ∧ (w' 61 29).toInt ≤ (w 61 29).toInt + 12))) 4 D τ ρ 17 [(0, .ref (ρ 61)), (2, .int l2_17), (3, .int l3_17)] [] w_17 := by
    intro n_17
    induction n_17 with
    | zero => intro w_17 l2_17 l3_17 I_17 F_17 k17_0 k17_1 hmz; exfalso; omega
    | succ n_17 ih17 =>
      intro w_17 l2_17 l3_17 I_17 F_17 k17_0 k17_1 hm17
      have gl2_17 := kf_rng l2_17
      have gl3_17 := kf_rng l3_17
      obtain ⟨x265, e266⟩ : ∃ z : Int32, w_17 61 31 = z := ⟨_, rfl⟩
      have b267 : (0 : Int) ≤ x265.toInt ∧ x265.toInt ≤ 2147483647 := by rw [← e266]; exact I_17 61 31
      obtain ⟨x268, e269⟩ : ∃ z : Int32, w_17 61 29 = z := ⟨_, rfl⟩
      have b270 : (0 : Int) ≤ x268.toInt ∧ x268.toInt ≤ 2147483647 := by rw [← e269]; exact I_17 61 29
      rw [e2, e5, e266, e269] at k17_1
      rcases (show l3_17.toInt = 1 ∨ l3_17.toInt = 10 ∨ l3_17.toInt = 100 ∨ l3_17.toInt = 1000 ∨ l3_17.toInt = 10000 ∨ l3_17.toInt = 100000 ∨ l3_17.toInt = 1000000 ∨ l3_17.toInt = 10000000 ∨ l3_17.toInt = 100000000 ∨ l3_17.toInt = 1000000000 by omega) with hs17 | hs17 | hs17 | hs17 | hs17 | hs17 | hs17 | hs17 | hs17 | hs17
      · obtain rfl := kf_eqc (1) (by decide) hs17
        clear k17_0
        refine kv_iload_n C 18 rfl 1 (kdec dk_cX10_tellsNumber 12 rfl) rfl rfl ?_
        refine kv_iload_n C 19 rfl 2 (kdec dk_cX10_tellsNumber 13 rfl) rfl rfl ?_
        refine kv_idiv C 20 rfl (kdec dk_cX10_tellsNumber 14 rfl) (by decide) (fun x271 h272e h272l h272u => ?_)
        have g273 := kf_divc h272e (by decide)
        rw [c_1] at g273
        refine kv_bipush C 22 rfl 9 (kdec dk_cX10_tellsNumber 15 rfl) rfl ?_
        refine kv_icmp_le C 25 rfl 33 (kdec dk_cX10_tellsNumber 16 rfl) (by decide) (fun d274 => ?_) (fun d274 => ?_)
        · skip
          exact cut33 ((((1 : Int32).toInt) : Int).toNat + 1) w_17 l2_17 1 I_17 F_17 (by rw [e2, e5, e266, e269]; exact (Or.inr (Or.inl ⟨by omega, by omega, by omega⟩))) (by omega)
        · skip
          refine kv_iload_n C 26 rfl 2 (kdec dk_cX10_tellsNumber 17 rfl) rfl rfl ?_
          refine kv_bipush C 28 rfl 10 (kdec dk_cX10_tellsNumber 18 rfl) rfl ?_
          refine kv_imul C 29 rfl (kdec dk_cX10_tellsNumber 19 rfl) (fun x275 h276e h276l h276u => ?_)
          obtain rfl : x275 = 10 := by rw [h276e]; decide
          refine kv_istore_n C 30 rfl 3 [1, 2, 0] [(0, .ref (ρ 61)), (2, .int l2_17), (3, .int 10)] (kdec dk_cX10_tellsNumber 20 rfl) rfl (by decide) rfl ?_
          refine kv_goto C 17 (kdec dk_cX10_tellsNumber 21 rfl) (by decide) ?_
          exact ih17 w_17 l2_17 10 I_17 F_17 ((Or.inr (Or.inl (by omega)))) (by rw [e2, e5, e266, e269]; try omega) (by omega)
      · obtain rfl := kf_eqc (10) (by decide) hs17
        clear k17_0
        refine kv_iload_n C 18 rfl 1 (kdec dk_cX10_tellsNumber 12 rfl) rfl rfl ?_
        refine kv_iload_n C 19 rfl 2 (kdec dk_cX10_tellsNumber 13 rfl) rfl rfl ?_
        refine kv_idiv C 20 rfl (kdec dk_cX10_tellsNumber 14 rfl) (by decide) (fun x277 h278e h278l h278u => ?_)
        have g279 := kf_divc h278e (by decide)
        rw [c_10] at g279
        refine kv_bipush C 22 rfl 9 (kdec dk_cX10_tellsNumber 15 rfl) rfl ?_
        refine kv_icmp_le C 25 rfl 33 (kdec dk_cX10_tellsNumber 16 rfl) (by decide) (fun d280 => ?_) (fun d280 => ?_)
        · skip
          exact cut33 ((((10 : Int32).toInt) : Int).toNat + 1) w_17 l2_17 10 I_17 F_17 (by rw [e2, e5, e266, e269]; exact (Or.inr (Or.inr (Or.inl ⟨by omega, by omega, by omega⟩)))) (by omega)
        · skip
          refine kv_iload_n C 26 rfl 2 (kdec dk_cX10_tellsNumber 17 rfl) rfl rfl ?_
          refine kv_bipush C 28 rfl 10 (kdec dk_cX10_tellsNumber 18 rfl) rfl ?_
          refine kv_imul C 29 rfl (kdec dk_cX10_tellsNumber 19 rfl) (fun x281 h282e h282l h282u => ?_)
          obtain rfl : x281 = 100 := by rw [h282e]; decide
          refine kv_istore_n C 30 rfl 3 [1, 2, 0] [(0, .ref (ρ 61)), (2, .int l2_17), (3, .int 100)] (kdec dk_cX10_tellsNumber 20 rfl) rfl (by decide) rfl ?_
          refine kv_goto C 17 (kdec dk_cX10_tellsNumber 21 rfl) (by decide) ?_
          exact ih17 w_17 l2_17 100 I_17 F_17 ((Or.inr (Or.inr (Or.inl (by omega))))) (by rw [e2, e5, e266, e269]; try omega) (by omega)
      · obtain rfl := kf_eqc (100) (by decide) hs17
        clear k17_0
        refine kv_iload_n C 18 rfl 1 (kdec dk_cX10_tellsNumber 12 rfl) rfl rfl ?_
        refine kv_iload_n C 19 rfl 2 (kdec dk_cX10_tellsNumber 13 rfl) rfl rfl ?_
        refine kv_idiv C 20 rfl (kdec dk_cX10_tellsNumber 14 rfl) (by decide) (fun x283 h284e h284l h284u => ?_)
        have g285 := kf_divc h284e (by decide)
        rw [c_100] at g285
        refine kv_bipush C 22 rfl 9 (kdec dk_cX10_tellsNumber 15 rfl) rfl ?_
        refine kv_icmp_le C 25 rfl 33 (kdec dk_cX10_tellsNumber 16 rfl) (by decide) (fun d286 => ?_) (fun d286 => ?_)
        · skip
          exact cut33 ((((100 : Int32).toInt) : Int).toNat + 1) w_17 l2_17 100 I_17 F_17 (by rw [e2, e5, e266, e269]; exact (Or.inr (Or.inr (Or.inr (Or.inl ⟨by omega, by omega, by omega⟩))))) (by omega)
        · skip
          refine kv_iload_n C 26 rfl 2 (kdec dk_cX10_tellsNumber 17 rfl) rfl rfl ?_
          refine kv_bipush C 28 rfl 10 (kdec dk_cX10_tellsNumber 18 rfl) rfl ?_
          refine kv_imul C 29 rfl (kdec dk_cX10_tellsNumber 19 rfl) (fun x287 h288e h288l h288u => ?_)
          obtain rfl : x287 = 1000 := by rw [h288e]; decide
          refine kv_istore_n C 30 rfl 3 [1, 2, 0] [(0, .ref (ρ 61)), (2, .int l2_17), (3, .int 1000)] (kdec dk_cX10_tellsNumber 20 rfl) rfl (by decide) rfl ?_
          refine kv_goto C 17 (kdec dk_cX10_tellsNumber 21 rfl) (by decide) ?_
          exact ih17 w_17 l2_17 1000 I_17 F_17 ((Or.inr (Or.inr (Or.inr (Or.inl (by omega)))))) (by rw [e2, e5, e266, e269]; try omega) (by omega)
      · obtain rfl := kf_eqc (1000) (by decide) hs17
        clear k17_0
        refine kv_iload_n C 18 rfl 1 (kdec dk_cX10_tellsNumber 12 rfl) rfl rfl ?_
        refine kv_iload_n C 19 rfl 2 (kdec dk_cX10_tellsNumber 13 rfl) rfl rfl ?_
        refine kv_idiv C 20 rfl (kdec dk_cX10_tellsNumber 14 rfl) (by decide) (fun x289 h290e h290l h290u => ?_)
        have g291 := kf_divc h290e (by decide)
        rw [c_1000] at g291
        refine kv_bipush C 22 rfl 9 (kdec dk_cX10_tellsNumber 15 rfl) rfl ?_
        refine kv_icmp_le C 25 rfl 33 (kdec dk_cX10_tellsNumber 16 rfl) (by decide) (fun d292 => ?_) (fun d292 => ?_)
        · skip
          exact cut33 ((((1000 : Int32).toInt) : Int).toNat + 1) w_17 l2_17 1000 I_17 F_17 (by rw [e2, e5, e266, e269]; exact (Or.inr (Or.inr (Or.inr (Or.inr (Or.inl ⟨by omega, by omega, by omega⟩)))))) (by omega)
        · skip
          refine kv_iload_n C 26 rfl 2 (kdec dk_cX10_tellsNumber 17 rfl) rfl rfl ?_
          refine kv_bipush C 28 rfl 10 (kdec dk_cX10_tellsNumber 18 rfl) rfl ?_
          refine kv_imul C 29 rfl (kdec dk_cX10_tellsNumber 19 rfl) (fun x293 h294e h294l h294u => ?_)
          obtain rfl : x293 = 10000 := by rw [h294e]; decide
          refine kv_istore_n C 30 rfl 3 [1, 2, 0] [(0, .ref (ρ 61)), (2, .int l2_17), (3, .int 10000)] (kdec dk_cX10_tellsNumber 20 rfl) rfl (by decide) rfl ?_
          refine kv_goto C 17 (kdec dk_cX10_tellsNumber 21 rfl) (by decide) ?_
          exact ih17 w_17 l2_17 10000 I_17 F_17 ((Or.inr (Or.inr (Or.inr (Or.inr (Or.inl (by omega))))))) (by rw [e2, e5, e266, e269]; try omega) (by omega)
      · obtain rfl := kf_eqc (10000) (by decide) hs17
        clear k17_0
        refine kv_iload_n C 18 rfl 1 (kdec dk_cX10_tellsNumber 12 rfl) rfl rfl ?_
        refine kv_iload_n C 19 rfl 2 (kdec dk_cX10_tellsNumber 13 rfl) rfl rfl ?_
        refine kv_idiv C 20 rfl (kdec dk_cX10_tellsNumber 14 rfl) (by decide) (fun x295 h296e h296l h296u => ?_)
        have g297 := kf_divc h296e (by decide)
        rw [c_10000] at g297
        refine kv_bipush C 22 rfl 9 (kdec dk_cX10_tellsNumber 15 rfl) rfl ?_
        refine kv_icmp_le C 25 rfl 33 (kdec dk_cX10_tellsNumber 16 rfl) (by decide) (fun d298 => ?_) (fun d298 => ?_)
        · skip
          exact cut33 ((((10000 : Int32).toInt) : Int).toNat + 1) w_17 l2_17 10000 I_17 F_17 (by rw [e2, e5, e266, e269]; exact (Or.inr (Or.inr (Or.inr (Or.inr (Or.inr (Or.inl ⟨by omega, by omega, by omega⟩))))))) (by omega)
        · skip
          refine kv_iload_n C 26 rfl 2 (kdec dk_cX10_tellsNumber 17 rfl) rfl rfl ?_
          refine kv_bipush C 28 rfl 10 (kdec dk_cX10_tellsNumber 18 rfl) rfl ?_
          refine kv_imul C 29 rfl (kdec dk_cX10_tellsNumber 19 rfl) (fun x299 h300e h300l h300u => ?_)
          obtain rfl : x299 = 100000 := by rw [h300e]; decide
          refine kv_istore_n C 30 rfl 3 [1, 2, 0] [(0, .ref (ρ 61)), (2, .int l2_17), (3, .int 100000)] (kdec dk_cX10_tellsNumber 20 rfl) rfl (by decide) rfl ?_
          refine kv_goto C 17 (kdec dk_cX10_tellsNumber 21 rfl) (by decide) ?_
          exact ih17 w_17 l2_17 100000 I_17 F_17 ((Or.inr (Or.inr (Or.inr (Or.inr (Or.inr (Or.inl (by omega)))))))) (by rw [e2, e5, e266, e269]; try omega) (by omega)
      · obtain rfl := kf_eqc (100000) (by decide) hs17
        clear k17_0
        refine kv_iload_n C 18 rfl 1 (kdec dk_cX10_tellsNumber 12 rfl) rfl rfl ?_
        refine kv_iload_n C 19 rfl 2 (kdec dk_cX10_tellsNumber 13 rfl) rfl rfl ?_
        refine kv_idiv C 20 rfl (kdec dk_cX10_tellsNumber 14 rfl) (by decide) (fun x301 h302e h302l h302u => ?_)
        have g303 := kf_divc h302e (by decide)
        rw [c_100000] at g303
        refine kv_bipush C 22 rfl 9 (kdec dk_cX10_tellsNumber 15 rfl) rfl ?_
        refine kv_icmp_le C 25 rfl 33 (kdec dk_cX10_tellsNumber 16 rfl) (by decide) (fun d304 => ?_) (fun d304 => ?_)
        · skip
          exact cut33 ((((100000 : Int32).toInt) : Int).toNat + 1) w_17 l2_17 100000 I_17 F_17 (by rw [e2, e5, e266, e269]; exact (Or.inr (Or.inr (Or.inr (Or.inr (Or.inr (Or.inr (Or.inl ⟨by omega, by omega, by omega⟩)))))))) (by omega)
        · skip
          refine kv_iload_n C 26 rfl 2 (kdec dk_cX10_tellsNumber 17 rfl) rfl rfl ?_
          refine kv_bipush C 28 rfl 10 (kdec dk_cX10_tellsNumber 18 rfl) rfl ?_
          refine kv_imul C 29 rfl (kdec dk_cX10_tellsNumber 19 rfl) (fun x305 h306e h306l h306u => ?_)
          obtain rfl : x305 = 1000000 := by rw [h306e]; decide
          refine kv_istore_n C 30 rfl 3 [1, 2, 0] [(0, .ref (ρ 61)), (2, .int l2_17), (3, .int 1000000)] (kdec dk_cX10_tellsNumber 20 rfl) rfl (by decide) rfl ?_
          refine kv_goto C 17 (kdec dk_cX10_tellsNumber 21 rfl) (by decide) ?_
          exact ih17 w_17 l2_17 1000000 I_17 F_17 ((Or.inr (Or.inr (Or.inr (Or.inr (Or.inr (Or.inr (Or.inl (by omega))))))))) (by rw [e2, e5, e266, e269]; try omega) (by omega)
      · obtain rfl := kf_eqc (1000000) (by decide) hs17
        clear k17_0
        refine kv_iload_n C 18 rfl 1 (kdec dk_cX10_tellsNumber 12 rfl) rfl rfl ?_
        refine kv_iload_n C 19 rfl 2 (kdec dk_cX10_tellsNumber 13 rfl) rfl rfl ?_
        refine kv_idiv C 20 rfl (kdec dk_cX10_tellsNumber 14 rfl) (by decide) (fun x307 h308e h308l h308u => ?_)
        have g309 := kf_divc h308e (by decide)
        rw [c_1000000] at g309
        refine kv_bipush C 22 rfl 9 (kdec dk_cX10_tellsNumber 15 rfl) rfl ?_
        refine kv_icmp_le C 25 rfl 33 (kdec dk_cX10_tellsNumber 16 rfl) (by decide) (fun d310 => ?_) (fun d310 => ?_)
        · skip
          exact cut33 ((((1000000 : Int32).toInt) : Int).toNat + 1) w_17 l2_17 1000000 I_17 F_17 (by rw [e2, e5, e266, e269]; exact (Or.inr (Or.inr (Or.inr (Or.inr (Or.inr (Or.inr (Or.inr (Or.inl ⟨by omega, by omega, by omega⟩))))))))) (by omega)
        · skip
          refine kv_iload_n C 26 rfl 2 (kdec dk_cX10_tellsNumber 17 rfl) rfl rfl ?_
          refine kv_bipush C 28 rfl 10 (kdec dk_cX10_tellsNumber 18 rfl) rfl ?_
          refine kv_imul C 29 rfl (kdec dk_cX10_tellsNumber 19 rfl) (fun x311 h312e h312l h312u => ?_)
          obtain rfl : x311 = 10000000 := by rw [h312e]; decide
          refine kv_istore_n C 30 rfl 3 [1, 2, 0] [(0, .ref (ρ 61)), (2, .int l2_17), (3, .int 10000000)] (kdec dk_cX10_tellsNumber 20 rfl) rfl (by decide) rfl ?_
          refine kv_goto C 17 (kdec dk_cX10_tellsNumber 21 rfl) (by decide) ?_
          exact ih17 w_17 l2_17 10000000 I_17 F_17 ((Or.inr (Or.inr (Or.inr (Or.inr (Or.inr (Or.inr (Or.inr (Or.inl (by omega)))))))))) (by rw [e2, e5, e266, e269]; try omega) (by omega)
      · obtain rfl := kf_eqc (10000000) (by decide) hs17
        clear k17_0
        refine kv_iload_n C 18 rfl 1 (kdec dk_cX10_tellsNumber 12 rfl) rfl rfl ?_
        refine kv_iload_n C 19 rfl 2 (kdec dk_cX10_tellsNumber 13 rfl) rfl rfl ?_
        refine kv_idiv C 20 rfl (kdec dk_cX10_tellsNumber 14 rfl) (by decide) (fun x313 h314e h314l h314u => ?_)
        have g315 := kf_divc h314e (by decide)
        rw [c_10000000] at g315
        refine kv_bipush C 22 rfl 9 (kdec dk_cX10_tellsNumber 15 rfl) rfl ?_
        refine kv_icmp_le C 25 rfl 33 (kdec dk_cX10_tellsNumber 16 rfl) (by decide) (fun d316 => ?_) (fun d316 => ?_)
        · skip
          exact cut33 ((((10000000 : Int32).toInt) : Int).toNat + 1) w_17 l2_17 10000000 I_17 F_17 (by rw [e2, e5, e266, e269]; exact (Or.inr (Or.inr (Or.inr (Or.inr (Or.inr (Or.inr (Or.inr (Or.inr (Or.inl ⟨by omega, by omega, by omega⟩)))))))))) (by omega)
        · skip
          refine kv_iload_n C 26 rfl 2 (kdec dk_cX10_tellsNumber 17 rfl) rfl rfl ?_
          refine kv_bipush C 28 rfl 10 (kdec dk_cX10_tellsNumber 18 rfl) rfl ?_
          refine kv_imul C 29 rfl (kdec dk_cX10_tellsNumber 19 rfl) (fun x317 h318e h318l h318u => ?_)
          obtain rfl : x317 = 100000000 := by rw [h318e]; decide
          refine kv_istore_n C 30 rfl 3 [1, 2, 0] [(0, .ref (ρ 61)), (2, .int l2_17), (3, .int 100000000)] (kdec dk_cX10_tellsNumber 20 rfl) rfl (by decide) rfl ?_
          refine kv_goto C 17 (kdec dk_cX10_tellsNumber 21 rfl) (by decide) ?_
          exact ih17 w_17 l2_17 100000000 I_17 F_17 ((Or.inr (Or.inr (Or.inr (Or.inr (Or.inr (Or.inr (Or.inr (Or.inr (Or.inl (by omega))))))))))) (by rw [e2, e5, e266, e269]; try omega) (by omega)
      · obtain rfl := kf_eqc (100000000) (by decide) hs17
        clear k17_0
        refine kv_iload_n C 18 rfl 1 (kdec dk_cX10_tellsNumber 12 rfl) rfl rfl ?_
        refine kv_iload_n C 19 rfl 2 (kdec dk_cX10_tellsNumber 13 rfl) rfl rfl ?_
        refine kv_idiv C 20 rfl (kdec dk_cX10_tellsNumber 14 rfl) (by decide) (fun x319 h320e h320l h320u => ?_)
        have g321 := kf_divc h320e (by decide)
        rw [c_100000000] at g321
        refine kv_bipush C 22 rfl 9 (kdec dk_cX10_tellsNumber 15 rfl) rfl ?_
        refine kv_icmp_le C 25 rfl 33 (kdec dk_cX10_tellsNumber 16 rfl) (by decide) (fun d322 => ?_) (fun d322 => ?_)
        · skip
          exact cut33 ((((100000000 : Int32).toInt) : Int).toNat + 1) w_17 l2_17 100000000 I_17 F_17 (by rw [e2, e5, e266, e269]; exact (Or.inr (Or.inr (Or.inr (Or.inr (Or.inr (Or.inr (Or.inr (Or.inr (Or.inr (Or.inl ⟨by omega, by omega, by omega⟩))))))))))) (by omega)
        · skip
          refine kv_iload_n C 26 rfl 2 (kdec dk_cX10_tellsNumber 17 rfl) rfl rfl ?_
          refine kv_bipush C 28 rfl 10 (kdec dk_cX10_tellsNumber 18 rfl) rfl ?_
          refine kv_imul C 29 rfl (kdec dk_cX10_tellsNumber 19 rfl) (fun x323 h324e h324l h324u => ?_)
          obtain rfl : x323 = 1000000000 := by rw [h324e]; decide
          refine kv_istore_n C 30 rfl 3 [1, 2, 0] [(0, .ref (ρ 61)), (2, .int l2_17), (3, .int 1000000000)] (kdec dk_cX10_tellsNumber 20 rfl) rfl (by decide) rfl ?_
          refine kv_goto C 17 (kdec dk_cX10_tellsNumber 21 rfl) (by decide) ?_
          exact ih17 w_17 l2_17 1000000000 I_17 F_17 ((Or.inr (Or.inr (Or.inr (Or.inr (Or.inr (Or.inr (Or.inr (Or.inr (Or.inr (by omega))))))))))) (by rw [e2, e5, e266, e269]; try omega) (by omega)
      · obtain rfl := kf_eqc (1000000000) (by decide) hs17
        clear k17_0
        refine kv_iload_n C 18 rfl 1 (kdec dk_cX10_tellsNumber 12 rfl) rfl rfl ?_
        refine kv_iload_n C 19 rfl 2 (kdec dk_cX10_tellsNumber 13 rfl) rfl rfl ?_
        refine kv_idiv C 20 rfl (kdec dk_cX10_tellsNumber 14 rfl) (by decide) (fun x325 h326e h326l h326u => ?_)
        have g327 := kf_divc h326e (by decide)
        rw [c_1000000000] at g327
        refine kv_bipush C 22 rfl 9 (kdec dk_cX10_tellsNumber 15 rfl) rfl ?_
        refine kv_icmp_le C 25 rfl 33 (kdec dk_cX10_tellsNumber 16 rfl) (by decide) (fun d328 => ?_) (fun d328 => ?_)
        · skip
          exact cut33 ((((1000000000 : Int32).toInt) : Int).toNat + 1) w_17 l2_17 1000000000 I_17 F_17 (by rw [e2, e5, e266, e269]; exact (Or.inr (Or.inr (Or.inr (Or.inr (Or.inr (Or.inr (Or.inr (Or.inr (Or.inr (Or.inr ⟨by omega, by omega, by omega⟩))))))))))) (by omega)
        · skip
          refine kv_iload_n C 26 rfl 2 (kdec dk_cX10_tellsNumber 17 rfl) rfl rfl ?_
          refine kv_bipush C 28 rfl 10 (kdec dk_cX10_tellsNumber 18 rfl) rfl ?_
          refine kv_imul C 29 rfl (kdec dk_cX10_tellsNumber 19 rfl) (fun x329 h330e h330l h330u => ?_)
          obtain ⟨q331, g332⟩ := kf_mul 1000000000 10
          rw [← h330e, c_1000000000] at g332
          try have h330n : x329.toInt = 1000000000 * (10 : Int32).toInt := by omega
          clear g332 q331
          refine kv_istore_n C 30 rfl 3 [1, 2, 0] [(0, .ref (ρ 61)), (2, .int l2_17), (3, .int x329)] (kdec dk_cX10_tellsNumber 20 rfl) rfl (by decide) rfl ?_
          refine kv_goto C 17 (kdec dk_cX10_tellsNumber 21 rfl) (by decide) ?_
          exact ih17 w_17 l2_17 x329 I_17 F_17 (by exfalso; omega) (by rw [e2, e5, e266, e269]; try omega) (by omega)
  have cut15 : ∀ (w_15 : kw) (l2_15 : Int32), kI false w_15 → kF [(61, some 29), (61, some 31), (72, none), (73, none)] w w_15 → ((w_15 61 31).toInt ≤ (w 61 31).toInt + 1 ∧ (w_15 61 29).toInt ≤ (w 61 29).toInt + 1) → kV p l e { frames := 2, cells := 0, slots := 0, locals := 72 } s m args below meth c (kQ below args s D τ ρ (fun o w' => o = none ∧ kI false w' ∧ kF [(61, some 29), (61, some 31), (72, none), (73, none)] w w' ∧ ((w' 61 31).toInt ≤ (w 61 31).toInt + 12 ∧ (w' 61 29).toInt ≤ (w 61 29).toInt + 12))) 4 D τ ρ 15 [(0, .ref (ρ 61)), (2, .int l2_15)] [] w_15 := by
    intro w_15 l2_15 I_15 F_15 k15_0
    have gl2_15 := kf_rng l2_15
    obtain ⟨x333, e334⟩ : ∃ z : Int32, w_15 61 31 = z := ⟨_, rfl⟩
    have b335 : (0 : Int) ≤ x333.toInt ∧ x333.toInt ≤ 2147483647 := by rw [← e334]; exact I_15 61 31
    obtain ⟨x336, e337⟩ : ∃ z : Int32, w_15 61 29 = z := ⟨_, rfl⟩
    have b338 : (0 : Int) ≤ x336.toInt ∧ x336.toInt ≤ 2147483647 := by rw [← e337]; exact I_15 61 29
    rw [e2, e5, e334, e337] at k15_0
    refine kv_iconst C 16 rfl 1 (kdec dk_cX10_tellsNumber 10 rfl) rfl ?_
    refine kv_istore_n C 17 rfl 3 [1, 2, 0] [(0, .ref (ρ 61)), (2, .int l2_15), (3, .int 1)] (kdec dk_cX10_tellsNumber 11 rfl) rfl (by decide) rfl ?_
    exact cut17 ((((2000000000 - (1 : Int32).toInt)) : Int).toNat + 1) w_15 l2_15 1 I_15 F_15 ((Or.inl (by omega))) (by rw [e2, e5, e334, e337]; try omega) (by omega)
  refine kv_iload_n C 1 rfl 1 (kdec dk_cX10_tellsNumber 0 rfl) rfl rfl ?_
  refine kv_istore_n C 2 rfl 2 [1, 2, 0] [(0, .ref (ρ 61)), (1, .int a1), (2, .int a1)] (kdec dk_cX10_tellsNumber 1 rfl) rfl (by decide) rfl ?_
  refine kv_iload_n C 3 rfl 2 (kdec dk_cX10_tellsNumber 2 rfl) rfl rfl ?_
  refine kv_if_ge C 6 rfl 15 (kdec dk_cX10_tellsNumber 3 rfl) (by decide) (fun d339 => ?_) (fun d339 => ?_)
  · skip
    refine kV.sub [0, 2] (L' := [(0, .ref (ρ 61)), (2, .int a1)]) rfl ?_
    exact cut15 w a1 hI hF0 (by rw [e2, e5]; try omega)
  · skip
    refine kv_aload_n C 7 rfl 0 (kdec dk_cX10_tellsNumber 4 rfl) rfl rfl ?_
    refine kv_bipush C 9 rfl 45 (kdec dk_cX10_tellsNumber 5 rfl) rfl ?_
    refine kv_callVv (As := [.int 45]) (rest := []) C 12 rfl 61 (k_x_tells l D τ ρ σ w 45 hI (by rw [e2, e5]; try omega)) rfl rfl mml_TaleMachineModel_253 mim_yX10_tells mse_yX10_tells mcd_yX10_tells min_yX10_tells hd_yX10_tells rfl rfl rfl (by decide) rfl (Nat.le_of_ble_eq_true rfl) (kdec dk_cX10_tellsNumber 6 rfl) (fun w340 h341 => ?_)
    obtain ⟨I342, f343, p345, p346⟩ := h341
    have F347 : kF [(61, some 29), (61, some 31), (72, none), (73, none)] w w340 := kF_call hF0 f343 (by decide)
    obtain ⟨x348, e349⟩ : ∃ z : Int32, w340 61 31 = z := ⟨_, rfl⟩
    have b350 : (0 : Int) ≤ x348.toInt ∧ x348.toInt ≤ 2147483647 := by rw [← e349]; exact I342 61 31
    obtain ⟨x351, e352⟩ : ∃ z : Int32, w340 61 29 = z := ⟨_, rfl⟩
    have b353 : (0 : Int) ≤ x351.toInt ∧ x351.toInt ≤ 2147483647 := by rw [← e352]; exact I342 61 29
    rw [e2, e5, e349, e352] at p345
    rw [e2, e5, e349, e352] at p346
    refine kv_iload_n C 13 rfl 2 (kdec dk_cX10_tellsNumber 7 rfl) rfl rfl ?_
    refine kv_ineg C 14 rfl (kdec dk_cX10_tellsNumber 8 rfl) (fun x354 h355e h355l h355u => ?_)
    refine kv_istore_n C 15 rfl 2 [1, 2, 0] [(0, .ref (ρ 61)), (1, .int a1), (2, .int x354)] (kdec dk_cX10_tellsNumber 9 rfl) rfl (by decide) rfl ?_
    refine kV.sub [0, 2] (L' := [(0, .ref (ρ 61)), (2, .int x354)]) rfl ?_
    exact cut15 w340 x354 I342 F347 (by rw [e2, e5, e349, e352]; try omega)
