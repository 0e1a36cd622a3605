set_option maxHeartbeats 4000000 in
set_option maxRecDepth 100000 in
theorem k_x_halts (l : Launch) (D : va_G) (τ : Nat → ClassId) (ρ σ : Nat → Nat) (w : kw) (a1 : Int32) (hI : kI false w) (hp0 : 1 ≤ a1.toInt ∧ a1.toInt ≤ 13) :
    kM l D τ ρ σ yX10_halts cX10_halts 2 none { frames := 0, cells := 0, slots := 0, locals := 0 } [.ref (ρ 61), .int a1] w
      (fun o w' => o = none ∧ kI false w' ∧ kF [(61, some 13)] w w' ∧ ((w 61 13).toInt = 0 ∧ (w' 61 13).toInt = a1.toInt ∨ ¬ (w 61 13).toInt = 0 ∧ (w' 61 13).toInt = (w 61 13).toInt)) := by
  refine kM_of (own := "TaleMachineModel") rfl (by decide) (Nat.le_of_ble_eq_true rfl) ?_
  intro p e s m args below meth c C hr hlk
  have hF0 : kF [(61, some 13)] w w := kF.rf
  refine kV.L (L' := [(0, .ref (ρ 61)), (1, .int a1)]) rfl ?_
  have g1 := kf_rng a1
  refine kv_aload_n C 1 rfl 0 (kdec dk_cX10_halts 0 rfl) rfl rfl ?_
  refine kv_aload_n C 2 rfl 0 (kdec dk_cX10_halts 1 rfl) rfl rfl ?_
  obtain ⟨x2, e3⟩ : ∃ z : Int32, w 61 13 = z := ⟨_, rfl⟩
  have b4 : (0 : Int) ≤ x2.toInt ∧ x2.toInt ≤ 13 := by rw [← e3]; exact hI 61 13
  refine kv_get C 5 rfl 61 13 rfl rfl inX10 (by decide) mfl_TaleMachineModel_148 rfl rfl (kdec dk_cX10_halts 2 rfl) e3 ?_
  refine kv_if_ne C 8 rfl 12 (kdec dk_cX10_halts 3 rfl) (by decide) (fun d5 => ?_) (fun d5 => ?_)
  · skip
    refine kv_aload_n C 13 rfl 0 (kdec dk_cX10_halts 6 rfl) rfl rfl ?_
    refine kv_get C 16 rfl 61 13 rfl rfl inX10 (by decide) mfl_TaleMachineModel_148 rfl rfl (kdec dk_cX10_halts 7 rfl) e3 ?_
    refine kv_put C 19 rfl 61 13 rfl rfl inX10 (by decide) mfl_TaleMachineModel_148 rfl tyX10 tyX10_ok nmX10 rfl rfl (kdec dk_cX10_halts 8 rfl) rfl rfl (fun w6 u7 => ?_)
    have I8 : kI false w6 := kI_put u7 hI (show (0 : Int) ≤ (x2 : Int32).toInt by omega) (show (x2 : Int32).toInt ≤ 13 by omega)
    have F9 : kF [(61, some 13)] w w6 := kF_put u7 hF0 rfl
    exact kv_vret C hr hlk (kdec dk_cX10_halts 9 rfl) ⟨rfl, I8, F9, (by rw [e3, (kup_eq u7)]; try omega)⟩
  · skip
    refine kv_iload_n C 9 rfl 1 (kdec dk_cX10_halts 4 rfl) rfl rfl ?_
    refine kv_goto C 16 (kdec dk_cX10_halts 5 rfl) (by decide) ?_
    refine kv_put C 19 rfl 61 13 rfl rfl inX10 (by decide) mfl_TaleMachineModel_148 rfl tyX10 tyX10_ok nmX10 rfl rfl (kdec dk_cX10_halts 8 rfl) rfl rfl (fun w10 u11 => ?_)
    have I12 : kI false w10 := kI_put u11 hI (show (0 : Int) ≤ (a1 : Int32).toInt by omega) (show (a1 : Int32).toInt ≤ 13 by omega)
    have F13 : kF [(61, some 13)] w w10 := kF_put u11 hF0 rfl
    exact kv_vret C hr hlk (kdec dk_cX10_halts 9 rfl) ⟨rfl, I12, F13, (by rw [e3, (kup_eq u11)]; try omega)⟩

set_option maxHeartbeats 4000000 in
set_option maxRecDepth 100000 in
theorem k_x_byteAt (l : Launch) (D : va_G) (τ : Nat → ClassId) (ρ σ : Nat → Nat) (w : kw) (a1 : Int32) (hI : kI false w)  :
    kM l D τ ρ σ yX10_byteAt cX10_byteAt 3 (some .int) { frames := 1, cells := 0, slots := 0, locals := 36 } [.ref (ρ 61), .int a1] w
      (fun o w' => ∃ r : Int32, o = some (.int r) ∧ kI false w' ∧ kF [(61, some 13)] w w' ∧ (0 ≤ r.toInt ∧ r.toInt ≤ 255) ∧ ((w 61 13).toInt = 0 ∨ ¬ (w' 61 13).toInt = 0) ∧ (¬ (w' 61 13).toInt = 0 ∨ a1.toInt % 65536 < 1024)) := by
  refine kM_of (own := "TaleMachineModel") rfl (by decide) (Nat.le_of_ble_eq_true rfl) ?_
  intro p e s m args below meth c C hr hlk
  have hF0 : kF [(61, some 13)] w w := kF.rf
  have c_0 : (0 : Int32).toInt = 0 := by decide
  have c_1 : (1 : Int32).toInt = 1 := by decide
  have c_65535 : (65535 : Int32).toInt = 65535 := by decide
  refine kV.L (L' := [(0, .ref (ρ 61)), (1, .int a1)]) rfl ?_
  have g1 := kf_rng a1
  refine kv_iload_n C 1 rfl 1 (kdec dk_cX10_byteAt 0 rfl) rfl rfl ?_
  refine kv_ldc C 3 rfl 65535 (kdec dk_cX10_byteAt 1 rfl) mco_TaleMachineModel_104 ?_
  refine kv_iand C 4 rfl (kdec dk_cX10_byteAt 2 rfl) (fun x2 h3e h3l h3u => ?_)
  have g4 := kf_and65535 h3e
  refine kv_istore_n C 5 rfl 2 [1, 2, 0] [(0, .ref (ρ 61)), (1, .int a1), (2, .int x2)] (kdec dk_cX10_byteAt 3 rfl) rfl (by decide) rfl ?_
  refine kv_iload_n C 6 rfl 2 (kdec dk_cX10_byteAt 4 rfl) rfl rfl ?_
  refine kv_aload_n C 7 rfl 0 (kdec dk_cX10_byteAt 5 rfl) rfl rfl ?_
  obtain ⟨x5, e6⟩ : ∃ z : Int32, w 61 6 = z := ⟨_, rfl⟩
  have b7 : (0 : Int) ≤ x5.toInt ∧ x5.toInt ≤ 1024 := by rw [← e6]; exact hI 61 6
  refine kv_get C 10 rfl 61 6 rfl rfl inX10 (by decide) mfl_TaleMachineModel_115 rfl rfl (kdec dk_cX10_byteAt 6 rfl) e6 ?_
  refine kv_icmp_lt C 13 rfl 20 (kdec dk_cX10_byteAt 7 rfl) (by decide) (fun d8 => ?_) (fun d8 => ?_)
  · skip
    refine kv_aload_n C 21 rfl 0 (kdec dk_cX10_byteAt 13 rfl) rfl rfl ?_
    refine kv_getr C 24 rfl 61 4 rfl rfl inX10 (by decide) mfl_TaleMachineModel_16 rfl rfl (kdec dk_cX10_byteAt 14 rfl) ?_
    refine kv_iload_n C 25 rfl 2 (kdec dk_cX10_byteAt 15 rfl) rfl rfl ?_
    obtain ⟨x9, e10⟩ : ∃ z : Int32, w 64 (x2 : Int32).toNatClampNeg = z := ⟨_, rfl⟩
    have b11 : (0 : Int) ≤ x9.toInt ∧ x9.toInt ≤ 255 := by rw [← e10]; exact hI 64 _
    refine kv_iald C 26 rfl 64 rfl (by omega) (by omega) e10 (kdec dk_cX10_byteAt 16 rfl) ?_
    obtain ⟨x12, e13⟩ : ∃ z : Int32, w 61 13 = z := ⟨_, rfl⟩
    have b14 : (0 : Int) ≤ x12.toInt ∧ x12.toInt ≤ 13 := by rw [← e13]; exact hI 61 13
    exact kv_iret C hr hlk (kdec dk_cX10_byteAt 17 rfl) ⟨_, rfl, hI, hF0, (by omega), (by rw [e13]; try omega), (by rw [e13]; try omega)⟩
  · skip
    refine kv_aload_n C 14 rfl 0 (kdec dk_cX10_byteAt 8 rfl) rfl rfl ?_
    refine kv_iconst C 15 rfl 1 (kdec dk_cX10_byteAt 9 rfl) rfl ?_
    refine kv_callVv (As := [.int 1]) (rest := []) C 18 rfl 61 (k_x_halts l D τ ρ σ w 1 hI (by omega)) rfl rfl mml_TaleMachineModel_160 mim_yX10_halts mse_yX10_halts mcd_yX10_halts min_yX10_halts hd_yX10_halts rfl rfl rfl (by decide) rfl (Nat.le_of_ble_eq_true rfl) (kdec dk_cX10_byteAt 10 rfl) (fun w15 h16 => ?_)
    obtain ⟨I17, f18, p20⟩ := h16
    have F21 : kF [(61, some 13)] w w15 := kF_call hF0 f18 (by decide)
    obtain ⟨x22, e23⟩ : ∃ z : Int32, w 61 13 = z := ⟨_, rfl⟩
    have b24 : (0 : Int) ≤ x22.toInt ∧ x22.toInt ≤ 13 := by rw [← e23]; exact hI 61 13
    obtain ⟨x25, e26⟩ : ∃ z : Int32, w15 61 13 = z := ⟨_, rfl⟩
    have b27 : (0 : Int) ≤ x25.toInt ∧ x25.toInt ≤ 13 := by rw [← e26]; exact I17 61 13
    rw [e23, e26] at p20
    refine kv_iconst C 19 rfl 0 (kdec dk_cX10_byteAt 11 rfl) rfl ?_
    exact kv_iret C hr hlk (kdec dk_cX10_byteAt 12 rfl) ⟨_, rfl, I17, F21, (by omega), (by rw [e23, e26]; try omega), (by rw [e26]; try omega)⟩

set_option maxHeartbeats 4000000 in
set_option maxRecDepth 100000 in
theorem k_x_wordAt (l : Launch) (D : va_G) (τ : Nat → ClassId) (ρ σ : Nat → Nat) (w : kw) (a1 : Int32) (hI : kI false w)  :
    kM l D τ ρ σ yX10_wordAt cX10_wordAt 3 (some .int) { frames := 2, cells := 0, slots := 0, locals := 72 } [.ref (ρ 61), .int a1] w
      (fun o w' => ∃ r : Int32, o = some (.int r) ∧ kI false w' ∧ kF [(61, some 13)] w w' ∧ (0 ≤ r.toInt ∧ r.toInt ≤ 65535) ∧ ((w 61 13).toInt = 0 ∨ ¬ (w' 61 13).toInt = 0)) := by
  refine kM_of (own := "TaleMachineModel") rfl (by decide) (Nat.le_of_ble_eq_true rfl) ?_
  intro p e s m args below meth c C hr hlk
  have hF0 : kF [(61, some 13)] w w := kF.rf
  have c_0 : (0 : Int32).toInt = 0 := by decide
  have c_1 : (1 : Int32).toInt = 1 := by decide
  have c_256 : (256 : Int32).toInt = 256 := by decide
  refine kV.L (L' := [(0, .ref (ρ 61)), (1, .int a1)]) rfl ?_
  have g1 := kf_rng a1
  refine kv_aload_n C 1 rfl 0 (kdec dk_cX10_wordAt 0 rfl) rfl rfl ?_
  refine kv_iload_n C 2 rfl 1 (kdec dk_cX10_wordAt 1 rfl) rfl rfl ?_
  refine kv_callVi (As := [.int a1]) (rest := []) C 5 rfl 61 (k_x_byteAt l D τ ρ σ w a1 hI ) rfl rfl mml_TaleMachineModel_163 mim_yX10_byteAt mse_yX10_byteAt mcd_yX10_byteAt min_yX10_byteAt hd_yX10_byteAt rfl rfl rfl (by decide) rfl (Nat.le_of_ble_eq_true rfl) (kdec dk_cX10_wordAt 2 rfl) (fun x6 w2 h3 => ?_)
  obtain ⟨I4, f5, p7, p8, p9⟩ := h3
  have F10 : kF [(61, some 13)] w w2 := kF_call hF0 f5 (by decide)
  have g11 := kf_rng x6
  obtain ⟨x12, e13⟩ : ∃ z : Int32, w 61 13 = z := ⟨_, rfl⟩
  have b14 : (0 : Int) ≤ x12.toInt ∧ x12.toInt ≤ 13 := by rw [← e13]; exact hI 61 13
  obtain ⟨x15, e16⟩ : ∃ z : Int32, w2 61 13 = z := ⟨_, rfl⟩
  have b17 : (0 : Int) ≤ x15.toInt ∧ x15.toInt ≤ 13 := by rw [← e16]; exact I4 61 13
  rw [e13, e16] at p8
  rw [e16] at p9
  refine kv_istore_n C 6 rfl 2 [1, 2, 0] [(0, .ref (ρ 61)), (1, .int a1), (2, .int x6)] (kdec dk_cX10_wordAt 3 rfl) rfl (by decide) rfl ?_
  refine kv_aload_n C 7 rfl 0 (kdec dk_cX10_wordAt 4 rfl) rfl rfl ?_
  refine kv_get C 10 rfl 61 13 rfl rfl inX10 (by decide) mfl_TaleMachineModel_148 rfl rfl (kdec dk_cX10_wordAt 5 rfl) e16 ?_
  refine kv_if_le C 13 rfl 17 (kdec dk_cX10_wordAt 6 rfl) (by decide) (fun d18 => ?_) (fun d18 => ?_)
  · skip
    refine kv_sipush C 20 rfl 256 (kdec dk_cX10_wordAt 9 rfl) rfl ?_
    refine kv_iload_n C 21 rfl 2 (kdec dk_cX10_wordAt 10 rfl) rfl rfl ?_
    refine kv_imul C 22 rfl (kdec dk_cX10_wordAt 11 rfl) (fun x19 h20e h20l h20u => ?_)
    obtain ⟨q21, g22⟩ := kf_mul 256 x6
    rw [← h20e, c_256] at g22
    try have h20n : x19.toInt = 256 * x6.toInt := by omega
    clear g22 q21
    refine kv_aload_n C 23 rfl 0 (kdec dk_cX10_wordAt 12 rfl) rfl rfl ?_
    refine kv_iload_n C 24 rfl 1 (kdec dk_cX10_wordAt 13 rfl) rfl rfl ?_
    refine kv_iconst C 25 rfl 1 (kdec dk_cX10_wordAt 14 rfl) rfl ?_
    refine kv_iadd C 26 rfl (kdec dk_cX10_wordAt 15 rfl) (fun x23 q25 h24e h24 h24l h24u => ?_)
    try have h24n : x23.toInt = a1.toInt + (1 : Int32).toInt := by omega
    clear h24 q25
    refine kv_callVi (As := [.int x23]) (rest := [.int x19]) C 29 rfl 61 (k_x_byteAt l D τ ρ σ w2 x23 I4 ) rfl rfl mml_TaleMachineModel_163 mim_yX10_byteAt mse_yX10_byteAt mcd_yX10_byteAt min_yX10_byteAt hd_yX10_byteAt rfl rfl rfl (by decide) rfl (Nat.le_of_ble_eq_true rfl) (kdec dk_cX10_wordAt 16 rfl) (fun x30 w26 h27 => ?_)
    obtain ⟨I28, f29, p31, p32, p33⟩ := h27
    have F34 : kF [(61, some 13)] w w26 := kF_call F10 f29 (by decide)
    have g35 := kf_rng x30
    obtain ⟨x36, e37⟩ : ∃ z : Int32, w26 61 13 = z := ⟨_, rfl⟩
    have b38 : (0 : Int) ≤ x36.toInt ∧ x36.toInt ≤ 13 := by rw [← e37]; exact I28 61 13
    rw [e16, e37] at p32
    rw [e37] at p33
    refine kv_iadd C 30 rfl (kdec dk_cX10_wordAt 17 rfl) (fun x39 q41 h40e h40 h40l h40u => ?_)
    try have h40n : x39.toInt = x19.toInt + x30.toInt := by omega
    clear h40 q41
    exact kv_iret C hr hlk (kdec dk_cX10_wordAt 18 rfl) ⟨_, rfl, I28, F34, (by omega), (by rw [e13, e37]; try omega)⟩
  · skip
    refine kv_iconst C 14 rfl 0 (kdec dk_cX10_wordAt 7 rfl) rfl ?_
    refine kv_goto C 30 (kdec dk_cX10_wordAt 8 rfl) (by decide) ?_
    exact kv_iret C hr hlk (kdec dk_cX10_wordAt 18 rfl) ⟨_, rfl, I4, F10, (by omega), (by rw [e13, e16]; try omega)⟩

set_option maxHeartbeats 4000000 in
set_option maxRecDepth 100000 in
theorem k_x_mayWrite (l : Launch) (D : va_G) (τ : Nat → ClassId) (ρ σ : Nat → Nat) (w : kw) (a1 : Int32) (hI : kI false w)  :
    kM l D τ ρ σ yX10_mayWrite cX10_mayWrite 3 (some .boolean) { frames := 1, cells := 0, slots := 0, locals := 36 } [.ref (ρ 61), .int a1] w
      (fun o w' => ∃ r : Int32, o = some (.int r) ∧ kI false w' ∧ kF [(61, some 13)] w w' ∧ (r.toInt = 1 ∧ (w' 61 13).toInt = 0 ∧ a1.toInt % 65536 < 1024 ∨ r.toInt = 0 ∧ ¬ (w' 61 13).toInt = 0) ∧ (0 ≤ r.toInt ∧ r.toInt ≤ 1)) := by
  refine kM_of (own := "TaleMachineModel") rfl (by decide) (Nat.le_of_ble_eq_true rfl) ?_
  intro p e s m args below meth c C hr hlk
  have hF0 : kF [(61, some 13)] w w := kF.rf
  have c_0 : (0 : Int32).toInt = 0 := by decide
  have c_1 : (1 : Int32).toInt = 1 := by decide
  have c_2 : (2 : Int32).toInt = 2 := by decide
  have c_65535 : (65535 : Int32).toInt = 65535 := by decide
  refine kV.L (L' := [(0, .ref (ρ 61)), (1, .int a1)]) rfl ?_
  have g1 := kf_rng a1
  refine kv_iload_n C 1 rfl 1 (kdec dk_cX10_mayWrite 0 rfl) rfl rfl ?_
  refine kv_ldc C 3 rfl 65535 (kdec dk_cX10_mayWrite 1 rfl) mco_TaleMachineModel_104 ?_
  refine kv_iand C 4 rfl (kdec dk_cX10_mayWrite 2 rfl) (fun x2 h3e h3l h3u => ?_)
  have g4 := kf_and65535 h3e
  refine kv_istore_n C 5 rfl 2 [1, 2, 0] [(0, .ref (ρ 61)), (1, .int a1), (2, .int x2)] (kdec dk_cX10_mayWrite 3 rfl) rfl (by decide) rfl ?_
  refine kv_iload_n C 6 rfl 2 (kdec dk_cX10_mayWrite 4 rfl) rfl rfl ?_
  refine kv_aload_n C 7 rfl 0 (kdec dk_cX10_mayWrite 5 rfl) rfl rfl ?_
  obtain ⟨x5, e6⟩ : ∃ z : Int32, w 61 6 = z := ⟨_, rfl⟩
  have b7 : (0 : Int) ≤ x5.toInt ∧ x5.toInt ≤ 1024 := by rw [← e6]; exact hI 61 6
  refine kv_get C 10 rfl 61 6 rfl rfl inX10 (by decide) mfl_TaleMachineModel_115 rfl rfl (kdec dk_cX10_mayWrite 6 rfl) e6 ?_
  refine kv_icmp_lt C 13 rfl 21 (kdec dk_cX10_mayWrite 7 rfl) (by decide) (fun d8 => ?_) (fun d8 => ?_)
  · skip
    refine kv_iload_n C 22 rfl 2 (kdec dk_cX10_mayWrite 12 rfl) rfl rfl ?_
    refine kv_aload_n C 23 rfl 0 (kdec dk_cX10_mayWrite 13 rfl) rfl rfl ?_
    obtain ⟨x9, e10⟩ : ∃ z : Int32, w 61 7 = z := ⟨_, rfl⟩
    have b11 : (0 : Int) ≤ x9.toInt ∧ x9.toInt ≤ 1024 := by rw [← e10]; exact hI 61 7
    refine kv_get C 26 rfl 61 7 rfl rfl inX10 (by decide) mfl_TaleMachineModel_118 rfl rfl (kdec dk_cX10_mayWrite 14 rfl) e10 ?_
    refine kv_icmp_lt C 29 rfl 34 (kdec dk_cX10_mayWrite 15 rfl) (by decide) (fun d12 => ?_) (fun d12 => ?_)
    · skip
      refine kv_aload_n C 35 rfl 0 (kdec dk_cX10_mayWrite 19 rfl) rfl rfl ?_
      obtain ⟨x13, e14⟩ : ∃ z : Int32, w 61 13 = z := ⟨_, rfl⟩
      have b15 : (0 : Int) ≤ x13.toInt ∧ x13.toInt ≤ 13 := by rw [← e14]; exact hI 61 13
      refine kv_get C 38 rfl 61 13 rfl rfl inX10 (by decide) mfl_TaleMachineModel_148 rfl rfl (kdec dk_cX10_mayWrite 20 rfl) e14 ?_
      refine kv_if_ne C 41 rfl 45 (kdec dk_cX10_mayWrite 21 rfl) (by decide) (fun d16 => ?_) (fun d16 => ?_)
      · skip
        refine kv_iconst C 46 rfl 0 (kdec dk_cX10_mayWrite 24 rfl) rfl ?_
        exact kv_zret C hr hlk (kdec dk_cX10_mayWrite 25 rfl) (kf_bool (by decide)) ⟨_, rfl, hI, hF0, (by rw [e14]; try omega), (by omega)⟩
      · skip
        refine kv_iconst C 42 rfl 1 (kdec dk_cX10_mayWrite 22 rfl) rfl ?_
        refine kv_goto C 46 (kdec dk_cX10_mayWrite 23 rfl) (by decide) ?_
        exact kv_zret C hr hlk (kdec dk_cX10_mayWrite 25 rfl) (kf_bool (by decide)) ⟨_, rfl, hI, hF0, (by rw [e14]; try omega), (by omega)⟩
    · skip
      refine kv_aload_n C 30 rfl 0 (kdec dk_cX10_mayWrite 16 rfl) rfl rfl ?_
      refine kv_iconst C 31 rfl 2 (kdec dk_cX10_mayWrite 17 rfl) rfl ?_
      refine kv_callVv (As := [.int 2]) (rest := []) C 34 rfl 61 (k_x_halts l D τ ρ σ w 2 hI (by omega)) rfl rfl mml_TaleMachineModel_160 mim_yX10_halts mse_yX10_halts mcd_yX10_halts min_yX10_halts hd_yX10_halts rfl rfl rfl (by decide) rfl (Nat.le_of_ble_eq_true rfl) (kdec dk_cX10_mayWrite 18 rfl) (fun w17 h18 => ?_)
      obtain ⟨I19, f20, p22⟩ := h18
      have F23 : kF [(61, some 13)] w w17 := kF_call hF0 f20 (by decide)
      obtain ⟨x24, e25⟩ : ∃ z : Int32, w 61 13 = z := ⟨_, rfl⟩
      have b26 : (0 : Int) ≤ x24.toInt ∧ x24.toInt ≤ 13 := by rw [← e25]; exact hI 61 13
      obtain ⟨x27, e28⟩ : ∃ z : Int32, w17 61 13 = z := ⟨_, rfl⟩
      have b29 : (0 : Int) ≤ x27.toInt ∧ x27.toInt ≤ 13 := by rw [← e28]; exact I19 61 13
      rw [e25, e28] at p22
      refine kv_aload_n C 35 rfl 0 (kdec dk_cX10_mayWrite 19 rfl) rfl rfl ?_
      refine kv_get C 38 rfl 61 13 rfl rfl inX10 (by decide) mfl_TaleMachineModel_148 rfl rfl (kdec dk_cX10_mayWrite 20 rfl) e28 ?_
      refine kv_if_ne C 41 rfl 45 (kdec dk_cX10_mayWrite 21 rfl) (by decide) (fun d30 => ?_) (fun d30 => ?_)
      · skip
        refine kv_iconst C 46 rfl 0 (kdec dk_cX10_mayWrite 24 rfl) rfl ?_
        exact kv_zret C hr hlk (kdec dk_cX10_mayWrite 25 rfl) (kf_bool (by decide)) ⟨_, rfl, I19, F23, (by rw [e28]; try omega), (by omega)⟩
      · skip
        refine kv_iconst C 42 rfl 1 (kdec dk_cX10_mayWrite 22 rfl) rfl ?_
        refine kv_goto C 46 (kdec dk_cX10_mayWrite 23 rfl) (by decide) ?_
        exact kv_zret C hr hlk (kdec dk_cX10_mayWrite 25 rfl) (kf_bool (by decide)) ⟨_, rfl, I19, F23, (by rw [e28]; try omega), (by omega)⟩
  · skip
    refine kv_aload_n C 14 rfl 0 (kdec dk_cX10_mayWrite 8 rfl) rfl rfl ?_
    refine kv_iconst C 15 rfl 1 (kdec dk_cX10_mayWrite 9 rfl) rfl ?_
    refine kv_callVv (As := [.int 1]) (rest := []) C 18 rfl 61 (k_x_halts l D τ ρ σ w 1 hI (by omega)) rfl rfl mml_TaleMachineModel_160 mim_yX10_halts mse_yX10_halts mcd_yX10_halts min_yX10_halts hd_yX10_halts rfl rfl rfl (by decide) rfl (Nat.le_of_ble_eq_true rfl) (kdec dk_cX10_mayWrite 10 rfl) (fun w31 h32 => ?_)
    obtain ⟨I33, f34, p36⟩ := h32
    have F37 : kF [(61, some 13)] w w31 := kF_call hF0 f34 (by decide)
    obtain ⟨x38, e39⟩ : ∃ z : Int32, w 61 13 = z := ⟨_, rfl⟩
    have b40 : (0 : Int) ≤ x38.toInt ∧ x38.toInt ≤ 13 := by rw [← e39]; exact hI 61 13
    obtain ⟨x41, e42⟩ : ∃ z : Int32, w31 61 13 = z := ⟨_, rfl⟩
    have b43 : (0 : Int) ≤ x41.toInt ∧ x41.toInt ≤ 13 := by rw [← e42]; exact I33 61 13
    rw [e39, e42] at p36
    refine kv_goto C 34 (kdec dk_cX10_mayWrite 11 rfl) (by decide) ?_
    refine kv_aload_n C 35 rfl 0 (kdec dk_cX10_mayWrite 19 rfl) rfl rfl ?_
    refine kv_get C 38 rfl 61 13 rfl rfl inX10 (by decide) mfl_TaleMachineModel_148 rfl rfl (kdec dk_cX10_mayWrite 20 rfl) e42 ?_
    refine kv_if_ne C 41 rfl 45 (kdec dk_cX10_mayWrite 21 rfl) (by decide) (fun d44 => ?_) (fun d44 => ?_)
    · skip
      refine kv_iconst C 46 rfl 0 (kdec dk_cX10_mayWrite 24 rfl) rfl ?_
      exact kv_zret C hr hlk (kdec dk_cX10_mayWrite 25 rfl) (kf_bool (by decide)) ⟨_, rfl, I33, F37, (by rw [e42]; try omega), (by omega)⟩
    · skip
      refine kv_iconst C 42 rfl 1 (kdec dk_cX10_mayWrite 22 rfl) rfl ?_
      refine kv_goto C 46 (kdec dk_cX10_mayWrite 23 rfl) (by decide) ?_
      exact kv_zret C hr hlk (kdec dk_cX10_mayWrite 25 rfl) (kf_bool (by decide)) ⟨_, rfl, I33, F37, (by rw [e42]; try omega), (by omega)⟩

set_option maxHeartbeats 4000000 in
set_option maxRecDepth 100000 in
theorem k_x_putByte (l : Launch) (D : va_G) (τ : Nat → ClassId) (ρ σ : Nat → Nat) (w : kw) (a1 : Int32) (a2 : Int32) (hI : kI false w)  :
    kM l D τ ρ σ yX10_putByte cX10_putByte 3 none { frames := 2, cells := 0, slots := 0, locals := 72 } [.ref (ρ 61), .int a1, .int a2] w
      (fun o w' => o = none ∧ kI false w' ∧ kF [(61, some 13), (64, none)] w w' ∧ ((w 61 13).toInt = 0 ∨ ¬ (w' 61 13).toInt = 0)) := by
  refine kM_of (own := "TaleMachineModel") rfl (by decide) (Nat.le_of_ble_eq_true rfl) ?_
  intro p e s m args below meth c C hr hlk
  have hF0 : kF [(61, some 13), (64, none)] w w := kF.rf
  have c_255 : (255 : Int32).toInt = 255 := by decide
  have c_65535 : (65535 : Int32).toInt = 65535 := by decide
  refine kV.L (L' := [(0, .ref (ρ 61)), (1, .int a1), (2, .int a2)]) rfl ?_
  have g1 := kf_rng a1
  have g2 := kf_rng a2
  refine kv_aload_n C 1 rfl 0 (kdec dk_cX10_putByte 0 rfl) rfl rfl ?_
  obtain ⟨x3, e4⟩ : ∃ z : Int32, w 61 13 = z := ⟨_, rfl⟩
  have b5 : (0 : Int) ≤ x3.toInt ∧ x3.toInt ≤ 13 := by rw [← e4]; exact hI 61 13
  refine kv_get C 4 rfl 61 13 rfl rfl inX10 (by decide) mfl_TaleMachineModel_148 rfl rfl (kdec dk_cX10_putByte 1 rfl) e4 ?_
  refine kv_if_ne C 7 rfl 29 (kdec dk_cX10_putByte 2 rfl) (by decide) (fun d6 => ?_) (fun d6 => ?_)
  · skip
    exact kv_vret C hr hlk (kdec dk_cX10_putByte 16 rfl) ⟨rfl, hI, hF0, (by rw [e4]; try omega)⟩
  · skip
    refine kv_aload_n C 8 rfl 0 (kdec dk_cX10_putByte 3 rfl) rfl rfl ?_
    refine kv_iload_n C 9 rfl 1 (kdec dk_cX10_putByte 4 rfl) rfl rfl ?_
    refine kv_callVi (As := [.int a1]) (rest := []) C 12 rfl 61 (k_x_mayWrite l D τ ρ σ w a1 hI ) rfl rfl mml_TaleMachineModel_166 mim_yX10_mayWrite mse_yX10_mayWrite mcd_yX10_mayWrite min_yX10_mayWrite hd_yX10_mayWrite rfl rfl rfl (by decide) rfl (Nat.le_of_ble_eq_true rfl) (kdec dk_cX10_putByte 5 rfl) (fun x11 w7 h8 => ?_)
    obtain ⟨I9, f10, p12, p13⟩ := h8
    have F14 : kF [(61, some 13), (64, none)] w w7 := kF_call hF0 f10 (by decide)
    have g15 := kf_rng x11
    obtain ⟨x16, e17⟩ : ∃ z : Int32, w7 61 13 = z := ⟨_, rfl⟩
    have b18 : (0 : Int) ≤ x16.toInt ∧ x16.toInt ≤ 13 := by rw [← e17]; exact I9 61 13
    rw [e17] at p12
    refine kv_if_eq C 15 rfl 29 (kdec dk_cX10_putByte 6 rfl) (by decide) (fun d19 => ?_) (fun d19 => ?_)
    · skip
      exact kv_vret C hr hlk (kdec dk_cX10_putByte 16 rfl) ⟨rfl, I9, F14, (by rw [e4, e17]; try omega)⟩
    · skip
      refine kv_aload_n C 16 rfl 0 (kdec dk_cX10_putByte 7 rfl) rfl rfl ?_
      refine kv_getr C 19 rfl 61 4 rfl rfl inX10 (by decide) mfl_TaleMachineModel_16 rfl rfl (kdec dk_cX10_putByte 8 rfl) ?_
      refine kv_iload_n C 20 rfl 1 (kdec dk_cX10_putByte 9 rfl) rfl rfl ?_
      refine kv_ldc C 22 rfl 65535 (kdec dk_cX10_putByte 10 rfl) mco_TaleMachineModel_104 ?_
      refine kv_iand C 23 rfl (kdec dk_cX10_putByte 11 rfl) (fun x20 h21e h21l h21u => ?_)
      have g22 := kf_and65535 h21e
      refine kv_iload_n C 24 rfl 2 (kdec dk_cX10_putByte 12 rfl) rfl rfl ?_
      refine kv_sipush C 27 rfl 255 (kdec dk_cX10_putByte 13 rfl) rfl ?_
      refine kv_iand C 28 rfl (kdec dk_cX10_putByte 14 rfl) (fun x23 h24e h24l h24u => ?_)
      have g25 := kf_and255 h24e
      refine kv_iast C 29 rfl 64 rfl (by omega) (by omega) (kdec dk_cX10_putByte 15 rfl) (fun w26 u27 => ?_)
      have I28 : kI false w26 := kI_put u27 I9 (show (0 : Int) ≤ (x23 : Int32).toInt by omega) (show (x23 : Int32).toInt ≤ 255 by omega)
      have F29 : kF [(61, some 13), (64, none)] w w26 := kF_put u27 F14 rfl
      have e30 : w26 61 13 = x16 := ((kup_ne u27 rfl : w26 61 13 = w7 61 13).trans e17)
      exact kv_vret C hr hlk (kdec dk_cX10_putByte 16 rfl) ⟨rfl, I28, F29, (by rw [e4, e30]; try omega)⟩

set_option maxHeartbeats 4000000 in
set_option maxRecDepth 100000 in
theorem k_x_putWord (l : Launch) (D : va_G) (τ : Nat → ClassId) (ρ σ : Nat → Nat) (w : kw) (a1 : Int32) (a2 : Int32) (hI : kI false w)  :
    kM l D τ ρ σ yX10_putWord cX10_putWord 3 none { frames := 2, cells := 0, slots := 0, locals := 72 } [.ref (ρ 61), .int a1, .int a2] w
      (fun o w' => o = none ∧ kI false w' ∧ kF [(61, some 13), (64, none)] w w' ∧ ((w 61 13).toInt = 0 ∨ ¬ (w' 61 13).toInt = 0)) := by
  refine kM_of (own := "TaleMachineModel") rfl (by decide) (Nat.le_of_ble_eq_true rfl) ?_
  intro p e s m args below meth c C hr hlk
  have hF0 : kF [(61, some 13), (64, none)] w w := kF.rf
  have c_1 : (1 : Int32).toInt = 1 := by decide
  have c_8 : (8 : Int32).toInt = 8 := by decide
  have c_255 : (255 : Int32).toInt = 255 := by decide
  have c_65535 : (65535 : Int32).toInt = 65535 := by decide
  refine kV.L (L' := [(0, .ref (ρ 61)), (1, .int a1), (2, .int a2)]) rfl ?_
  have g1 := kf_rng a1
  have g2 := kf_rng a2
  refine kv_aload_n C 1 rfl 0 (kdec dk_cX10_putWord 0 rfl) rfl rfl ?_
  obtain ⟨x3, e4⟩ : ∃ z : Int32, w 61 13 = z := ⟨_, rfl⟩
  have b5 : (0 : Int) ≤ x3.toInt ∧ x3.toInt ≤ 13 := by rw [← e4]; exact hI 61 13
  refine kv_get C 4 rfl 61 13 rfl rfl inX10 (by decide) mfl_TaleMachineModel_148 rfl rfl (kdec dk_cX10_putWord 1 rfl) e4 ?_
  refine kv_if_ne C 7 rfl 58 (kdec dk_cX10_putWord 2 rfl) (by decide) (fun d6 => ?_) (fun d6 => ?_)
  · skip
    exact kv_vret C hr hlk (kdec dk_cX10_putWord 35 rfl) ⟨rfl, hI, hF0, (by rw [e4]; try omega)⟩
  · skip
    refine kv_aload_n C 8 rfl 0 (kdec dk_cX10_putWord 3 rfl) rfl rfl ?_
    refine kv_iload_n C 9 rfl 1 (kdec dk_cX10_putWord 4 rfl) rfl rfl ?_
    refine kv_callVi (As := [.int a1]) (rest := []) C 12 rfl 61 (k_x_mayWrite l D τ ρ σ w a1 hI ) rfl rfl mml_TaleMachineModel_166 mim_yX10_mayWrite mse_yX10_mayWrite mcd_yX10_mayWrite min_yX10_mayWrite hd_yX10_mayWrite rfl rfl rfl (by decide) rfl (Nat.le_of_ble_eq_true rfl) (kdec dk_cX10_putWord 5 rfl) (fun x11 w7 h8 => ?_)
    obtain ⟨I9, f10, p12, p13⟩ := h8
    have F14 : kF [(61, some 13), (64, none)] w w7 := kF_call hF0 f10 (by decide)
    have g15 := kf_rng x11
    obtain ⟨x16, e17⟩ : ∃ z : Int32, w7 61 13 = z := ⟨_, rfl⟩
    have b18 : (0 : Int) ≤ x16.toInt ∧ x16.toInt ≤ 13 := by rw [← e17]; exact I9 61 13
    rw [e17] at p12
    refine kv_if_eq C 15 rfl 58 (kdec dk_cX10_putWord 6 rfl) (by decide) (fun d19 => ?_) (fun d19 => ?_)
    · skip
      exact kv_vret C hr hlk (kdec dk_cX10_putWord 35 rfl) ⟨rfl, I9, F14, (by rw [e4, e17]; try omega)⟩
    · skip
      refine kv_aload_n C 16 rfl 0 (kdec dk_cX10_putWord 7 rfl) rfl rfl ?_
      refine kv_iload_n C 17 rfl 1 (kdec dk_cX10_putWord 8 rfl) rfl rfl ?_
      refine kv_iconst C 18 rfl 1 (kdec dk_cX10_putWord 9 rfl) rfl ?_
      refine kv_iadd C 19 rfl (kdec dk_cX10_putWord 10 rfl) (fun x20 q22 h21e h21 h21l h21u => ?_)
      try have h21n : x20.toInt = a1.toInt + (1 : Int32).toInt := by omega
      clear h21 q22
      refine kv_callVi (As := [.int x20]) (rest := []) C 22 rfl 61 (k_x_mayWrite l D τ ρ σ w7 x20 I9 ) rfl rfl mml_TaleMachineModel_166 mim_yX10_mayWrite mse_yX10_mayWrite mcd_yX10_mayWrite min_yX10_mayWrite hd_yX10_mayWrite rfl rfl rfl (by decide) rfl (Nat.le_of_ble_eq_true rfl) (kdec dk_cX10_putWord 11 rfl) (fun x27 w23 h24 => ?_)
      obtain ⟨I25, f26, p28, p29⟩ := h24
      have F30 : kF [(61, some 13), (64, none)] w w23 := kF_call F14 f26 (by decide)
      have g31 := kf_rng x27
      obtain ⟨x32, e33⟩ : ∃ z : Int32, w23 61 13 = z := ⟨_, rfl⟩
      have b34 : (0 : Int) ≤ x32.toInt ∧ x32.toInt ≤ 13 := by rw [← e33]; exact I25 61 13
      rw [e33] at p28
      refine kv_if_eq C 25 rfl 58 (kdec dk_cX10_putWord 12 rfl) (by decide) (fun d35 => ?_) (fun d35 => ?_)
      · skip
        exact kv_vret C hr hlk (kdec dk_cX10_putWord 35 rfl) ⟨rfl, I25, F30, (by rw [e4, e33]; try omega)⟩
      · skip
        refine kv_aload_n C 26 rfl 0 (kdec dk_cX10_putWord 13 rfl) rfl rfl ?_
        refine kv_getr C 29 rfl 61 4 rfl rfl inX10 (by decide) mfl_TaleMachineModel_16 rfl rfl (kdec dk_cX10_putWord 14 rfl) ?_
        refine kv_iload_n C 30 rfl 1 (kdec dk_cX10_putWord 15 rfl) rfl rfl ?_
        refine kv_ldc C 32 rfl 65535 (kdec dk_cX10_putWord 16 rfl) mco_TaleMachineModel_104 ?_
        refine kv_iand C 33 rfl (kdec dk_cX10_putWord 17 rfl) (fun x36 h37e h37l h37u => ?_)
        have g38 := kf_and65535 h37e
        refine kv_iload_n C 34 rfl 2 (kdec dk_cX10_putWord 18 rfl) rfl rfl ?_
        refine kv_bipush C 36 rfl 8 (kdec dk_cX10_putWord 19 rfl) rfl ?_
        refine kv_ishr C 37 rfl (kdec dk_cX10_putWord 20 rfl) (fun x39 h40e h40l h40u => ?_)
        refine kv_sipush C 40 rfl 255 (kdec dk_cX10_putWord 21 rfl) rfl ?_
        refine kv_iand C 41 rfl (kdec dk_cX10_putWord 22 rfl) (fun x41 h42e h42l h42u => ?_)
        have g43 := kf_and255 h42e
        refine kv_iast C 42 rfl 64 rfl (by omega) (by omega) (kdec dk_cX10_putWord 23 rfl) (fun w44 u45 => ?_)
        have I46 : kI false w44 := kI_put u45 I25 (show (0 : Int) ≤ (x41 : Int32).toInt by omega) (show (x41 : Int32).toInt ≤ 255 by omega)
        have F47 : kF [(61, some 13), (64, none)] w w44 := kF_put u45 F30 rfl
        refine kv_aload_n C 43 rfl 0 (kdec dk_cX10_putWord 24 rfl) rfl rfl ?_
        refine kv_getr C 46 rfl 61 4 rfl rfl inX10 (by decide) mfl_TaleMachineModel_16 rfl rfl (kdec dk_cX10_putWord 25 rfl) ?_
        refine kv_iload_n C 47 rfl 1 (kdec dk_cX10_putWord 26 rfl) rfl rfl ?_
        refine kv_iconst C 48 rfl 1 (kdec dk_cX10_putWord 27 rfl) rfl ?_
        refine kv_iadd C 49 rfl (kdec dk_cX10_putWord 28 rfl) (fun x48 q50 h49e h49 h49l h49u => ?_)
        try have h49n : x48.toInt = a1.toInt + (1 : Int32).toInt := by omega
        clear h49 q50
        have h49q : x20 = x48 := h21e.trans h49e.symm
        subst h49q
        refine kv_ldc C 51 rfl 65535 (kdec dk_cX10_putWord 29 rfl) mco_TaleMachineModel_104 ?_
        refine kv_iand C 52 rfl (kdec dk_cX10_putWord 30 rfl) (fun x51 h52e h52l h52u => ?_)
        have g53 := kf_and65535 h52e
        refine kv_iload_n C 53 rfl 2 (kdec dk_cX10_putWord 31 rfl) rfl rfl ?_
        refine kv_sipush C 56 rfl 255 (kdec dk_cX10_putWord 32 rfl) rfl ?_
        refine kv_iand C 57 rfl (kdec dk_cX10_putWord 33 rfl) (fun x54 h55e h55l h55u => ?_)
        have g56 := kf_and255 h55e
        refine kv_iast C 58 rfl 64 rfl (by omega) (by omega) (kdec dk_cX10_putWord 34 rfl) (fun w57 u58 => ?_)
        have I59 : kI false w57 := kI_put u58 I46 (show (0 : Int) ≤ (x54 : Int32).toInt by omega) (show (x54 : Int32).toInt ≤ 255 by omega)
        have F60 : kF [(61, some 13), (64, none)] w w57 := kF_put u58 F47 rfl
        have e61 : w57 61 13 = x32 := ((kup_ne u58 rfl : w57 61 13 = w44 61 13).trans ((kup_ne u45 rfl : w44 61 13 = w23 61 13).trans e33))
        exact kv_vret C hr hlk (kdec dk_cX10_putWord 35 rfl) ⟨rfl, I59, F60, (by rw [e4, e61]; try omega)⟩

set_option maxHeartbeats 4000000 in
set_option maxRecDepth 100000 in
theorem k_x_next (l : Launch) (D : va_G) (τ : Nat → ClassId) (ρ σ : Nat → Nat) (w : kw)  (hI : kI false w)  :
    kM l D τ ρ σ yX10_next cX10_next 2 (some .int) { frames := 2, cells := 0, slots := 0, locals := 72 } [.ref (ρ 61)] w
      (fun o w' => ∃ r : Int32, o = some (.int r) ∧ kI false w' ∧ kF [(61, some 13), (61, some 15)] w w' ∧ (0 ≤ r.toInt ∧ r.toInt ≤ 255) ∧ ((w 61 13).toInt = 0 ∨ ¬ (w' 61 13).toInt = 0)) := by
  refine kM_of (own := "TaleMachineModel") rfl (by decide) (Nat.le_of_ble_eq_true rfl) ?_
  intro p e s m args below meth c C hr hlk
  have hF0 : kF [(61, some 13), (61, some 15)] w w := kF.rf
  have c_1 : (1 : Int32).toInt = 1 := by decide
  have c_65535 : (65535 : Int32).toInt = 65535 := by decide
  refine kV.L (L' := [(0, .ref (ρ 61))]) rfl ?_
  refine kv_aload_n C 1 rfl 0 (kdec dk_cX10_next 0 rfl) rfl rfl ?_
  refine kv_aload_n C 2 rfl 0 (kdec dk_cX10_next 1 rfl) rfl rfl ?_
  obtain ⟨x1, e2⟩ : ∃ z : Int32, w 61 15 = z := ⟨_, rfl⟩
  have b3 : (0 : Int) ≤ x1.toInt ∧ x1.toInt ≤ 65535 := by rw [← e2]; exact hI 61 15
  refine kv_get C 5 rfl 61 15 rfl rfl inX10 (by decide) mfl_TaleMachineModel_170 rfl rfl (kdec dk_cX10_next 2 rfl) e2 ?_
  refine kv_callVi (As := [.int x1]) (rest := []) C 8 rfl 61 (k_x_byteAt l D τ ρ σ w x1 hI ) rfl rfl mml_TaleMachineModel_163 mim_yX10_byteAt mse_yX10_byteAt mcd_yX10_byteAt min_yX10_byteAt hd_yX10_byteAt rfl rfl rfl (by decide) rfl (Nat.le_of_ble_eq_true rfl) (kdec dk_cX10_next 3 rfl) (fun x8 w4 h5 => ?_)
  obtain ⟨I6, f7, p9, p10, p11⟩ := h5
  have F12 : kF [(61, some 13), (61, some 15)] w w4 := kF_call hF0 f7 (by decide)
  have g13 := kf_rng x8
  obtain ⟨x14, e15⟩ : ∃ z : Int32, w 61 13 = z := ⟨_, rfl⟩
  have b16 : (0 : Int) ≤ x14.toInt ∧ x14.toInt ≤ 13 := by rw [← e15]; exact hI 61 13
  obtain ⟨x17, e18⟩ : ∃ z : Int32, w4 61 13 = z := ⟨_, rfl⟩
  have b19 : (0 : Int) ≤ x17.toInt ∧ x17.toInt ≤ 13 := by rw [← e18]; exact I6 61 13
  rw [e15, e18] at p10
  rw [e18] at p11
  refine kv_istore_n C 9 rfl 1 [1, 0] [(0, .ref (ρ 61)), (1, .int x8)] (kdec dk_cX10_next 4 rfl) rfl (by decide) rfl ?_
  refine kv_aload_n C 10 rfl 0 (kdec dk_cX10_next 5 rfl) rfl rfl ?_
  refine kv_aload_n C 11 rfl 0 (kdec dk_cX10_next 6 rfl) rfl rfl ?_
  have e20 : w4 61 15 = x1 := ((f7 61 15 rfl : w4 61 15 = w 61 15).trans e2)
  refine kv_get C 14 rfl 61 15 rfl rfl inX10 (by decide) mfl_TaleMachineModel_170 rfl rfl (kdec dk_cX10_next 7 rfl) e20 ?_
  refine kv_iconst C 15 rfl 1 (kdec dk_cX10_next 8 rfl) rfl ?_
  refine kv_iadd C 16 rfl (kdec dk_cX10_next 9 rfl) (fun x21 q23 h22e h22 h22l h22u => ?_)
  try have h22n : x21.toInt = x1.toInt + (1 : Int32).toInt := by omega
  clear h22 q23
  refine kv_ldc C 18 rfl 65535 (kdec dk_cX10_next 10 rfl) mco_TaleMachineModel_104 ?_
  refine kv_iand C 19 rfl (kdec dk_cX10_next 11 rfl) (fun x24 h25e h25l h25u => ?_)
  have g26 := kf_and65535 h25e
  refine kv_put C 22 rfl 61 15 rfl rfl inX10 (by decide) mfl_TaleMachineModel_170 rfl tyX10 tyX10_ok nmX10 rfl rfl (kdec dk_cX10_next 12 rfl) rfl rfl (fun w27 u28 => ?_)
  have I29 : kI false w27 := kI_put u28 I6 (show (0 : Int) ≤ (x24 : Int32).toInt by omega) (show (x24 : Int32).toInt ≤ 65535 by omega)
  have F30 : kF [(61, some 13), (61, some 15)] w w27 := kF_put u28 F12 rfl
  refine kv_iload_n C 23 rfl 1 (kdec dk_cX10_next 13 rfl) rfl rfl ?_
  have e31 : w27 61 13 = x17 := ((kup_ne u28 rfl : w27 61 13 = w4 61 13).trans e18)
  exact kv_iret C hr hlk (kdec dk_cX10_next 14 rfl) ⟨_, rfl, I29, F30, (by omega), (by rw [e15, e31]; try omega)⟩

set_option maxHeartbeats 4000000 in
set_option maxRecDepth 100000 in
theorem k_x_signed (l : Launch) (D : va_G) (τ : Nat → ClassId) (ρ σ : Nat → Nat) (w : kw) (a1 : Int32) (hI : kI false w)  :
    kM l D τ ρ σ yX10_signed cX10_signed 1 (some .int) { frames := 0, cells := 0, slots := 0, locals := 0 } [.int a1] w
      (fun o w' => ∃ r : Int32, o = some (.int r) ∧ kI false w' ∧ kF [] w w' ∧ (a1.toInt ≤ 32767 ∧ r.toInt = a1.toInt ∨ 32767 < a1.toInt ∧ r.toInt = a1.toInt - 65536)) := by
  refine kM_of (own := "TaleMachineModel") rfl (by decide) (Nat.le_of_ble_eq_true rfl) ?_
  intro p e s m args below meth c C hr hlk
  have hF0 : kF [] w w := kF.rf
  have c_32767 : (32767 : Int32).toInt = 32767 := by decide
  have c_65536 : (65536 : Int32).toInt = 65536 := by decide
  refine kV.L (L' := [(0, .int a1)]) rfl ?_
  have g1 := kf_rng a1
  refine kv_iload_n C 1 rfl 0 (kdec dk_cX10_signed 0 rfl) rfl rfl ?_
  refine kv_sipush C 4 rfl 32767 (kdec dk_cX10_signed 1 rfl) rfl ?_
  refine kv_icmp_le C 7 rfl 14 (kdec dk_cX10_signed 2 rfl) (by decide) (fun d2 => ?_) (fun d2 => ?_)
  · skip
    refine kv_iload_n C 15 rfl 0 (kdec dk_cX10_signed 7 rfl) rfl rfl ?_
    exact kv_iret C hr hlk (kdec dk_cX10_signed 8 rfl) ⟨_, rfl, hI, hF0, (by omega)⟩
  · skip
    refine kv_iload_n C 8 rfl 0 (kdec dk_cX10_signed 3 rfl) rfl rfl ?_
    refine kv_ldc C 10 rfl 65536 (kdec dk_cX10_signed 4 rfl) mco_TaleMachineModel_173 ?_
    refine kv_isub C 11 rfl (kdec dk_cX10_signed 5 rfl) (fun x3 q5 h4e h4 h4l h4u => ?_)
    try have h4n : x3.toInt = a1.toInt - (65536 : Int32).toInt := by omega
    clear h4 q5
    refine kv_goto C 15 (kdec dk_cX10_signed 6 rfl) (by decide) ?_
    exact kv_iret C hr hlk (kdec dk_cX10_signed 8 rfl) ⟨_, rfl, hI, hF0, (by omega)⟩

set_option maxHeartbeats 4000000 in
set_option maxRecDepth 100000 in
theorem k_x_again (l : Launch) (D : va_G) (τ : Nat → ClassId) (ρ σ : Nat → Nat) (w : kw)  (hI : kI false w)  :
    kM l D τ ρ σ yX10_again cX10_again 2 none { frames := 0, cells := 0, slots := 0, locals := 0 } [.ref (ρ 61)] w
      (fun o w' => o = none ∧ kI false w' ∧ kF [(61, some 14), (61, some 19), (61, some 20), (64, none), (67, none), (68, none), (69, none), (70, none)] w w' ∧ kMoT w') := by
  refine kM_of (own := "TaleMachineModel") rfl (by decide) (Nat.le_of_ble_eq_true rfl) ?_
  intro p e s m args below meth c C hr hlk
  have hF0 : kF [(61, some 14), (61, some 19), (61, some 20), (64, none), (67, none), (68, none), (69, none), (70, none)] w w := kF.rf
  have c_0 : (0 : Int32).toInt = 0 := by decide
  have c_1 : (1 : Int32).toInt = 1 := by decide
  have c_6 : (6 : Int32).toInt = 6 := by decide
  have c_7 : (7 : Int32).toInt = 7 := by decide
  have c_256 : (256 : Int32).toInt = 256 := by decide
  refine kV.L (L' := [(0, .ref (ρ 61))]) rfl ?_
  have cut2 : ∀ (n_2 : Nat) (w_2 : kw) (l1_2 : Int32), kI false w_2 → kF [(61, some 14), (61, some 19), (61, some 20), (64, none), (67, none), (68, none), (69, none), (70, none)] w w_2 → (0 ≤ l1_2.toInt ∧ l1_2.toInt ≤ 1024) → ((1025 - l1_2.toInt) : Int) < (n_2 : Int) → kV p l e { frames := 0, cells := 0, slots := 0, locals := 0 } s m args below meth c (kQ below args s D τ ρ (fun o w' => o = none ∧ kI false w' ∧ kF [(61, some 14), (61, some 19), (61, some 20), (64, none), (67, none), (68, none), (69, none), (70, none)] w w' ∧ kMoT w')) 2 D τ ρ 2 [(0, .ref (ρ 61)), (1, .int l1_2)] [] w_2 := by
    intro n_2
    induction n_2 with
    | zero => intro w_2 l1_2 I_2 F_2 k2_0 hmz; exfalso; omega
    | succ n_2 ih2 =>
      intro w_2 l1_2 I_2 F_2 k2_0 hm2
      have gl1_2 := kf_rng l1_2
      refine kv_iload_n C 3 rfl 1 (kdec dk_cX10_again 2 rfl) rfl rfl ?_
      refine kv_aload_n C 4 rfl 0 (kdec dk_cX10_again 3 rfl) rfl rfl ?_
      obtain ⟨x1, e2⟩ : ∃ z : Int32, w 61 6 = z := ⟨_, rfl⟩
      have b3 : (0 : Int) ≤ x1.toInt ∧ x1.toInt ≤ 1024 := by rw [← e2]; exact hI 61 6
      have e4 : w_2 61 6 = x1 := ((F_2 61 6 rfl : w_2 61 6 = w 61 6).trans e2)
      refine kv_get C 7 rfl 61 6 rfl rfl inX10 (by decide) mfl_TaleMachineModel_115 rfl rfl (kdec dk_cX10_again 4 rfl) e4 ?_
      refine kv_icmp_ge C 10 rfl 28 (kdec dk_cX10_again 5 rfl) (by decide) (fun d5 => ?_) (fun d5 => ?_)
      · skip
        refine kv_aload_n C 29 rfl 0 (kdec dk_cX10_again 16 rfl) rfl rfl ?_
        refine kv_iconst C 30 rfl 0 (kdec dk_cX10_again 17 rfl) rfl ?_
        refine kv_put C 33 rfl 61 19 rfl rfl inX10 (by decide) mfl_TaleMachineModel_136 rfl tyX10 tyX10_ok nmX10 rfl rfl (kdec dk_cX10_again 18 rfl) rfl rfl (fun w6 u7 => ?_)
        have I8 : kI false w6 := kI_put u7 I_2 (show (0 : Int) ≤ (0 : Int32).toInt by omega) (show (0 : Int32).toInt ≤ 120 by omega)
        have F9 : kF [(61, some 14), (61, some 19), (61, some 20), (64, none), (67, none), (68, none), (69, none), (70, none)] w w6 := kF_put u7 F_2 rfl
        refine kv_aload_n C 34 rfl 0 (kdec dk_cX10_again 19 rfl) rfl rfl ?_
        refine kv_iconst C 35 rfl 1 (kdec dk_cX10_again 20 rfl) rfl ?_
        refine kv_put C 38 rfl 61 20 rfl rfl inX10 (by decide) mfl_TaleMachineModel_139 rfl tyX10 tyX10_ok nmX10 rfl rfl (kdec dk_cX10_again 21 rfl) rfl rfl (fun w10 u11 => ?_)
        have I12 : kI false w10 := kI_put u11 I8 (show (0 : Int) ≤ (1 : Int32).toInt by omega) (show (1 : Int32).toInt ≤ 20 by omega)
        have F13 : kF [(61, some 14), (61, some 19), (61, some 20), (64, none), (67, none), (68, none), (69, none), (70, none)] w w10 := kF_put u11 F9 rfl
        refine kv_aload_n C 39 rfl 0 (kdec dk_cX10_again 22 rfl) rfl rfl ?_
        refine kv_getr C 42 rfl 61 21 rfl rfl inX10 (by decide) mfl_TaleMachineModel_25 rfl rfl (kdec dk_cX10_again 23 rfl) ?_
        refine kv_iconst C 43 rfl 0 (kdec dk_cX10_again 24 rfl) rfl ?_
        refine kv_iconst C 44 rfl 0 (kdec dk_cX10_again 25 rfl) rfl ?_
        refine kv_iast C 45 rfl 67 rfl (by omega) (by omega) (kdec dk_cX10_again 26 rfl) (fun w14 u15 => ?_)
        have u15 : w14 = kup w10 67 0 0 := u15
        have I16 : kI false w14 := kI_put u15 I12 (show (0 : Int) ≤ (0 : Int32).toInt by omega) (show (0 : Int32).toInt ≤ 120 by omega)
        have F17 : kF [(61, some 14), (61, some 19), (61, some 20), (64, none), (67, none), (68, none), (69, none), (70, none)] w w14 := kF_put u15 F13 rfl
        refine kv_aload_n C 46 rfl 0 (kdec dk_cX10_again 27 rfl) rfl rfl ?_
        refine kv_getr C 49 rfl 61 22 rfl rfl inX10 (by decide) mfl_TaleMachineModel_28 rfl rfl (kdec dk_cX10_again 28 rfl) ?_
        refine kv_iconst C 50 rfl 0 (kdec dk_cX10_again 29 rfl) rfl ?_
        refine kv_iconst C 51 rfl 0 (kdec dk_cX10_again 30 rfl) rfl ?_
        refine kv_iast C 52 rfl 68 rfl (by omega) (by omega) (kdec dk_cX10_again 31 rfl) (fun w18 u19 => ?_)
        have u19 : w18 = kup w14 68 0 0 := u19
        have I20 : kI false w18 := kI_put u19 I16 (show (0 : Int) ≤ (0 : Int32).toInt by omega) (show (0 : Int32).toInt ≤ 65535 by omega)
        have F21 : kF [(61, some 14), (61, some 19), (61, some 20), (64, none), (67, none), (68, none), (69, none), (70, none)] w w18 := kF_put u19 F17 rfl
        refine kv_aload_n C 53 rfl 0 (kdec dk_cX10_again 32 rfl) rfl rfl ?_
        refine kv_getr C 56 rfl 61 23 rfl rfl inX10 (by decide) mfl_TaleMachineModel_31 rfl rfl (kdec dk_cX10_again 33 rfl) ?_
        refine kv_iconst C 57 rfl 0 (kdec dk_cX10_again 34 rfl) rfl ?_
        refine kv_iconst C 58 rfl 0 (kdec dk_cX10_again 35 rfl) rfl ?_
        refine kv_iast C 59 rfl 69 rfl (by omega) (by omega) (kdec dk_cX10_again 36 rfl) (fun w22 u23 => ?_)
        have u23 : w22 = kup w18 69 0 0 := u23
        have I24 : kI false w22 := kI_put u23 I20 (show (0 : Int) ≤ (0 : Int32).toInt by omega) (show (0 : Int32).toInt ≤ 255 by omega)
        have F25 : kF [(61, some 14), (61, some 19), (61, some 20), (64, none), (67, none), (68, none), (69, none), (70, none)] w w22 := kF_put u23 F21 rfl
        refine kv_aload_n C 60 rfl 0 (kdec dk_cX10_again 37 rfl) rfl rfl ?_
        refine kv_getr C 63 rfl 61 24 rfl rfl inX10 (by decide) mfl_TaleMachineModel_34 rfl rfl (kdec dk_cX10_again 38 rfl) ?_
        refine kv_iconst C 64 rfl 0 (kdec dk_cX10_again 39 rfl) rfl ?_
        refine kv_iconst C 65 rfl 0 (kdec dk_cX10_again 40 rfl) rfl ?_
        refine kv_iast C 66 rfl 70 rfl (by omega) (by omega) (kdec dk_cX10_again 41 rfl) (fun w26 u27 => ?_)
        have u27 : w26 = kup w22 70 0 0 := u27
        have I28 : kI false w26 := kI_put u27 I24 (show (0 : Int) ≤ (0 : Int32).toInt by omega) (show (0 : Int32).toInt ≤ 15 by omega)
        have F29 : kF [(61, some 14), (61, some 19), (61, some 20), (64, none), (67, none), (68, none), (69, none), (70, none)] w w26 := kF_put u27 F25 rfl
        refine kv_aload_n C 67 rfl 0 (kdec dk_cX10_again 42 rfl) rfl rfl ?_
        refine kv_sipush C 70 rfl 256 (kdec dk_cX10_again 43 rfl) rfl ?_
        refine kv_aload_n C 71 rfl 0 (kdec dk_cX10_again 44 rfl) rfl rfl ?_
        refine kv_getr C 74 rfl 61 5 rfl rfl inX10 (by decide) mfl_TaleMachineModel_19 rfl rfl (kdec dk_cX10_again 45 rfl) ?_
        refine kv_bipush C 76 rfl 6 (kdec dk_cX10_again 46 rfl) rfl ?_
        obtain ⟨x30, e31⟩ : ∃ z : Int32, w 65 6 = z := ⟨_, rfl⟩
        have b32 : (0 : Int) ≤ x30.toInt ∧ x30.toInt ≤ 255 := by rw [← e31]; exact hI 65 6
        have e33 : w26 65 6 = x30 := ((kup_ne u27 rfl : w26 65 6 = w22 65 6).trans ((kup_ne u23 rfl : w22 65 6 = w18 65 6).trans ((kup_ne u19 rfl : w18 65 6 = w14 65 6).trans ((kup_ne u15 rfl : w14 65 6 = w10 65 6).trans ((kup_ne u11 rfl : w10 65 6 = w6 65 6).trans ((kup_ne u7 rfl : w6 65 6 = w_2 65 6).trans ((F_2 65 6 rfl : w_2 65 6 = w 65 6).trans e31)))))))
        refine kv_iald C 77 rfl 65 rfl (by omega) (by omega) (show w26 65 (6 : Int32).toNatClampNeg = x30 from e33) (kdec dk_cX10_again 47 rfl) ?_
        refine kv_imul C 78 rfl (kdec dk_cX10_again 48 rfl) (fun x34 h35e h35l h35u => ?_)
        obtain ⟨q36, g37⟩ := kf_mul 256 x30
        rw [← h35e, c_256] at g37
        try have h35n : x34.toInt = 256 * x30.toInt := by omega
        clear g37 q36
        refine kv_aload_n C 79 rfl 0 (kdec dk_cX10_again 49 rfl) rfl rfl ?_
        refine kv_getr C 82 rfl 61 5 rfl rfl inX10 (by decide) mfl_TaleMachineModel_19 rfl rfl (kdec dk_cX10_again 50 rfl) ?_
        refine kv_bipush C 84 rfl 7 (kdec dk_cX10_again 51 rfl) rfl ?_
        obtain ⟨x38, e39⟩ : ∃ z : Int32, w 65 7 = z := ⟨_, rfl⟩
        have b40 : (0 : Int) ≤ x38.toInt ∧ x38.toInt ≤ 255 := by rw [← e39]; exact hI 65 7
        have e41 : w26 65 7 = x38 := ((kup_ne u27 rfl : w26 65 7 = w22 65 7).trans ((kup_ne u23 rfl : w22 65 7 = w18 65 7).trans ((kup_ne u19 rfl : w18 65 7 = w14 65 7).trans ((kup_ne u15 rfl : w14 65 7 = w10 65 7).trans ((kup_ne u11 rfl : w10 65 7 = w6 65 7).trans ((kup_ne u7 rfl : w6 65 7 = w_2 65 7).trans ((F_2 65 7 rfl : w_2 65 7 = w 65 7).trans e39)))))))
        refine kv_iald C 85 rfl 65 rfl (by omega) (by omega) (show w26 65 (7 : Int32).toNatClampNeg = x38 from e41) (kdec dk_cX10_again 52 rfl) ?_
        refine kv_iadd C 86 rfl (kdec dk_cX10_again 53 rfl) (fun x42 q44 h43e h43 h43l h43u => ?_)
        try have h43n : x42.toInt = x34.toInt + x38.toInt := by omega
        clear h43 q44
        refine kv_put C 89 rfl 61 14 rfl rfl inX10 (by decide) mfl_TaleMachineModel_142 rfl tyX10 tyX10_ok nmX10 rfl rfl (kdec dk_cX10_again 54 rfl) rfl rfl (fun w45 u46 => ?_)
        have I47 : kI false w45 := kI_put u46 I28 (show (0 : Int) ≤ (x42 : Int32).toInt by omega) (show (x42 : Int32).toInt ≤ 65535 by omega)
        have F48 : kF [(61, some 14), (61, some 19), (61, some 20), (64, none), (67, none), (68, none), (69, none), (70, none)] w w45 := kF_put u46 F29 rfl
        have e49 : w45 61 20 = 1 := ((kup_ne u46 rfl : w45 61 20 = w26 61 20).trans ((kup_ne u27 rfl : w26 61 20 = w22 61 20).trans ((kup_ne u23 rfl : w22 61 20 = w18 61 20).trans ((kup_ne u19 rfl : w18 61 20 = w14 61 20).trans ((kup_ne u15 rfl : w14 61 20 = w10 61 20).trans (kup_eq u11))))))
        have e50 : w45 67 0 = 0 := ((kup_ne u46 rfl : w45 67 0 = w26 67 0).trans ((kup_ne u27 rfl : w26 67 0 = w22 67 0).trans ((kup_ne u23 rfl : w22 67 0 = w18 67 0).trans ((kup_ne u19 rfl : w18 67 0 = w14 67 0).trans (kup_eq u15)))))
        have e51 : w45 61 19 = 0 := ((kup_ne u46 rfl : w45 61 19 = w26 61 19).trans ((kup_ne u27 rfl : w26 61 19 = w22 61 19).trans ((kup_ne u23 rfl : w22 61 19 = w18 61 19).trans ((kup_ne u19 rfl : w18 61 19 = w14 61 19).trans ((kup_ne u15 rfl : w14 61 19 = w10 61 19).trans ((kup_ne u11 rfl : w10 61 19 = w6 61 19).trans (kup_eq u7)))))))
        have M52 : kMoT w45 := kMoT_one (by rw [e49]; omega) (by rw [e50]; omega) (by rw [e51]; omega)
        exact kv_vret C hr hlk (kdec dk_cX10_again 55 rfl) ⟨rfl, I47, F48, M52⟩
      · skip
        refine kv_aload_n C 11 rfl 0 (kdec dk_cX10_again 6 rfl) rfl rfl ?_
        refine kv_getr C 14 rfl 61 4 rfl rfl inX10 (by decide) mfl_TaleMachineModel_16 rfl rfl (kdec dk_cX10_again 7 rfl) ?_
        refine kv_iload_n C 15 rfl 1 (kdec dk_cX10_again 8 rfl) rfl rfl ?_
        refine kv_aload_n C 16 rfl 0 (kdec dk_cX10_again 9 rfl) rfl rfl ?_
        refine kv_getr C 19 rfl 61 5 rfl rfl inX10 (by decide) mfl_TaleMachineModel_19 rfl rfl (kdec dk_cX10_again 10 rfl) ?_
        refine kv_iload_n C 20 rfl 1 (kdec dk_cX10_again 11 rfl) rfl rfl ?_
        obtain ⟨x53, e54⟩ : ∃ z : Int32, w_2 65 (l1_2 : Int32).toNatClampNeg = z := ⟨_, rfl⟩
        have b55 : (0 : Int) ≤ x53.toInt ∧ x53.toInt ≤ 255 := by rw [← e54]; exact I_2 65 _
        refine kv_iald C 21 rfl 65 rfl (by omega) (by omega) e54 (kdec dk_cX10_again 12 rfl) ?_
        refine kv_iast C 22 rfl 64 rfl (by omega) (by omega) (kdec dk_cX10_again 13 rfl) (fun w56 u57 => ?_)
        have I58 : kI false w56 := kI_put u57 I_2 (show (0 : Int) ≤ (x53 : Int32).toInt by omega) (show (x53 : Int32).toInt ≤ 255 by omega)
        have F59 : kF [(61, some 14), (61, some 19), (61, some 20), (64, none), (67, none), (68, none), (69, none), (70, none)] w w56 := kF_put u57 F_2 rfl
        refine kv_iinc C 25 rfl 1 1 [1, 0] (fun v9 => [(0, .ref (ρ 61)), (1, .int v9)]) (kdec dk_cX10_again 14 rfl) rfl (by decide) (fun _ => rfl) 1 rfl (fun x60 q61 h62e h62 h62l h62u => ?_)
        try have h62n : x60.toInt = l1_2.toInt + 1 := by omega
        clear h62 q61
        refine kv_goto C 2 (kdec dk_cX10_again 15 rfl) (by decide) ?_
        exact ih2 w56 x60 I58 F59 (by omega) (by omega)
  refine kv_iconst C 1 rfl 0 (kdec dk_cX10_again 0 rfl) rfl ?_
  refine kv_istore_n C 2 rfl 1 [1, 0] [(0, .ref (ρ 61)), (1, .int 0)] (kdec dk_cX10_again 1 rfl) rfl (by decide) rfl ?_
  exact cut2 ((((1025 - (0 : Int32).toInt)) : Int).toNat + 1) w 0 hI hF0 (by omega) (by omega)

set_option maxHeartbeats 4000000 in
set_option maxRecDepth 100000 in
theorem k_x_begins (l : Launch) (D : va_G) (τ : Nat → ClassId) (ρ σ : Nat → Nat) (w : kw)  (hI : kI false w)  :
    kM l D τ ρ σ yX10_begins cX10_begins 1 none { frames := 1, cells := 0, slots := 0, locals := 36 } [.ref (ρ 61)] w
      (fun o w' => o = none ∧ kI false w' ∧ kF [(61, some 12), (61, some 13), (61, some 14), (61, some 16), (61, some 17), (61, some 19), (61, some 20), (61, some 31), (64, none), (67, none), (68, none), (69, none), (70, none)] w w' ∧ ((w' 61 12).toInt = 1) ∧ ((w' 61 31).toInt = 0) ∧ ((w' 61 13).toInt = 0) ∧ kMoT w') := by
  refine kM_of (own := "TaleMachineModel") rfl (by decide) (Nat.le_of_ble_eq_true rfl) ?_
  intro p e s m args below meth c C hr hlk
  have hF0 : kF [(61, some 12), (61, some 13), (61, some 14), (61, some 16), (61, some 17), (61, some 19), (61, some 20), (61, some 31), (64, none), (67, none), (68, none), (69, none), (70, none)] w w := kF.rf
  have c_0 : (0 : Int32).toInt = 0 := by decide
  have c_1 : (1 : Int32).toInt = 1 := by decide
  refine kV.L (L' := [(0, .ref (ρ 61))]) rfl ?_
  refine kv_aload_n C 1 rfl 0 (kdec dk_cX10_begins 0 rfl) rfl rfl ?_
  refine kv_callVv (As := []) (rest := []) C 4 rfl 61 (k_x_again l D τ ρ σ w  hI ) rfl rfl mml_TaleMachineModel_145 mim_yX10_again mse_yX10_again mcd_yX10_again min_yX10_again hd_yX10_again rfl rfl rfl (by decide) rfl (Nat.le_of_ble_eq_true rfl) (kdec dk_cX10_begins 1 rfl) (fun w1 h2 => ?_)
  obtain ⟨I3, f4, M6⟩ := h2
  have F7 : kF [(61, some 12), (61, some 13), (61, some 14), (61, some 16), (61, some 17), (61, some 19), (61, some 20), (61, some 31), (64, none), (67, none), (68, none), (69, none), (70, none)] w w1 := kF_call hF0 f4 (by decide)
  obtain ⟨x8, e9⟩ : ∃ z : Int32, w1 61 20 = z := ⟨_, rfl⟩
  have b10 : (0 : Int) ≤ x8.toInt ∧ x8.toInt ≤ 20 := by rw [← e9]; exact I3 61 20
  have r11 := kMoT_fr M6
  rw [e9] at r11
  refine kv_aload_n C 5 rfl 0 (kdec dk_cX10_begins 2 rfl) rfl rfl ?_
  refine kv_iconst C 6 rfl 1 (kdec dk_cX10_begins 3 rfl) rfl ?_
  refine kv_put C 9 rfl 61 12 rfl rfl inX10 (by decide) mfl_TaleMachineModel_112 rfl tyX10 tyX10_ok nmX10 rfl rfl (kdec dk_cX10_begins 4 rfl) rfl rfl (fun w12 u13 => ?_)
  have I14 : kI false w12 := kI_put u13 I3 (show (0 : Int) ≤ (1 : Int32).toInt by omega) (show (1 : Int32).toInt ≤ 4 by omega)
  have F15 : kF [(61, some 12), (61, some 13), (61, some 14), (61, some 16), (61, some 17), (61, some 19), (61, some 20), (61, some 31), (64, none), (67, none), (68, none), (69, none), (70, none)] w w12 := kF_put u13 F7 rfl
  have M16 : kMoT w12 := kMoT_put u13 M6 rfl rfl rfl
  refine kv_aload_n C 10 rfl 0 (kdec dk_cX10_begins 5 rfl) rfl rfl ?_
  refine kv_iconst C 11 rfl 0 (kdec dk_cX10_begins 6 rfl) rfl ?_
  refine kv_put C 14 rfl 61 13 rfl rfl inX10 (by decide) mfl_TaleMachineModel_148 rfl tyX10 tyX10_ok nmX10 rfl rfl (kdec dk_cX10_begins 7 rfl) rfl rfl (fun w17 u18 => ?_)
  have I19 : kI false w17 := kI_put u18 I14 (show (0 : Int) ≤ (0 : Int32).toInt by omega) (show (0 : Int32).toInt ≤ 13 by omega)
  have F20 : kF [(61, some 12), (61, some 13), (61, some 14), (61, some 16), (61, some 17), (61, some 19), (61, some 20), (61, some 31), (64, none), (67, none), (68, none), (69, none), (70, none)] w w17 := kF_put u18 F15 rfl
  have M21 : kMoT w17 := kMoT_put u18 M16 rfl rfl rfl
  refine kv_aload_n C 15 rfl 0 (kdec dk_cX10_begins 8 rfl) rfl rfl ?_
  refine kv_iconst C 16 rfl 0 (kdec dk_cX10_begins 9 rfl) rfl ?_
  refine kv_put C 19 rfl 61 16 rfl rfl inX10 (by decide) mfl_TaleMachineModel_151 rfl tyX10 tyX10_ok nmX10 rfl rfl (kdec dk_cX10_begins 10 rfl) rfl rfl (fun w22 u23 => ?_)
  have I24 : kI false w22 := kI_put u23 I19 (kf_rng _).1 (kf_rng _).2
  have F25 : kF [(61, some 12), (61, some 13), (61, some 14), (61, some 16), (61, some 17), (61, some 19), (61, some 20), (61, some 31), (64, none), (67, none), (68, none), (69, none), (70, none)] w w22 := kF_put u23 F20 rfl
  have M26 : kMoT w22 := kMoT_put u23 M21 rfl rfl rfl
  refine kv_aload_n C 20 rfl 0 (kdec dk_cX10_begins 11 rfl) rfl rfl ?_
  refine kv_iconst C 21 rfl 1 (kdec dk_cX10_begins 12 rfl) rfl ?_
  refine kv_put C 24 rfl 61 17 rfl rfl inX10 (by decide) mfl_TaleMachineModel_154 rfl tyX10 tyX10_ok nmX10 rfl rfl (kdec dk_cX10_begins 13 rfl) rfl rfl (fun w27 u28 => ?_)
  have I29 : kI false w27 := kI_put u28 I24 (kf_rng _).1 (kf_rng _).2
  have F30 : kF [(61, some 12), (61, some 13), (61, some 14), (61, some 16), (61, some 17), (61, some 19), (61, some 20), (61, some 31), (64, none), (67, none), (68, none), (69, none), (70, none)] w w27 := kF_put u28 F25 rfl
  have M31 : kMoT w27 := kMoT_put u28 M26 rfl rfl rfl
  refine kv_aload_n C 25 rfl 0 (kdec dk_cX10_begins 14 rfl) rfl rfl ?_
  refine kv_iconst C 26 rfl 0 (kdec dk_cX10_begins 15 rfl) rfl ?_
  refine kv_put C 29 rfl 61 31 rfl rfl inX10 (by decide) mfl_TaleMachineModel_157 rfl tyX10 tyX10_ok nmX10 rfl rfl (kdec dk_cX10_begins 16 rfl) rfl rfl (fun w32 u33 => ?_)
  have I34 : kI false w32 := kI_put u33 I29 (show (0 : Int) ≤ (0 : Int32).toInt by omega) (show (0 : Int32).toInt ≤ 2147483647 by omega)
  have F35 : kF [(61, some 12), (61, some 13), (61, some 14), (61, some 16), (61, some 17), (61, some 19), (61, some 20), (61, some 31), (64, none), (67, none), (68, none), (69, none), (70, none)] w w32 := kF_put u33 F30 rfl
  have M36 : kMoT w32 := kMoT_put u33 M31 rfl rfl rfl
  have e37 : w32 61 12 = 1 := ((kup_ne u33 rfl : w32 61 12 = w27 61 12).trans ((kup_ne u28 rfl : w27 61 12 = w22 61 12).trans ((kup_ne u23 rfl : w22 61 12 = w17 61 12).trans ((kup_ne u18 rfl : w17 61 12 = w12 61 12).trans (kup_eq u13)))))
  have e38 : w32 61 13 = 0 := ((kup_ne u33 rfl : w32 61 13 = w27 61 13).trans ((kup_ne u28 rfl : w27 61 13 = w22 61 13).trans ((kup_ne u23 rfl : w22 61 13 = w17 61 13).trans (kup_eq u18))))
  exact kv_vret C hr hlk (kdec dk_cX10_begins 17 rfl) ⟨rfl, I34, F35, (by rw [e37]; try omega), (by rw [(kup_eq u33)]; try omega), (by rw [e38]; try omega), M36⟩

set_option maxHeartbeats 4000000 in
set_option maxRecDepth 100000 in
theorem k_x_pop (l : Launch) (D : va_G) (τ : Nat → ClassId) (ρ σ : Nat → Nat) (w : kw)  (hI : kI false w) (hM : kMoT w) :
    kM l D τ ρ σ yX10_pop cX10_pop 1 (some .int) { frames := 1, cells := 0, slots := 0, locals := 36 } [.ref (ρ 61)] w
      (fun o w' => ∃ r : Int32, o = some (.int r) ∧ kI false w' ∧ kF [(61, some 13), (61, some 19)] w w' ∧ (0 ≤ r.toInt ∧ r.toInt ≤ 65535) ∧ kMoT w') := by
  refine kM_of (own := "TaleMachineModel") rfl (by decide) (Nat.le_of_ble_eq_true rfl) ?_
  intro p e s m args below meth c C hr hlk
  have hF0 : kF [(61, some 13), (61, some 19)] w w := kF.rf
  have c_0 : (0 : Int32).toInt = 0 := by decide
  have c_1 : (1 : Int32).toInt = 1 := by decide
  have c_4 : (4 : Int32).toInt = 4 := by decide
  refine kV.L (L' := [(0, .ref (ρ 61))]) rfl ?_
  obtain ⟨x1, e2⟩ : ∃ z : Int32, w 61 20 = z := ⟨_, rfl⟩
  have b3 : (0 : Int) ≤ x1.toInt ∧ x1.toInt ≤ 20 := by rw [← e2]; exact hI 61 20
  have r4 := kMoT_fr hM
  rw [e2] at r4
  refine kv_aload_n C 1 rfl 0 (kdec dk_cX10_pop 0 rfl) rfl rfl ?_
  obtain ⟨x5, e6⟩ : ∃ z : Int32, w 61 19 = z := ⟨_, rfl⟩
  have b7 : (0 : Int) ≤ x5.toInt ∧ x5.toInt ≤ 120 := by rw [← e6]; exact hI 61 19
  refine kv_get C 4 rfl 61 19 rfl rfl inX10 (by decide) mfl_TaleMachineModel_136 rfl rfl (kdec dk_cX10_pop 1 rfl) e6 ?_
  refine kv_aload_n C 5 rfl 0 (kdec dk_cX10_pop 2 rfl) rfl rfl ?_
  refine kv_getr C 8 rfl 61 21 rfl rfl inX10 (by decide) mfl_TaleMachineModel_25 rfl rfl (kdec dk_cX10_pop 3 rfl) ?_
  refine kv_aload_n C 9 rfl 0 (kdec dk_cX10_pop 4 rfl) rfl rfl ?_
  refine kv_get C 12 rfl 61 20 rfl rfl inX10 (by decide) mfl_TaleMachineModel_139 rfl rfl (kdec dk_cX10_pop 5 rfl) e2 ?_
  refine kv_iconst C 13 rfl 1 (kdec dk_cX10_pop 6 rfl) rfl ?_
  refine kv_isub C 14 rfl (kdec dk_cX10_pop 7 rfl) (fun x8 q10 h9e h9 h9l h9u => ?_)
  try have h9n : x8.toInt = x1.toInt - (1 : Int32).toInt := by omega
  clear h9 q10
  obtain ⟨x11, e12⟩ : ∃ z : Int32, w 67 (x8 : Int32).toNatClampNeg = z := ⟨_, rfl⟩
  have b13 : (0 : Int) ≤ x11.toInt ∧ x11.toInt ≤ 120 := by rw [← e12]; exact hI 67 _
  refine kv_iald C 15 rfl 67 rfl (by omega) (by omega) e12 (kdec dk_cX10_pop 8 rfl) ?_
  try have t14 := kMoT_top hM (x := x8) (by rw [e2]; omega) e12
  try rw [e6] at t14
  refine kv_icmp_ne C 18 rfl 25 (kdec dk_cX10_pop 9 rfl) (by decide) (fun d15 => ?_) (fun d15 => ?_)
  · skip
    refine kv_aload_n C 26 rfl 0 (kdec dk_cX10_pop 15 rfl) rfl rfl ?_
    refine kv_dup C 27 rfl (kdec dk_cX10_pop 16 rfl) rfl ?_
    refine kv_get C 30 rfl 61 19 rfl rfl inX10 (by decide) mfl_TaleMachineModel_136 rfl rfl (kdec dk_cX10_pop 17 rfl) e6 ?_
    refine kv_iconst C 31 rfl 1 (kdec dk_cX10_pop 18 rfl) rfl ?_
    refine kv_isub C 32 rfl (kdec dk_cX10_pop 19 rfl) (fun x16 q18 h17e h17 h17l h17u => ?_)
    try have h17n : x16.toInt = x5.toInt - (1 : Int32).toInt := by omega
    clear h17 q18
    refine kv_put C 35 rfl 61 19 rfl rfl inX10 (by decide) mfl_TaleMachineModel_136 rfl tyX10 tyX10_ok nmX10 rfl rfl (kdec dk_cX10_pop 20 rfl) rfl rfl (fun w19 u20 => ?_)
    have I21 : kI false w19 := kI_put u20 hI (show (0 : Int) ≤ (x16 : Int32).toInt by omega) (show (x16 : Int32).toInt ≤ 120 by omega)
    have F22 : kF [(61, some 13), (61, some 19)] w w19 := kF_put u20 hF0 rfl
    have M23 : kMoT w19 := kMoT_pop hM u20 (x := x8) (by rw [e2]; omega) e12 (by omega)
    refine kv_aload_n C 36 rfl 0 (kdec dk_cX10_pop 21 rfl) rfl rfl ?_
    refine kv_getr C 39 rfl 61 18 rfl rfl inX10 (by decide) mfl_TaleMachineModel_22 rfl rfl (kdec dk_cX10_pop 22 rfl) ?_
    refine kv_aload_n C 40 rfl 0 (kdec dk_cX10_pop 23 rfl) rfl rfl ?_
    refine kv_get C 43 rfl 61 19 rfl rfl inX10 (by decide) mfl_TaleMachineModel_136 rfl rfl (kdec dk_cX10_pop 24 rfl) (kup_eq u20) ?_
    obtain ⟨x24, e25⟩ : ∃ z : Int32, w19 66 (x16 : Int32).toNatClampNeg = z := ⟨_, rfl⟩
    have b26 : (0 : Int) ≤ x24.toInt ∧ x24.toInt ≤ 65535 := by rw [← e25]; exact I21 66 _
    refine kv_iald C 44 rfl 66 rfl (by omega) (by omega) e25 (kdec dk_cX10_pop 25 rfl) ?_
    exact kv_iret C hr hlk (kdec dk_cX10_pop 26 rfl) ⟨_, rfl, I21, F22, (by omega), M23⟩
  · skip
    refine kv_aload_n C 19 rfl 0 (kdec dk_cX10_pop 10 rfl) rfl rfl ?_
    refine kv_iconst C 20 rfl 4 (kdec dk_cX10_pop 11 rfl) rfl ?_
    refine kv_callVv (As := [.int 4]) (rest := []) C 23 rfl 61 (k_x_halts l D τ ρ σ w 4 hI (by omega)) rfl rfl mml_TaleMachineModel_160 mim_yX10_halts mse_yX10_halts mcd_yX10_halts min_yX10_halts hd_yX10_halts rfl rfl rfl (by decide) rfl (Nat.le_of_ble_eq_true rfl) (kdec dk_cX10_pop 12 rfl) (fun w27 h28 => ?_)
    obtain ⟨I29, f30, p32⟩ := h28
    have F33 : kF [(61, some 13), (61, some 19)] w w27 := kF_call hF0 f30 (by decide)
    have M34 : kMoT w27 := kMoT_kF f30 hM rfl rfl (fun _ => rfl)
    obtain ⟨x35, e36⟩ : ∃ z : Int32, w 61 13 = z := ⟨_, rfl⟩
    have b37 : (0 : Int) ≤ x35.toInt ∧ x35.toInt ≤ 13 := by rw [← e36]; exact hI 61 13
    obtain ⟨x38, e39⟩ : ∃ z : Int32, w27 61 13 = z := ⟨_, rfl⟩
    have b40 : (0 : Int) ≤ x38.toInt ∧ x38.toInt ≤ 13 := by rw [← e39]; exact I29 61 13
    rw [e36, e39] at p32
    refine kv_iconst C 24 rfl 0 (kdec dk_cX10_pop 13 rfl) rfl ?_
    exact kv_iret C hr hlk (kdec dk_cX10_pop 14 rfl) ⟨_, rfl, I29, F33, (by omega), M34⟩

set_option maxHeartbeats 4000000 in
set_option maxRecDepth 100000 in
theorem k_x_push (l : Launch) (D : va_G) (τ : Nat → ClassId) (ρ σ : Nat → Nat) (w : kw) (a1 : Int32) (hI : kI false w) (hp0 : 0 ≤ a1.toInt ∧ a1.toInt ≤ 65535) (hM : kMoT w) :
    kM l D τ ρ σ yX10_push cX10_push 2 none { frames := 1, cells := 0, slots := 0, locals := 36 } [.ref (ρ 61), .int a1] w
      (fun o w' => o = none ∧ kI false w' ∧ kF [(61, some 13), (61, some 19), (66, none)] w w' ∧ kMoT w') := by
  refine kM_of (own := "TaleMachineModel") rfl (by decide) (Nat.le_of_ble_eq_true rfl) ?_
  intro p e s m args below meth c C hr hlk
  have hF0 : kF [(61, some 13), (61, some 19), (66, none)] w w := kF.rf
  have c_1 : (1 : Int32).toInt = 1 := by decide
  have c_3 : (3 : Int32).toInt = 3 := by decide
  have c_120 : (120 : Int32).toInt = 120 := by decide
  refine kV.L (L' := [(0, .ref (ρ 61)), (1, .int a1)]) rfl ?_
  have g1 := kf_rng a1
  obtain ⟨x2, e3⟩ : ∃ z : Int32, w 61 20 = z := ⟨_, rfl⟩
  have b4 : (0 : Int) ≤ x2.toInt ∧ x2.toInt ≤ 20 := by rw [← e3]; exact hI 61 20
  have r5 := kMoT_fr hM
  rw [e3] at r5
  refine kv_aload_n C 1 rfl 0 (kdec dk_cX10_push 0 rfl) rfl rfl ?_
  obtain ⟨x6, e7⟩ : ∃ z : Int32, w 61 19 = z := ⟨_, rfl⟩
  have b8 : (0 : Int) ≤ x6.toInt ∧ x6.toInt ≤ 120 := by rw [← e7]; exact hI 61 19
  refine kv_get C 4 rfl 61 19 rfl rfl inX10 (by decide) mfl_TaleMachineModel_136 rfl rfl (kdec dk_cX10_push 1 rfl) e7 ?_
  refine kv_bipush C 6 rfl 120 (kdec dk_cX10_push 2 rfl) rfl ?_
  refine kv_icmp_ne C 9 rfl 17 (kdec dk_cX10_push 3 rfl) (by decide) (fun d9 => ?_) (fun d9 => ?_)
  · skip
    refine kv_aload_n C 18 rfl 0 (kdec dk_cX10_push 8 rfl) rfl rfl ?_
    refine kv_getr C 21 rfl 61 18 rfl rfl inX10 (by decide) mfl_TaleMachineModel_22 rfl rfl (kdec dk_cX10_push 9 rfl) ?_
    refine kv_aload_n C 22 rfl 0 (kdec dk_cX10_push 10 rfl) rfl rfl ?_
    refine kv_get C 25 rfl 61 19 rfl rfl inX10 (by decide) mfl_TaleMachineModel_136 rfl rfl (kdec dk_cX10_push 11 rfl) e7 ?_
    refine kv_iload_n C 26 rfl 1 (kdec dk_cX10_push 12 rfl) rfl rfl ?_
    refine kv_iast C 27 rfl 66 rfl (by omega) (by omega) (kdec dk_cX10_push 13 rfl) (fun w10 u11 => ?_)
    have I12 : kI false w10 := kI_put u11 hI (show (0 : Int) ≤ (a1 : Int32).toInt by omega) (show (a1 : Int32).toInt ≤ 65535 by omega)
    have F13 : kF [(61, some 13), (61, some 19), (66, none)] w w10 := kF_put u11 hF0 rfl
    have M14 : kMoT w10 := kMoT_put u11 hM rfl rfl rfl
    refine kv_aload_n C 28 rfl 0 (kdec dk_cX10_push 14 rfl) rfl rfl ?_
    refine kv_dup C 29 rfl (kdec dk_cX10_push 15 rfl) rfl ?_
    have e15 : w10 61 19 = x6 := ((kup_ne u11 rfl : w10 61 19 = w 61 19).trans e7)
    refine kv_get C 32 rfl 61 19 rfl rfl inX10 (by decide) mfl_TaleMachineModel_136 rfl rfl (kdec dk_cX10_push 16 rfl) e15 ?_
    refine kv_iconst C 33 rfl 1 (kdec dk_cX10_push 17 rfl) rfl ?_
    refine kv_iadd C 34 rfl (kdec dk_cX10_push 18 rfl) (fun x16 q18 h17e h17 h17l h17u => ?_)
    try have h17n : x16.toInt = x6.toInt + (1 : Int32).toInt := by omega
    clear h17 q18
    refine kv_put C 37 rfl 61 19 rfl rfl inX10 (by decide) mfl_TaleMachineModel_136 rfl tyX10 tyX10_ok nmX10 rfl rfl (kdec dk_cX10_push 19 rfl) rfl rfl (fun w19 u20 => ?_)
    have I21 : kI false w19 := kI_put u20 I12 (show (0 : Int) ≤ (x16 : Int32).toInt by omega) (show (x16 : Int32).toInt ≤ 120 by omega)
    have F22 : kF [(61, some 13), (61, some 19), (66, none)] w w19 := kF_put u20 F13 rfl
    have M23 : kMoT w19 := kMoT_up M14 u20 (by rw [e15]; omega)
    exact kv_vret C hr hlk (kdec dk_cX10_push 20 rfl) ⟨rfl, I21, F22, M23⟩
  · skip
    refine kv_aload_n C 10 rfl 0 (kdec dk_cX10_push 4 rfl) rfl rfl ?_
    refine kv_iconst C 11 rfl 3 (kdec dk_cX10_push 5 rfl) rfl ?_
    refine kv_callVv (As := [.int 3]) (rest := []) C 14 rfl 61 (k_x_halts l D τ ρ σ w 3 hI (by omega)) rfl rfl mml_TaleMachineModel_160 mim_yX10_halts mse_yX10_halts mcd_yX10_halts min_yX10_halts hd_yX10_halts rfl rfl rfl (by decide) rfl (Nat.le_of_ble_eq_true rfl) (kdec dk_cX10_push 6 rfl) (fun w24 h25 => ?_)
    obtain ⟨I26, f27, p29⟩ := h25
    have F30 : kF [(61, some 13), (61, some 19), (66, none)] w w24 := kF_call hF0 f27 (by decide)
    have M31 : kMoT w24 := kMoT_kF f27 hM rfl rfl (fun _ => rfl)
    obtain ⟨x32, e33⟩ : ∃ z : Int32, w 61 13 = z := ⟨_, rfl⟩
    have b34 : (0 : Int) ≤ x32.toInt ∧ x32.toInt ≤ 13 := by rw [← e33]; exact hI 61 13
    obtain ⟨x35, e36⟩ : ∃ z : Int32, w24 61 13 = z := ⟨_, rfl⟩
    have b37 : (0 : Int) ≤ x35.toInt ∧ x35.toInt ≤ 13 := by rw [← e36]; exact I26 61 13
    rw [e33, e36] at p29
    refine kv_goto C 37 (kdec dk_cX10_push 7 rfl) (by decide) ?_
    exact kv_vret C hr hlk (kdec dk_cX10_push 20 rfl) ⟨rfl, I26, F30, M31⟩

set_option maxHeartbeats 4000000 in
set_option maxRecDepth 100000 in
theorem k_x_get (l : Launch) (D : va_G) (τ : Nat → ClassId) (ρ σ : Nat → Nat) (w : kw) (a1 : Int32) (hI : kI false w) (hp0 : 0 ≤ a1.toInt) (hM : kMoT w) :
    kM l D τ ρ σ yX10_get cX10_get 2 (some .int) { frames := 3, cells := 0, slots := 0, locals := 108 } [.ref (ρ 61), .int a1] w
      (fun o w' => ∃ r : Int32, o = some (.int r) ∧ kI false w' ∧ kF [(61, some 13), (61, some 19)] w w' ∧ (0 ≤ r.toInt ∧ r.toInt ≤ 65535) ∧ kMoT w') := by
  refine kM_of (own := "TaleMachineModel") rfl (by decide) (Nat.le_of_ble_eq_true rfl) ?_
  intro p e s m args below meth c C hr hlk
  have hF0 : kF [(61, some 13), (61, some 19)] w w := kF.rf
  have c_0 : (0 : Int32).toInt = 0 := by decide
  have c_1 : (1 : Int32).toInt = 1 := by decide
  have c_2 : (2 : Int32).toInt = 2 := by decide
  have c_5 : (5 : Int32).toInt = 5 := by decide
  have c_16 : (16 : Int32).toInt = 16 := by decide
  refine kV.L (L' := [(0, .ref (ρ 61)), (1, .int a1)]) rfl ?_
  have g1 := kf_rng a1
  obtain ⟨x2, e3⟩ : ∃ z : Int32, w 61 20 = z := ⟨_, rfl⟩
  have b4 : (0 : Int) ≤ x2.toInt ∧ x2.toInt ≤ 20 := by rw [← e3]; exact hI 61 20
  have r5 := kMoT_fr hM
  rw [e3] at r5
  refine kv_iload_n C 1 rfl 1 (kdec dk_cX10_get 0 rfl) rfl rfl ?_
  refine kv_if_ne C 4 rfl 9 (kdec dk_cX10_get 1 rfl) (by decide) (fun d6 => ?_) (fun d6 => ?_)
  · skip
    refine kv_iload_n C 10 rfl 1 (kdec dk_cX10_get 5 rfl) rfl rfl ?_
    refine kv_bipush C 12 rfl 16 (kdec dk_cX10_get 6 rfl) rfl ?_
    refine kv_icmp_ge C 15 rfl 54 (kdec dk_cX10_get 7 rfl) (by decide) (fun d7 => ?_) (fun d7 => ?_)
    · skip
      refine kv_aload_n C 55 rfl 0 (kdec dk_cX10_get 34 rfl) rfl rfl ?_
      refine kv_aload_n C 56 rfl 0 (kdec dk_cX10_get 35 rfl) rfl rfl ?_
      obtain ⟨x8, e9⟩ : ∃ z : Int32, w 61 10 = z := ⟨_, rfl⟩
      have b10 : (0 : Int) ≤ x8.toInt ∧ x8.toInt ≤ 65535 := by rw [← e9]; exact hI 61 10
      refine kv_get C 59 rfl 61 10 rfl rfl inX10 (by decide) mfl_TaleMachineModel_127 rfl rfl (kdec dk_cX10_get 36 rfl) e9 ?_
      refine kv_iconst C 60 rfl 2 (kdec dk_cX10_get 37 rfl) rfl ?_
      refine kv_iload_n C 61 rfl 1 (kdec dk_cX10_get 38 rfl) rfl rfl ?_
      refine kv_bipush C 63 rfl 16 (kdec dk_cX10_get 39 rfl) rfl ?_
      refine kv_isub C 64 rfl (kdec dk_cX10_get 40 rfl) (fun x11 q13 h12e h12 h12l h12u => ?_)
      try have h12n : x11.toInt = a1.toInt - (16 : Int32).toInt := by omega
      clear h12 q13
      refine kv_imul C 65 rfl (kdec dk_cX10_get 41 rfl) (fun x14 h15e h15l h15u => ?_)
      obtain ⟨q16, g17⟩ := kf_mul 2 x11
      rw [← h15e, c_2] at g17
      try have h15n : x14.toInt = 2 * x11.toInt := by omega
      clear g17 q16
      refine kv_iadd C 66 rfl (kdec dk_cX10_get 42 rfl) (fun x18 q20 h19e h19 h19l h19u => ?_)
      try have h19n : x18.toInt = x8.toInt + x14.toInt := by omega
      clear h19 q20
      refine kv_callVi (As := [.int x18]) (rest := []) C 69 rfl 61 (k_x_wordAt l D τ ρ σ w x18 hI ) rfl rfl mml_TaleMachineModel_178 mim_yX10_wordAt mse_yX10_wordAt mcd_yX10_wordAt min_yX10_wordAt hd_yX10_wordAt rfl rfl rfl (by decide) rfl (Nat.le_of_ble_eq_true rfl) (kdec dk_cX10_get 43 rfl) (fun x25 w21 h22 => ?_)
      obtain ⟨I23, f24, p26, p27⟩ := h22
      have F28 : kF [(61, some 13), (61, some 19)] w w21 := kF_call hF0 f24 (by decide)
      have M29 : kMoT w21 := kMoT_kF f24 hM rfl rfl (fun _ => rfl)
      have g30 := kf_rng x25
      obtain ⟨x31, e32⟩ : ∃ z : Int32, w 61 13 = z := ⟨_, rfl⟩
      have b33 : (0 : Int) ≤ x31.toInt ∧ x31.toInt ≤ 13 := by rw [← e32]; exact hI 61 13
      obtain ⟨x34, e35⟩ : ∃ z : Int32, w21 61 13 = z := ⟨_, rfl⟩
      have b36 : (0 : Int) ≤ x34.toInt ∧ x34.toInt ≤ 13 := by rw [← e35]; exact I23 61 13
      rw [e32, e35] at p27
      exact kv_iret C hr hlk (kdec dk_cX10_get 44 rfl) ⟨_, rfl, I23, F28, (by omega), M29⟩
    · skip
      refine kv_iload_n C 16 rfl 1 (kdec dk_cX10_get 8 rfl) rfl rfl ?_
      refine kv_aload_n C 17 rfl 0 (kdec dk_cX10_get 9 rfl) rfl rfl ?_
      refine kv_getr C 20 rfl 61 24 rfl rfl inX10 (by decide) mfl_TaleMachineModel_34 rfl rfl (kdec dk_cX10_get 10 rfl) ?_
      refine kv_aload_n C 21 rfl 0 (kdec dk_cX10_get 11 rfl) rfl rfl ?_
      refine kv_get C 24 rfl 61 20 rfl rfl inX10 (by decide) mfl_TaleMachineModel_139 rfl rfl (kdec dk_cX10_get 12 rfl) e3 ?_
      refine kv_iconst C 25 rfl 1 (kdec dk_cX10_get 13 rfl) rfl ?_
      refine kv_isub C 26 rfl (kdec dk_cX10_get 14 rfl) (fun x37 q39 h38e h38 h38l h38u => ?_)
      try have h38n : x37.toInt = x2.toInt - (1 : Int32).toInt := by omega
      clear h38 q39
      obtain ⟨x40, e41⟩ : ∃ z : Int32, w 70 (x37 : Int32).toNatClampNeg = z := ⟨_, rfl⟩
      have b42 : (0 : Int) ≤ x40.toInt ∧ x40.toInt ≤ 15 := by rw [← e41]; exact hI 70 _
      refine kv_iald C 27 rfl 70 rfl (by omega) (by omega) e41 (kdec dk_cX10_get 15 rfl) ?_
      refine kv_icmp_le C 30 rfl 37 (kdec dk_cX10_get 16 rfl) (by decide) (fun d43 => ?_) (fun d43 => ?_)
      · skip
        refine kv_aload_n C 38 rfl 0 (kdec dk_cX10_get 22 rfl) rfl rfl ?_
        refine kv_getr C 41 rfl 61 25 rfl rfl inX10 (by decide) mfl_TaleMachineModel_37 rfl rfl (kdec dk_cX10_get 23 rfl) ?_
        refine kv_bipush C 43 rfl 16 (kdec dk_cX10_get 24 rfl) rfl ?_
        refine kv_aload_n C 44 rfl 0 (kdec dk_cX10_get 25 rfl) rfl rfl ?_
        refine kv_get C 47 rfl 61 20 rfl rfl inX10 (by decide) mfl_TaleMachineModel_139 rfl rfl (kdec dk_cX10_get 26 rfl) e3 ?_
        refine kv_iconst C 48 rfl 1 (kdec dk_cX10_get 27 rfl) rfl ?_
        refine kv_isub C 49 rfl (kdec dk_cX10_get 28 rfl) (fun x44 q46 h45e h45 h45l h45u => ?_)
        try have h45n : x44.toInt = x2.toInt - (1 : Int32).toInt := by omega
        clear h45 q46
        have h45q : x37 = x44 := h38e.trans h45e.symm
        subst h45q
        refine kv_imul C 50 rfl (kdec dk_cX10_get 29 rfl) (fun x47 h48e h48l h48u => ?_)
        obtain ⟨q49, g50⟩ := kf_mul 16 x37
        rw [← h48e, c_16] at g50
        try have h48n : x47.toInt = 16 * x37.toInt := by omega
        clear g50 q49
        refine kv_iload_n C 51 rfl 1 (kdec dk_cX10_get 30 rfl) rfl rfl ?_
        refine kv_iadd C 52 rfl (kdec dk_cX10_get 31 rfl) (fun x51 q53 h52e h52 h52l h52u => ?_)
        try have h52n : x51.toInt = x47.toInt + a1.toInt := by omega
        clear h52 q53
        obtain ⟨x54, e55⟩ : ∃ z : Int32, w 71 (x51 : Int32).toNatClampNeg = z := ⟨_, rfl⟩
        have b56 : (0 : Int) ≤ x54.toInt ∧ x54.toInt ≤ 65535 := by rw [← e55]; exact hI 71 _
        refine kv_iald C 53 rfl 71 rfl (by omega) (by omega) e55 (kdec dk_cX10_get 32 rfl) ?_
        exact kv_iret C hr hlk (kdec dk_cX10_get 33 rfl) ⟨_, rfl, hI, hF0, (by omega), hM⟩
      · skip
        refine kv_aload_n C 31 rfl 0 (kdec dk_cX10_get 17 rfl) rfl rfl ?_
        refine kv_iconst C 32 rfl 5 (kdec dk_cX10_get 18 rfl) rfl ?_
        refine kv_callVv (As := [.int 5]) (rest := []) C 35 rfl 61 (k_x_halts l D τ ρ σ w 5 hI (by omega)) rfl rfl mml_TaleMachineModel_160 mim_yX10_halts mse_yX10_halts mcd_yX10_halts min_yX10_halts hd_yX10_halts rfl rfl rfl (by decide) rfl (Nat.le_of_ble_eq_true rfl) (kdec dk_cX10_get 19 rfl) (fun w57 h58 => ?_)
        obtain ⟨I59, f60, p62⟩ := h58
        have F63 : kF [(61, some 13), (61, some 19)] w w57 := kF_call hF0 f60 (by decide)
        have M64 : kMoT w57 := kMoT_kF f60 hM rfl rfl (fun _ => rfl)
        obtain ⟨x65, e66⟩ : ∃ z : Int32, w 61 13 = z := ⟨_, rfl⟩
        have b67 : (0 : Int) ≤ x65.toInt ∧ x65.toInt ≤ 13 := by rw [← e66]; exact hI 61 13
        obtain ⟨x68, e69⟩ : ∃ z : Int32, w57 61 13 = z := ⟨_, rfl⟩
        have b70 : (0 : Int) ≤ x68.toInt ∧ x68.toInt ≤ 13 := by rw [← e69]; exact I59 61 13
        rw [e66, e69] at p62
        refine kv_iconst C 36 rfl 0 (kdec dk_cX10_get 20 rfl) rfl ?_
        exact kv_iret C hr hlk (kdec dk_cX10_get 21 rfl) ⟨_, rfl, I59, F63, (by omega), M64⟩
  · skip
    refine kv_aload_n C 5 rfl 0 (kdec dk_cX10_get 2 rfl) rfl rfl ?_
    refine kv_callVi (As := []) (rest := []) C 8 rfl 61 (k_x_pop l D τ ρ σ w  hI hM) rfl rfl mml_TaleMachineModel_174 mim_yX10_pop mse_yX10_pop mcd_yX10_pop min_yX10_pop hd_yX10_pop rfl rfl rfl (by decide) rfl (Nat.le_of_ble_eq_true rfl) (kdec dk_cX10_get 3 rfl) (fun x75 w71 h72 => ?_)
    obtain ⟨I73, f74, p76, M77⟩ := h72
    have F78 : kF [(61, some 13), (61, some 19)] w w71 := kF_call hF0 f74 (by decide)
    have e79 : w71 61 20 = x2 := ((f74 61 20 rfl : w71 61 20 = w 61 20).trans e3)
    have r80 := kMoT_fr M77
    rw [e79] at r80
    have g81 := kf_rng x75
    exact kv_iret C hr hlk (kdec dk_cX10_get 4 rfl) ⟨_, rfl, I73, F78, (by omega), M77⟩

set_option maxHeartbeats 4000000 in
set_option maxRecDepth 100000 in
theorem k_x_set (l : Launch) (D : va_G) (τ : Nat → ClassId) (ρ σ : Nat → Nat) (w : kw) (a1 : Int32) (a2 : Int32) (hI : kI false w) (hp0 : 0 ≤ a1.toInt) (hM : kMoT w) :
    kM l D τ ρ σ yX10_set cX10_set 4 none { frames := 3, cells := 0, slots := 0, locals := 108 } [.ref (ρ 61), .int a1, .int a2] w
      (fun o w' => o = none ∧ kI false w' ∧ kF [(61, some 13), (61, some 19), (64, none), (66, none), (71, none)] w w' ∧ kMoT w') := by
  refine kM_of (own := "TaleMachineModel") rfl (by decide) (Nat.le_of_ble_eq_true rfl) ?_
  intro p e s m args below meth c C hr hlk
  have hF0 : kF [(61, some 13), (61, some 19), (64, none), (66, none), (71, none)] w w := kF.rf
  have c_1 : (1 : Int32).toInt = 1 := by decide
  have c_2 : (2 : Int32).toInt = 2 := by decide
  have c_5 : (5 : Int32).toInt = 5 := by decide
  have c_15 : (15 : Int32).toInt = 15 := by decide
  have c_16 : (16 : Int32).toInt = 16 := by decide
  have c_65535 : (65535 : Int32).toInt = 65535 := by decide
  refine kV.L (L' := [(0, .ref (ρ 61)), (1, .int a1), (2, .int a2)]) rfl ?_
  have g1 := kf_rng a1
  have g2 := kf_rng a2
  obtain ⟨x3, e4⟩ : ∃ z : Int32, w 61 20 = z := ⟨_, rfl⟩
  have b5 : (0 : Int) ≤ x3.toInt ∧ x3.toInt ≤ 20 := by rw [← e4]; exact hI 61 20
  have r6 := kMoT_fr hM
  rw [e4] at r6
  refine kv_aload_n C 1 rfl 0 (kdec dk_cX10_set 0 rfl) rfl rfl ?_
  obtain ⟨x7, e8⟩ : ∃ z : Int32, w 61 13 = z := ⟨_, rfl⟩
  have b9 : (0 : Int) ≤ x7.toInt ∧ x7.toInt ≤ 13 := by rw [← e8]; exact hI 61 13
  refine kv_get C 4 rfl 61 13 rfl rfl inX10 (by decide) mfl_TaleMachineModel_148 rfl rfl (kdec dk_cX10_set 1 rfl) e8 ?_
  refine kv_if_le C 7 rfl 8 (kdec dk_cX10_set 2 rfl) (by decide) (fun d10 => ?_) (fun d10 => ?_)
  · skip
    refine kv_iload_n C 9 rfl 2 (kdec dk_cX10_set 4 rfl) rfl rfl ?_
    refine kv_ldc C 11 rfl 65535 (kdec dk_cX10_set 5 rfl) mco_TaleMachineModel_104 ?_
    refine kv_iand C 12 rfl (kdec dk_cX10_set 6 rfl) (fun x11 h12e h12l h12u => ?_)
    have g13 := kf_and65535 h12e
    refine kv_istore_n C 13 rfl 3 [1, 2, 3, 0] [(0, .ref (ρ 61)), (1, .int a1), (2, .int a2), (3, .int x11)] (kdec dk_cX10_set 7 rfl) rfl (by decide) rfl ?_
    refine kv_iload_n C 14 rfl 1 (kdec dk_cX10_set 8 rfl) rfl rfl ?_
    refine kv_if_ne C 17 rfl 25 (kdec dk_cX10_set 9 rfl) (by decide) (fun d14 => ?_) (fun d14 => ?_)
    · skip
      refine kv_iload_n C 26 rfl 1 (kdec dk_cX10_set 14 rfl) rfl rfl ?_
      refine kv_bipush C 28 rfl 15 (kdec dk_cX10_set 15 rfl) rfl ?_
      refine kv_icmp_le C 31 rfl 50 (kdec dk_cX10_set 16 rfl) (by decide) (fun d15 => ?_) (fun d15 => ?_)
      · skip
        refine kv_iload_n C 51 rfl 1 (kdec dk_cX10_set 29 rfl) rfl rfl ?_
        refine kv_aload_n C 52 rfl 0 (kdec dk_cX10_set 30 rfl) rfl rfl ?_
        refine kv_getr C 55 rfl 61 24 rfl rfl inX10 (by decide) mfl_TaleMachineModel_34 rfl rfl (kdec dk_cX10_set 31 rfl) ?_
        refine kv_aload_n C 56 rfl 0 (kdec dk_cX10_set 32 rfl) rfl rfl ?_
        refine kv_get C 59 rfl 61 20 rfl rfl inX10 (by decide) mfl_TaleMachineModel_139 rfl rfl (kdec dk_cX10_set 33 rfl) e4 ?_
        refine kv_iconst C 60 rfl 1 (kdec dk_cX10_set 34 rfl) rfl ?_
        refine kv_isub C 61 rfl (kdec dk_cX10_set 35 rfl) (fun x16 q18 h17e h17 h17l h17u => ?_)
        try have h17n : x16.toInt = x3.toInt - (1 : Int32).toInt := by omega
        clear h17 q18
        obtain ⟨x19, e20⟩ : ∃ z : Int32, w 70 (x16 : Int32).toNatClampNeg = z := ⟨_, rfl⟩
        have b21 : (0 : Int) ≤ x19.toInt ∧ x19.toInt ≤ 15 := by rw [← e20]; exact hI 70 _
        refine kv_iald C 62 rfl 70 rfl (by omega) (by omega) e20 (kdec dk_cX10_set 36 rfl) ?_
        refine kv_icmp_le C 65 rfl 73 (kdec dk_cX10_set 37 rfl) (by decide) (fun d22 => ?_) (fun d22 => ?_)
        · skip
          refine kv_aload_n C 74 rfl 0 (kdec dk_cX10_set 42 rfl) rfl rfl ?_
          refine kv_getr C 77 rfl 61 25 rfl rfl inX10 (by decide) mfl_TaleMachineModel_37 rfl rfl (kdec dk_cX10_set 43 rfl) ?_
          refine kv_bipush C 79 rfl 16 (kdec dk_cX10_set 44 rfl) rfl ?_
          refine kv_aload_n C 80 rfl 0 (kdec dk_cX10_set 45 rfl) rfl rfl ?_
          refine kv_get C 83 rfl 61 20 rfl rfl inX10 (by decide) mfl_TaleMachineModel_139 rfl rfl (kdec dk_cX10_set 46 rfl) e4 ?_
          refine kv_iconst C 84 rfl 1 (kdec dk_cX10_set 47 rfl) rfl ?_
          refine kv_isub C 85 rfl (kdec dk_cX10_set 48 rfl) (fun x23 q25 h24e h24 h24l h24u => ?_)
          try have h24n : x23.toInt = x3.toInt - (1 : Int32).toInt := by omega
          clear h24 q25
          have h24q : x16 = x23 := h17e.trans h24e.symm
          subst h24q
          refine kv_imul C 86 rfl (kdec dk_cX10_set 49 rfl) (fun x26 h27e h27l h27u => ?_)
          obtain ⟨q28, g29⟩ := kf_mul 16 x16
          rw [← h27e, c_16] at g29
          try have h27n : x26.toInt = 16 * x16.toInt := by omega
          clear g29 q28
          refine kv_iload_n C 87 rfl 1 (kdec dk_cX10_set 50 rfl) rfl rfl ?_
          refine kv_iadd C 88 rfl (kdec dk_cX10_set 51 rfl) (fun x30 q32 h31e h31 h31l h31u => ?_)
          try have h31n : x30.toInt = x26.toInt + a1.toInt := by omega
          clear h31 q32
          refine kv_iload_n C 89 rfl 3 (kdec dk_cX10_set 52 rfl) rfl rfl ?_
          refine kv_iast C 90 rfl 71 rfl (by omega) (by omega) (kdec dk_cX10_set 53 rfl) (fun w33 u34 => ?_)
          have I35 : kI false w33 := kI_put u34 hI (show (0 : Int) ≤ (x11 : Int32).toInt by omega) (show (x11 : Int32).toInt ≤ 65535 by omega)
          have F36 : kF [(61, some 13), (61, some 19), (64, none), (66, none), (71, none)] w w33 := kF_put u34 hF0 rfl
          have M37 : kMoT w33 := kMoT_put u34 hM rfl rfl rfl
          exact kv_vret C hr hlk (kdec dk_cX10_set 54 rfl) ⟨rfl, I35, F36, M37⟩
        · skip
          refine kv_aload_n C 66 rfl 0 (kdec dk_cX10_set 38 rfl) rfl rfl ?_
          refine kv_iconst C 67 rfl 5 (kdec dk_cX10_set 39 rfl) rfl ?_
          refine kv_callVv (As := [.int 5]) (rest := []) C 70 rfl 61 (k_x_halts l D τ ρ σ w 5 hI (by omega)) rfl rfl mml_TaleMachineModel_160 mim_yX10_halts mse_yX10_halts mcd_yX10_halts min_yX10_halts hd_yX10_halts rfl rfl rfl (by decide) rfl (Nat.le_of_ble_eq_true rfl) (kdec dk_cX10_set 40 rfl) (fun w38 h39 => ?_)
          obtain ⟨I40, f41, p43⟩ := h39
          have F44 : kF [(61, some 13), (61, some 19), (64, none), (66, none), (71, none)] w w38 := kF_call hF0 f41 (by decide)
          have M45 : kMoT w38 := kMoT_kF f41 hM rfl rfl (fun _ => rfl)
          obtain ⟨x46, e47⟩ : ∃ z : Int32, w38 61 13 = z := ⟨_, rfl⟩
          have b48 : (0 : Int) ≤ x46.toInt ∧ x46.toInt ≤ 13 := by rw [← e47]; exact I40 61 13
          rw [e8, e47] at p43
          refine kv_goto C 90 (kdec dk_cX10_set 41 rfl) (by decide) ?_
          exact kv_vret C hr hlk (kdec dk_cX10_set 54 rfl) ⟨rfl, I40, F44, M45⟩
      · skip
        refine kv_aload_n C 32 rfl 0 (kdec dk_cX10_set 17 rfl) rfl rfl ?_
        refine kv_aload_n C 33 rfl 0 (kdec dk_cX10_set 18 rfl) rfl rfl ?_
        obtain ⟨x49, e50⟩ : ∃ z : Int32, w 61 10 = z := ⟨_, rfl⟩
        have b51 : (0 : Int) ≤ x49.toInt ∧ x49.toInt ≤ 65535 := by rw [← e50]; exact hI 61 10
        refine kv_get C 36 rfl 61 10 rfl rfl inX10 (by decide) mfl_TaleMachineModel_127 rfl rfl (kdec dk_cX10_set 19 rfl) e50 ?_
        refine kv_iconst C 37 rfl 2 (kdec dk_cX10_set 20 rfl) rfl ?_
        refine kv_iload_n C 38 rfl 1 (kdec dk_cX10_set 21 rfl) rfl rfl ?_
        refine kv_bipush C 40 rfl 16 (kdec dk_cX10_set 22 rfl) rfl ?_
        refine kv_isub C 41 rfl (kdec dk_cX10_set 23 rfl) (fun x52 q54 h53e h53 h53l h53u => ?_)
        try have h53n : x52.toInt = a1.toInt - (16 : Int32).toInt := by omega
        clear h53 q54
        refine kv_imul C 42 rfl (kdec dk_cX10_set 24 rfl) (fun x55 h56e h56l h56u => ?_)
        obtain ⟨q57, g58⟩ := kf_mul 2 x52
        rw [← h56e, c_2] at g58
        try have h56n : x55.toInt = 2 * x52.toInt := by omega
        clear g58 q57
        refine kv_iadd C 43 rfl (kdec dk_cX10_set 25 rfl) (fun x59 q61 h60e h60 h60l h60u => ?_)
        try have h60n : x59.toInt = x49.toInt + x55.toInt := by omega
        clear h60 q61
        refine kv_iload_n C 44 rfl 3 (kdec dk_cX10_set 26 rfl) rfl rfl ?_
        refine kv_callVv (As := [.int x59, .int x11]) (rest := []) C 47 rfl 61 (k_x_putWord l D τ ρ σ w x59 x11 hI ) rfl rfl mml_TaleMachineModel_184 mim_yX10_putWord mse_yX10_putWord mcd_yX10_putWord min_yX10_putWord hd_yX10_putWord rfl rfl rfl (by decide) rfl (Nat.le_of_ble_eq_true rfl) (kdec dk_cX10_set 27 rfl) (fun w62 h63 => ?_)
        obtain ⟨I64, f65, p67⟩ := h63
        have F68 : kF [(61, some 13), (61, some 19), (64, none), (66, none), (71, none)] w w62 := kF_call hF0 f65 (by decide)
        have M69 : kMoT w62 := kMoT_kF f65 hM rfl rfl (fun _ => rfl)
        obtain ⟨x70, e71⟩ : ∃ z : Int32, w62 61 13 = z := ⟨_, rfl⟩
        have b72 : (0 : Int) ≤ x70.toInt ∧ x70.toInt ≤ 13 := by rw [← e71]; exact I64 61 13
        rw [e8, e71] at p67
        refine kv_goto C 90 (kdec dk_cX10_set 28 rfl) (by decide) ?_
        exact kv_vret C hr hlk (kdec dk_cX10_set 54 rfl) ⟨rfl, I64, F68, M69⟩
    · skip
      refine kv_aload_n C 18 rfl 0 (kdec dk_cX10_set 10 rfl) rfl rfl ?_
      refine kv_iload_n C 19 rfl 3 (kdec dk_cX10_set 11 rfl) rfl rfl ?_
      refine kv_callVv (As := [.int x11]) (rest := []) C 22 rfl 61 (k_x_push l D τ ρ σ w x11 hI (by omega) hM) rfl rfl mml_TaleMachineModel_181 mim_yX10_push mse_yX10_push mcd_yX10_push min_yX10_push hd_yX10_push rfl rfl rfl (by decide) rfl (Nat.le_of_ble_eq_true rfl) (kdec dk_cX10_set 12 rfl) (fun w73 h74 => ?_)
      obtain ⟨I75, f76, M78⟩ := h74
      have F79 : kF [(61, some 13), (61, some 19), (64, none), (66, none), (71, none)] w w73 := kF_call hF0 f76 (by decide)
      have e80 : w73 61 20 = x3 := ((f76 61 20 rfl : w73 61 20 = w 61 20).trans e4)
      have r81 := kMoT_fr M78
      rw [e80] at r81
      refine kv_goto C 90 (kdec dk_cX10_set 13 rfl) (by decide) ?_
      exact kv_vret C hr hlk (kdec dk_cX10_set 54 rfl) ⟨rfl, I75, F79, M78⟩
  · skip
    exact kv_vret C hr hlk (kdec dk_cX10_set 3 rfl) ⟨rfl, hI, hF0, hM⟩

set_option maxHeartbeats 4000000 in
set_option maxRecDepth 100000 in
theorem k_x_getNamed (l : Launch) (D : va_G) (τ : Nat → ClassId) (ρ σ : Nat → Nat) (w : kw) (a1 : Int32) (hI : kI false w) (hM : kMoT w) :
    kM l D τ ρ σ yX10_getNamed cX10_getNamed 3 (some .int) { frames := 4, cells := 0, slots := 0, locals := 144 } [.ref (ρ 61), .int a1] w
      (fun o w' => ∃ r : Int32, o = some (.int r) ∧ kI false w' ∧ kF [(61, some 13), (61, some 19)] w w' ∧ (0 ≤ r.toInt ∧ r.toInt ≤ 65535) ∧ kMoT w') := by
  refine kM_of (own := "TaleMachineModel") rfl (by decide) (Nat.le_of_ble_eq_true rfl) ?_
  intro p e s m args below meth c C hr hlk
  have hF0 : kF [(61, some 13), (61, some 19)] w w := kF.rf
  have c_0 : (0 : Int32).toInt = 0 := by decide
  have c_1 : (1 : Int32).toInt = 1 := by decide
  have c_4 : (4 : Int32).toInt = 4 := by decide
  have c_255 : (255 : Int32).toInt = 255 := by decide
  refine kV.L (L' := [(0, .ref (ρ 61)), (1, .int a1)]) rfl ?_
  have g1 := kf_rng a1
  obtain ⟨x2, e3⟩ : ∃ z : Int32, w 61 20 = z := ⟨_, rfl⟩
  have b4 : (0 : Int) ≤ x2.toInt ∧ x2.toInt ≤ 20 := by rw [← e3]; exact hI 61 20
  have r5 := kMoT_fr hM
  rw [e3] at r5
  refine kv_iload_n C 1 rfl 1 (kdec dk_cX10_getNamed 0 rfl) rfl rfl ?_
  refine kv_sipush C 4 rfl 255 (kdec dk_cX10_getNamed 1 rfl) rfl ?_
  refine kv_iand C 5 rfl (kdec dk_cX10_getNamed 2 rfl) (fun x6 h7e h7l h7u => ?_)
  have g8 := kf_and255 h7e
  refine kv_istore_n C 6 rfl 2 [1, 2, 0] [(0, .ref (ρ 61)), (1, .int a1), (2, .int x6)] (kdec dk_cX10_getNamed 3 rfl) rfl (by decide) rfl ?_
  refine kv_iload_n C 7 rfl 2 (kdec dk_cX10_getNamed 4 rfl) rfl rfl ?_
  refine kv_if_le C 10 rfl 16 (kdec dk_cX10_getNamed 5 rfl) (by decide) (fun d9 => ?_) (fun d9 => ?_)
  · skip
    refine kv_aload_n C 17 rfl 0 (kdec dk_cX10_getNamed 10 rfl) rfl rfl ?_
    obtain ⟨x10, e11⟩ : ∃ z : Int32, w 61 19 = z := ⟨_, rfl⟩
    have b12 : (0 : Int) ≤ x10.toInt ∧ x10.toInt ≤ 120 := by rw [← e11]; exact hI 61 19
    refine kv_get C 20 rfl 61 19 rfl rfl inX10 (by decide) mfl_TaleMachineModel_136 rfl rfl (kdec dk_cX10_getNamed 11 rfl) e11 ?_
    refine kv_aload_n C 21 rfl 0 (kdec dk_cX10_getNamed 12 rfl) rfl rfl ?_
    refine kv_getr C 24 rfl 61 21 rfl rfl inX10 (by decide) mfl_TaleMachineModel_25 rfl rfl (kdec dk_cX10_getNamed 13 rfl) ?_
    refine kv_aload_n C 25 rfl 0 (kdec dk_cX10_getNamed 14 rfl) rfl rfl ?_
    refine kv_get C 28 rfl 61 20 rfl rfl inX10 (by decide) mfl_TaleMachineModel_139 rfl rfl (kdec dk_cX10_getNamed 15 rfl) e3 ?_
    refine kv_iconst C 29 rfl 1 (kdec dk_cX10_getNamed 16 rfl) rfl ?_
    refine kv_isub C 30 rfl (kdec dk_cX10_getNamed 17 rfl) (fun x13 q15 h14e h14 h14l h14u => ?_)
    try have h14n : x13.toInt = x2.toInt - (1 : Int32).toInt := by omega
    clear h14 q15
    obtain ⟨x16, e17⟩ : ∃ z : Int32, w 67 (x13 : Int32).toNatClampNeg = z := ⟨_, rfl⟩
    have b18 : (0 : Int) ≤ x16.toInt ∧ x16.toInt ≤ 120 := by rw [← e17]; exact hI 67 _
    refine kv_iald C 31 rfl 67 rfl (by omega) (by omega) e17 (kdec dk_cX10_getNamed 18 rfl) ?_
    try have t19 := kMoT_top hM (x := x13) (by rw [e3]; omega) e17
    try rw [e11] at t19
    refine kv_icmp_ne C 34 rfl 41 (kdec dk_cX10_getNamed 19 rfl) (by decide) (fun d20 => ?_) (fun d20 => ?_)
    · skip
      refine kv_aload_n C 42 rfl 0 (kdec dk_cX10_getNamed 25 rfl) rfl rfl ?_
      refine kv_getr C 45 rfl 61 18 rfl rfl inX10 (by decide) mfl_TaleMachineModel_22 rfl rfl (kdec dk_cX10_getNamed 26 rfl) ?_
      refine kv_aload_n C 46 rfl 0 (kdec dk_cX10_getNamed 27 rfl) rfl rfl ?_
      refine kv_get C 49 rfl 61 19 rfl rfl inX10 (by decide) mfl_TaleMachineModel_136 rfl rfl (kdec dk_cX10_getNamed 28 rfl) e11 ?_
      refine kv_iconst C 50 rfl 1 (kdec dk_cX10_getNamed 29 rfl) rfl ?_
      refine kv_isub C 51 rfl (kdec dk_cX10_getNamed 30 rfl) (fun x21 q23 h22e h22 h22l h22u => ?_)
      try have h22n : x21.toInt = x10.toInt - (1 : Int32).toInt := by omega
      clear h22 q23
      obtain ⟨x24, e25⟩ : ∃ z : Int32, w 66 (x21 : Int32).toNatClampNeg = z := ⟨_, rfl⟩
      have b26 : (0 : Int) ≤ x24.toInt ∧ x24.toInt ≤ 65535 := by rw [← e25]; exact hI 66 _
      refine kv_iald C 52 rfl 66 rfl (by omega) (by omega) e25 (kdec dk_cX10_getNamed 31 rfl) ?_
      exact kv_iret C hr hlk (kdec dk_cX10_getNamed 32 rfl) ⟨_, rfl, hI, hF0, (by omega), hM⟩
    · skip
      refine kv_aload_n C 35 rfl 0 (kdec dk_cX10_getNamed 20 rfl) rfl rfl ?_
      refine kv_iconst C 36 rfl 4 (kdec dk_cX10_getNamed 21 rfl) rfl ?_
      refine kv_callVv (As := [.int 4]) (rest := []) C 39 rfl 61 (k_x_halts l D τ ρ σ w 4 hI (by omega)) rfl rfl mml_TaleMachineModel_160 mim_yX10_halts mse_yX10_halts mcd_yX10_halts min_yX10_halts hd_yX10_halts rfl rfl rfl (by decide) rfl (Nat.le_of_ble_eq_true rfl) (kdec dk_cX10_getNamed 22 rfl) (fun w27 h28 => ?_)
      obtain ⟨I29, f30, p32⟩ := h28
      have F33 : kF [(61, some 13), (61, some 19)] w w27 := kF_call hF0 f30 (by decide)
      have M34 : kMoT w27 := kMoT_kF f30 hM rfl rfl (fun _ => rfl)
      obtain ⟨x35, e36⟩ : ∃ z : Int32, w 61 13 = z := ⟨_, rfl⟩
      have b37 : (0 : Int) ≤ x35.toInt ∧ x35.toInt ≤ 13 := by rw [← e36]; exact hI 61 13
      obtain ⟨x38, e39⟩ : ∃ z : Int32, w27 61 13 = z := ⟨_, rfl⟩
      have b40 : (0 : Int) ≤ x38.toInt ∧ x38.toInt ≤ 13 := by rw [← e39]; exact I29 61 13
      rw [e36, e39] at p32
      refine kv_iconst C 40 rfl 0 (kdec dk_cX10_getNamed 23 rfl) rfl ?_
      exact kv_iret C hr hlk (kdec dk_cX10_getNamed 24 rfl) ⟨_, rfl, I29, F33, (by omega), M34⟩
  · skip
    refine kv_aload_n C 11 rfl 0 (kdec dk_cX10_getNamed 6 rfl) rfl rfl ?_
    refine kv_iload_n C 12 rfl 2 (kdec dk_cX10_getNamed 7 rfl) rfl rfl ?_
    refine kv_callVi (As := [.int x6]) (rest := []) C 15 rfl 61 (k_x_get l D τ ρ σ w x6 hI (by omega) hM) rfl rfl mml_TaleMachineModel_188 mim_yX10_get mse_yX10_get mcd_yX10_get min_yX10_get hd_yX10_get rfl rfl rfl (by decide) rfl (Nat.le_of_ble_eq_true rfl) (kdec dk_cX10_getNamed 8 rfl) (fun x45 w41 h42 => ?_)
    obtain ⟨I43, f44, p46, M47⟩ := h42
    have F48 : kF [(61, some 13), (61, some 19)] w w41 := kF_call hF0 f44 (by decide)
    have e49 : w41 61 20 = x2 := ((f44 61 20 rfl : w41 61 20 = w 61 20).trans e3)
    have r50 := kMoT_fr M47
    rw [e49] at r50
    have g51 := kf_rng x45
    exact kv_iret C hr hlk (kdec dk_cX10_getNamed 9 rfl) ⟨_, rfl, I43, F48, (by omega), M47⟩

set_option maxHeartbeats 4000000 in
set_option maxRecDepth 100000 in
theorem k_x_setNamed (l : Launch) (D : va_G) (τ : Nat → ClassId) (ρ σ : Nat → Nat) (w : kw) (a1 : Int32) (a2 : Int32) (hI : kI false w) (hM : kMoT w) :
    kM l D τ ρ σ yX10_setNamed cX10_setNamed 4 none { frames := 4, cells := 0, slots := 0, locals := 144 } [.ref (ρ 61), .int a1, .int a2] w
      (fun o w' => o = none ∧ kI false w' ∧ kF [(61, some 13), (61, some 19), (64, none), (66, none), (71, none)] w w' ∧ kMoT w') := by
  refine kM_of (own := "TaleMachineModel") rfl (by decide) (Nat.le_of_ble_eq_true rfl) ?_
  intro p e s m args below meth c C hr hlk
  have hF0 : kF [(61, some 13), (61, some 19), (64, none), (66, none), (71, none)] w w := kF.rf
  have c_1 : (1 : Int32).toInt = 1 := by decide
  have c_4 : (4 : Int32).toInt = 4 := by decide
  have c_255 : (255 : Int32).toInt = 255 := by decide
  have c_65535 : (65535 : Int32).toInt = 65535 := by decide
  refine kV.L (L' := [(0, .ref (ρ 61)), (1, .int a1), (2, .int a2)]) rfl ?_
  have g1 := kf_rng a1
  have g2 := kf_rng a2
  obtain ⟨x3, e4⟩ : ∃ z : Int32, w 61 20 = z := ⟨_, rfl⟩
  have b5 : (0 : Int) ≤ x3.toInt ∧ x3.toInt ≤ 20 := by rw [← e4]; exact hI 61 20
  have r6 := kMoT_fr hM
  rw [e4] at r6
  refine kv_iload_n C 1 rfl 1 (kdec dk_cX10_setNamed 0 rfl) rfl rfl ?_
  refine kv_sipush C 4 rfl 255 (kdec dk_cX10_setNamed 1 rfl) rfl ?_
  refine kv_iand C 5 rfl (kdec dk_cX10_setNamed 2 rfl) (fun x7 h8e h8l h8u => ?_)
  have g9 := kf_and255 h8e
  refine kv_istore_n C 6 rfl 3 [1, 2, 3, 0] [(0, .ref (ρ 61)), (1, .int a1), (2, .int a2), (3, .int x7)] (kdec dk_cX10_setNamed 3 rfl) rfl (by decide) rfl ?_
  refine kv_aload_n C 7 rfl 0 (kdec dk_cX10_setNamed 4 rfl) rfl rfl ?_
  obtain ⟨x10, e11⟩ : ∃ z : Int32, w 61 13 = z := ⟨_, rfl⟩
  have b12 : (0 : Int) ≤ x10.toInt ∧ x10.toInt ≤ 13 := by rw [← e11]; exact hI 61 13
  refine kv_get C 10 rfl 61 13 rfl rfl inX10 (by decide) mfl_TaleMachineModel_148 rfl rfl (kdec dk_cX10_setNamed 5 rfl) e11 ?_
  refine kv_if_le C 13 rfl 14 (kdec dk_cX10_setNamed 6 rfl) (by decide) (fun d13 => ?_) (fun d13 => ?_)
  · skip
    refine kv_iload_n C 15 rfl 3 (kdec dk_cX10_setNamed 8 rfl) rfl rfl ?_
    refine kv_if_le C 18 rfl 27 (kdec dk_cX10_setNamed 9 rfl) (by decide) (fun d14 => ?_) (fun d14 => ?_)
    · skip
      refine kv_aload_n C 28 rfl 0 (kdec dk_cX10_setNamed 15 rfl) rfl rfl ?_
      obtain ⟨x15, e16⟩ : ∃ z : Int32, w 61 19 = z := ⟨_, rfl⟩
      have b17 : (0 : Int) ≤ x15.toInt ∧ x15.toInt ≤ 120 := by rw [← e16]; exact hI 61 19
      refine kv_get C 31 rfl 61 19 rfl rfl inX10 (by decide) mfl_TaleMachineModel_136 rfl rfl (kdec dk_cX10_setNamed 16 rfl) e16 ?_
      refine kv_aload_n C 32 rfl 0 (kdec dk_cX10_setNamed 17 rfl) rfl rfl ?_
      refine kv_getr C 35 rfl 61 21 rfl rfl inX10 (by decide) mfl_TaleMachineModel_25 rfl rfl (kdec dk_cX10_setNamed 18 rfl) ?_
      refine kv_aload_n C 36 rfl 0 (kdec dk_cX10_setNamed 19 rfl) rfl rfl ?_
      refine kv_get C 39 rfl 61 20 rfl rfl inX10 (by decide) mfl_TaleMachineModel_139 rfl rfl (kdec dk_cX10_setNamed 20 rfl) e4 ?_
      refine kv_iconst C 40 rfl 1 (kdec dk_cX10_setNamed 21 rfl) rfl ?_
      refine kv_isub C 41 rfl (kdec dk_cX10_setNamed 22 rfl) (fun x18 q20 h19e h19 h19l h19u => ?_)
      try have h19n : x18.toInt = x3.toInt - (1 : Int32).toInt := by omega
      clear h19 q20
      obtain ⟨x21, e22⟩ : ∃ z : Int32, w 67 (x18 : Int32).toNatClampNeg = z := ⟨_, rfl⟩
      have b23 : (0 : Int) ≤ x21.toInt ∧ x21.toInt ≤ 120 := by rw [← e22]; exact hI 67 _
      refine kv_iald C 42 rfl 67 rfl (by omega) (by omega) e22 (kdec dk_cX10_setNamed 23 rfl) ?_
      try have t24 := kMoT_top hM (x := x18) (by rw [e4]; omega) e22
      try rw [e16] at t24
      refine kv_icmp_ne C 45 rfl 53 (kdec dk_cX10_setNamed 24 rfl) (by decide) (fun d25 => ?_) (fun d25 => ?_)
      · skip
        refine kv_aload_n C 54 rfl 0 (kdec dk_cX10_setNamed 29 rfl) rfl rfl ?_
        refine kv_getr C 57 rfl 61 18 rfl rfl inX10 (by decide) mfl_TaleMachineModel_22 rfl rfl (kdec dk_cX10_setNamed 30 rfl) ?_
        refine kv_aload_n C 58 rfl 0 (kdec dk_cX10_setNamed 31 rfl) rfl rfl ?_
        refine kv_get C 61 rfl 61 19 rfl rfl inX10 (by decide) mfl_TaleMachineModel_136 rfl rfl (kdec dk_cX10_setNamed 32 rfl) e16 ?_
        refine kv_iconst C 62 rfl 1 (kdec dk_cX10_setNamed 33 rfl) rfl ?_
        refine kv_isub C 63 rfl (kdec dk_cX10_setNamed 34 rfl) (fun x26 q28 h27e h27 h27l h27u => ?_)
        try have h27n : x26.toInt = x15.toInt - (1 : Int32).toInt := by omega
        clear h27 q28
        refine kv_iload_n C 64 rfl 2 (kdec dk_cX10_setNamed 35 rfl) rfl rfl ?_
        refine kv_ldc C 66 rfl 65535 (kdec dk_cX10_setNamed 36 rfl) mco_TaleMachineModel_104 ?_
        refine kv_iand C 67 rfl (kdec dk_cX10_setNamed 37 rfl) (fun x29 h30e h30l h30u => ?_)
        have g31 := kf_and65535 h30e
        refine kv_iast C 68 rfl 66 rfl (by omega) (by omega) (kdec dk_cX10_setNamed 38 rfl) (fun w32 u33 => ?_)
        have I34 : kI false w32 := kI_put u33 hI (show (0 : Int) ≤ (x29 : Int32).toInt by omega) (show (x29 : Int32).toInt ≤ 65535 by omega)
        have F35 : kF [(61, some 13), (61, some 19), (64, none), (66, none), (71, none)] w w32 := kF_put u33 hF0 rfl
        have M36 : kMoT w32 := kMoT_put u33 hM rfl rfl rfl
        exact kv_vret C hr hlk (kdec dk_cX10_setNamed 39 rfl) ⟨rfl, I34, F35, M36⟩
      · skip
        refine kv_aload_n C 46 rfl 0 (kdec dk_cX10_setNamed 25 rfl) rfl rfl ?_
        refine kv_iconst C 47 rfl 4 (kdec dk_cX10_setNamed 26 rfl) rfl ?_
        refine kv_callVv (As := [.int 4]) (rest := []) C 50 rfl 61 (k_x_halts l D τ ρ σ w 4 hI (by omega)) rfl rfl mml_TaleMachineModel_160 mim_yX10_halts mse_yX10_halts mcd_yX10_halts min_yX10_halts hd_yX10_halts rfl rfl rfl (by decide) rfl (Nat.le_of_ble_eq_true rfl) (kdec dk_cX10_setNamed 27 rfl) (fun w37 h38 => ?_)
        obtain ⟨I39, f40, p42⟩ := h38
        have F43 : kF [(61, some 13), (61, some 19), (64, none), (66, none), (71, none)] w w37 := kF_call hF0 f40 (by decide)
        have M44 : kMoT w37 := kMoT_kF f40 hM rfl rfl (fun _ => rfl)
        obtain ⟨x45, e46⟩ : ∃ z : Int32, w37 61 13 = z := ⟨_, rfl⟩
        have b47 : (0 : Int) ≤ x45.toInt ∧ x45.toInt ≤ 13 := by rw [← e46]; exact I39 61 13
        rw [e11, e46] at p42
        refine kv_goto C 68 (kdec dk_cX10_setNamed 28 rfl) (by decide) ?_
        exact kv_vret C hr hlk (kdec dk_cX10_setNamed 39 rfl) ⟨rfl, I39, F43, M44⟩
    · skip
      refine kv_aload_n C 19 rfl 0 (kdec dk_cX10_setNamed 10 rfl) rfl rfl ?_
      refine kv_iload_n C 20 rfl 3 (kdec dk_cX10_setNamed 11 rfl) rfl rfl ?_
      refine kv_iload_n C 21 rfl 2 (kdec dk_cX10_setNamed 12 rfl) rfl rfl ?_
      refine kv_callVv (As := [.int x7, .int a2]) (rest := []) C 24 rfl 61 (k_x_set l D τ ρ σ w x7 a2 hI (by omega) hM) rfl rfl mml_TaleMachineModel_191 mim_yX10_set mse_yX10_set mcd_yX10_set min_yX10_set hd_yX10_set rfl rfl rfl (by decide) rfl (Nat.le_of_ble_eq_true rfl) (kdec dk_cX10_setNamed 13 rfl) (fun w48 h49 => ?_)
      obtain ⟨I50, f51, M53⟩ := h49
      have F54 : kF [(61, some 13), (61, some 19), (64, none), (66, none), (71, none)] w w48 := kF_call hF0 f51 (by decide)
      have e55 : w48 61 20 = x3 := ((f51 61 20 rfl : w48 61 20 = w 61 20).trans e4)
      have r56 := kMoT_fr M53
      rw [e55] at r56
      refine kv_goto C 68 (kdec dk_cX10_setNamed 14 rfl) (by decide) ?_
      exact kv_vret C hr hlk (kdec dk_cX10_setNamed 39 rfl) ⟨rfl, I50, F54, M53⟩
  · skip
    exact kv_vret C hr hlk (kdec dk_cX10_setNamed 7 rfl) ⟨rfl, hI, hF0, hM⟩

set_option maxHeartbeats 4000000 in
set_option maxRecDepth 100000 in
theorem k_x_answers (l : Launch) (D : va_G) (τ : Nat → ClassId) (ρ σ : Nat → Nat) (w : kw) (a1 : Int32) (hI : kI false w) (hM : kMoT w) :
    kM l D τ ρ σ yX10_answers cX10_answers 3 none { frames := 4, cells := 0, slots := 0, locals := 144 } [.ref (ρ 61), .int a1] w
      (fun o w' => o = none ∧ kI false w' ∧ kF [(61, some 13), (61, some 15), (61, some 19), (64, none), (66, none), (71, none)] w w' ∧ kMoT w') := by
  refine kM_of (own := "TaleMachineModel") rfl (by decide) (Nat.le_of_ble_eq_true rfl) ?_
  intro p e s m args below meth c C hr hlk
  have hF0 : kF [(61, some 13), (61, some 15), (61, some 19), (64, none), (66, none), (71, none)] w w := kF.rf
  refine kV.L (L' := [(0, .ref (ρ 61)), (1, .int a1)]) rfl ?_
  have g1 := kf_rng a1
  obtain ⟨x2, e3⟩ : ∃ z : Int32, w 61 20 = z := ⟨_, rfl⟩
  have b4 : (0 : Int) ≤ x2.toInt ∧ x2.toInt ≤ 20 := by rw [← e3]; exact hI 61 20
  have r5 := kMoT_fr hM
  rw [e3] at r5
  refine kv_aload_n C 1 rfl 0 (kdec dk_cX10_answers 0 rfl) rfl rfl ?_
  obtain ⟨x6, e7⟩ : ∃ z : Int32, w 61 13 = z := ⟨_, rfl⟩
  have b8 : (0 : Int) ≤ x6.toInt ∧ x6.toInt ≤ 13 := by rw [← e7]; exact hI 61 13
  refine kv_get C 4 rfl 61 13 rfl rfl inX10 (by decide) mfl_TaleMachineModel_148 rfl rfl (kdec dk_cX10_answers 1 rfl) e7 ?_
  refine kv_if_ne C 7 rfl 18 (kdec dk_cX10_answers 2 rfl) (by decide) (fun d9 => ?_) (fun d9 => ?_)
  · skip
    exact kv_vret C hr hlk (kdec dk_cX10_answers 10 rfl) ⟨rfl, hI, hF0, hM⟩
  · skip
    refine kv_aload_n C 8 rfl 0 (kdec dk_cX10_answers 3 rfl) rfl rfl ?_
    refine kv_callVi (As := []) (rest := []) C 11 rfl 61 (k_x_next l D τ ρ σ w  hI ) rfl rfl mml_TaleMachineModel_194 mim_yX10_next mse_yX10_next mcd_yX10_next min_yX10_next hd_yX10_next rfl rfl rfl (by decide) rfl (Nat.le_of_ble_eq_true rfl) (kdec dk_cX10_answers 4 rfl) (fun x14 w10 h11 => ?_)
    obtain ⟨I12, f13, p15, p16⟩ := h11
    have F17 : kF [(61, some 13), (61, some 15), (61, some 19), (64, none), (66, none), (71, none)] w w10 := kF_call hF0 f13 (by decide)
    have M18 : kMoT w10 := kMoT_kF f13 hM rfl rfl (fun _ => rfl)
    have g19 := kf_rng x14
    obtain ⟨x20, e21⟩ : ∃ z : Int32, w10 61 13 = z := ⟨_, rfl⟩
    have b22 : (0 : Int) ≤ x20.toInt ∧ x20.toInt ≤ 13 := by rw [← e21]; exact I12 61 13
    rw [e7, e21] at p16
    refine kv_istore_n C 12 rfl 2 [1, 2, 0] [(0, .ref (ρ 61)), (1, .int a1), (2, .int x14)] (kdec dk_cX10_answers 5 rfl) rfl (by decide) rfl ?_
    refine kv_aload_n C 13 rfl 0 (kdec dk_cX10_answers 6 rfl) rfl rfl ?_
    refine kv_iload_n C 14 rfl 2 (kdec dk_cX10_answers 7 rfl) rfl rfl ?_
    refine kv_iload_n C 15 rfl 1 (kdec dk_cX10_answers 8 rfl) rfl rfl ?_
    refine kv_callVv (As := [.int x14, .int a1]) (rest := []) C 18 rfl 61 (k_x_set l D τ ρ σ w10 x14 a1 I12 (by omega) M18) rfl rfl mml_TaleMachineModel_191 mim_yX10_set mse_yX10_set mcd_yX10_set min_yX10_set hd_yX10_set rfl rfl rfl (by decide) rfl (Nat.le_of_ble_eq_true rfl) (kdec dk_cX10_answers 9 rfl) (fun w23 h24 => ?_)
    obtain ⟨I25, f26, M28⟩ := h24
    have F29 : kF [(61, some 13), (61, some 15), (61, some 19), (64, none), (66, none), (71, none)] w w23 := kF_call F17 f26 (by decide)
    have e30 : w23 61 20 = x2 := ((f26 61 20 rfl : w23 61 20 = w10 61 20).trans ((f13 61 20 rfl : w10 61 20 = w 61 20).trans e3))
    have r31 := kMoT_fr M28
    rw [e30] at r31
    exact kv_vret C hr hlk (kdec dk_cX10_answers 10 rfl) ⟨rfl, I25, F29, M28⟩

set_option maxHeartbeats 4000000 in
set_option maxRecDepth 100000 in
theorem k_x_returns (l : Launch) (D : va_G) (τ : Nat → ClassId) (ρ σ : Nat → Nat) (w : kw) (a1 : Int32) (hI : kI false w) (hM : kMoT w) :
    kM l D τ ρ σ yX10_returns cX10_returns 2 none { frames := 4, cells := 0, slots := 0, locals := 144 } [.ref (ρ 61), .int a1] w
      (fun o w' => o = none ∧ kI false w' ∧ kF [(61, some 13), (61, some 15), (61, some 19), (61, some 20), (64, none), (66, none), (71, none)] w w' ∧ kMoT w') := by
  refine kM_of (own := "TaleMachineModel") rfl (by decide) (Nat.le_of_ble_eq_true rfl) ?_
  intro p e s m args below meth c C hr hlk
  have hF0 : kF [(61, some 13), (61, some 15), (61, some 19), (61, some 20), (64, none), (66, none), (71, none)] w w := kF.rf
  have c_1 : (1 : Int32).toInt = 1 := by decide
  have c_4 : (4 : Int32).toInt = 4 := by decide
  refine kV.L (L' := [(0, .ref (ρ 61)), (1, .int a1)]) rfl ?_
  have g1 := kf_rng a1
  obtain ⟨x2, e3⟩ : ∃ z : Int32, w 61 20 = z := ⟨_, rfl⟩
  have b4 : (0 : Int) ≤ x2.toInt ∧ x2.toInt ≤ 20 := by rw [← e3]; exact hI 61 20
  have r5 := kMoT_fr hM
  rw [e3] at r5
  refine kv_aload_n C 1 rfl 0 (kdec dk_cX10_returns 0 rfl) rfl rfl ?_
  obtain ⟨x6, e7⟩ : ∃ z : Int32, w 61 13 = z := ⟨_, rfl⟩
  have b8 : (0 : Int) ≤ x6.toInt ∧ x6.toInt ≤ 13 := by rw [← e7]; exact hI 61 13
  refine kv_get C 4 rfl 61 13 rfl rfl inX10 (by decide) mfl_TaleMachineModel_148 rfl rfl (kdec dk_cX10_returns 1 rfl) e7 ?_
  refine kv_if_le C 7 rfl 8 (kdec dk_cX10_returns 2 rfl) (by decide) (fun d9 => ?_) (fun d9 => ?_)
  · skip
    refine kv_aload_n C 9 rfl 0 (kdec dk_cX10_returns 4 rfl) rfl rfl ?_
    refine kv_get C 12 rfl 61 20 rfl rfl inX10 (by decide) mfl_TaleMachineModel_139 rfl rfl (kdec dk_cX10_returns 5 rfl) e3 ?_
    refine kv_iconst C 13 rfl 1 (kdec dk_cX10_returns 6 rfl) rfl ?_
    refine kv_icmp_ne C 16 rfl 22 (kdec dk_cX10_returns 7 rfl) (by decide) (fun d10 => ?_) (fun d10 => ?_)
    · skip
      refine kv_aload_n C 23 rfl 0 (kdec dk_cX10_returns 12 rfl) rfl rfl ?_
      refine kv_dup C 24 rfl (kdec dk_cX10_returns 13 rfl) rfl ?_
      refine kv_get C 27 rfl 61 20 rfl rfl inX10 (by decide) mfl_TaleMachineModel_139 rfl rfl (kdec dk_cX10_returns 14 rfl) e3 ?_
      refine kv_iconst C 28 rfl 1 (kdec dk_cX10_returns 15 rfl) rfl ?_
      refine kv_isub C 29 rfl (kdec dk_cX10_returns 16 rfl) (fun x11 q13 h12e h12 h12l h12u => ?_)
      try have h12n : x11.toInt = x2.toInt - (1 : Int32).toInt := by omega
      clear h12 q13
      refine kv_put C 32 rfl 61 20 rfl rfl inX10 (by decide) mfl_TaleMachineModel_139 rfl tyX10 tyX10_ok nmX10 rfl rfl (kdec dk_cX10_returns 17 rfl) rfl rfl (fun w14 u15 => ?_)
      have I16 : kI false w14 := kI_put u15 hI (show (0 : Int) ≤ (x11 : Int32).toInt by omega) (show (x11 : Int32).toInt ≤ 20 by omega)
      have F17 : kF [(61, some 13), (61, some 15), (61, some 19), (61, some 20), (64, none), (66, none), (71, none)] w w14 := kF_put u15 hF0 rfl
      refine kv_aload_n C 33 rfl 0 (kdec dk_cX10_returns 18 rfl) rfl rfl ?_
      refine kv_aload_n C 34 rfl 0 (kdec dk_cX10_returns 19 rfl) rfl rfl ?_
      refine kv_getr C 37 rfl 61 21 rfl rfl inX10 (by decide) mfl_TaleMachineModel_25 rfl rfl (kdec dk_cX10_returns 20 rfl) ?_
      refine kv_aload_n C 38 rfl 0 (kdec dk_cX10_returns 21 rfl) rfl rfl ?_
      refine kv_get C 41 rfl 61 20 rfl rfl inX10 (by decide) mfl_TaleMachineModel_139 rfl rfl (kdec dk_cX10_returns 22 rfl) (kup_eq u15) ?_
      obtain ⟨x19, e20⟩ : ∃ z : Int32, w14 67 (x11 : Int32).toNatClampNeg = z := ⟨_, rfl⟩
      have b21 : (0 : Int) ≤ x19.toInt ∧ x19.toInt ≤ 120 := by rw [← e20]; exact I16 67 _
      refine kv_iald C 42 rfl 67 rfl (by omega) (by omega) e20 (kdec dk_cX10_returns 23 rfl) ?_
      refine kv_put C 45 rfl 61 19 rfl rfl inX10 (by decide) mfl_TaleMachineModel_136 rfl tyX10 tyX10_ok nmX10 rfl rfl (kdec dk_cX10_returns 24 rfl) rfl rfl (fun w22 u23 => ?_)
      have I24 : kI false w22 := kI_put u23 I16 (show (0 : Int) ≤ (x19 : Int32).toInt by omega) (show (x19 : Int32).toInt ≤ 120 by omega)
      have F25 : kF [(61, some 13), (61, some 15), (61, some 19), (61, some 20), (64, none), (66, none), (71, none)] w w22 := kF_put u23 F17 rfl
      have M26 : kMoT w22 := kMoT_ret hM u15 (by rw [e3]; omega) (by omega) u23 e20
      have e27 : w22 61 20 = x11 := ((kup_ne u23 rfl : w22 61 20 = w14 61 20).trans (kup_eq u15))
      have r28 := kMoT_fr M26
      rw [e27] at r28
      refine kv_aload_n C 46 rfl 0 (kdec dk_cX10_returns 25 rfl) rfl rfl ?_
      refine kv_aload_n C 47 rfl 0 (kdec dk_cX10_returns 26 rfl) rfl rfl ?_
      refine kv_getr C 50 rfl 61 22 rfl rfl inX10 (by decide) mfl_TaleMachineModel_28 rfl rfl (kdec dk_cX10_returns 27 rfl) ?_
      refine kv_aload_n C 51 rfl 0 (kdec dk_cX10_returns 28 rfl) rfl rfl ?_
      refine kv_get C 54 rfl 61 20 rfl rfl inX10 (by decide) mfl_TaleMachineModel_139 rfl rfl (kdec dk_cX10_returns 29 rfl) e27 ?_
      obtain ⟨x29, e30⟩ : ∃ z : Int32, w22 68 (x11 : Int32).toNatClampNeg = z := ⟨_, rfl⟩
      have b31 : (0 : Int) ≤ x29.toInt ∧ x29.toInt ≤ 65535 := by rw [← e30]; exact I24 68 _
      refine kv_iald C 55 rfl 68 rfl (by omega) (by omega) e30 (kdec dk_cX10_returns 30 rfl) ?_
      refine kv_put C 58 rfl 61 15 rfl rfl inX10 (by decide) mfl_TaleMachineModel_170 rfl tyX10 tyX10_ok nmX10 rfl rfl (kdec dk_cX10_returns 31 rfl) rfl rfl (fun w32 u33 => ?_)
      have I34 : kI false w32 := kI_put u33 I24 (show (0 : Int) ≤ (x29 : Int32).toInt by omega) (show (x29 : Int32).toInt ≤ 65535 by omega)
      have F35 : kF [(61, some 13), (61, some 15), (61, some 19), (61, some 20), (64, none), (66, none), (71, none)] w w32 := kF_put u33 F25 rfl
      have M36 : kMoT w32 := kMoT_put u33 M26 rfl rfl rfl
      refine kv_aload_n C 59 rfl 0 (kdec dk_cX10_returns 32 rfl) rfl rfl ?_
      refine kv_aload_n C 60 rfl 0 (kdec dk_cX10_returns 33 rfl) rfl rfl ?_
      refine kv_getr C 63 rfl 61 23 rfl rfl inX10 (by decide) mfl_TaleMachineModel_31 rfl rfl (kdec dk_cX10_returns 34 rfl) ?_
      refine kv_aload_n C 64 rfl 0 (kdec dk_cX10_returns 35 rfl) rfl rfl ?_
      have e37 : w32 61 20 = x11 := ((kup_ne u33 rfl : w32 61 20 = w22 61 20).trans e27)
      refine kv_get C 67 rfl 61 20 rfl rfl inX10 (by decide) mfl_TaleMachineModel_139 rfl rfl (kdec dk_cX10_returns 36 rfl) e37 ?_
      obtain ⟨x38, e39⟩ : ∃ z : Int32, w32 69 (x11 : Int32).toNatClampNeg = z := ⟨_, rfl⟩
      have b40 : (0 : Int) ≤ x38.toInt ∧ x38.toInt ≤ 255 := by rw [← e39]; exact I34 69 _
      refine kv_iald C 68 rfl 69 rfl (by omega) (by omega) e39 (kdec dk_cX10_returns 37 rfl) ?_
      refine kv_iload_n C 69 rfl 1 (kdec dk_cX10_returns 38 rfl) rfl rfl ?_
      refine kv_callVv (As := [.int x38, .int a1]) (rest := []) C 72 rfl 61 (k_x_set l D τ ρ σ w32 x38 a1 I34 (by omega) M36) rfl rfl mml_TaleMachineModel_191 mim_yX10_set mse_yX10_set mcd_yX10_set min_yX10_set hd_yX10_set rfl rfl rfl (by decide) rfl (Nat.le_of_ble_eq_true rfl) (kdec dk_cX10_returns 39 rfl) (fun w41 h42 => ?_)
      obtain ⟨I43, f44, M46⟩ := h42
      have F47 : kF [(61, some 13), (61, some 15), (61, some 19), (61, some 20), (64, none), (66, none), (71, none)] w w41 := kF_call F35 f44 (by decide)
      have e48 : w41 61 20 = x11 := ((f44 61 20 rfl : w41 61 20 = w32 61 20).trans e37)
      have r49 := kMoT_fr M46
      rw [e48] at r49
      exact kv_vret C hr hlk (kdec dk_cX10_returns 40 rfl) ⟨rfl, I43, F47, M46⟩
    · skip
      refine kv_aload_n C 17 rfl 0 (kdec dk_cX10_returns 8 rfl) rfl rfl ?_
      refine kv_iconst C 18 rfl 4 (kdec dk_cX10_returns 9 rfl) rfl ?_
      refine kv_callVv (As := [.int 4]) (rest := []) C 21 rfl 61 (k_x_halts l D τ ρ σ w 4 hI (by omega)) rfl rfl mml_TaleMachineModel_160 mim_yX10_halts mse_yX10_halts mcd_yX10_halts min_yX10_halts hd_yX10_halts rfl rfl rfl (by decide) rfl (Nat.le_of_ble_eq_true rfl) (kdec dk_cX10_returns 10 rfl) (fun w50 h51 => ?_)
      obtain ⟨I52, f53, p55⟩ := h51
      have F56 : kF [(61, some 13), (61, some 15), (61, some 19), (61, some 20), (64, none), (66, none), (71, none)] w w50 := kF_call hF0 f53 (by decide)
      have M57 : kMoT w50 := kMoT_kF f53 hM rfl rfl (fun _ => rfl)
      obtain ⟨x58, e59⟩ : ∃ z : Int32, w50 61 13 = z := ⟨_, rfl⟩
      have b60 : (0 : Int) ≤ x58.toInt ∧ x58.toInt ≤ 13 := by rw [← e59]; exact I52 61 13
      rw [e7, e59] at p55
      exact kv_vret C hr hlk (kdec dk_cX10_returns 11 rfl) ⟨rfl, I52, F56, M57⟩
  · skip
    exact kv_vret C hr hlk (kdec dk_cX10_returns 3 rfl) ⟨rfl, hI, hF0, hM⟩

set_option maxHeartbeats 4000000 in
set_option maxRecDepth 100000 in
theorem k_x_goes (l : Launch) (D : va_G) (τ : Nat → ClassId) (ρ σ : Nat → Nat) (w : kw) (a1 : Int32) (hI : kI false w) (hM : kMoT w) :
    kM l D τ ρ σ yX10_goes cX10_goes 2 none { frames := 5, cells := 0, slots := 0, locals := 180 } [.ref (ρ 61), .int a1] w
      (fun o w' => o = none ∧ kI false w' ∧ kF [(61, some 13), (61, some 15), (61, some 19), (61, some 20), (64, none), (66, none), (71, none)] w w' ∧ kMoT w') := by
  refine kM_of (own := "TaleMachineModel") rfl (by decide) (Nat.le_of_ble_eq_true rfl) ?_
  intro p e s m args below meth c C hr hlk
  have hF0 : kF [(61, some 13), (61, some 15), (61, some 19), (61, some 20), (64, none), (66, none), (71, none)] w w := kF.rf
  have c_1 : (1 : Int32).toInt = 1 := by decide
  have c_2 : (2 : Int32).toInt = 2 := by decide
  have c_65535 : (65535 : Int32).toInt = 65535 := by decide
  refine kV.L (L' := [(0, .ref (ρ 61)), (1, .int a1)]) rfl ?_
  have g1 := kf_rng a1
  obtain ⟨x2, e3⟩ : ∃ z : Int32, w 61 20 = z := ⟨_, rfl⟩
  have b4 : (0 : Int) ≤ x2.toInt ∧ x2.toInt ≤ 20 := by rw [← e3]; exact hI 61 20
  have r5 := kMoT_fr hM
  rw [e3] at r5
  refine kv_iload_n C 1 rfl 1 (kdec dk_cX10_goes 0 rfl) rfl rfl ?_
  refine kv_if_eq C 4 rfl 9 (kdec dk_cX10_goes 1 rfl) (by decide) (fun d6 => ?_) (fun d6 => ?_)
  · skip
    refine kv_aload_n C 10 rfl 0 (kdec dk_cX10_goes 5 rfl) rfl rfl ?_
    refine kv_iload_n C 11 rfl 1 (kdec dk_cX10_goes 6 rfl) rfl rfl ?_
    refine kv_callVv (As := [.int a1]) (rest := []) C 14 rfl 61 (k_x_returns l D τ ρ σ w a1 hI hM) rfl rfl mml_TaleMachineModel_197 mim_yX10_returns mse_yX10_returns mcd_yX10_returns min_yX10_returns hd_yX10_returns rfl rfl rfl (by decide) rfl (Nat.le_of_ble_eq_true rfl) (kdec dk_cX10_goes 7 rfl) (fun w7 h8 => ?_)
    obtain ⟨I9, f10, M12⟩ := h8
    have F13 : kF [(61, some 13), (61, some 15), (61, some 19), (61, some 20), (64, none), (66, none), (71, none)] w w7 := kF_call hF0 f10 (by decide)
    obtain ⟨x14, e15⟩ : ∃ z : Int32, w7 61 20 = z := ⟨_, rfl⟩
    have b16 : (0 : Int) ≤ x14.toInt ∧ x14.toInt ≤ 20 := by rw [← e15]; exact I9 61 20
    have r17 := kMoT_fr M12
    rw [e15] at r17
    refine kv_goto C 32 (kdec dk_cX10_goes 8 rfl) (by decide) ?_
    exact kv_vret C hr hlk (kdec dk_cX10_goes 19 rfl) ⟨rfl, I9, F13, M12⟩
  · skip
    refine kv_iload_n C 5 rfl 1 (kdec dk_cX10_goes 2 rfl) rfl rfl ?_
    refine kv_iconst C 6 rfl 1 (kdec dk_cX10_goes 3 rfl) rfl ?_
    refine kv_icmp_ne C 9 rfl 17 (kdec dk_cX10_goes 4 rfl) (by decide) (fun d18 => ?_) (fun d18 => ?_)
    · skip
      refine kv_aload_n C 18 rfl 0 (kdec dk_cX10_goes 9 rfl) rfl rfl ?_
      refine kv_aload_n C 19 rfl 0 (kdec dk_cX10_goes 10 rfl) rfl rfl ?_
      obtain ⟨x19, e20⟩ : ∃ z : Int32, w 61 15 = z := ⟨_, rfl⟩
      have b21 : (0 : Int) ≤ x19.toInt ∧ x19.toInt ≤ 65535 := by rw [← e20]; exact hI 61 15
      refine kv_get C 22 rfl 61 15 rfl rfl inX10 (by decide) mfl_TaleMachineModel_170 rfl rfl (kdec dk_cX10_goes 11 rfl) e20 ?_
      refine kv_iload_n C 23 rfl 1 (kdec dk_cX10_goes 12 rfl) rfl rfl ?_
      refine kv_iadd C 24 rfl (kdec dk_cX10_goes 13 rfl) (fun x22 q24 h23e h23 h23l h23u => ?_)
      try have h23n : x22.toInt = x19.toInt + a1.toInt := by omega
      clear h23 q24
      refine kv_iconst C 25 rfl 2 (kdec dk_cX10_goes 14 rfl) rfl ?_
      refine kv_isub C 26 rfl (kdec dk_cX10_goes 15 rfl) (fun x25 q27 h26e h26 h26l h26u => ?_)
      try have h26n : x25.toInt = x22.toInt - (2 : Int32).toInt := by omega
      clear h26 q27
      refine kv_ldc C 28 rfl 65535 (kdec dk_cX10_goes 16 rfl) mco_TaleMachineModel_104 ?_
      refine kv_iand C 29 rfl (kdec dk_cX10_goes 17 rfl) (fun x28 h29e h29l h29u => ?_)
      have g30 := kf_and65535 h29e
      refine kv_put C 32 rfl 61 15 rfl rfl inX10 (by decide) mfl_TaleMachineModel_170 rfl tyX10 tyX10_ok nmX10 rfl rfl (kdec dk_cX10_goes 18 rfl) rfl rfl (fun w31 u32 => ?_)
      have I33 : kI false w31 := kI_put u32 hI (show (0 : Int) ≤ (x28 : Int32).toInt by omega) (show (x28 : Int32).toInt ≤ 65535 by omega)
      have F34 : kF [(61, some 13), (61, some 15), (61, some 19), (61, some 20), (64, none), (66, none), (71, none)] w w31 := kF_put u32 hF0 rfl
      have M35 : kMoT w31 := kMoT_put u32 hM rfl rfl rfl
      exact kv_vret C hr hlk (kdec dk_cX10_goes 19 rfl) ⟨rfl, I33, F34, M35⟩
    · skip
      refine kv_aload_n C 10 rfl 0 (kdec dk_cX10_goes 5 rfl) rfl rfl ?_
      refine kv_iload_n C 11 rfl 1 (kdec dk_cX10_goes 6 rfl) rfl rfl ?_
      refine kv_callVv (As := [.int a1]) (rest := []) C 14 rfl 61 (k_x_returns l D τ ρ σ w a1 hI hM) rfl rfl mml_TaleMachineModel_197 mim_yX10_returns mse_yX10_returns mcd_yX10_returns min_yX10_returns hd_yX10_returns rfl rfl rfl (by decide) rfl (Nat.le_of_ble_eq_true rfl) (kdec dk_cX10_goes 7 rfl) (fun w36 h37 => ?_)
      obtain ⟨I38, f39, M41⟩ := h37
      have F42 : kF [(61, some 13), (61, some 15), (61, some 19), (61, some 20), (64, none), (66, none), (71, none)] w w36 := kF_call hF0 f39 (by decide)
      obtain ⟨x43, e44⟩ : ∃ z : Int32, w36 61 20 = z := ⟨_, rfl⟩
      have b45 : (0 : Int) ≤ x43.toInt ∧ x43.toInt ≤ 20 := by rw [← e44]; exact I38 61 20
      have r46 := kMoT_fr M41
      rw [e44] at r46
      refine kv_goto C 32 (kdec dk_cX10_goes 8 rfl) (by decide) ?_
      exact kv_vret C hr hlk (kdec dk_cX10_goes 19 rfl) ⟨rfl, I38, F42, M41⟩

set_option maxHeartbeats 4000000 in
set_option maxRecDepth 100000 in
theorem k_x_branches (l : Launch) (D : va_G) (τ : Nat → ClassId) (ρ σ : Nat → Nat) (w : kw) (a1 : Int32) (hI : kI false w) (hM : kMoT w) :
    kM l D τ ρ σ yX10_branches cX10_branches 4 none { frames := 6, cells := 0, slots := 0, locals := 216 } [.ref (ρ 61), .int a1] w
      (fun o w' => o = none ∧ kI false w' ∧ kF [(61, some 13), (61, some 15), (61, some 19), (61, some 20), (64, none), (66, none), (71, none)] w w' ∧ kMoT w') := by
  refine kM_of (own := "TaleMachineModel") rfl (by decide) (Nat.le_of_ble_eq_true rfl) ?_
  intro p e s m args below meth c C hr hlk
  have hF0 : kF [(61, some 13), (61, some 15), (61, some 19), (61, some 20), (64, none), (66, none), (71, none)] w w := kF.rf
  have c_0 : (0 : Int32).toInt = 0 := by decide
  have c_1 : (1 : Int32).toInt = 1 := by decide
  have c_63 : (63 : Int32).toInt = 63 := by decide
  have c_64 : (64 : Int32).toInt = 64 := by decide
  have c_128 : (128 : Int32).toInt = 128 := by decide
  have c_256 : (256 : Int32).toInt = 256 := by decide
  have c_8191 : (8191 : Int32).toInt = 8191 := by decide
  have c_16384 : (16384 : Int32).toInt = 16384 := by decide
  refine kV.L (L' := [(0, .ref (ρ 61)), (1, .int a1)]) rfl ?_
  have g1 := kf_rng a1
  obtain ⟨x2, e3⟩ : ∃ z : Int32, w 61 20 = z := ⟨_, rfl⟩
  have b4 : (0 : Int) ≤ x2.toInt ∧ x2.toInt ≤ 20 := by rw [← e3]; exact hI 61 20
  have r5 := kMoT_fr hM
  rw [e3] at r5
  have cut80 : ∀ (w_80 : kw) (l1_80 l3_80 s0_80 : Int32), kI false w_80 → kF [(61, some 13), (61, some 15), (61, some 19), (61, some 20), (64, none), (66, none), (71, none)] w w_80 → kMoT w_80 → kV p l e { frames := 6, cells := 0, slots := 0, locals := 216 } s m args below meth c (kQ below args s D τ ρ (fun o w' => o = none ∧ kI false w' ∧ kF [(61, some 13), (61, some 15), (61, some 19), (61, some 20), (64, none), (66, none), (71, none)] w w' ∧ kMoT w')) 4 D τ ρ 80 [(0, .ref (ρ 61)), (1, .int l1_80), (3, .int l3_80)] [.int s0_80] w_80 := by
    intro w_80 l1_80 l3_80 s0_80 I_80 F_80  M_80
    have gl1_80 := kf_rng l1_80
    have gl3_80 := kf_rng l3_80
    have gs0_80 := kf_rng s0_80
    obtain ⟨x6, e7⟩ : ∃ z : Int32, w_80 61 20 = z := ⟨_, rfl⟩
    have b8 : (0 : Int) ≤ x6.toInt ∧ x6.toInt ≤ 20 := by rw [← e7]; exact I_80 61 20
    have r9 := kMoT_fr M_80
    rw [e7] at r9
    refine kv_iload_n C 81 rfl 1 (kdec dk_cX10_branches 44 rfl) rfl rfl ?_
    refine kv_icmp_ne C 84 rfl 89 (kdec dk_cX10_branches 45 rfl) (by decide) (fun d10 => ?_) (fun d10 => ?_)
    · skip
      exact kv_vret C hr hlk (kdec dk_cX10_branches 49 rfl) ⟨rfl, I_80, F_80, M_80⟩
    · skip
      refine kv_aload_n C 85 rfl 0 (kdec dk_cX10_branches 46 rfl) rfl rfl ?_
      refine kv_iload_n C 86 rfl 2 (kdec dk_cX10_branches 47 rfl) rfl rfl ?_
      refine kv_callVv (As := [.int l3_80]) (rest := []) C 89 rfl 61 (k_x_goes l D τ ρ σ w_80 l3_80 I_80 M_80) rfl rfl mml_TaleMachineModel_200 mim_yX10_goes mse_yX10_goes mcd_yX10_goes min_yX10_goes hd_yX10_goes rfl rfl rfl (by decide) rfl (Nat.le_of_ble_eq_true rfl) (kdec dk_cX10_branches 48 rfl) (fun w11 h12 => ?_)
      obtain ⟨I13, f14, M16⟩ := h12
      have F17 : kF [(61, some 13), (61, some 15), (61, some 19), (61, some 20), (64, none), (66, none), (71, none)] w w11 := kF_call F_80 f14 (by decide)
      obtain ⟨x18, e19⟩ : ∃ z : Int32, w11 61 20 = z := ⟨_, rfl⟩
      have b20 : (0 : Int) ≤ x18.toInt ∧ x18.toInt ≤ 20 := by rw [← e19]; exact I13 61 20
      have r21 := kMoT_fr M16
      rw [e19] at r21
      exact kv_vret C hr hlk (kdec dk_cX10_branches 49 rfl) ⟨rfl, I13, F17, M16⟩
  have cut60 : ∀ (w_60 : kw) (l1_60 l2_60 l3_60 : Int32), kI false w_60 → kF [(61, some 13), (61, some 15), (61, some 19), (61, some 20), (64, none), (66, none), (71, none)] w w_60 → kMoT w_60 → kV p l e { frames := 6, cells := 0, slots := 0, locals := 216 } s m args below meth c (kQ below args s D τ ρ (fun o w' => o = none ∧ kI false w' ∧ kF [(61, some 13), (61, some 15), (61, some 19), (61, some 20), (64, none), (66, none), (71, none)] w w' ∧ kMoT w')) 4 D τ ρ 60 [(0, .ref (ρ 61)), (1, .int l1_60), (2, .int l2_60), (3, .int l3_60)] [] w_60 := by
    intro w_60 l1_60 l2_60 l3_60 I_60 F_60  M_60
    have gl1_60 := kf_rng l1_60
    have gl2_60 := kf_rng l2_60
    have gl3_60 := kf_rng l3_60
    obtain ⟨x22, e23⟩ : ∃ z : Int32, w_60 61 20 = z := ⟨_, rfl⟩
    have b24 : (0 : Int) ≤ x22.toInt ∧ x22.toInt ≤ 20 := by rw [← e23]; exact I_60 61 20
    have r25 := kMoT_fr M_60
    rw [e23] at r25
    refine kv_aload_n C 61 rfl 0 (kdec dk_cX10_branches 34 rfl) rfl rfl ?_
    obtain ⟨x26, e27⟩ : ∃ z : Int32, w_60 61 13 = z := ⟨_, rfl⟩
    have b28 : (0 : Int) ≤ x26.toInt ∧ x26.toInt ≤ 13 := by rw [← e27]; exact I_60 61 13
    refine kv_get C 64 rfl 61 13 rfl rfl inX10 (by decide) mfl_TaleMachineModel_148 rfl rfl (kdec dk_cX10_branches 35 rfl) e27 ?_
    refine kv_if_ne C 67 rfl 89 (kdec dk_cX10_branches 36 rfl) (by decide) (fun d29 => ?_) (fun d29 => ?_)
    · skip
      exact kv_vret C hr hlk (kdec dk_cX10_branches 49 rfl) ⟨rfl, I_60, F_60, M_60⟩
    · skip
      refine kv_iload_n C 68 rfl 2 (kdec dk_cX10_branches 37 rfl) rfl rfl ?_
      refine kv_sipush C 71 rfl 128 (kdec dk_cX10_branches 38 rfl) rfl ?_
      refine kv_iand C 72 rfl (kdec dk_cX10_branches 39 rfl) (fun x30 h31e h31l h31u => ?_)
      refine kv_if_eq C 75 rfl 79 (kdec dk_cX10_branches 40 rfl) (by decide) (fun d32 => ?_) (fun d32 => ?_)
      · skip
        refine kv_iconst C 80 rfl 0 (kdec dk_cX10_branches 43 rfl) rfl ?_
        refine kV.sub [0, 1, 3] (L' := [(0, .ref (ρ 61)), (1, .int l1_60), (3, .int l3_60)]) rfl ?_
        exact cut80 w_60 l1_60 l3_60 0 I_60 F_60 M_60
      · skip
        refine kv_iconst C 76 rfl 1 (kdec dk_cX10_branches 41 rfl) rfl ?_
        refine kv_goto C 80 (kdec dk_cX10_branches 42 rfl) (by decide) ?_
        refine kV.sub [0, 1, 3] (L' := [(0, .ref (ρ 61)), (1, .int l1_60), (3, .int l3_60)]) rfl ?_
        exact cut80 w_60 l1_60 l3_60 1 I_60 F_60 M_60
  refine kv_aload_n C 1 rfl 0 (kdec dk_cX10_branches 0 rfl) rfl rfl ?_
  obtain ⟨x33, e34⟩ : ∃ z : Int32, w 61 13 = z := ⟨_, rfl⟩
  have b35 : (0 : Int) ≤ x33.toInt ∧ x33.toInt ≤ 13 := by rw [← e34]; exact hI 61 13
  refine kv_get C 4 rfl 61 13 rfl rfl inX10 (by decide) mfl_TaleMachineModel_148 rfl rfl (kdec dk_cX10_branches 1 rfl) e34 ?_
  refine kv_if_le C 7 rfl 8 (kdec dk_cX10_branches 2 rfl) (by decide) (fun d36 => ?_) (fun d36 => ?_)
  · skip
    refine kv_aload_n C 9 rfl 0 (kdec dk_cX10_branches 4 rfl) rfl rfl ?_
    refine kv_callVi (As := []) (rest := []) C 12 rfl 61 (k_x_next l D τ ρ σ w  hI ) rfl rfl mml_TaleMachineModel_194 mim_yX10_next mse_yX10_next mcd_yX10_next min_yX10_next hd_yX10_next rfl rfl rfl (by decide) rfl (Nat.le_of_ble_eq_true rfl) (kdec dk_cX10_branches 5 rfl) (fun x41 w37 h38 => ?_)
    obtain ⟨I39, f40, p42, p43⟩ := h38
    have F44 : kF [(61, some 13), (61, some 15), (61, some 19), (61, some 20), (64, none), (66, none), (71, none)] w w37 := kF_call hF0 f40 (by decide)
    have M45 : kMoT w37 := kMoT_kF f40 hM rfl rfl (fun _ => rfl)
    have g46 := kf_rng x41
    obtain ⟨x47, e48⟩ : ∃ z : Int32, w37 61 13 = z := ⟨_, rfl⟩
    have b49 : (0 : Int) ≤ x47.toInt ∧ x47.toInt ≤ 13 := by rw [← e48]; exact I39 61 13
    rw [e34, e48] at p43
    refine kv_istore_n C 13 rfl 2 [1, 2, 0] [(0, .ref (ρ 61)), (1, .int a1), (2, .int x41)] (kdec dk_cX10_branches 6 rfl) rfl (by decide) rfl ?_
    refine kv_iload_n C 14 rfl 2 (kdec dk_cX10_branches 7 rfl) rfl rfl ?_
    refine kv_bipush C 16 rfl 63 (kdec dk_cX10_branches 8 rfl) rfl ?_
    refine kv_iand C 17 rfl (kdec dk_cX10_branches 9 rfl) (fun x50 h51e h51l h51u => ?_)
    have g52 := kf_and63 h51e
    refine kv_istore_n C 18 rfl 3 [1, 2, 3, 0] [(0, .ref (ρ 61)), (1, .int a1), (2, .int x41), (3, .int x50)] (kdec dk_cX10_branches 10 rfl) rfl (by decide) rfl ?_
    refine kv_iload_n C 19 rfl 2 (kdec dk_cX10_branches 11 rfl) rfl rfl ?_
    refine kv_bipush C 21 rfl 64 (kdec dk_cX10_branches 12 rfl) rfl ?_
    refine kv_iand C 22 rfl (kdec dk_cX10_branches 13 rfl) (fun x53 h54e h54l h54u => ?_)
    refine kv_if_ne C 25 rfl 60 (kdec dk_cX10_branches 14 rfl) (by decide) (fun d55 => ?_) (fun d55 => ?_)
    · skip
      exact cut60 w37 a1 x41 x50 I39 F44 M45
    · skip
      refine kv_aload_n C 26 rfl 0 (kdec dk_cX10_branches 15 rfl) rfl rfl ?_
      refine kv_get C 29 rfl 61 13 rfl rfl inX10 (by decide) mfl_TaleMachineModel_148 rfl rfl (kdec dk_cX10_branches 16 rfl) e48 ?_
      refine kv_if_ne C 32 rfl 60 (kdec dk_cX10_branches 17 rfl) (by decide) (fun d56 => ?_) (fun d56 => ?_)
      · skip
        exact cut60 w37 a1 x41 x50 I39 F44 M45
      · skip
        refine kv_sipush C 35 rfl 256 (kdec dk_cX10_branches 18 rfl) rfl ?_
        refine kv_iload_n C 36 rfl 3 (kdec dk_cX10_branches 19 rfl) rfl rfl ?_
        refine kv_imul C 37 rfl (kdec dk_cX10_branches 20 rfl) (fun x57 h58e h58l h58u => ?_)
        obtain ⟨q59, g60⟩ := kf_mul 256 x50
        rw [← h58e, c_256] at g60
        try have h58n : x57.toInt = 256 * x50.toInt := by omega
        clear g60 q59
        refine kv_aload_n C 38 rfl 0 (kdec dk_cX10_branches 21 rfl) rfl rfl ?_
        refine kv_callVi (As := []) (rest := [.int x57]) C 41 rfl 61 (k_x_next l D τ ρ σ w37  I39 ) rfl rfl mml_TaleMachineModel_194 mim_yX10_next mse_yX10_next mcd_yX10_next min_yX10_next hd_yX10_next rfl rfl rfl (by decide) rfl (Nat.le_of_ble_eq_true rfl) (kdec dk_cX10_branches 22 rfl) (fun x65 w61 h62 => ?_)
        obtain ⟨I63, f64, p66, p67⟩ := h62
        have F68 : kF [(61, some 13), (61, some 15), (61, some 19), (61, some 20), (64, none), (66, none), (71, none)] w w61 := kF_call F44 f64 (by decide)
        have M69 : kMoT w61 := kMoT_kF f64 M45 rfl rfl (fun _ => rfl)
        have g70 := kf_rng x65
        obtain ⟨x71, e72⟩ : ∃ z : Int32, w61 61 13 = z := ⟨_, rfl⟩
        have b73 : (0 : Int) ≤ x71.toInt ∧ x71.toInt ≤ 13 := by rw [← e72]; exact I63 61 13
        rw [e48, e72] at p67
        refine kv_iadd C 42 rfl (kdec dk_cX10_branches 23 rfl) (fun x74 q76 h75e h75 h75l h75u => ?_)
        try have h75n : x74.toInt = x57.toInt + x65.toInt := by omega
        clear h75 q76
        refine kv_istore_n C 43 rfl 3 [1, 2, 3, 0] [(0, .ref (ρ 61)), (1, .int a1), (2, .int x41), (3, .int x74)] (kdec dk_cX10_branches 24 rfl) rfl (by decide) rfl ?_
        refine kv_iload_n C 44 rfl 3 (kdec dk_cX10_branches 25 rfl) rfl rfl ?_
        refine kv_sipush C 47 rfl 8191 (kdec dk_cX10_branches 26 rfl) rfl ?_
        refine kv_icmp_le C 50 rfl 58 (kdec dk_cX10_branches 27 rfl) (by decide) (fun d77 => ?_) (fun d77 => ?_)
        · skip
          refine kv_iload_n C 59 rfl 3 (kdec dk_cX10_branches 32 rfl) rfl rfl ?_
          refine kv_istore_n C 60 rfl 3 [1, 2, 3, 0] [(0, .ref (ρ 61)), (1, .int a1), (2, .int x41), (3, .int x74)] (kdec dk_cX10_branches 33 rfl) rfl (by decide) rfl ?_
          exact cut60 w61 a1 x41 x74 I63 F68 M69
        · skip
          refine kv_iload_n C 51 rfl 3 (kdec dk_cX10_branches 28 rfl) rfl rfl ?_
          refine kv_sipush C 54 rfl 16384 (kdec dk_cX10_branches 29 rfl) rfl ?_
          refine kv_isub C 55 rfl (kdec dk_cX10_branches 30 rfl) (fun x78 q80 h79e h79 h79l h79u => ?_)
          try have h79n : x78.toInt = x74.toInt - (16384 : Int32).toInt := by omega
          clear h79 q80
          refine kv_goto C 59 (kdec dk_cX10_branches 31 rfl) (by decide) ?_
          refine kv_istore_n C 60 rfl 3 [1, 2, 3, 0] [(0, .ref (ρ 61)), (1, .int a1), (2, .int x41), (3, .int x78)] (kdec dk_cX10_branches 33 rfl) rfl (by decide) rfl ?_
          exact cut60 w61 a1 x41 x78 I63 F68 M69
  · skip
    exact kv_vret C hr hlk (kdec dk_cX10_branches 3 rfl) ⟨rfl, hI, hF0, hM⟩
