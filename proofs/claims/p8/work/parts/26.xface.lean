set_option maxHeartbeats 4000000 in
set_option maxRecDepth 100000 in
theorem k_x_isSeparator (l : Launch) (D : va_G) (τ : Nat → ClassId) (ρ σ : Nat → Nat) (w : kw) (a1 : Int32) (hI : kI false w)  :
    kM l D τ ρ σ yX10_isSeparator cX10_isSeparator 6 (some .boolean) { frames := 2, cells := 0, slots := 0, locals := 72 } [.ref (ρ 61), .int a1] w
      (fun o w' => ∃ r : Int32, o = some (.int r) ∧ kI false w' ∧ kF [(61, some 13)] w w' ∧ (0 ≤ r.toInt ∧ r.toInt ≤ 1)) := by
  refine kM_of (own := "TaleMachineModel") rfl (by decide) (Nat.le_of_ble_eq_true rfl) ?_
  intro p e s m args below meth c C hr hlk
  have hF0 : kF [(61, some 13)] w w := kF.rf
  have c_0 : (0 : Int32).toInt = 0 := by decide
  have c_1 : (1 : Int32).toInt = 1 := by decide
  refine kV.L (L' := [(0, .ref (ρ 61)), (1, .int a1)]) rfl ?_
  have g1 := kf_rng a1
  have cut14 : ∀ (n_14 : Nat) (w_14 : kw) (l1_14 l2_14 l3_14 l4_14 : Int32), kI false w_14 → kF [(61, some 13)] w w_14 → (0 ≤ l2_14.toInt ∧ l2_14.toInt ≤ 255) → (0 ≤ l3_14.toInt ∧ l3_14.toInt ≤ 1) → (1 ≤ l4_14.toInt ∧ l4_14.toInt ≤ 256) → ((257 - l4_14.toInt) : Int) < (n_14 : Int) → kV p l e { frames := 2, cells := 0, slots := 0, locals := 72 } s m args below meth c (kQ below args s D τ ρ (fun o w' => ∃ r : Int32, o = some (.int r) ∧ kI false w' ∧ kF [(61, some 13)] w w' ∧ (0 ≤ r.toInt ∧ r.toInt ≤ 1))) 6 D τ ρ 14 [(0, .ref (ρ 61)), (1, .int l1_14), (2, .int l2_14), (3, .int l3_14), (4, .int l4_14)] [] w_14 := by
    intro n_14
    induction n_14 with
    | zero => intro w_14 l1_14 l2_14 l3_14 l4_14 I_14 F_14 k14_0 k14_1 k14_2 hmz; exfalso; omega
    | succ n_14 ih14 =>
      intro w_14 l1_14 l2_14 l3_14 l4_14 I_14 F_14 k14_0 k14_1 k14_2 hm14
      have gl1_14 := kf_rng l1_14
      have gl2_14 := kf_rng l2_14
      have gl3_14 := kf_rng l3_14
      have gl4_14 := kf_rng l4_14
      have cut62 : ∀ (w_62 : kw) (l1_62 l2_62 l4_62 s0_62 : Int32), kI false w_62 → kF [(61, some 13)] w w_62 → (0 ≤ l2_62.toInt ∧ l2_62.toInt ≤ 255) → (0 ≤ s0_62.toInt ∧ s0_62.toInt ≤ 1) → (1 ≤ l4_62.toInt ∧ l4_62.toInt ≤ 255 ∧ l4_62.toInt = l4_14.toInt) → kV p l e { frames := 2, cells := 0, slots := 0, locals := 72 } s m args below meth c (kQ below args s D τ ρ (fun o w' => ∃ r : Int32, o = some (.int r) ∧ kI false w' ∧ kF [(61, some 13)] w w' ∧ (0 ≤ r.toInt ∧ r.toInt ≤ 1))) 6 D τ ρ 62 [(0, .ref (ρ 61)), (1, .int l1_62), (2, .int l2_62), (4, .int l4_62)] [.int s0_62] w_62 := by
        intro w_62 l1_62 l2_62 l4_62 s0_62 I_62 F_62 k62_0 k62_1 k62_2
        have gl1_62 := kf_rng l1_62
        have gl2_62 := kf_rng l2_62
        have gl4_62 := kf_rng l4_62
        have gs0_62 := kf_rng s0_62
        refine kv_istore_n C 63 rfl 3 [1, 2, 3, 0, 4] [(0, .ref (ρ 61)), (1, .int l1_62), (2, .int l2_62), (3, .int s0_62), (4, .int l4_62)] (kdec dk_cX10_isSeparator 33 rfl) rfl (by decide) rfl ?_
        refine kv_iinc C 66 rfl 4 4 [1, 2, 3, 4, 0] (fun v9 => [(0, .ref (ρ 61)), (1, .int l1_62), (2, .int l2_62), (3, .int s0_62), (4, .int v9)]) (kdec dk_cX10_isSeparator 34 rfl) rfl (by decide) (fun _ => rfl) 1 rfl (fun x2 q3 h4e h4 h4l h4u => ?_)
        try have h4n : x2.toInt = l4_62.toInt + 1 := by omega
        clear h4 q3
        refine kv_goto C 14 (kdec dk_cX10_isSeparator 35 rfl) (by decide) ?_
        exact ih14 w_62 l1_62 l2_62 s0_62 x2 I_62 F_62 (by omega) (by omega) (by omega) (by omega)
      refine kv_iload C 16 rfl 4 (kdec dk_cX10_isSeparator 9 rfl) rfl ?_
      refine kv_iload_n C 17 rfl 2 (kdec dk_cX10_isSeparator 10 rfl) rfl rfl ?_
      refine kv_icmp_gt C 20 rfl 69 (kdec dk_cX10_isSeparator 11 rfl) (by decide) (fun d5 => ?_) (fun d5 => ?_)
      · skip
        refine kv_iload_n C 70 rfl 3 (kdec dk_cX10_isSeparator 36 rfl) rfl rfl ?_
        exact kv_zret C hr hlk (kdec dk_cX10_isSeparator 37 rfl) (kf_bool (by omega)) ⟨_, rfl, I_14, F_14, (by omega)⟩
      · skip
        refine kv_iload_n C 21 rfl 3 (kdec dk_cX10_isSeparator 12 rfl) rfl rfl ?_
        refine kv_if_ne C 24 rfl 69 (kdec dk_cX10_isSeparator 13 rfl) (by decide) (fun d6 => ?_) (fun d6 => ?_)
        · skip
          refine kv_iload_n C 70 rfl 3 (kdec dk_cX10_isSeparator 36 rfl) rfl rfl ?_
          exact kv_zret C hr hlk (kdec dk_cX10_isSeparator 37 rfl) (kf_bool (by omega)) ⟨_, rfl, I_14, F_14, (by omega)⟩
        · skip
          refine kv_aload_n C 25 rfl 0 (kdec dk_cX10_isSeparator 14 rfl) rfl rfl ?_
          obtain ⟨x7, e8⟩ : ∃ z : Int32, w_14 61 13 = z := ⟨_, rfl⟩
          have b9 : (0 : Int) ≤ x7.toInt ∧ x7.toInt ≤ 13 := by rw [← e8]; exact I_14 61 13
          refine kv_get C 28 rfl 61 13 rfl rfl inX10 (by decide) mfl_TaleMachineModel_148 rfl rfl (kdec dk_cX10_isSeparator 15 rfl) e8 ?_
          refine kv_if_ne C 31 rfl 69 (kdec dk_cX10_isSeparator 16 rfl) (by decide) (fun d10 => ?_) (fun d10 => ?_)
          · skip
            refine kv_iload_n C 70 rfl 3 (kdec dk_cX10_isSeparator 36 rfl) rfl rfl ?_
            exact kv_zret C hr hlk (kdec dk_cX10_isSeparator 37 rfl) (kf_bool (by omega)) ⟨_, rfl, I_14, F_14, (by omega)⟩
          · skip
            refine kv_aload_n C 32 rfl 0 (kdec dk_cX10_isSeparator 17 rfl) rfl rfl ?_
            refine kv_aload_n C 33 rfl 0 (kdec dk_cX10_isSeparator 18 rfl) rfl rfl ?_
            obtain ⟨x11, e12⟩ : ∃ z : Int32, w 61 8 = z := ⟨_, rfl⟩
            have b13 : (0 : Int) ≤ x11.toInt ∧ x11.toInt ≤ 65535 := by rw [← e12]; exact hI 61 8
            have e14 : w_14 61 8 = x11 := ((F_14 61 8 rfl : w_14 61 8 = w 61 8).trans e12)
            refine kv_get C 36 rfl 61 8 rfl rfl inX10 (by decide) mfl_TaleMachineModel_121 rfl rfl (kdec dk_cX10_isSeparator 19 rfl) e14 ?_
            refine kv_iload C 38 rfl 4 (kdec dk_cX10_isSeparator 20 rfl) rfl ?_
            refine kv_iadd C 39 rfl (kdec dk_cX10_isSeparator 21 rfl) (fun x15 q17 h16e h16 h16l h16u => ?_)
            try have h16n : x15.toInt = x11.toInt + l4_14.toInt := by omega
            clear h16 q17
            refine kv_callVi (As := [.int x15]) (rest := []) C 42 rfl 61 (k_x_byteAt l D τ ρ σ w_14 x15 I_14 ) rfl rfl mml_TaleMachineModel_163 mim_yX10_byteAt mse_yX10_byteAt mcd_yX10_byteAt min_yX10_byteAt hd_yX10_byteAt rfl rfl rfl (by decide) rfl (Nat.le_of_ble_eq_true rfl) (kdec dk_cX10_isSeparator 22 rfl) (fun x22 w18 h19 => ?_)
            obtain ⟨I20, f21, p23, p24, p25⟩ := h19
            have F26 : kF [(61, some 13)] w w18 := kF_call F_14 f21 (by decide)
            have g27 := kf_rng x22
            obtain ⟨x28, e29⟩ : ∃ z : Int32, w18 61 13 = z := ⟨_, rfl⟩
            have b30 : (0 : Int) ≤ x28.toInt ∧ x28.toInt ≤ 13 := by rw [← e29]; exact I20 61 13
            rw [e8, e29] at p24
            rw [e29] at p25
            refine kv_istore C 44 rfl 5 [1, 2, 3, 4, 5, 0] [(0, .ref (ρ 61)), (1, .int l1_14), (2, .int l2_14), (3, .int l3_14), (4, .int l4_14), (5, .int x22)] (kdec dk_cX10_isSeparator 23 rfl) (by decide) rfl ?_
            refine kv_iload C 46 rfl 5 (kdec dk_cX10_isSeparator 24 rfl) rfl ?_
            refine kv_iload_n C 47 rfl 1 (kdec dk_cX10_isSeparator 25 rfl) rfl rfl ?_
            refine kv_icmp_ne C 50 rfl 61 (kdec dk_cX10_isSeparator 26 rfl) (by decide) (fun d31 => ?_) (fun d31 => ?_)
            · skip
              refine kv_iconst C 62 rfl 0 (kdec dk_cX10_isSeparator 32 rfl) rfl ?_
              refine kV.sub [0, 1, 2, 4] (L' := [(0, .ref (ρ 61)), (1, .int l1_14), (2, .int l2_14), (4, .int l4_14)]) rfl ?_
              exact cut62 w18 l1_14 l2_14 l4_14 0 I20 F26 (by omega) (by omega) (by omega)
            · skip
              refine kv_aload_n C 51 rfl 0 (kdec dk_cX10_isSeparator 27 rfl) rfl rfl ?_
              refine kv_get C 54 rfl 61 13 rfl rfl inX10 (by decide) mfl_TaleMachineModel_148 rfl rfl (kdec dk_cX10_isSeparator 28 rfl) e29 ?_
              refine kv_if_ne C 57 rfl 61 (kdec dk_cX10_isSeparator 29 rfl) (by decide) (fun d32 => ?_) (fun d32 => ?_)
              · skip
                refine kv_iconst C 62 rfl 0 (kdec dk_cX10_isSeparator 32 rfl) rfl ?_
                refine kV.sub [0, 1, 2, 4] (L' := [(0, .ref (ρ 61)), (1, .int l1_14), (2, .int l2_14), (4, .int l4_14)]) rfl ?_
                exact cut62 w18 l1_14 l2_14 l4_14 0 I20 F26 (by omega) (by omega) (by omega)
              · skip
                refine kv_iconst C 58 rfl 1 (kdec dk_cX10_isSeparator 30 rfl) rfl ?_
                refine kv_goto C 62 (kdec dk_cX10_isSeparator 31 rfl) (by decide) ?_
                refine kV.sub [0, 1, 2, 4] (L' := [(0, .ref (ρ 61)), (1, .int l1_14), (2, .int l2_14), (4, .int l4_14)]) rfl ?_
                exact cut62 w18 l1_14 l2_14 l4_14 1 I20 F26 (by omega) (by omega) (by omega)
  refine kv_aload_n C 1 rfl 0 (kdec dk_cX10_isSeparator 0 rfl) rfl rfl ?_
  refine kv_aload_n C 2 rfl 0 (kdec dk_cX10_isSeparator 1 rfl) rfl rfl ?_
  obtain ⟨x33, e34⟩ : ∃ z : Int32, w 61 8 = z := ⟨_, rfl⟩
  have b35 : (0 : Int) ≤ x33.toInt ∧ x33.toInt ≤ 65535 := by rw [← e34]; exact hI 61 8
  refine kv_get C 5 rfl 61 8 rfl rfl inX10 (by decide) mfl_TaleMachineModel_121 rfl rfl (kdec dk_cX10_isSeparator 2 rfl) e34 ?_
  refine kv_callVi (As := [.int x33]) (rest := []) C 8 rfl 61 (k_x_byteAt l D τ ρ σ w x33 hI ) rfl rfl mml_TaleMachineModel_163 mim_yX10_byteAt mse_yX10_byteAt mcd_yX10_byteAt min_yX10_byteAt hd_yX10_byteAt rfl rfl rfl (by decide) rfl (Nat.le_of_ble_eq_true rfl) (kdec dk_cX10_isSeparator 3 rfl) (fun x40 w36 h37 => ?_)
  obtain ⟨I38, f39, p41, p42, p43⟩ := h37
  have F44 : kF [(61, some 13)] w w36 := kF_call hF0 f39 (by decide)
  have g45 := kf_rng x40
  obtain ⟨x46, e47⟩ : ∃ z : Int32, w 61 13 = z := ⟨_, rfl⟩
  have b48 : (0 : Int) ≤ x46.toInt ∧ x46.toInt ≤ 13 := by rw [← e47]; exact hI 61 13
  obtain ⟨x49, e50⟩ : ∃ z : Int32, w36 61 13 = z := ⟨_, rfl⟩
  have b51 : (0 : Int) ≤ x49.toInt ∧ x49.toInt ≤ 13 := by rw [← e50]; exact I38 61 13
  rw [e47, e50] at p42
  rw [e50] at p43
  refine kv_istore_n C 9 rfl 2 [1, 2, 0] [(0, .ref (ρ 61)), (1, .int a1), (2, .int x40)] (kdec dk_cX10_isSeparator 4 rfl) rfl (by decide) rfl ?_
  refine kv_iconst C 10 rfl 0 (kdec dk_cX10_isSeparator 5 rfl) rfl ?_
  refine kv_istore_n C 11 rfl 3 [1, 2, 3, 0] [(0, .ref (ρ 61)), (1, .int a1), (2, .int x40), (3, .int 0)] (kdec dk_cX10_isSeparator 6 rfl) rfl (by decide) rfl ?_
  refine kv_iconst C 12 rfl 1 (kdec dk_cX10_isSeparator 7 rfl) rfl ?_
  refine kv_istore C 14 rfl 4 [1, 2, 3, 4, 0] [(0, .ref (ρ 61)), (1, .int a1), (2, .int x40), (3, .int 0), (4, .int 1)] (kdec dk_cX10_isSeparator 8 rfl) (by decide) rfl ?_
  exact cut14 ((((257 - (1 : Int32).toInt)) : Int).toNat + 1) w36 a1 x40 0 1 I38 F44 (by omega) (by omega) (by omega) (by omega)

set_option maxHeartbeats 4000000 in
set_option maxRecDepth 100000 in
theorem k_x_letter (l : Launch) (D : va_G) (τ : Nat → ClassId) (ρ σ : Nat → Nat) (w : kw) (a1 : Int32) (hI : kI false w)  :
    kM l D τ ρ σ yX10_letter cX10_letter 2 none { frames := 0, cells := 0, slots := 0, locals := 0 } [.ref (ρ 61), .int a1] w
      (fun o w' => o = none ∧ kI false w' ∧ kF [(61, some 48), (86, none)] w w' ∧ ((w 61 48).toInt < 6 ∧ (w' 61 48).toInt = (w 61 48).toInt + 1 ∨ 6 ≤ (w 61 48).toInt ∧ (w' 61 48).toInt = (w 61 48).toInt)) := by
  refine kM_of (own := "TaleMachineModel") rfl (by decide) (Nat.le_of_ble_eq_true rfl) ?_
  intro p e s m args below meth c C hr hlk
  have hF0 : kF [(61, some 48), (86, none)] w w := kF.rf
  have c_1 : (1 : Int32).toInt = 1 := by decide
  have c_6 : (6 : Int32).toInt = 6 := by decide
  refine kV.L (L' := [(0, .ref (ρ 61)), (1, .int a1)]) rfl ?_
  have g1 := kf_rng a1
  refine kv_aload_n C 1 rfl 0 (kdec dk_cX10_letter 0 rfl) rfl rfl ?_
  obtain ⟨x2, e3⟩ : ∃ z : Int32, w 61 48 = z := ⟨_, rfl⟩
  have b4 : (0 : Int) ≤ x2.toInt ∧ x2.toInt ≤ 6 := by rw [← e3]; exact hI 61 48
  refine kv_get C 4 rfl 61 48 rfl rfl inX10 (by decide) mfl_TaleMachineModel_341 rfl rfl (kdec dk_cX10_letter 1 rfl) e3 ?_
  refine kv_bipush C 6 rfl 6 (kdec dk_cX10_letter 2 rfl) rfl ?_
  refine kv_icmp_ge C 9 rfl 29 (kdec dk_cX10_letter 3 rfl) (by decide) (fun d5 => ?_) (fun d5 => ?_)
  · skip
    exact kv_vret C hr hlk (kdec dk_cX10_letter 16 rfl) ⟨rfl, hI, hF0, (by rw [e3]; try omega)⟩
  · skip
    refine kv_aload_n C 10 rfl 0 (kdec dk_cX10_letter 4 rfl) rfl rfl ?_
    refine kv_getr C 13 rfl 61 47 rfl rfl inX10 (by decide) mfl_TaleMachineModel_83 rfl rfl (kdec dk_cX10_letter 5 rfl) ?_
    refine kv_aload_n C 14 rfl 0 (kdec dk_cX10_letter 6 rfl) rfl rfl ?_
    refine kv_get C 17 rfl 61 48 rfl rfl inX10 (by decide) mfl_TaleMachineModel_341 rfl rfl (kdec dk_cX10_letter 7 rfl) e3 ?_
    refine kv_iload_n C 18 rfl 1 (kdec dk_cX10_letter 8 rfl) rfl rfl ?_
    refine kv_iast C 19 rfl 86 rfl (by omega) (by omega) (kdec dk_cX10_letter 9 rfl) (fun w6 u7 => ?_)
    have I8 : kI false w6 := kI_put u7 hI (kf_rng _).1 (kf_rng _).2
    have F9 : kF [(61, some 48), (86, none)] w w6 := kF_put u7 hF0 rfl
    refine kv_aload_n C 20 rfl 0 (kdec dk_cX10_letter 10 rfl) rfl rfl ?_
    refine kv_dup C 21 rfl (kdec dk_cX10_letter 11 rfl) rfl ?_
    have e10 : w6 61 48 = x2 := ((kup_ne u7 rfl : w6 61 48 = w 61 48).trans e3)
    refine kv_get C 24 rfl 61 48 rfl rfl inX10 (by decide) mfl_TaleMachineModel_341 rfl rfl (kdec dk_cX10_letter 12 rfl) e10 ?_
    refine kv_iconst C 25 rfl 1 (kdec dk_cX10_letter 13 rfl) rfl ?_
    refine kv_iadd C 26 rfl (kdec dk_cX10_letter 14 rfl) (fun x11 q13 h12e h12 h12l h12u => ?_)
    try have h12n : x11.toInt = x2.toInt + (1 : Int32).toInt := by omega
    clear h12 q13
    refine kv_put C 29 rfl 61 48 rfl rfl inX10 (by decide) mfl_TaleMachineModel_341 rfl tyX10 tyX10_ok nmX10 rfl rfl (kdec dk_cX10_letter 15 rfl) rfl rfl (fun w14 u15 => ?_)
    have I16 : kI false w14 := kI_put u15 I8 (show (0 : Int) ≤ (x11 : Int32).toInt by omega) (show (x11 : Int32).toInt ≤ 6 by omega)
    have F17 : kF [(61, some 48), (86, none)] w w14 := kF_put u15 F9 rfl
    exact kv_vret C hr hlk (kdec dk_cX10_letter 16 rfl) ⟨rfl, I16, F17, (by rw [e3, (kup_eq u15)]; try omega)⟩

set_option maxHeartbeats 4000000 in
set_option maxRecDepth 100000 in
theorem k_x_letters (l : Launch) (D : va_G) (τ : Nat → ClassId) (ρ σ : Nat → Nat) (w : kw) (a1 : Int32) (hI : kI false w)  :
    kM l D τ ρ σ yX10_letters cX10_letters 3 none { frames := 1, cells := 0, slots := 0, locals := 36 } [.ref (ρ 61), .int a1] w
      (fun o w' => o = none ∧ kI false w' ∧ kF [(61, some 48), (86, none)] w w') := by
  refine kM_of (own := "TaleMachineModel") rfl (by decide) (Nat.le_of_ble_eq_true rfl) ?_
  intro p e s m args below meth c C hr hlk
  have hF0 : kF [(61, some 48), (86, none)] w w := kF.rf
  have c_0 : (0 : Int32).toInt = 0 := by decide
  have c_5 : (5 : Int32).toInt = 5 := by decide
  have c_6 : (6 : Int32).toInt = 6 := by decide
  have c_8 : (8 : Int32).toInt = 8 := by decide
  have c_24 : (24 : Int32).toInt = 24 := by decide
  have c_31 : (31 : Int32).toInt = 31 := by decide
  have c_97 : (97 : Int32).toInt = 97 := by decide
  refine kV.L (L' := [(0, .ref (ρ 61)), (1, .int a1)]) rfl ?_
  have g1 := kf_rng a1
  have cut55 : ∀ (w_55 : kw) (l1_55 l2_55 : Int32), kI false w_55 → kF [(61, some 48), (86, none)] w w_55 → kV p l e { frames := 1, cells := 0, slots := 0, locals := 36 } s m args below meth c (kQ below args s D τ ρ (fun o w' => o = none ∧ kI false w' ∧ kF [(61, some 48), (86, none)] w w')) 3 D τ ρ 55 [(0, .ref (ρ 61)), (1, .int l1_55), (2, .int l2_55)] [] w_55 := by
    intro w_55 l1_55 l2_55 I_55 F_55 
    have gl1_55 := kf_rng l1_55
    have gl2_55 := kf_rng l2_55
    refine kv_iload_n C 56 rfl 2 (kdec dk_cX10_letters 30 rfl) rfl rfl ?_
    refine kv_bipush C 58 rfl 24 (kdec dk_cX10_letters 31 rfl) rfl ?_
    refine kv_icmp_ge C 61 rfl 72 (kdec dk_cX10_letters 32 rfl) (by decide) (fun d2 => ?_) (fun d2 => ?_)
    · skip
      refine kv_aload_n C 73 rfl 0 (kdec dk_cX10_letters 39 rfl) rfl rfl ?_
      refine kv_bipush C 75 rfl 6 (kdec dk_cX10_letters 40 rfl) rfl ?_
      refine kv_callVv (As := [.int 6]) (rest := []) C 78 rfl 61 (k_x_letter l D τ ρ σ w_55 6 I_55 ) rfl rfl mml_TaleMachineModel_348 mim_yX10_letter mse_yX10_letter mcd_yX10_letter min_yX10_letter hd_yX10_letter rfl rfl rfl (by decide) rfl (Nat.le_of_ble_eq_true rfl) (kdec dk_cX10_letters 41 rfl) (fun w3 h4 => ?_)
      obtain ⟨I5, f6, p8⟩ := h4
      have F9 : kF [(61, some 48), (86, none)] w w3 := kF_call F_55 f6 (by decide)
      obtain ⟨x10, e11⟩ : ∃ z : Int32, w_55 61 48 = z := ⟨_, rfl⟩
      have b12 : (0 : Int) ≤ x10.toInt ∧ x10.toInt ≤ 6 := by rw [← e11]; exact I_55 61 48
      obtain ⟨x13, e14⟩ : ∃ z : Int32, w3 61 48 = z := ⟨_, rfl⟩
      have b15 : (0 : Int) ≤ x13.toInt ∧ x13.toInt ≤ 6 := by rw [← e14]; exact I5 61 48
      rw [e11, e14] at p8
      refine kv_aload_n C 79 rfl 0 (kdec dk_cX10_letters 42 rfl) rfl rfl ?_
      refine kv_iload_n C 80 rfl 1 (kdec dk_cX10_letters 43 rfl) rfl rfl ?_
      refine kv_iconst C 81 rfl 5 (kdec dk_cX10_letters 44 rfl) rfl ?_
      refine kv_ishr C 82 rfl (kdec dk_cX10_letters 45 rfl) (fun x16 h17e h17l h17u => ?_)
      refine kv_callVv (As := [.int x16]) (rest := []) C 85 rfl 61 (k_x_letter l D τ ρ σ w3 x16 I5 ) rfl rfl mml_TaleMachineModel_348 mim_yX10_letter mse_yX10_letter mcd_yX10_letter min_yX10_letter hd_yX10_letter rfl rfl rfl (by decide) rfl (Nat.le_of_ble_eq_true rfl) (kdec dk_cX10_letters 46 rfl) (fun w18 h19 => ?_)
      obtain ⟨I20, f21, p23⟩ := h19
      have F24 : kF [(61, some 48), (86, none)] w w18 := kF_call F9 f21 (by decide)
      obtain ⟨x25, e26⟩ : ∃ z : Int32, w18 61 48 = z := ⟨_, rfl⟩
      have b27 : (0 : Int) ≤ x25.toInt ∧ x25.toInt ≤ 6 := by rw [← e26]; exact I20 61 48
      rw [e14, e26] at p23
      refine kv_aload_n C 86 rfl 0 (kdec dk_cX10_letters 47 rfl) rfl rfl ?_
      refine kv_iload_n C 87 rfl 1 (kdec dk_cX10_letters 48 rfl) rfl rfl ?_
      refine kv_bipush C 89 rfl 31 (kdec dk_cX10_letters 49 rfl) rfl ?_
      refine kv_iand C 90 rfl (kdec dk_cX10_letters 50 rfl) (fun x28 h29e h29l h29u => ?_)
      have g30 := kf_and31 h29e
      refine kv_callVv (As := [.int x28]) (rest := []) C 93 rfl 61 (k_x_letter l D τ ρ σ w18 x28 I20 ) rfl rfl mml_TaleMachineModel_348 mim_yX10_letter mse_yX10_letter mcd_yX10_letter min_yX10_letter hd_yX10_letter rfl rfl rfl (by decide) rfl (Nat.le_of_ble_eq_true rfl) (kdec dk_cX10_letters 51 rfl) (fun w31 h32 => ?_)
      obtain ⟨I33, f34, p36⟩ := h32
      have F37 : kF [(61, some 48), (86, none)] w w31 := kF_call F24 f34 (by decide)
      obtain ⟨x38, e39⟩ : ∃ z : Int32, w31 61 48 = z := ⟨_, rfl⟩
      have b40 : (0 : Int) ≤ x38.toInt ∧ x38.toInt ≤ 6 := by rw [← e39]; exact I33 61 48
      rw [e26, e39] at p36
      exact kv_vret C hr hlk (kdec dk_cX10_letters 52 rfl) ⟨rfl, I33, F37⟩
    · skip
      refine kv_aload_n C 62 rfl 0 (kdec dk_cX10_letters 33 rfl) rfl rfl ?_
      refine kv_bipush C 64 rfl 8 (kdec dk_cX10_letters 34 rfl) rfl ?_
      refine kv_iload_n C 65 rfl 2 (kdec dk_cX10_letters 35 rfl) rfl rfl ?_
      refine kv_iadd C 66 rfl (kdec dk_cX10_letters 36 rfl) (fun x41 q43 h42e h42 h42l h42u => ?_)
      try have h42n : x41.toInt = (8 : Int32).toInt + l2_55.toInt := by omega
      clear h42 q43
      refine kv_callVv (As := [.int x41]) (rest := []) C 69 rfl 61 (k_x_letter l D τ ρ σ w_55 x41 I_55 ) rfl rfl mml_TaleMachineModel_348 mim_yX10_letter mse_yX10_letter mcd_yX10_letter min_yX10_letter hd_yX10_letter rfl rfl rfl (by decide) rfl (Nat.le_of_ble_eq_true rfl) (kdec dk_cX10_letters 37 rfl) (fun w44 h45 => ?_)
      obtain ⟨I46, f47, p49⟩ := h45
      have F50 : kF [(61, some 48), (86, none)] w w44 := kF_call F_55 f47 (by decide)
      obtain ⟨x51, e52⟩ : ∃ z : Int32, w_55 61 48 = z := ⟨_, rfl⟩
      have b53 : (0 : Int) ≤ x51.toInt ∧ x51.toInt ≤ 6 := by rw [← e52]; exact I_55 61 48
      obtain ⟨x54, e55⟩ : ∃ z : Int32, w44 61 48 = z := ⟨_, rfl⟩
      have b56 : (0 : Int) ≤ x54.toInt ∧ x54.toInt ≤ 6 := by rw [← e55]; exact I46 61 48
      rw [e52, e55] at p49
      refine kv_goto C 93 (kdec dk_cX10_letters 38 rfl) (by decide) ?_
      exact kv_vret C hr hlk (kdec dk_cX10_letters 52 rfl) ⟨rfl, I46, F50⟩
  have cut33 : ∀ (n_33 : Nat) (w_33 : kw) (l1_33 l2_33 : Int32), kI false w_33 → kF [(61, some 48), (86, none)] w w_33 → (0 ≤ l2_33.toInt ∧ l2_33.toInt ≤ 24) → ((25 - l2_33.toInt) : Int) < (n_33 : Int) → kV p l e { frames := 1, cells := 0, slots := 0, locals := 36 } s m args below meth c (kQ below args s D τ ρ (fun o w' => o = none ∧ kI false w' ∧ kF [(61, some 48), (86, none)] w w')) 3 D τ ρ 33 [(0, .ref (ρ 61)), (1, .int l1_33), (2, .int l2_33)] [] w_33 := by
    intro n_33
    induction n_33 with
    | zero => intro w_33 l1_33 l2_33 I_33 F_33 k33_0 hmz; exfalso; omega
    | succ n_33 ih33 =>
      intro w_33 l1_33 l2_33 I_33 F_33 k33_0 hm33
      have gl1_33 := kf_rng l1_33
      have gl2_33 := kf_rng l2_33
      refine kv_iload_n C 34 rfl 2 (kdec dk_cX10_letters 19 rfl) rfl rfl ?_
      refine kv_bipush C 36 rfl 24 (kdec dk_cX10_letters 20 rfl) rfl ?_
      refine kv_icmp_ge C 39 rfl 55 (kdec dk_cX10_letters 21 rfl) (by decide) (fun d57 => ?_) (fun d57 => ?_)
      · skip
        exact cut55 w_33 l1_33 l2_33 I_33 F_33 
      · skip
        refine kv_aload_n C 40 rfl 0 (kdec dk_cX10_letters 22 rfl) rfl rfl ?_
        refine kv_getr C 43 rfl 61 0 rfl rfl inX10 (by decide) mfl_TaleMachineModel_7 rfl rfl (kdec dk_cX10_letters 23 rfl) ?_
        refine kv_iload_n C 44 rfl 2 (kdec dk_cX10_letters 24 rfl) rfl rfl ?_
        obtain ⟨x58, e59⟩ : ∃ z : Int32, w_33 62 (l2_33 : Int32).toNatClampNeg = z := ⟨_, rfl⟩
        have b60 : (0 : Int) ≤ x58.toInt ∧ x58.toInt ≤ 255 := by rw [← e59]; exact I_33 62 _
        refine kv_iald C 45 rfl 62 rfl (by omega) (by omega) e59 (kdec dk_cX10_letters 25 rfl) ?_
        refine kv_iload_n C 46 rfl 1 (kdec dk_cX10_letters 26 rfl) rfl rfl ?_
        refine kv_icmp_eq C 49 rfl 55 (kdec dk_cX10_letters 27 rfl) (by decide) (fun d61 => ?_) (fun d61 => ?_)
        · skip
          exact cut55 w_33 l1_33 l2_33 I_33 F_33 
        · skip
          refine kv_iinc C 52 rfl 2 2 [1, 2, 0] (fun v9 => [(0, .ref (ρ 61)), (1, .int l1_33), (2, .int v9)]) (kdec dk_cX10_letters 28 rfl) rfl (by decide) (fun _ => rfl) 1 rfl (fun x62 q63 h64e h64 h64l h64u => ?_)
          try have h64n : x62.toInt = l2_33.toInt + 1 := by omega
          clear h64 q63
          refine kv_goto C 33 (kdec dk_cX10_letters 29 rfl) (by decide) ?_
          exact ih33 w_33 l1_33 x62 I_33 F_33 (by omega) (by omega)
  refine kv_iload_n C 1 rfl 1 (kdec dk_cX10_letters 0 rfl) rfl rfl ?_
  refine kv_i2l C 2 rfl (kdec dk_cX10_letters 1 rfl) ?_
  have h65 := kf_i2l a1
  refine kv_ldc2 C 5 rfl 97 (kdec dk_cX10_letters 2 rfl) mcl_TaleMachineModel_344 ?_
  have h66 : (97 : Int64).toInt = 97 := by decide
  refine kv_ldc2 C 8 rfl 122 (kdec dk_cX10_letters 3 rfl) mcl_TaleMachineModel_346 ?_
  have h67 : (122 : Int64).toInt = 122 := by decide
  refine kv_callSi (As := [.long (a1 : Int32).toInt64, .long (97 : Int64), .long (122 : Int64)]) (rest := []) C 11 rfl (k_x_in l D τ ρ σ w (a1 : Int32).toInt64 (97 : Int64) (122 : Int64) hI ) mml_TaleMachineModel_94 mst_yX10_in mcd_yX10_in min_yX10_in hd_yX10_in rfl rfl rfl (by decide) rfl (Nat.le_of_ble_eq_true rfl) (kdec dk_cX10_letters 4 rfl) (fun x72 w68 h69 => ?_)
  obtain ⟨I70, f71, p73, p74⟩ := h69
  have F75 : kF [(61, some 48), (86, none)] w w68 := kF_call hF0 f71 (by decide)
  have g76 := kf_rng x72
  refine kv_if_eq C 14 rfl 26 (kdec dk_cX10_letters 5 rfl) (by decide) (fun d77 => ?_) (fun d77 => ?_)
  · skip
    refine kv_aload_n C 27 rfl 0 (kdec dk_cX10_letters 14 rfl) rfl rfl ?_
    refine kv_iconst C 28 rfl 5 (kdec dk_cX10_letters 15 rfl) rfl ?_
    refine kv_callVv (As := [.int 5]) (rest := []) C 31 rfl 61 (k_x_letter l D τ ρ σ w68 5 I70 ) rfl rfl mml_TaleMachineModel_348 mim_yX10_letter mse_yX10_letter mcd_yX10_letter min_yX10_letter hd_yX10_letter rfl rfl rfl (by decide) rfl (Nat.le_of_ble_eq_true rfl) (kdec dk_cX10_letters 16 rfl) (fun w78 h79 => ?_)
    obtain ⟨I80, f81, p83⟩ := h79
    have F84 : kF [(61, some 48), (86, none)] w w78 := kF_call F75 f81 (by decide)
    obtain ⟨x85, e86⟩ : ∃ z : Int32, w 61 48 = z := ⟨_, rfl⟩
    have b87 : (0 : Int) ≤ x85.toInt ∧ x85.toInt ≤ 6 := by rw [← e86]; exact hI 61 48
    have e88 : w68 61 48 = x85 := ((f71 61 48 rfl : w68 61 48 = w 61 48).trans e86)
    obtain ⟨x89, e90⟩ : ∃ z : Int32, w78 61 48 = z := ⟨_, rfl⟩
    have b91 : (0 : Int) ≤ x89.toInt ∧ x89.toInt ≤ 6 := by rw [← e90]; exact I80 61 48
    rw [e88, e90] at p83
    refine kv_iconst C 32 rfl 0 (kdec dk_cX10_letters 17 rfl) rfl ?_
    refine kv_istore_n C 33 rfl 2 [1, 2, 0] [(0, .ref (ρ 61)), (1, .int a1), (2, .int 0)] (kdec dk_cX10_letters 18 rfl) rfl (by decide) rfl ?_
    exact cut33 ((((25 - (0 : Int32).toInt)) : Int).toNat + 1) w78 a1 0 I80 F84 (by omega) (by omega)
  · skip
    refine kv_aload_n C 15 rfl 0 (kdec dk_cX10_letters 6 rfl) rfl rfl ?_
    refine kv_iload_n C 16 rfl 1 (kdec dk_cX10_letters 7 rfl) rfl rfl ?_
    refine kv_bipush C 18 rfl 97 (kdec dk_cX10_letters 8 rfl) rfl ?_
    refine kv_isub C 19 rfl (kdec dk_cX10_letters 9 rfl) (fun x92 q94 h93e h93 h93l h93u => ?_)
    try have h93n : x92.toInt = a1.toInt - (97 : Int32).toInt := by omega
    clear h93 q94
    refine kv_bipush C 21 rfl 6 (kdec dk_cX10_letters 10 rfl) rfl ?_
    refine kv_iadd C 22 rfl (kdec dk_cX10_letters 11 rfl) (fun x95 q97 h96e h96 h96l h96u => ?_)
    try have h96n : x95.toInt = x92.toInt + (6 : Int32).toInt := by omega
    clear h96 q97
    refine kv_callVv (As := [.int x95]) (rest := []) C 25 rfl 61 (k_x_letter l D τ ρ σ w68 x95 I70 ) rfl rfl mml_TaleMachineModel_348 mim_yX10_letter mse_yX10_letter mcd_yX10_letter min_yX10_letter hd_yX10_letter rfl rfl rfl (by decide) rfl (Nat.le_of_ble_eq_true rfl) (kdec dk_cX10_letters 12 rfl) (fun w98 h99 => ?_)
    obtain ⟨I100, f101, p103⟩ := h99
    have F104 : kF [(61, some 48), (86, none)] w w98 := kF_call F75 f101 (by decide)
    obtain ⟨x105, e106⟩ : ∃ z : Int32, w 61 48 = z := ⟨_, rfl⟩
    have b107 : (0 : Int) ≤ x105.toInt ∧ x105.toInt ≤ 6 := by rw [← e106]; exact hI 61 48
    have e108 : w68 61 48 = x105 := ((f71 61 48 rfl : w68 61 48 = w 61 48).trans e106)
    obtain ⟨x109, e110⟩ : ∃ z : Int32, w98 61 48 = z := ⟨_, rfl⟩
    have b111 : (0 : Int) ≤ x109.toInt ∧ x109.toInt ≤ 6 := by rw [← e110]; exact I100 61 48
    rw [e108, e110] at p103
    exact kv_vret C hr hlk (kdec dk_cX10_letters 13 rfl) ⟨rfl, I100, F104⟩

set_option maxHeartbeats 4000000 in
set_option maxRecDepth 100000 in
theorem k_x_looked (l : Launch) (D : va_G) (τ : Nat → ClassId) (ρ σ : Nat → Nat) (w : kw) (a1 : Int32) (a2 : Int32) (hI : kI false w) (hp0 : 0 ≤ a1.toInt ∧ a1.toInt + a2.toInt ≤ 8) :
    kM l D τ ρ σ yX10_looked cX10_looked 12 (some .int) { frames := 3, cells := 0, slots := 0, locals := 108 } [.ref (ρ 61), .int a1, .int a2] w
      (fun o w' => ∃ r : Int32, o = some (.int r) ∧ kI false w' ∧ kF [(61, some 13), (61, some 48), (86, none)] w w' ∧ (0 ≤ r.toInt ∧ r.toInt ≤ 65535)) := by
  refine kM_of (own := "TaleMachineModel") rfl (by decide) (Nat.le_of_ble_eq_true rfl) ?_
  intro p e s m args below meth c C hr hlk
  have hF0 : kF [(61, some 13), (61, some 48), (86, none)] w w := kF.rf
  have c_0 : (0 : Int32).toInt = 0 := by decide
  have c_1 : (1 : Int32).toInt = 1 := by decide
  have c_2 : (2 : Int32).toInt = 2 := by decide
  have c_3 : (3 : Int32).toInt = 3 := by decide
  have c_4 : (4 : Int32).toInt = 4 := by decide
  have c_5 : (5 : Int32).toInt = 5 := by decide
  have c_6 : (6 : Int32).toInt = 6 := by decide
  have c_32 : (32 : Int32).toInt = 32 := by decide
  have c_255 : (255 : Int32).toInt = 255 := by decide
  have c_1024 : (1024 : Int32).toInt = 1024 := by decide
  have c_32768 : (32768 : Int32).toInt = 32768 := by decide
  have c_65535 : (65535 : Int32).toInt = 65535 := by decide
  refine kV.L (L' := [(0, .ref (ρ 61)), (1, .int a1), (2, .int a2)]) rfl ?_
  have g1 := kf_rng a1
  have g2 := kf_rng a2
  have cut184 : ∀ (n_184 : Nat) (w_184 : kw) (l3_184 l4_184 l6_184 l7_184 l8_184 l9_184 : Int32), kI false w_184 → kF [(61, some 13), (61, some 48), (86, none)] w w_184 → (0 ≤ l9_184.toInt ∧ l9_184.toInt ≤ 255) → ((256 - l9_184.toInt) : Int) < (n_184 : Int) → kV p l e { frames := 3, cells := 0, slots := 0, locals := 108 } s m args below meth c (kQ below args s D τ ρ (fun o w' => ∃ r : Int32, o = some (.int r) ∧ kI false w' ∧ kF [(61, some 13), (61, some 48), (86, none)] w w' ∧ (0 ≤ r.toInt ∧ r.toInt ≤ 65535))) 12 D τ ρ 184 [(0, .ref (ρ 61)), (3, .int l3_184), (4, .int l4_184), (6, .int l6_184), (7, .int l7_184), (8, .int l8_184), (9, .int l9_184)] [] w_184 := by
    intro n_184
    induction n_184 with
    | zero => intro w_184 l3_184 l4_184 l6_184 l7_184 l8_184 l9_184 I_184 F_184 k184_0 hmz; exfalso; omega
    | succ n_184 ih184 =>
      intro w_184 l3_184 l4_184 l6_184 l7_184 l8_184 l9_184 I_184 F_184 k184_0 hm184
      have gl3_184 := kf_rng l3_184
      have gl4_184 := kf_rng l4_184
      have gl6_184 := kf_rng l6_184
      have gl7_184 := kf_rng l7_184
      have gl8_184 := kf_rng l8_184
      have gl9_184 := kf_rng l9_184
      have cut261 : ∀ (w_261 : kw) (l3_261 l4_261 l6_261 l7_261 l8_261 l9_261 : Int32), kI false w_261 → kF [(61, some 13), (61, some 48), (86, none)] w w_261 → (0 ≤ l9_261.toInt ∧ l9_261.toInt < 255 ∧ l9_261.toInt = l9_184.toInt) → kV p l e { frames := 3, cells := 0, slots := 0, locals := 108 } s m args below meth c (kQ below args s D τ ρ (fun o w' => ∃ r : Int32, o = some (.int r) ∧ kI false w' ∧ kF [(61, some 13), (61, some 48), (86, none)] w w' ∧ (0 ≤ r.toInt ∧ r.toInt ≤ 65535))) 12 D τ ρ 261 [(0, .ref (ρ 61)), (3, .int l3_261), (4, .int l4_261), (6, .int l6_261), (7, .int l7_261), (8, .int l8_261), (9, .int l9_261)] [] w_261 := by
        intro w_261 l3_261 l4_261 l6_261 l7_261 l8_261 l9_261 I_261 F_261 k261_0
        have gl3_261 := kf_rng l3_261
        have gl4_261 := kf_rng l4_261
        have gl6_261 := kf_rng l6_261
        have gl7_261 := kf_rng l7_261
        have gl8_261 := kf_rng l8_261
        have gl9_261 := kf_rng l9_261
        refine kv_iload C 263 rfl 5 (kdec dk_cX10_looked 145 rfl) rfl ?_
        refine kv_iload C 265 rfl 3 (kdec dk_cX10_looked 146 rfl) rfl ?_
        refine kv_iadd C 266 rfl (kdec dk_cX10_looked 147 rfl) (fun x3 q5 h4e h4 h4l h4u => ?_)
        try have h4n : x3.toInt = l8_261.toInt + l6_261.toInt := by omega
        clear h4 q5
        refine kv_istore C 268 rfl 8 [1, 2, 3, 4, 5, 0, 6] [(0, .ref (ρ 61)), (3, .int l3_261), (4, .int l4_261), (6, .int l6_261), (7, .int l7_261), (8, .int x3), (9, .int l9_261)] (kdec dk_cX10_looked 148 rfl) (by decide) rfl ?_
        refine kv_iinc C 271 rfl 9 6 [1, 2, 3, 4, 5, 6, 0] (fun v9 => [(0, .ref (ρ 61)), (3, .int l3_261), (4, .int l4_261), (6, .int l6_261), (7, .int l7_261), (8, .int x3), (9, .int v9)]) (kdec dk_cX10_looked 149 rfl) rfl (by decide) (fun _ => rfl) 1 rfl (fun x6 q7 h8e h8 h8l h8u => ?_)
        try have h8n : x6.toInt = l9_261.toInt + 1 := by omega
        clear h8 q7
        refine kv_goto C 184 (kdec dk_cX10_looked 150 rfl) (by decide) ?_
        exact ih184 w_261 l3_261 l4_261 l6_261 l7_261 x3 x6 I_261 F_261 (by omega) (by omega)
      have cut233 : ∀ (w_233 : kw) (l3_233 l4_233 l6_233 l7_233 l8_233 l9_233 l10_233 s0_233 : Int32), kI false w_233 → kF [(61, some 13), (61, some 48), (86, none)] w w_233 → (0 ≤ l9_233.toInt ∧ l9_233.toInt < 255 ∧ l9_233.toInt = l9_184.toInt) → kV p l e { frames := 3, cells := 0, slots := 0, locals := 108 } s m args below meth c (kQ below args s D τ ρ (fun o w' => ∃ r : Int32, o = some (.int r) ∧ kI false w' ∧ kF [(61, some 13), (61, some 48), (86, none)] w w' ∧ (0 ≤ r.toInt ∧ r.toInt ≤ 65535))) 12 D τ ρ 233 [(0, .ref (ρ 61)), (3, .int l3_233), (4, .int l4_233), (6, .int l6_233), (7, .int l7_233), (8, .int l8_233), (9, .int l9_233), (10, .int l10_233)] [.int s0_233] w_233 := by
        intro w_233 l3_233 l4_233 l6_233 l7_233 l8_233 l9_233 l10_233 s0_233 I_233 F_233 k233_0
        have gl3_233 := kf_rng l3_233
        have gl4_233 := kf_rng l4_233
        have gl6_233 := kf_rng l6_233
        have gl7_233 := kf_rng l7_233
        have gl8_233 := kf_rng l8_233
        have gl9_233 := kf_rng l9_233
        have gl10_233 := kf_rng l10_233
        have gs0_233 := kf_rng s0_233
        refine kv_istore C 235 rfl 11 [1, 2, 3, 4, 5, 6, 7, 8, 0] [(0, .ref (ρ 61)), (3, .int l3_233), (4, .int l4_233), (6, .int l6_233), (7, .int l7_233), (8, .int l8_233), (9, .int l9_233), (10, .int l10_233), (11, .int s0_233)] (kdec dk_cX10_looked 131 rfl) (by decide) rfl ?_
        refine kv_aload_n C 236 rfl 0 (kdec dk_cX10_looked 132 rfl) rfl rfl ?_
        obtain ⟨x9, e10⟩ : ∃ z : Int32, w_233 61 13 = z := ⟨_, rfl⟩
        have b11 : (0 : Int) ≤ x9.toInt ∧ x9.toInt ≤ 13 := by rw [← e10]; exact I_233 61 13
        refine kv_get C 239 rfl 61 13 rfl rfl inX10 (by decide) mfl_TaleMachineModel_148 rfl rfl (kdec dk_cX10_looked 133 rfl) e10 ?_
        refine kv_if_ne C 242 rfl 261 (kdec dk_cX10_looked 134 rfl) (by decide) (fun d12 => ?_) (fun d12 => ?_)
        · skip
          refine kV.sub [0, 1, 2, 3, 4, 5, 6] (L' := [(0, .ref (ρ 61)), (3, .int l3_233), (4, .int l4_233), (6, .int l6_233), (7, .int l7_233), (8, .int l8_233), (9, .int l9_233)]) rfl ?_
          exact cut261 w_233 l3_233 l4_233 l6_233 l7_233 l8_233 l9_233 I_233 F_233 (by omega)
        · skip
          refine kv_iload C 244 rfl 7 (kdec dk_cX10_looked 135 rfl) rfl ?_
          refine kv_iload_n C 245 rfl 1 (kdec dk_cX10_looked 136 rfl) rfl rfl ?_
          refine kv_icmp_ne C 248 rfl 261 (kdec dk_cX10_looked 137 rfl) (by decide) (fun d13 => ?_) (fun d13 => ?_)
          · skip
            refine kV.sub [0, 1, 2, 3, 4, 5, 6] (L' := [(0, .ref (ρ 61)), (3, .int l3_233), (4, .int l4_233), (6, .int l6_233), (7, .int l7_233), (8, .int l8_233), (9, .int l9_233)]) rfl ?_
            exact cut261 w_233 l3_233 l4_233 l6_233 l7_233 l8_233 l9_233 I_233 F_233 (by omega)
          · skip
            refine kv_iload C 250 rfl 8 (kdec dk_cX10_looked 138 rfl) rfl ?_
            refine kv_iload C 252 rfl 2 (kdec dk_cX10_looked 139 rfl) rfl ?_
            refine kv_icmp_ne C 255 rfl 261 (kdec dk_cX10_looked 140 rfl) (by decide) (fun d14 => ?_) (fun d14 => ?_)
            · skip
              refine kV.sub [0, 1, 2, 3, 4, 5, 6] (L' := [(0, .ref (ρ 61)), (3, .int l3_233), (4, .int l4_233), (6, .int l6_233), (7, .int l7_233), (8, .int l8_233), (9, .int l9_233)]) rfl ?_
              exact cut261 w_233 l3_233 l4_233 l6_233 l7_233 l8_233 l9_233 I_233 F_233 (by omega)
            · skip
              refine kv_iload C 257 rfl 5 (kdec dk_cX10_looked 141 rfl) rfl ?_
              refine kv_ldc C 259 rfl 65535 (kdec dk_cX10_looked 142 rfl) mco_TaleMachineModel_104 ?_
              refine kv_iand C 260 rfl (kdec dk_cX10_looked 143 rfl) (fun x15 h16e h16l h16u => ?_)
              have g17 := kf_and65535 h16e
              exact kv_iret C hr hlk (kdec dk_cX10_looked 144 rfl) ⟨_, rfl, I_233, F_233, (by omega)⟩
      refine kv_iload C 186 rfl 6 (kdec dk_cX10_looked 108 rfl) rfl ?_
      refine kv_iload C 188 rfl 4 (kdec dk_cX10_looked 109 rfl) rfl ?_
      refine kv_icmp_ge C 191 rfl 274 (kdec dk_cX10_looked 110 rfl) (by decide) (fun d18 => ?_) (fun d18 => ?_)
      · skip
        refine kv_iconst C 275 rfl 0 (kdec dk_cX10_looked 151 rfl) rfl ?_
        exact kv_iret C hr hlk (kdec dk_cX10_looked 152 rfl) ⟨_, rfl, I_184, F_184, (by omega)⟩
      · skip
        refine kv_iload C 193 rfl 6 (kdec dk_cX10_looked 111 rfl) rfl ?_
        refine kv_sipush C 196 rfl 255 (kdec dk_cX10_looked 112 rfl) rfl ?_
        refine kv_icmp_ge C 199 rfl 274 (kdec dk_cX10_looked 113 rfl) (by decide) (fun d19 => ?_) (fun d19 => ?_)
        · skip
          refine kv_iconst C 275 rfl 0 (kdec dk_cX10_looked 151 rfl) rfl ?_
          exact kv_iret C hr hlk (kdec dk_cX10_looked 152 rfl) ⟨_, rfl, I_184, F_184, (by omega)⟩
        · skip
          refine kv_aload_n C 200 rfl 0 (kdec dk_cX10_looked 114 rfl) rfl rfl ?_
          obtain ⟨x20, e21⟩ : ∃ z : Int32, w_184 61 13 = z := ⟨_, rfl⟩
          have b22 : (0 : Int) ≤ x20.toInt ∧ x20.toInt ≤ 13 := by rw [← e21]; exact I_184 61 13
          refine kv_get C 203 rfl 61 13 rfl rfl inX10 (by decide) mfl_TaleMachineModel_148 rfl rfl (kdec dk_cX10_looked 115 rfl) e21 ?_
          refine kv_if_ne C 206 rfl 274 (kdec dk_cX10_looked 116 rfl) (by decide) (fun d23 => ?_) (fun d23 => ?_)
          · skip
            refine kv_iconst C 275 rfl 0 (kdec dk_cX10_looked 151 rfl) rfl ?_
            exact kv_iret C hr hlk (kdec dk_cX10_looked 152 rfl) ⟨_, rfl, I_184, F_184, (by omega)⟩
          · skip
            refine kv_aload_n C 207 rfl 0 (kdec dk_cX10_looked 117 rfl) rfl rfl ?_
            refine kv_iload C 209 rfl 5 (kdec dk_cX10_looked 118 rfl) rfl ?_
            refine kv_callVi (As := [.int l8_184]) (rest := []) C 212 rfl 61 (k_x_wordAt l D τ ρ σ w_184 l8_184 I_184 ) rfl rfl mml_TaleMachineModel_178 mim_yX10_wordAt mse_yX10_wordAt mcd_yX10_wordAt min_yX10_wordAt hd_yX10_wordAt rfl rfl rfl (by decide) rfl (Nat.le_of_ble_eq_true rfl) (kdec dk_cX10_looked 119 rfl) (fun x28 w24 h25 => ?_)
            obtain ⟨I26, f27, p29, p30⟩ := h25
            have F31 : kF [(61, some 13), (61, some 48), (86, none)] w w24 := kF_call F_184 f27 (by decide)
            have g32 := kf_rng x28
            obtain ⟨x33, e34⟩ : ∃ z : Int32, w24 61 13 = z := ⟨_, rfl⟩
            have b35 : (0 : Int) ≤ x33.toInt ∧ x33.toInt ≤ 13 := by rw [← e34]; exact I26 61 13
            rw [e21, e34] at p30
            refine kv_istore C 214 rfl 10 [1, 2, 3, 4, 5, 6, 7, 0] [(0, .ref (ρ 61)), (3, .int l3_184), (4, .int l4_184), (6, .int l6_184), (7, .int l7_184), (8, .int l8_184), (9, .int l9_184), (10, .int x28)] (kdec dk_cX10_looked 120 rfl) (by decide) rfl ?_
            refine kv_aload_n C 215 rfl 0 (kdec dk_cX10_looked 121 rfl) rfl rfl ?_
            refine kv_get C 218 rfl 61 13 rfl rfl inX10 (by decide) mfl_TaleMachineModel_148 rfl rfl (kdec dk_cX10_looked 122 rfl) e34 ?_
            refine kv_if_le C 221 rfl 225 (kdec dk_cX10_looked 123 rfl) (by decide) (fun d36 => ?_) (fun d36 => ?_)
            · skip
              refine kv_aload_n C 226 rfl 0 (kdec dk_cX10_looked 126 rfl) rfl rfl ?_
              refine kv_iload C 228 rfl 5 (kdec dk_cX10_looked 127 rfl) rfl ?_
              refine kv_iconst C 229 rfl 2 (kdec dk_cX10_looked 128 rfl) rfl ?_
              refine kv_iadd C 230 rfl (kdec dk_cX10_looked 129 rfl) (fun x37 q39 h38e h38 h38l h38u => ?_)
              try have h38n : x37.toInt = l8_184.toInt + (2 : Int32).toInt := by omega
              clear h38 q39
              refine kv_callVi (As := [.int x37]) (rest := []) C 233 rfl 61 (k_x_wordAt l D τ ρ σ w24 x37 I26 ) rfl rfl mml_TaleMachineModel_178 mim_yX10_wordAt mse_yX10_wordAt mcd_yX10_wordAt min_yX10_wordAt hd_yX10_wordAt rfl rfl rfl (by decide) rfl (Nat.le_of_ble_eq_true rfl) (kdec dk_cX10_looked 130 rfl) (fun x44 w40 h41 => ?_)
              obtain ⟨I42, f43, p45, p46⟩ := h41
              have F47 : kF [(61, some 13), (61, some 48), (86, none)] w w40 := kF_call F31 f43 (by decide)
              have g48 := kf_rng x44
              obtain ⟨x49, e50⟩ : ∃ z : Int32, w40 61 13 = z := ⟨_, rfl⟩
              have b51 : (0 : Int) ≤ x49.toInt ∧ x49.toInt ≤ 13 := by rw [← e50]; exact I42 61 13
              rw [e34, e50] at p46
              exact cut233 w40 l3_184 l4_184 l6_184 l7_184 l8_184 l9_184 x28 x44 I42 F47 (by omega)
            · skip
              refine kv_iconst C 222 rfl 0 (kdec dk_cX10_looked 124 rfl) rfl ?_
              refine kv_goto C 233 (kdec dk_cX10_looked 125 rfl) (by decide) ?_
              exact cut233 w24 l3_184 l4_184 l6_184 l7_184 l8_184 l9_184 x28 0 I26 F31 (by omega)
  have cut168 : ∀ (w_168 : kw) (l3_168 l4_168 l5_168 l6_168 s0_168 : Int32), kI false w_168 → kF [(61, some 13), (61, some 48), (86, none)] w w_168 → kV p l e { frames := 3, cells := 0, slots := 0, locals := 108 } s m args below meth c (kQ below args s D τ ρ (fun o w' => ∃ r : Int32, o = some (.int r) ∧ kI false w' ∧ kF [(61, some 13), (61, some 48), (86, none)] w w' ∧ (0 ≤ r.toInt ∧ r.toInt ≤ 65535))) 12 D τ ρ 168 [(0, .ref (ρ 61)), (3, .int l3_168), (4, .int l4_168), (5, .int l5_168), (6, .int l6_168)] [.int s0_168] w_168 := by
    intro w_168 l3_168 l4_168 l5_168 l6_168 s0_168 I_168 F_168 
    have gl3_168 := kf_rng l3_168
    have gl4_168 := kf_rng l4_168
    have gl5_168 := kf_rng l5_168
    have gl6_168 := kf_rng l6_168
    have gs0_168 := kf_rng s0_168
    refine kv_istore C 170 rfl 7 [1, 2, 3, 4, 5, 0] [(0, .ref (ρ 61)), (3, .int l3_168), (4, .int l4_168), (5, .int l5_168), (6, .int l6_168), (7, .int s0_168)] (kdec dk_cX10_looked 98 rfl) (by decide) rfl ?_
    refine kv_aload_n C 171 rfl 0 (kdec dk_cX10_looked 99 rfl) rfl rfl ?_
    obtain ⟨x52, e53⟩ : ∃ z : Int32, w 61 8 = z := ⟨_, rfl⟩
    have b54 : (0 : Int) ≤ x52.toInt ∧ x52.toInt ≤ 65535 := by rw [← e53]; exact hI 61 8
    have e55 : w_168 61 8 = x52 := ((F_168 61 8 rfl : w_168 61 8 = w 61 8).trans e53)
    refine kv_get C 174 rfl 61 8 rfl rfl inX10 (by decide) mfl_TaleMachineModel_121 rfl rfl (kdec dk_cX10_looked 100 rfl) e55 ?_
    refine kv_iconst C 175 rfl 4 (kdec dk_cX10_looked 101 rfl) rfl ?_
    refine kv_iadd C 176 rfl (kdec dk_cX10_looked 102 rfl) (fun x56 q58 h57e h57 h57l h57u => ?_)
    try have h57n : x56.toInt = x52.toInt + (4 : Int32).toInt := by omega
    clear h57 q58
    refine kv_iload C 178 rfl 3 (kdec dk_cX10_looked 103 rfl) rfl ?_
    refine kv_iadd C 179 rfl (kdec dk_cX10_looked 104 rfl) (fun x59 q61 h60e h60 h60l h60u => ?_)
    try have h60n : x59.toInt = x56.toInt + l5_168.toInt := by omega
    clear h60 q61
    refine kv_istore C 181 rfl 8 [1, 2, 3, 4, 5, 6, 0] [(0, .ref (ρ 61)), (3, .int l3_168), (4, .int l4_168), (5, .int l5_168), (6, .int l6_168), (7, .int s0_168), (8, .int x59)] (kdec dk_cX10_looked 105 rfl) (by decide) rfl ?_
    refine kv_iconst C 182 rfl 0 (kdec dk_cX10_looked 106 rfl) rfl ?_
    refine kv_istore C 184 rfl 9 [1, 2, 3, 4, 5, 6, 7, 0] [(0, .ref (ρ 61)), (3, .int l3_168), (4, .int l4_168), (5, .int l5_168), (6, .int l6_168), (7, .int s0_168), (8, .int x59), (9, .int 0)] (kdec dk_cX10_looked 107 rfl) (by decide) rfl ?_
    refine kV.sub [0, 1, 2, 4, 5, 6, 7] (L' := [(0, .ref (ρ 61)), (3, .int l3_168), (4, .int l4_168), (6, .int l6_168), (7, .int s0_168), (8, .int x59), (9, .int 0)]) rfl ?_
    exact cut184 ((((256 - (0 : Int32).toInt)) : Int).toNat + 1) w_168 l3_168 l4_168 l6_168 s0_168 x59 0 I_168 F_168 (by omega) (by omega)
  have cut142 : ∀ (w_142 : kw) (l3_142 l4_142 l5_142 s0_142 : Int32), kI false w_142 → kF [(61, some 13), (61, some 48), (86, none)] w w_142 → kV p l e { frames := 3, cells := 0, slots := 0, locals := 108 } s m args below meth c (kQ below args s D τ ρ (fun o w' => ∃ r : Int32, o = some (.int r) ∧ kI false w' ∧ kF [(61, some 13), (61, some 48), (86, none)] w w' ∧ (0 ≤ r.toInt ∧ r.toInt ≤ 65535))) 12 D τ ρ 142 [(0, .ref (ρ 61)), (3, .int l3_142), (4, .int l4_142), (5, .int l5_142)] [.int s0_142] w_142 := by
    intro w_142 l3_142 l4_142 l5_142 s0_142 I_142 F_142 
    have gl3_142 := kf_rng l3_142
    have gl4_142 := kf_rng l4_142
    have gl5_142 := kf_rng l5_142
    have gs0_142 := kf_rng s0_142
    refine kv_istore C 144 rfl 6 [1, 2, 3, 4, 0] [(0, .ref (ρ 61)), (3, .int l3_142), (4, .int l4_142), (5, .int l5_142), (6, .int s0_142)] (kdec dk_cX10_looked 84 rfl) (by decide) rfl ?_
    refine kv_aload_n C 145 rfl 0 (kdec dk_cX10_looked 85 rfl) rfl rfl ?_
    obtain ⟨x62, e63⟩ : ∃ z : Int32, w_142 61 13 = z := ⟨_, rfl⟩
    have b64 : (0 : Int) ≤ x62.toInt ∧ x62.toInt ≤ 13 := by rw [← e63]; exact I_142 61 13
    refine kv_get C 148 rfl 61 13 rfl rfl inX10 (by decide) mfl_TaleMachineModel_148 rfl rfl (kdec dk_cX10_looked 86 rfl) e63 ?_
    refine kv_if_le C 151 rfl 155 (kdec dk_cX10_looked 87 rfl) (by decide) (fun d65 => ?_) (fun d65 => ?_)
    · skip
      refine kv_aload_n C 156 rfl 0 (kdec dk_cX10_looked 90 rfl) rfl rfl ?_
      refine kv_aload_n C 157 rfl 0 (kdec dk_cX10_looked 91 rfl) rfl rfl ?_
      obtain ⟨x66, e67⟩ : ∃ z : Int32, w 61 8 = z := ⟨_, rfl⟩
      have b68 : (0 : Int) ≤ x66.toInt ∧ x66.toInt ≤ 65535 := by rw [← e67]; exact hI 61 8
      have e69 : w_142 61 8 = x66 := ((F_142 61 8 rfl : w_142 61 8 = w 61 8).trans e67)
      refine kv_get C 160 rfl 61 8 rfl rfl inX10 (by decide) mfl_TaleMachineModel_121 rfl rfl (kdec dk_cX10_looked 92 rfl) e69 ?_
      refine kv_iconst C 161 rfl 2 (kdec dk_cX10_looked 93 rfl) rfl ?_
      refine kv_iadd C 162 rfl (kdec dk_cX10_looked 94 rfl) (fun x70 q72 h71e h71 h71l h71u => ?_)
      try have h71n : x70.toInt = x66.toInt + (2 : Int32).toInt := by omega
      clear h71 q72
      refine kv_iload C 164 rfl 3 (kdec dk_cX10_looked 95 rfl) rfl ?_
      refine kv_iadd C 165 rfl (kdec dk_cX10_looked 96 rfl) (fun x73 q75 h74e h74 h74l h74u => ?_)
      try have h74n : x73.toInt = x70.toInt + l5_142.toInt := by omega
      clear h74 q75
      refine kv_callVi (As := [.int x73]) (rest := []) C 168 rfl 61 (k_x_wordAt l D τ ρ σ w_142 x73 I_142 ) rfl rfl mml_TaleMachineModel_178 mim_yX10_wordAt mse_yX10_wordAt mcd_yX10_wordAt min_yX10_wordAt hd_yX10_wordAt rfl rfl rfl (by decide) rfl (Nat.le_of_ble_eq_true rfl) (kdec dk_cX10_looked 97 rfl) (fun x80 w76 h77 => ?_)
      obtain ⟨I78, f79, p81, p82⟩ := h77
      have F83 : kF [(61, some 13), (61, some 48), (86, none)] w w76 := kF_call F_142 f79 (by decide)
      have g84 := kf_rng x80
      obtain ⟨x85, e86⟩ : ∃ z : Int32, w76 61 13 = z := ⟨_, rfl⟩
      have b87 : (0 : Int) ≤ x85.toInt ∧ x85.toInt ≤ 13 := by rw [← e86]; exact I78 61 13
      rw [e63, e86] at p82
      exact cut168 w76 l3_142 l4_142 l5_142 s0_142 x80 I78 F83 
    · skip
      refine kv_iconst C 152 rfl 0 (kdec dk_cX10_looked 88 rfl) rfl ?_
      refine kv_goto C 168 (kdec dk_cX10_looked 89 rfl) (by decide) ?_
      exact cut168 w_142 l3_142 l4_142 l5_142 s0_142 0 I_142 F_142 
  have cut30 : ∀ (n_30 : Nat) (w_30 : kw), kI false w_30 → kF [(61, some 13), (61, some 48), (86, none)] w w_30 → ((w_30 61 48).toInt ≤ 6) → ((6 - (w_30 61 48).toInt) : Int) < (n_30 : Int) → kV p l e { frames := 3, cells := 0, slots := 0, locals := 108 } s m args below meth c (kQ below args s D τ ρ (fun o w' => ∃ r : Int32, o = some (.int r) ∧ kI false w' ∧ kF [(61, some 13), (61, some 48), (86, none)] w w' ∧ (0 ≤ r.toInt ∧ r.toInt ≤ 65535))) 12 D τ ρ 30 [(0, .ref (ρ 61))] [] w_30 := by
    intro n_30
    induction n_30 with
    | zero => intro w_30  I_30 F_30 k30_0 hmz; exfalso; omega
    | succ n_30 ih30 =>
      intro w_30  I_30 F_30 k30_0 hm30
      obtain ⟨x88, e89⟩ : ∃ z : Int32, w_30 61 48 = z := ⟨_, rfl⟩
      have b90 : (0 : Int) ≤ x88.toInt ∧ x88.toInt ≤ 6 := by rw [← e89]; exact I_30 61 48
      rw [e89] at k30_0
      rw [e89] at hm30
      refine kv_aload_n C 31 rfl 0 (kdec dk_cX10_looked 18 rfl) rfl rfl ?_
      refine kv_get C 34 rfl 61 48 rfl rfl inX10 (by decide) mfl_TaleMachineModel_341 rfl rfl (kdec dk_cX10_looked 19 rfl) e89 ?_
      refine kv_bipush C 36 rfl 6 (kdec dk_cX10_looked 20 rfl) rfl ?_
      refine kv_icmp_ge C 39 rfl 47 (kdec dk_cX10_looked 21 rfl) (by decide) (fun d91 => ?_) (fun d91 => ?_)
      · skip
        refine kv_sipush C 50 rfl 1024 (kdec dk_cX10_looked 26 rfl) rfl ?_
        refine kv_aload_n C 51 rfl 0 (kdec dk_cX10_looked 27 rfl) rfl rfl ?_
        refine kv_getr C 54 rfl 61 47 rfl rfl inX10 (by decide) mfl_TaleMachineModel_83 rfl rfl (kdec dk_cX10_looked 28 rfl) ?_
        refine kv_iconst C 55 rfl 0 (kdec dk_cX10_looked 29 rfl) rfl ?_
        obtain ⟨x92, e93⟩ : ∃ z : Int32, w_30 86 0 = z := ⟨_, rfl⟩
        have b94 : (-2147483648 : Int) ≤ x92.toInt ∧ x92.toInt ≤ 2147483647 := by rw [← e93]; exact I_30 86 0
        refine kv_iald C 56 rfl 86 rfl (by omega) (by omega) (show w_30 86 (0 : Int32).toNatClampNeg = x92 from e93) (kdec dk_cX10_looked 30 rfl) ?_
        refine kv_imul C 57 rfl (kdec dk_cX10_looked 31 rfl) (fun x95 h96e h96l h96u => ?_)
        obtain ⟨q97, g98⟩ := kf_mul 1024 x92
        rw [← h96e, c_1024] at g98
        try have h96n : x95.toInt = 1024 * x92.toInt := by omega
        clear g98 q97
        refine kv_bipush C 59 rfl 32 (kdec dk_cX10_looked 32 rfl) rfl ?_
        refine kv_aload_n C 60 rfl 0 (kdec dk_cX10_looked 33 rfl) rfl rfl ?_
        refine kv_getr C 63 rfl 61 47 rfl rfl inX10 (by decide) mfl_TaleMachineModel_83 rfl rfl (kdec dk_cX10_looked 34 rfl) ?_
        refine kv_iconst C 64 rfl 1 (kdec dk_cX10_looked 35 rfl) rfl ?_
        obtain ⟨x99, e100⟩ : ∃ z : Int32, w_30 86 1 = z := ⟨_, rfl⟩
        have b101 : (-2147483648 : Int) ≤ x99.toInt ∧ x99.toInt ≤ 2147483647 := by rw [← e100]; exact I_30 86 1
        refine kv_iald C 65 rfl 86 rfl (by omega) (by omega) (show w_30 86 (1 : Int32).toNatClampNeg = x99 from e100) (kdec dk_cX10_looked 36 rfl) ?_
        refine kv_imul C 66 rfl (kdec dk_cX10_looked 37 rfl) (fun x102 h103e h103l h103u => ?_)
        obtain ⟨q104, g105⟩ := kf_mul 32 x99
        rw [← h103e, c_32] at g105
        try have h103n : x102.toInt = 32 * x99.toInt := by omega
        clear g105 q104
        refine kv_iadd C 67 rfl (kdec dk_cX10_looked 38 rfl) (fun x106 q108 h107e h107 h107l h107u => ?_)
        try have h107n : x106.toInt = x95.toInt + x102.toInt := by omega
        clear h107 q108
        refine kv_aload_n C 68 rfl 0 (kdec dk_cX10_looked 39 rfl) rfl rfl ?_
        refine kv_getr C 71 rfl 61 47 rfl rfl inX10 (by decide) mfl_TaleMachineModel_83 rfl rfl (kdec dk_cX10_looked 40 rfl) ?_
        refine kv_iconst C 72 rfl 2 (kdec dk_cX10_looked 41 rfl) rfl ?_
        obtain ⟨x109, e110⟩ : ∃ z : Int32, w_30 86 2 = z := ⟨_, rfl⟩
        have b111 : (-2147483648 : Int) ≤ x109.toInt ∧ x109.toInt ≤ 2147483647 := by rw [← e110]; exact I_30 86 2
        refine kv_iald C 73 rfl 86 rfl (by omega) (by omega) (show w_30 86 (2 : Int32).toNatClampNeg = x109 from e110) (kdec dk_cX10_looked 42 rfl) ?_
        refine kv_iadd C 74 rfl (kdec dk_cX10_looked 43 rfl) (fun x112 q114 h113e h113 h113l h113u => ?_)
        try have h113n : x112.toInt = x106.toInt + x109.toInt := by omega
        clear h113 q114
        refine kv_istore_n C 75 rfl 3 [1, 0] [(0, .ref (ρ 61)), (3, .int x112)] (kdec dk_cX10_looked 44 rfl) rfl (by decide) rfl ?_
        refine kv_ldcw C 78 rfl 32768 (kdec dk_cX10_looked 45 rfl) mco_TaleMachineModel_353 ?_
        refine kv_sipush C 81 rfl 1024 (kdec dk_cX10_looked 46 rfl) rfl ?_
        refine kv_aload_n C 82 rfl 0 (kdec dk_cX10_looked 47 rfl) rfl rfl ?_
        refine kv_getr C 85 rfl 61 47 rfl rfl inX10 (by decide) mfl_TaleMachineModel_83 rfl rfl (kdec dk_cX10_looked 48 rfl) ?_
        refine kv_iconst C 86 rfl 3 (kdec dk_cX10_looked 49 rfl) rfl ?_
        obtain ⟨x115, e116⟩ : ∃ z : Int32, w_30 86 3 = z := ⟨_, rfl⟩
        have b117 : (-2147483648 : Int) ≤ x115.toInt ∧ x115.toInt ≤ 2147483647 := by rw [← e116]; exact I_30 86 3
        refine kv_iald C 87 rfl 86 rfl (by omega) (by omega) (show w_30 86 (3 : Int32).toNatClampNeg = x115 from e116) (kdec dk_cX10_looked 50 rfl) ?_
        refine kv_imul C 88 rfl (kdec dk_cX10_looked 51 rfl) (fun x118 h119e h119l h119u => ?_)
        obtain ⟨q120, g121⟩ := kf_mul 1024 x115
        rw [← h119e, c_1024] at g121
        try have h119n : x118.toInt = 1024 * x115.toInt := by omega
        clear g121 q120
        refine kv_iadd C 89 rfl (kdec dk_cX10_looked 52 rfl) (fun x122 q124 h123e h123 h123l h123u => ?_)
        try have h123n : x122.toInt = (32768 : Int32).toInt + x118.toInt := by omega
        clear h123 q124
        refine kv_bipush C 91 rfl 32 (kdec dk_cX10_looked 53 rfl) rfl ?_
        refine kv_aload_n C 92 rfl 0 (kdec dk_cX10_looked 54 rfl) rfl rfl ?_
        refine kv_getr C 95 rfl 61 47 rfl rfl inX10 (by decide) mfl_TaleMachineModel_83 rfl rfl (kdec dk_cX10_looked 55 rfl) ?_
        refine kv_iconst C 96 rfl 4 (kdec dk_cX10_looked 56 rfl) rfl ?_
        obtain ⟨x125, e126⟩ : ∃ z : Int32, w_30 86 4 = z := ⟨_, rfl⟩
        have b127 : (-2147483648 : Int) ≤ x125.toInt ∧ x125.toInt ≤ 2147483647 := by rw [← e126]; exact I_30 86 4
        refine kv_iald C 97 rfl 86 rfl (by omega) (by omega) (show w_30 86 (4 : Int32).toNatClampNeg = x125 from e126) (kdec dk_cX10_looked 57 rfl) ?_
        refine kv_imul C 98 rfl (kdec dk_cX10_looked 58 rfl) (fun x128 h129e h129l h129u => ?_)
        obtain ⟨q130, g131⟩ := kf_mul 32 x125
        rw [← h129e, c_32] at g131
        try have h129n : x128.toInt = 32 * x125.toInt := by omega
        clear g131 q130
        refine kv_iadd C 99 rfl (kdec dk_cX10_looked 59 rfl) (fun x132 q134 h133e h133 h133l h133u => ?_)
        try have h133n : x132.toInt = x122.toInt + x128.toInt := by omega
        clear h133 q134
        refine kv_aload_n C 100 rfl 0 (kdec dk_cX10_looked 60 rfl) rfl rfl ?_
        refine kv_getr C 103 rfl 61 47 rfl rfl inX10 (by decide) mfl_TaleMachineModel_83 rfl rfl (kdec dk_cX10_looked 61 rfl) ?_
        refine kv_iconst C 104 rfl 5 (kdec dk_cX10_looked 62 rfl) rfl ?_
        obtain ⟨x135, e136⟩ : ∃ z : Int32, w_30 86 5 = z := ⟨_, rfl⟩
        have b137 : (-2147483648 : Int) ≤ x135.toInt ∧ x135.toInt ≤ 2147483647 := by rw [← e136]; exact I_30 86 5
        refine kv_iald C 105 rfl 86 rfl (by omega) (by omega) (show w_30 86 (5 : Int32).toNatClampNeg = x135 from e136) (kdec dk_cX10_looked 63 rfl) ?_
        refine kv_iadd C 106 rfl (kdec dk_cX10_looked 64 rfl) (fun x138 q140 h139e h139 h139l h139u => ?_)
        try have h139n : x138.toInt = x132.toInt + x135.toInt := by omega
        clear h139 q140
        refine kv_istore C 108 rfl 4 [1, 2, 0] [(0, .ref (ρ 61)), (3, .int x112), (4, .int x138)] (kdec dk_cX10_looked 65 rfl) (by decide) rfl ?_
        refine kv_aload_n C 109 rfl 0 (kdec dk_cX10_looked 66 rfl) rfl rfl ?_
        refine kv_aload_n C 110 rfl 0 (kdec dk_cX10_looked 67 rfl) rfl rfl ?_
        obtain ⟨x141, e142⟩ : ∃ z : Int32, w 61 8 = z := ⟨_, rfl⟩
        have b143 : (0 : Int) ≤ x141.toInt ∧ x141.toInt ≤ 65535 := by rw [← e142]; exact hI 61 8
        have e144 : w_30 61 8 = x141 := ((F_30 61 8 rfl : w_30 61 8 = w 61 8).trans e142)
        refine kv_get C 113 rfl 61 8 rfl rfl inX10 (by decide) mfl_TaleMachineModel_121 rfl rfl (kdec dk_cX10_looked 68 rfl) e144 ?_
        refine kv_callVi (As := [.int x141]) (rest := []) C 116 rfl 61 (k_x_byteAt l D τ ρ σ w_30 x141 I_30 ) rfl rfl mml_TaleMachineModel_163 mim_yX10_byteAt mse_yX10_byteAt mcd_yX10_byteAt min_yX10_byteAt hd_yX10_byteAt rfl rfl rfl (by decide) rfl (Nat.le_of_ble_eq_true rfl) (kdec dk_cX10_looked 69 rfl) (fun x149 w145 h146 => ?_)
        obtain ⟨I147, f148, p150, p151, p152⟩ := h146
        have F153 : kF [(61, some 13), (61, some 48), (86, none)] w w145 := kF_call F_30 f148 (by decide)
        have g154 := kf_rng x149
        obtain ⟨x155, e156⟩ : ∃ z : Int32, w_30 61 13 = z := ⟨_, rfl⟩
        have b157 : (0 : Int) ≤ x155.toInt ∧ x155.toInt ≤ 13 := by rw [← e156]; exact I_30 61 13
        obtain ⟨x158, e159⟩ : ∃ z : Int32, w145 61 13 = z := ⟨_, rfl⟩
        have b160 : (0 : Int) ≤ x158.toInt ∧ x158.toInt ≤ 13 := by rw [← e159]; exact I147 61 13
        rw [e156, e159] at p151
        rw [e159] at p152
        refine kv_istore C 118 rfl 5 [1, 2, 3, 0] [(0, .ref (ρ 61)), (3, .int x112), (4, .int x138), (5, .int x149)] (kdec dk_cX10_looked 70 rfl) (by decide) rfl ?_
        refine kv_aload_n C 119 rfl 0 (kdec dk_cX10_looked 71 rfl) rfl rfl ?_
        refine kv_get C 122 rfl 61 13 rfl rfl inX10 (by decide) mfl_TaleMachineModel_148 rfl rfl (kdec dk_cX10_looked 72 rfl) e159 ?_
        refine kv_if_le C 125 rfl 129 (kdec dk_cX10_looked 73 rfl) (by decide) (fun d161 => ?_) (fun d161 => ?_)
        · skip
          refine kv_aload_n C 130 rfl 0 (kdec dk_cX10_looked 76 rfl) rfl rfl ?_
          refine kv_aload_n C 131 rfl 0 (kdec dk_cX10_looked 77 rfl) rfl rfl ?_
          have e162 : w145 61 8 = x141 := ((f148 61 8 rfl : w145 61 8 = w_30 61 8).trans e144)
          refine kv_get C 134 rfl 61 8 rfl rfl inX10 (by decide) mfl_TaleMachineModel_121 rfl rfl (kdec dk_cX10_looked 78 rfl) e162 ?_
          refine kv_iconst C 135 rfl 1 (kdec dk_cX10_looked 79 rfl) rfl ?_
          refine kv_iadd C 136 rfl (kdec dk_cX10_looked 80 rfl) (fun x163 q165 h164e h164 h164l h164u => ?_)
          try have h164n : x163.toInt = x141.toInt + (1 : Int32).toInt := by omega
          clear h164 q165
          refine kv_iload C 138 rfl 3 (kdec dk_cX10_looked 81 rfl) rfl ?_
          refine kv_iadd C 139 rfl (kdec dk_cX10_looked 82 rfl) (fun x166 q168 h167e h167 h167l h167u => ?_)
          try have h167n : x166.toInt = x163.toInt + x149.toInt := by omega
          clear h167 q168
          refine kv_callVi (As := [.int x166]) (rest := []) C 142 rfl 61 (k_x_byteAt l D τ ρ σ w145 x166 I147 ) rfl rfl mml_TaleMachineModel_163 mim_yX10_byteAt mse_yX10_byteAt mcd_yX10_byteAt min_yX10_byteAt hd_yX10_byteAt rfl rfl rfl (by decide) rfl (Nat.le_of_ble_eq_true rfl) (kdec dk_cX10_looked 83 rfl) (fun x173 w169 h170 => ?_)
          obtain ⟨I171, f172, p174, p175, p176⟩ := h170
          have F177 : kF [(61, some 13), (61, some 48), (86, none)] w w169 := kF_call F153 f172 (by decide)
          have g178 := kf_rng x173
          obtain ⟨x179, e180⟩ : ∃ z : Int32, w169 61 13 = z := ⟨_, rfl⟩
          have b181 : (0 : Int) ≤ x179.toInt ∧ x179.toInt ≤ 13 := by rw [← e180]; exact I171 61 13
          rw [e159, e180] at p175
          rw [e180] at p176
          exact cut142 w169 x112 x138 x149 x173 I171 F177 
        · skip
          refine kv_iconst C 126 rfl 0 (kdec dk_cX10_looked 74 rfl) rfl ?_
          refine kv_goto C 142 (kdec dk_cX10_looked 75 rfl) (by decide) ?_
          exact cut142 w145 x112 x138 x149 0 I147 F153 
      · skip
        refine kv_aload_n C 40 rfl 0 (kdec dk_cX10_looked 22 rfl) rfl rfl ?_
        refine kv_iconst C 41 rfl 5 (kdec dk_cX10_looked 23 rfl) rfl ?_
        refine kv_callVv (As := [.int 5]) (rest := []) C 44 rfl 61 (k_x_letter l D τ ρ σ w_30 5 I_30 ) rfl rfl mml_TaleMachineModel_348 mim_yX10_letter mse_yX10_letter mcd_yX10_letter min_yX10_letter hd_yX10_letter rfl rfl rfl (by decide) rfl (Nat.le_of_ble_eq_true rfl) (kdec dk_cX10_looked 24 rfl) (fun w182 h183 => ?_)
        obtain ⟨I184, f185, p187⟩ := h183
        have F188 : kF [(61, some 13), (61, some 48), (86, none)] w w182 := kF_call F_30 f185 (by decide)
        obtain ⟨x189, e190⟩ : ∃ z : Int32, w182 61 48 = z := ⟨_, rfl⟩
        have b191 : (0 : Int) ≤ x189.toInt ∧ x189.toInt ≤ 6 := by rw [← e190]; exact I184 61 48
        rw [e89, e190] at p187
        refine kv_goto C 30 (kdec dk_cX10_looked 25 rfl) (by decide) ?_
        exact ih30 w182  I184 F188 (by rw [e190]; try omega) (by rw [e190]; try omega)
  have cut7 : ∀ (n_7 : Nat) (w_7 : kw) (l1_7 l2_7 l3_7 : Int32), kI false w_7 → kF [(61, some 13), (61, some 48), (86, none)] w w_7 → (0 ≤ l3_7.toInt ∧ l3_7.toInt ≤ 9 ∧ l1_7.toInt = a1.toInt ∧ l2_7.toInt = a2.toInt) → ((10 - l3_7.toInt) : Int) < (n_7 : Int) → kV p l e { frames := 3, cells := 0, slots := 0, locals := 108 } s m args below meth c (kQ below args s D τ ρ (fun o w' => ∃ r : Int32, o = some (.int r) ∧ kI false w' ∧ kF [(61, some 13), (61, some 48), (86, none)] w w' ∧ (0 ≤ r.toInt ∧ r.toInt ≤ 65535))) 12 D τ ρ 7 [(0, .ref (ρ 61)), (1, .int l1_7), (2, .int l2_7), (3, .int l3_7)] [] w_7 := by
    intro n_7
    induction n_7 with
    | zero => intro w_7 l1_7 l2_7 l3_7 I_7 F_7 k7_0 hmz; exfalso; omega
    | succ n_7 ih7 =>
      intro w_7 l1_7 l2_7 l3_7 I_7 F_7 k7_0 hm7
      have gl1_7 := kf_rng l1_7
      have gl2_7 := kf_rng l2_7
      have gl3_7 := kf_rng l3_7
      refine kv_iload_n C 8 rfl 3 (kdec dk_cX10_looked 5 rfl) rfl rfl ?_
      refine kv_iload_n C 9 rfl 2 (kdec dk_cX10_looked 6 rfl) rfl rfl ?_
      refine kv_icmp_ge C 12 rfl 30 (kdec dk_cX10_looked 7 rfl) (by decide) (fun d192 => ?_) (fun d192 => ?_)
      · skip
        obtain ⟨x193, e194⟩ : ∃ z : Int32, w_7 61 48 = z := ⟨_, rfl⟩
        have b195 : (0 : Int) ≤ x193.toInt ∧ x193.toInt ≤ 6 := by rw [← e194]; exact I_7 61 48
        refine kV.sub [0] (L' := [(0, .ref (ρ 61))]) rfl ?_
        exact cut30 ((((6 - (w_7 61 48).toInt)) : Int).toNat + 1) w_7  I_7 F_7 (by rw [e194]; try omega) (by omega)
      · skip
        refine kv_aload_n C 13 rfl 0 (kdec dk_cX10_looked 8 rfl) rfl rfl ?_
        refine kv_aload_n C 14 rfl 0 (kdec dk_cX10_looked 9 rfl) rfl rfl ?_
        refine kv_getr C 17 rfl 61 46 rfl rfl inX10 (by decide) mfl_TaleMachineModel_80 rfl rfl (kdec dk_cX10_looked 10 rfl) ?_
        refine kv_iload_n C 18 rfl 1 (kdec dk_cX10_looked 11 rfl) rfl rfl ?_
        refine kv_iload_n C 19 rfl 3 (kdec dk_cX10_looked 12 rfl) rfl rfl ?_
        refine kv_iadd C 20 rfl (kdec dk_cX10_looked 13 rfl) (fun x196 q198 h197e h197 h197l h197u => ?_)
        try have h197n : x196.toInt = l1_7.toInt + l3_7.toInt := by omega
        clear h197 q198
        obtain ⟨x199, e200⟩ : ∃ z : Int32, w_7 85 (x196 : Int32).toNatClampNeg = z := ⟨_, rfl⟩
        have b201 : (-2147483648 : Int) ≤ x199.toInt ∧ x199.toInt ≤ 2147483647 := by rw [← e200]; exact I_7 85 _
        refine kv_iald C 21 rfl 85 rfl (by omega) (by omega) e200 (kdec dk_cX10_looked 14 rfl) ?_
        refine kv_callVv (As := [.int x199]) (rest := []) C 24 rfl 61 (k_x_letters l D τ ρ σ w_7 x199 I_7 ) rfl rfl mml_TaleMachineModel_351 mim_yX10_letters mse_yX10_letters mcd_yX10_letters min_yX10_letters hd_yX10_letters rfl rfl rfl (by decide) rfl (Nat.le_of_ble_eq_true rfl) (kdec dk_cX10_looked 15 rfl) (fun w202 h203 => ?_)
        obtain ⟨I204, f205⟩ := h203
        have F207 : kF [(61, some 13), (61, some 48), (86, none)] w w202 := kF_call F_7 f205 (by decide)
        refine kv_iinc C 27 rfl 3 3 [1, 2, 3, 0] (fun v9 => [(0, .ref (ρ 61)), (1, .int l1_7), (2, .int l2_7), (3, .int v9)]) (kdec dk_cX10_looked 16 rfl) rfl (by decide) (fun _ => rfl) 1 rfl (fun x208 q209 h210e h210 h210l h210u => ?_)
        try have h210n : x208.toInt = l3_7.toInt + 1 := by omega
        clear h210 q209
        refine kv_goto C 7 (kdec dk_cX10_looked 17 rfl) (by decide) ?_
        exact ih7 w202 l1_7 l2_7 x208 I204 F207 (by omega) (by omega)
  refine kv_aload_n C 1 rfl 0 (kdec dk_cX10_looked 0 rfl) rfl rfl ?_
  refine kv_iconst C 2 rfl 0 (kdec dk_cX10_looked 1 rfl) rfl ?_
  refine kv_put C 5 rfl 61 48 rfl rfl inX10 (by decide) mfl_TaleMachineModel_341 rfl tyX10 tyX10_ok nmX10 rfl rfl (kdec dk_cX10_looked 2 rfl) rfl rfl (fun w211 u212 => ?_)
  have I213 : kI false w211 := kI_put u212 hI (show (0 : Int) ≤ (0 : Int32).toInt by omega) (show (0 : Int32).toInt ≤ 6 by omega)
  have F214 : kF [(61, some 13), (61, some 48), (86, none)] w w211 := kF_put u212 hF0 rfl
  refine kv_iconst C 6 rfl 0 (kdec dk_cX10_looked 3 rfl) rfl ?_
  refine kv_istore_n C 7 rfl 3 [1, 2, 3, 0] [(0, .ref (ρ 61)), (1, .int a1), (2, .int a2), (3, .int 0)] (kdec dk_cX10_looked 4 rfl) rfl (by decide) rfl ?_
  exact cut7 ((((10 - (0 : Int32).toInt)) : Int).toNat + 1) w211 a1 a2 0 I213 F214 (by omega) (by omega)

set_option maxHeartbeats 4000000 in
set_option maxRecDepth 100000 in
theorem k_x_line (l : Launch) (D : va_G) (τ : Nat → ClassId) (ρ σ : Nat → Nat) (w : kw) (a1 : Int32) (a2 : Int32) (hI : kI false w)  :
    kM l D τ ρ σ yX10_line cX10_line 11 (some .int) { frames := 4, cells := 0, slots := 0, locals := 144 } [.ref (ρ 61), .int a1, .int a2] w
      (fun o w' => ∃ r : Int32, o = some (.int r) ∧ kI false w' ∧ kF [(61, some 12), (61, some 13), (61, some 48), (64, none), (85, none), (86, none)] w w' ∧ ((w 61 12).toInt = 3 ∨ r.toInt = -2 ∧ (w' 61 12).toInt = (w 61 12).toInt)) := by
  refine kM_of (own := "TaleMachineModel") rfl (by decide) (Nat.le_of_ble_eq_true rfl) ?_
  intro p e s m args below meth c C hr hlk
  have hF0 : kF [(61, some 12), (61, some 13), (61, some 48), (64, none), (85, none), (86, none)] w w := kF.rf
  have c_m10 : (-10 : Int32).toInt = -10 := by decide
  have c_m2 : (-2 : Int32).toInt = -2 := by decide
  have c_0 : (0 : Int32).toInt = 0 := by decide
  have c_1 : (1 : Int32).toInt = 1 := by decide
  have c_2 : (2 : Int32).toInt = 2 := by decide
  have c_3 : (3 : Int32).toInt = 3 := by decide
  have c_4 : (4 : Int32).toInt = 4 := by decide
  have c_8 : (8 : Int32).toInt = 8 := by decide
  have c_24 : (24 : Int32).toInt = 24 := by decide
  have c_32 : (32 : Int32).toInt = 32 := by decide
  have c_255 : (255 : Int32).toInt = 255 := by decide
  refine kV.L (L' := [(0, .ref (ρ 61)), (1, .int a1), (2, .int a2)]) rfl ?_
  have g1 := kf_rng a1
  have g2 := kf_rng a2
  have cut366 : ∀ (w_366 : kw) (l5_366 : Int32), kI false w_366 → kF [(61, some 12), (61, some 13), (61, some 48), (64, none), (85, none), (86, none)] w w_366 → ((w 61 12).toInt = 3) → kV p l e { frames := 4, cells := 0, slots := 0, locals := 144 } s m args below meth c (kQ below args s D τ ρ (fun o w' => ∃ r : Int32, o = some (.int r) ∧ kI false w' ∧ kF [(61, some 12), (61, some 13), (61, some 48), (64, none), (85, none), (86, none)] w w' ∧ ((w 61 12).toInt = 3 ∨ r.toInt = -2 ∧ (w' 61 12).toInt = (w 61 12).toInt))) 11 D τ ρ 366 [(0, .ref (ρ 61)), (5, .int l5_366)] [] w_366 := by
    intro w_366 l5_366 I_366 F_366 k366_0
    have gl5_366 := kf_rng l5_366
    obtain ⟨x3, e4⟩ : ∃ z : Int32, w 61 12 = z := ⟨_, rfl⟩
    have b5 : (0 : Int) ≤ x3.toInt ∧ x3.toInt ≤ 4 := by rw [← e4]; exact hI 61 12
    rw [e4] at k366_0
    refine kv_aload_n C 367 rfl 0 (kdec dk_cX10_line 188 rfl) rfl rfl ?_
    refine kv_aload_n C 368 rfl 0 (kdec dk_cX10_line 189 rfl) rfl rfl ?_
    obtain ⟨x6, e7⟩ : ∃ z : Int32, w 61 27 = z := ⟨_, rfl⟩
    have b8 : (0 : Int) ≤ x6.toInt ∧ x6.toInt ≤ 65535 := by rw [← e7]; exact hI 61 27
    have e9 : w_366 61 27 = x6 := ((F_366 61 27 rfl : w_366 61 27 = w 61 27).trans e7)
    refine kv_get C 371 rfl 61 27 rfl rfl inX10 (by decide) mfl_TaleMachineModel_326 rfl rfl (kdec dk_cX10_line 190 rfl) e9 ?_
    refine kv_iconst C 372 rfl 1 (kdec dk_cX10_line 191 rfl) rfl ?_
    refine kv_iadd C 373 rfl (kdec dk_cX10_line 192 rfl) (fun x10 q12 h11e h11 h11l h11u => ?_)
    try have h11n : x10.toInt = x6.toInt + (1 : Int32).toInt := by omega
    clear h11 q12
    refine kv_iload C 375 rfl 1 (kdec dk_cX10_line 193 rfl) rfl ?_
    refine kv_callVv (As := [.int x10, .int l5_366]) (rest := []) C 378 rfl 61 (k_x_putByte l D τ ρ σ w_366 x10 l5_366 I_366 ) rfl rfl mml_TaleMachineModel_208 mim_yX10_putByte mse_yX10_putByte mcd_yX10_putByte min_yX10_putByte hd_yX10_putByte rfl rfl rfl (by decide) rfl (Nat.le_of_ble_eq_true rfl) (kdec dk_cX10_line 194 rfl) (fun w13 h14 => ?_)
    obtain ⟨I15, f16, p18⟩ := h14
    have F19 : kF [(61, some 12), (61, some 13), (61, some 48), (64, none), (85, none), (86, none)] w w13 := kF_call F_366 f16 (by decide)
    obtain ⟨x20, e21⟩ : ∃ z : Int32, w_366 61 13 = z := ⟨_, rfl⟩
    have b22 : (0 : Int) ≤ x20.toInt ∧ x20.toInt ≤ 13 := by rw [← e21]; exact I_366 61 13
    obtain ⟨x23, e24⟩ : ∃ z : Int32, w13 61 13 = z := ⟨_, rfl⟩
    have b25 : (0 : Int) ≤ x23.toInt ∧ x23.toInt ≤ 13 := by rw [← e24]; exact I15 61 13
    rw [e21, e24] at p18
    refine kv_aload_n C 379 rfl 0 (kdec dk_cX10_line 195 rfl) rfl rfl ?_
    refine kv_get C 382 rfl 61 13 rfl rfl inX10 (by decide) mfl_TaleMachineModel_148 rfl rfl (kdec dk_cX10_line 196 rfl) e24 ?_
    refine kv_if_le C 385 rfl 398 (kdec dk_cX10_line 197 rfl) (by decide) (fun d26 => ?_) (fun d26 => ?_)
    · skip
      refine kv_aload_n C 399 rfl 0 (kdec dk_cX10_line 206 rfl) rfl rfl ?_
      refine kv_iconst C 400 rfl 1 (kdec dk_cX10_line 207 rfl) rfl ?_
      refine kv_put C 403 rfl 61 12 rfl rfl inX10 (by decide) mfl_TaleMachineModel_112 rfl tyX10 tyX10_ok nmX10 rfl rfl (kdec dk_cX10_line 208 rfl) rfl rfl (fun w27 u28 => ?_)
      have I29 : kI false w27 := kI_put u28 I15 (show (0 : Int) ≤ (1 : Int32).toInt by omega) (show (1 : Int32).toInt ≤ 4 by omega)
      have F30 : kF [(61, some 12), (61, some 13), (61, some 48), (64, none), (85, none), (86, none)] w w27 := kF_put u28 F19 rfl
      refine kv_iload C 405 rfl 1 (kdec dk_cX10_line 209 rfl) rfl ?_
      exact kv_iret C hr hlk (kdec dk_cX10_line 210 rfl) ⟨_, rfl, I29, F30, (by rw [e4, (kup_eq u28)]; try omega)⟩
    · skip
      refine kv_aload_n C 386 rfl 0 (kdec dk_cX10_line 198 rfl) rfl rfl ?_
      refine kv_iconst C 387 rfl 4 (kdec dk_cX10_line 199 rfl) rfl ?_
      refine kv_put C 390 rfl 61 12 rfl rfl inX10 (by decide) mfl_TaleMachineModel_112 rfl tyX10 tyX10_ok nmX10 rfl rfl (kdec dk_cX10_line 200 rfl) rfl rfl (fun w31 u32 => ?_)
      have I33 : kI false w31 := kI_put u32 I15 (show (0 : Int) ≤ (4 : Int32).toInt by omega) (show (4 : Int32).toInt ≤ 4 by omega)
      have F34 : kF [(61, some 12), (61, some 13), (61, some 48), (64, none), (85, none), (86, none)] w w31 := kF_put u32 F19 rfl
      refine kv_bipush C 392 rfl (-10) (kdec dk_cX10_line 201 rfl) rfl ?_
      refine kv_aload_n C 393 rfl 0 (kdec dk_cX10_line 202 rfl) rfl rfl ?_
      have e35 : w31 61 13 = x23 := ((kup_ne u32 rfl : w31 61 13 = w13 61 13).trans e24)
      refine kv_get C 396 rfl 61 13 rfl rfl inX10 (by decide) mfl_TaleMachineModel_148 rfl rfl (kdec dk_cX10_line 203 rfl) e35 ?_
      refine kv_isub C 397 rfl (kdec dk_cX10_line 204 rfl) (fun x36 q38 h37e h37 h37l h37u => ?_)
      try have h37n : x36.toInt = ((-10) : Int32).toInt - x23.toInt := by omega
      clear h37 q38
      exact kv_iret C hr hlk (kdec dk_cX10_line 205 rfl) ⟨_, rfl, I33, F34, (by rw [e4, (kup_eq u32)]; try omega)⟩
  have cut188 : ∀ (n_188 : Nat) (w_188 : kw) (l4_188 l5_188 l6_188 l7_188 : Int32), kI false w_188 → kF [(61, some 12), (61, some 13), (61, some 48), (64, none), (85, none), (86, none)] w w_188 → (0 ≤ l4_188.toInt ∧ l4_188.toInt ≤ 8) → (0 ≤ l7_188.toInt ∧ l7_188.toInt ≤ 8) → ((w 61 12).toInt = 3) → ((9 - l7_188.toInt) : Int) < (n_188 : Int) → kV p l e { frames := 4, cells := 0, slots := 0, locals := 144 } s m args below meth c (kQ below args s D τ ρ (fun o w' => ∃ r : Int32, o = some (.int r) ∧ kI false w' ∧ kF [(61, some 12), (61, some 13), (61, some 48), (64, none), (85, none), (86, none)] w w' ∧ ((w 61 12).toInt = 3 ∨ r.toInt = -2 ∧ (w' 61 12).toInt = (w 61 12).toInt))) 11 D τ ρ 188 [(0, .ref (ρ 61)), (4, .int l4_188), (5, .int l5_188), (6, .int l6_188), (7, .int l7_188)] [] w_188 := by
    intro n_188
    induction n_188 with
    | zero => intro w_188 l4_188 l5_188 l6_188 l7_188 I_188 F_188 k188_0 k188_1 k188_2 hmz; exfalso; omega
    | succ n_188 ih188 =>
      intro w_188 l4_188 l5_188 l6_188 l7_188 I_188 F_188 k188_0 k188_1 k188_2 hm188
      have gl4_188 := kf_rng l4_188
      have gl5_188 := kf_rng l5_188
      have gl6_188 := kf_rng l6_188
      have gl7_188 := kf_rng l7_188
      obtain ⟨x39, e40⟩ : ∃ z : Int32, w 61 12 = z := ⟨_, rfl⟩
      have b41 : (0 : Int) ≤ x39.toInt ∧ x39.toInt ≤ 4 := by rw [← e40]; exact hI 61 12
      rw [e40] at k188_2
      have cut363 : ∀ (w_363 : kw) (l4_363 l5_363 l6_363 l7_363 : Int32), kI false w_363 → kF [(61, some 12), (61, some 13), (61, some 48), (64, none), (85, none), (86, none)] w w_363 → (0 ≤ l4_363.toInt ∧ l4_363.toInt ≤ 8) → (l7_188.toInt < l7_363.toInt ∧ 0 ≤ l7_363.toInt ∧ l7_363.toInt ≤ 8) → ((w 61 12).toInt = 3) → kV p l e { frames := 4, cells := 0, slots := 0, locals := 144 } s m args below meth c (kQ below args s D τ ρ (fun o w' => ∃ r : Int32, o = some (.int r) ∧ kI false w' ∧ kF [(61, some 12), (61, some 13), (61, some 48), (64, none), (85, none), (86, none)] w w' ∧ ((w 61 12).toInt = 3 ∨ r.toInt = -2 ∧ (w' 61 12).toInt = (w 61 12).toInt))) 11 D τ ρ 363 [(0, .ref (ρ 61)), (4, .int l4_363), (5, .int l5_363), (6, .int l6_363), (7, .int l7_363)] [] w_363 := by
        intro w_363 l4_363 l5_363 l6_363 l7_363 I_363 F_363 k363_0 k363_1 k363_2
        have gl4_363 := kf_rng l4_363
        have gl5_363 := kf_rng l5_363
        have gl6_363 := kf_rng l6_363
        have gl7_363 := kf_rng l7_363
        rw [e40] at k363_2
        refine kv_goto C 188 (kdec dk_cX10_line 187 rfl) (by decide) ?_
        exact ih188 w_363 l4_363 l5_363 l6_363 l7_363 I_363 F_363 (by omega) (by omega) (by rw [e40]; try omega) (by omega)
      have cut287 : ∀ (w_287 : kw) (l4_287 l5_287 l6_287 l7_287 l8_287 : Int32), kI false w_287 → kF [(61, some 12), (61, some 13), (61, some 48), (64, none), (85, none), (86, none)] w w_287 → (0 ≤ l4_287.toInt ∧ l4_287.toInt ≤ 8) → (0 ≤ l8_287.toInt ∧ l8_287.toInt = l7_188.toInt ∧ l8_287.toInt < l7_287.toInt ∧ l7_287.toInt ≤ 8) → ((w 61 12).toInt = 3) → kV p l e { frames := 4, cells := 0, slots := 0, locals := 144 } s m args below meth c (kQ below args s D τ ρ (fun o w' => ∃ r : Int32, o = some (.int r) ∧ kI false w' ∧ kF [(61, some 12), (61, some 13), (61, some 48), (64, none), (85, none), (86, none)] w w' ∧ ((w 61 12).toInt = 3 ∨ r.toInt = -2 ∧ (w' 61 12).toInt = (w 61 12).toInt))) 11 D τ ρ 287 [(0, .ref (ρ 61)), (4, .int l4_287), (5, .int l5_287), (6, .int l6_287), (7, .int l7_287), (8, .int l8_287)] [] w_287 := by
        intro w_287 l4_287 l5_287 l6_287 l7_287 l8_287 I_287 F_287 k287_0 k287_1 k287_2
        have gl4_287 := kf_rng l4_287
        have gl5_287 := kf_rng l5_287
        have gl6_287 := kf_rng l6_287
        have gl7_287 := kf_rng l7_287
        have gl8_287 := kf_rng l8_287
        rw [e40] at k287_2
        refine kv_aload_n C 288 rfl 0 (kdec dk_cX10_line 144 rfl) rfl rfl ?_
        obtain ⟨x42, e43⟩ : ∃ z : Int32, w_287 61 13 = z := ⟨_, rfl⟩
        have b44 : (0 : Int) ≤ x42.toInt ∧ x42.toInt ≤ 13 := by rw [← e43]; exact I_287 61 13
        refine kv_get C 291 rfl 61 13 rfl rfl inX10 (by decide) mfl_TaleMachineModel_148 rfl rfl (kdec dk_cX10_line 145 rfl) e43 ?_
        refine kv_if_ne C 294 rfl 363 (kdec dk_cX10_line 146 rfl) (by decide) (fun d45 => ?_) (fun d45 => ?_)
        · skip
          refine kV.sub [0, 1, 2, 3, 4] (L' := [(0, .ref (ρ 61)), (4, .int l4_287), (5, .int l5_287), (6, .int l6_287), (7, .int l7_287)]) rfl ?_
          exact cut363 w_287 l4_287 l5_287 l6_287 l7_287 I_287 F_287 (by omega) (by omega) (by rw [e40]; try omega)
        · skip
          refine kv_iload C 296 rfl 2 (kdec dk_cX10_line 147 rfl) rfl ?_
          refine kv_iload C 298 rfl 3 (kdec dk_cX10_line 148 rfl) rfl ?_
          refine kv_icmp_ge C 301 rfl 363 (kdec dk_cX10_line 149 rfl) (by decide) (fun d46 => ?_) (fun d46 => ?_)
          · skip
            refine kV.sub [0, 1, 2, 3, 4] (L' := [(0, .ref (ρ 61)), (4, .int l4_287), (5, .int l5_287), (6, .int l6_287), (7, .int l7_287)]) rfl ?_
            exact cut363 w_287 l4_287 l5_287 l6_287 l7_287 I_287 F_287 (by omega) (by omega) (by rw [e40]; try omega)
          · skip
            refine kv_aload_n C 302 rfl 0 (kdec dk_cX10_line 150 rfl) rfl rfl ?_
            refine kv_iload C 304 rfl 5 (kdec dk_cX10_line 151 rfl) rfl ?_
            refine kv_iload C 306 rfl 4 (kdec dk_cX10_line 152 rfl) rfl ?_
            refine kv_iload C 308 rfl 5 (kdec dk_cX10_line 153 rfl) rfl ?_
            refine kv_isub C 309 rfl (kdec dk_cX10_line 154 rfl) (fun x47 q49 h48e h48 h48l h48u => ?_)
            try have h48n : x47.toInt = l7_287.toInt - l8_287.toInt := by omega
            clear h48 q49
            refine kv_callVi (As := [.int l8_287, .int x47]) (rest := []) C 312 rfl 61 (k_x_looked l D τ ρ σ w_287 l8_287 x47 I_287 (by omega)) rfl rfl mml_TaleMachineModel_361 mim_yX10_looked mse_yX10_looked mcd_yX10_looked min_yX10_looked hd_yX10_looked rfl rfl rfl (by decide) rfl (Nat.le_of_ble_eq_true rfl) (kdec dk_cX10_line 155 rfl) (fun x54 w50 h51 => ?_)
            obtain ⟨I52, f53, p55⟩ := h51
            have F56 : kF [(61, some 12), (61, some 13), (61, some 48), (64, none), (85, none), (86, none)] w w50 := kF_call F_287 f53 (by decide)
            have g57 := kf_rng x54
            refine kv_istore C 314 rfl 9 [1, 2, 3, 4, 5, 6, 0] [(0, .ref (ρ 61)), (4, .int l4_287), (5, .int l5_287), (6, .int l6_287), (7, .int l7_287), (8, .int l8_287), (9, .int x54)] (kdec dk_cX10_line 156 rfl) (by decide) rfl ?_
            refine kv_aload_n C 315 rfl 0 (kdec dk_cX10_line 157 rfl) rfl rfl ?_
            obtain ⟨x58, e59⟩ : ∃ z : Int32, w 61 27 = z := ⟨_, rfl⟩
            have b60 : (0 : Int) ≤ x58.toInt ∧ x58.toInt ≤ 65535 := by rw [← e59]; exact hI 61 27
            have e61 : w50 61 27 = x58 := ((f53 61 27 rfl : w50 61 27 = w_287 61 27).trans ((F_287 61 27 rfl : w_287 61 27 = w 61 27).trans e59))
            refine kv_get C 318 rfl 61 27 rfl rfl inX10 (by decide) mfl_TaleMachineModel_326 rfl rfl (kdec dk_cX10_line 158 rfl) e61 ?_
            refine kv_iconst C 319 rfl 2 (kdec dk_cX10_line 159 rfl) rfl ?_
            refine kv_iadd C 320 rfl (kdec dk_cX10_line 160 rfl) (fun x62 q64 h63e h63 h63l h63u => ?_)
            try have h63n : x62.toInt = x58.toInt + (2 : Int32).toInt := by omega
            clear h63 q64
            refine kv_iconst C 321 rfl 4 (kdec dk_cX10_line 161 rfl) rfl ?_
            refine kv_iload C 323 rfl 2 (kdec dk_cX10_line 162 rfl) rfl ?_
            refine kv_imul C 324 rfl (kdec dk_cX10_line 163 rfl) (fun x65 h66e h66l h66u => ?_)
            obtain ⟨q67, g68⟩ := kf_mul 4 l5_287
            rw [← h66e, c_4] at g68
            try have h66n : x65.toInt = 4 * l5_287.toInt := by omega
            clear g68 q67
            refine kv_iadd C 325 rfl (kdec dk_cX10_line 164 rfl) (fun x69 q71 h70e h70 h70l h70u => ?_)
            try have h70n : x69.toInt = x62.toInt + x65.toInt := by omega
            clear h70 q71
            refine kv_istore C 327 rfl 10 [1, 2, 3, 4, 5, 6, 7, 0] [(0, .ref (ρ 61)), (4, .int l4_287), (5, .int l5_287), (6, .int l6_287), (7, .int l7_287), (8, .int l8_287), (9, .int x54), (10, .int x69)] (kdec dk_cX10_line 165 rfl) (by decide) rfl ?_
            refine kv_aload_n C 328 rfl 0 (kdec dk_cX10_line 166 rfl) rfl rfl ?_
            refine kv_iload C 330 rfl 7 (kdec dk_cX10_line 167 rfl) rfl ?_
            refine kv_iload C 332 rfl 6 (kdec dk_cX10_line 168 rfl) rfl ?_
            refine kv_callVv (As := [.int x69, .int x54]) (rest := []) C 335 rfl 61 (k_x_putWord l D τ ρ σ w50 x69 x54 I52 ) rfl rfl mml_TaleMachineModel_184 mim_yX10_putWord mse_yX10_putWord mcd_yX10_putWord min_yX10_putWord hd_yX10_putWord rfl rfl rfl (by decide) rfl (Nat.le_of_ble_eq_true rfl) (kdec dk_cX10_line 169 rfl) (fun w72 h73 => ?_)
            obtain ⟨I74, f75, p77⟩ := h73
            have F78 : kF [(61, some 12), (61, some 13), (61, some 48), (64, none), (85, none), (86, none)] w w72 := kF_call F56 f75 (by decide)
            obtain ⟨x79, e80⟩ : ∃ z : Int32, w50 61 13 = z := ⟨_, rfl⟩
            have b81 : (0 : Int) ≤ x79.toInt ∧ x79.toInt ≤ 13 := by rw [← e80]; exact I52 61 13
            obtain ⟨x82, e83⟩ : ∃ z : Int32, w72 61 13 = z := ⟨_, rfl⟩
            have b84 : (0 : Int) ≤ x82.toInt ∧ x82.toInt ≤ 13 := by rw [← e83]; exact I74 61 13
            rw [e80, e83] at p77
            refine kv_aload_n C 336 rfl 0 (kdec dk_cX10_line 170 rfl) rfl rfl ?_
            refine kv_iload C 338 rfl 7 (kdec dk_cX10_line 171 rfl) rfl ?_
            refine kv_iconst C 339 rfl 2 (kdec dk_cX10_line 172 rfl) rfl ?_
            refine kv_iadd C 340 rfl (kdec dk_cX10_line 173 rfl) (fun x85 q87 h86e h86 h86l h86u => ?_)
            try have h86n : x85.toInt = x69.toInt + (2 : Int32).toInt := by omega
            clear h86 q87
            refine kv_iload C 342 rfl 4 (kdec dk_cX10_line 174 rfl) rfl ?_
            refine kv_iload C 344 rfl 5 (kdec dk_cX10_line 175 rfl) rfl ?_
            refine kv_isub C 345 rfl (kdec dk_cX10_line 176 rfl) (fun x88 q90 h89e h89 h89l h89u => ?_)
            try have h89n : x88.toInt = l7_287.toInt - l8_287.toInt := by omega
            clear h89 q90
            have h89q : x47 = x88 := h48e.trans h89e.symm
            subst h89q
            refine kv_callVv (As := [.int x85, .int x47]) (rest := []) C 348 rfl 61 (k_x_putByte l D τ ρ σ w72 x85 x47 I74 ) rfl rfl mml_TaleMachineModel_208 mim_yX10_putByte mse_yX10_putByte mcd_yX10_putByte min_yX10_putByte hd_yX10_putByte rfl rfl rfl (by decide) rfl (Nat.le_of_ble_eq_true rfl) (kdec dk_cX10_line 177 rfl) (fun w91 h92 => ?_)
            obtain ⟨I93, f94, p96⟩ := h92
            have F97 : kF [(61, some 12), (61, some 13), (61, some 48), (64, none), (85, none), (86, none)] w w91 := kF_call F78 f94 (by decide)
            obtain ⟨x98, e99⟩ : ∃ z : Int32, w91 61 13 = z := ⟨_, rfl⟩
            have b100 : (0 : Int) ≤ x98.toInt ∧ x98.toInt ≤ 13 := by rw [← e99]; exact I93 61 13
            rw [e83, e99] at p96
            refine kv_aload_n C 349 rfl 0 (kdec dk_cX10_line 178 rfl) rfl rfl ?_
            refine kv_iload C 351 rfl 7 (kdec dk_cX10_line 179 rfl) rfl ?_
            refine kv_iconst C 352 rfl 3 (kdec dk_cX10_line 180 rfl) rfl ?_
            refine kv_iadd C 353 rfl (kdec dk_cX10_line 181 rfl) (fun x101 q103 h102e h102 h102l h102u => ?_)
            try have h102n : x101.toInt = x69.toInt + (3 : Int32).toInt := by omega
            clear h102 q103
            refine kv_iload C 355 rfl 5 (kdec dk_cX10_line 182 rfl) rfl ?_
            refine kv_iconst C 356 rfl 1 (kdec dk_cX10_line 183 rfl) rfl ?_
            refine kv_iadd C 357 rfl (kdec dk_cX10_line 184 rfl) (fun x104 q106 h105e h105 h105l h105u => ?_)
            try have h105n : x104.toInt = l8_287.toInt + (1 : Int32).toInt := by omega
            clear h105 q106
            refine kv_callVv (As := [.int x101, .int x104]) (rest := []) C 360 rfl 61 (k_x_putByte l D τ ρ σ w91 x101 x104 I93 ) rfl rfl mml_TaleMachineModel_208 mim_yX10_putByte mse_yX10_putByte mcd_yX10_putByte min_yX10_putByte hd_yX10_putByte rfl rfl rfl (by decide) rfl (Nat.le_of_ble_eq_true rfl) (kdec dk_cX10_line 185 rfl) (fun w107 h108 => ?_)
            obtain ⟨I109, f110, p112⟩ := h108
            have F113 : kF [(61, some 12), (61, some 13), (61, some 48), (64, none), (85, none), (86, none)] w w107 := kF_call F97 f110 (by decide)
            obtain ⟨x114, e115⟩ : ∃ z : Int32, w107 61 13 = z := ⟨_, rfl⟩
            have b116 : (0 : Int) ≤ x114.toInt ∧ x114.toInt ≤ 13 := by rw [← e115]; exact I109 61 13
            rw [e99, e115] at p112
            refine kv_iinc C 363 rfl 5 2 [1, 2, 0, 3, 4, 5, 6, 7] (fun v9 => [(0, .ref (ρ 61)), (4, .int l4_287), (5, .int v9), (6, .int l6_287), (7, .int l7_287), (8, .int l8_287), (9, .int x54), (10, .int x69)]) (kdec dk_cX10_line 186 rfl) rfl (by decide) (fun _ => rfl) 1 rfl (fun x117 q118 h119e h119 h119l h119u => ?_)
            try have h119n : x117.toInt = l5_287.toInt + 1 := by omega
            clear h119 q118
            refine kV.sub [0, 1, 2, 3, 4] (L' := [(0, .ref (ρ 61)), (4, .int l4_287), (5, .int x117), (6, .int l6_287), (7, .int l7_287)]) rfl ?_
            exact cut363 w107 l4_287 x117 l6_287 l7_287 I109 F113 (by omega) (by omega) (by rw [e40]; try omega)
      have cut241 : ∀ (n_241 : Nat) (w_241 : kw) (l4_241 l5_241 l6_241 l7_241 l8_241 : Int32), kI false w_241 → kF [(61, some 12), (61, some 13), (61, some 48), (64, none), (85, none), (86, none)] w w_241 → (0 ≤ l4_241.toInt ∧ l4_241.toInt ≤ 8) → (0 ≤ l8_241.toInt ∧ l8_241.toInt = l7_188.toInt ∧ l8_241.toInt < l7_241.toInt ∧ l7_241.toInt ≤ 8 ∧ l7_241.toInt ≤ l4_241.toInt) → ((w 61 12).toInt = 3) → ((9 - l7_241.toInt) : Int) < (n_241 : Int) → kV p l e { frames := 4, cells := 0, slots := 0, locals := 144 } s m args below meth c (kQ below args s D τ ρ (fun o w' => ∃ r : Int32, o = some (.int r) ∧ kI false w' ∧ kF [(61, some 12), (61, some 13), (61, some 48), (64, none), (85, none), (86, none)] w w' ∧ ((w 61 12).toInt = 3 ∨ r.toInt = -2 ∧ (w' 61 12).toInt = (w 61 12).toInt))) 11 D τ ρ 241 [(0, .ref (ρ 61)), (4, .int l4_241), (5, .int l5_241), (6, .int l6_241), (7, .int l7_241), (8, .int l8_241)] [] w_241 := by
        intro n_241
        induction n_241 with
        | zero => intro w_241 l4_241 l5_241 l6_241 l7_241 l8_241 I_241 F_241 k241_0 k241_1 k241_2 hmz; exfalso; omega
        | succ n_241 ih241 =>
          intro w_241 l4_241 l5_241 l6_241 l7_241 l8_241 I_241 F_241 k241_0 k241_1 k241_2 hm241
          have gl4_241 := kf_rng l4_241
          have gl5_241 := kf_rng l5_241
          have gl6_241 := kf_rng l6_241
          have gl7_241 := kf_rng l7_241
          have gl8_241 := kf_rng l8_241
          rw [e40] at k241_2
          refine kv_iload C 243 rfl 4 (kdec dk_cX10_line 123 rfl) rfl ?_
          refine kv_iload C 245 rfl 1 (kdec dk_cX10_line 124 rfl) rfl ?_
          refine kv_icmp_ge C 248 rfl 287 (kdec dk_cX10_line 125 rfl) (by decide) (fun d120 => ?_) (fun d120 => ?_)
          · skip
            exact cut287 w_241 l4_241 l5_241 l6_241 l7_241 l8_241 I_241 F_241 (by omega) (by omega) (by rw [e40]; try omega)
          · skip
            refine kv_aload_n C 249 rfl 0 (kdec dk_cX10_line 126 rfl) rfl rfl ?_
            obtain ⟨x121, e122⟩ : ∃ z : Int32, w_241 61 13 = z := ⟨_, rfl⟩
            have b123 : (0 : Int) ≤ x121.toInt ∧ x121.toInt ≤ 13 := by rw [← e122]; exact I_241 61 13
            refine kv_get C 252 rfl 61 13 rfl rfl inX10 (by decide) mfl_TaleMachineModel_148 rfl rfl (kdec dk_cX10_line 127 rfl) e122 ?_
            refine kv_if_ne C 255 rfl 287 (kdec dk_cX10_line 128 rfl) (by decide) (fun d124 => ?_) (fun d124 => ?_)
            · skip
              exact cut287 w_241 l4_241 l5_241 l6_241 l7_241 l8_241 I_241 F_241 (by omega) (by omega) (by rw [e40]; try omega)
            · skip
              refine kv_aload_n C 256 rfl 0 (kdec dk_cX10_line 129 rfl) rfl rfl ?_
              refine kv_getr C 259 rfl 61 46 rfl rfl inX10 (by decide) mfl_TaleMachineModel_80 rfl rfl (kdec dk_cX10_line 130 rfl) ?_
              refine kv_iload C 261 rfl 4 (kdec dk_cX10_line 131 rfl) rfl ?_
              obtain ⟨x125, e126⟩ : ∃ z : Int32, w_241 85 (l7_241 : Int32).toNatClampNeg = z := ⟨_, rfl⟩
              have b127 : (-2147483648 : Int) ≤ x125.toInt ∧ x125.toInt ≤ 2147483647 := by rw [← e126]; exact I_241 85 _
              refine kv_iald C 262 rfl 85 rfl (by omega) (by omega) e126 (kdec dk_cX10_line 132 rfl) ?_
              refine kv_bipush C 264 rfl 32 (kdec dk_cX10_line 133 rfl) rfl ?_
              refine kv_icmp_eq C 267 rfl 287 (kdec dk_cX10_line 134 rfl) (by decide) (fun d128 => ?_) (fun d128 => ?_)
              · skip
                exact cut287 w_241 l4_241 l5_241 l6_241 l7_241 l8_241 I_241 F_241 (by omega) (by omega) (by rw [e40]; try omega)
              · skip
                refine kv_aload_n C 268 rfl 0 (kdec dk_cX10_line 135 rfl) rfl rfl ?_
                refine kv_aload_n C 269 rfl 0 (kdec dk_cX10_line 136 rfl) rfl rfl ?_
                refine kv_getr C 272 rfl 61 46 rfl rfl inX10 (by decide) mfl_TaleMachineModel_80 rfl rfl (kdec dk_cX10_line 137 rfl) ?_
                refine kv_iload C 274 rfl 4 (kdec dk_cX10_line 138 rfl) rfl ?_
                obtain ⟨x129, e130⟩ : ∃ z : Int32, w_241 85 (l7_241 : Int32).toNatClampNeg = z := ⟨_, rfl⟩
                have b131 : (-2147483648 : Int) ≤ x129.toInt ∧ x129.toInt ≤ 2147483647 := by rw [← e130]; exact I_241 85 _
                refine kv_iald C 275 rfl 85 rfl (by omega) (by omega) e130 (kdec dk_cX10_line 139 rfl) ?_
                refine kv_callVi (As := [.int x129]) (rest := []) C 278 rfl 61 (k_x_isSeparator l D τ ρ σ w_241 x129 I_241 ) rfl rfl mml_TaleMachineModel_358 mim_yX10_isSeparator mse_yX10_isSeparator mcd_yX10_isSeparator min_yX10_isSeparator hd_yX10_isSeparator rfl rfl rfl (by decide) rfl (Nat.le_of_ble_eq_true rfl) (kdec dk_cX10_line 140 rfl) (fun x136 w132 h133 => ?_)
                obtain ⟨I134, f135, p137⟩ := h133
                have F138 : kF [(61, some 12), (61, some 13), (61, some 48), (64, none), (85, none), (86, none)] w w132 := kF_call F_241 f135 (by decide)
                have g139 := kf_rng x136
                refine kv_if_ne C 281 rfl 287 (kdec dk_cX10_line 141 rfl) (by decide) (fun d140 => ?_) (fun d140 => ?_)
                · skip
                  exact cut287 w132 l4_241 l5_241 l6_241 l7_241 l8_241 I134 F138 (by omega) (by omega) (by rw [e40]; try omega)
                · skip
                  refine kv_iinc C 284 rfl 7 4 [1, 2, 3, 4, 0, 5] (fun v9 => [(0, .ref (ρ 61)), (4, .int l4_241), (5, .int l5_241), (6, .int l6_241), (7, .int v9), (8, .int l8_241)]) (kdec dk_cX10_line 142 rfl) rfl (by decide) (fun _ => rfl) 1 rfl (fun x141 q142 h143e h143 h143l h143u => ?_)
                  try have h143n : x141.toInt = l7_241.toInt + 1 := by omega
                  clear h143 q142
                  refine kv_goto C 241 (kdec dk_cX10_line 143 rfl) (by decide) ?_
                  exact ih241 w132 l4_241 l5_241 l6_241 x141 l8_241 I134 F138 (by omega) (by omega) (by rw [e40]; try omega) (by omega)
      refine kv_iload C 190 rfl 4 (kdec dk_cX10_line 99 rfl) rfl ?_
      refine kv_iload C 192 rfl 1 (kdec dk_cX10_line 100 rfl) rfl ?_
      refine kv_icmp_ge C 195 rfl 366 (kdec dk_cX10_line 101 rfl) (by decide) (fun d144 => ?_) (fun d144 => ?_)
      · skip
        refine kV.sub [0, 2] (L' := [(0, .ref (ρ 61)), (5, .int l5_188)]) rfl ?_
        exact cut366 w_188 l5_188 I_188 F_188 (by rw [e40]; try omega)
      · skip
        refine kv_aload_n C 196 rfl 0 (kdec dk_cX10_line 102 rfl) rfl rfl ?_
        obtain ⟨x145, e146⟩ : ∃ z : Int32, w_188 61 13 = z := ⟨_, rfl⟩
        have b147 : (0 : Int) ≤ x145.toInt ∧ x145.toInt ≤ 13 := by rw [← e146]; exact I_188 61 13
        refine kv_get C 199 rfl 61 13 rfl rfl inX10 (by decide) mfl_TaleMachineModel_148 rfl rfl (kdec dk_cX10_line 103 rfl) e146 ?_
        refine kv_if_ne C 202 rfl 366 (kdec dk_cX10_line 104 rfl) (by decide) (fun d148 => ?_) (fun d148 => ?_)
        · skip
          refine kV.sub [0, 2] (L' := [(0, .ref (ρ 61)), (5, .int l5_188)]) rfl ?_
          exact cut366 w_188 l5_188 I_188 F_188 (by rw [e40]; try omega)
        · skip
          refine kv_aload_n C 203 rfl 0 (kdec dk_cX10_line 105 rfl) rfl rfl ?_
          refine kv_getr C 206 rfl 61 46 rfl rfl inX10 (by decide) mfl_TaleMachineModel_80 rfl rfl (kdec dk_cX10_line 106 rfl) ?_
          refine kv_iload C 208 rfl 4 (kdec dk_cX10_line 107 rfl) rfl ?_
          obtain ⟨x149, e150⟩ : ∃ z : Int32, w_188 85 (l7_188 : Int32).toNatClampNeg = z := ⟨_, rfl⟩
          have b151 : (-2147483648 : Int) ≤ x149.toInt ∧ x149.toInt ≤ 2147483647 := by rw [← e150]; exact I_188 85 _
          refine kv_iald C 209 rfl 85 rfl (by omega) (by omega) e150 (kdec dk_cX10_line 108 rfl) ?_
          refine kv_bipush C 211 rfl 32 (kdec dk_cX10_line 109 rfl) rfl ?_
          refine kv_icmp_ne C 214 rfl 220 (kdec dk_cX10_line 110 rfl) (by decide) (fun d152 => ?_) (fun d152 => ?_)
          · skip
            refine kv_iload C 222 rfl 4 (kdec dk_cX10_line 113 rfl) rfl ?_
            refine kv_istore C 224 rfl 8 [1, 2, 3, 4, 5, 0] [(0, .ref (ρ 61)), (4, .int l4_188), (5, .int l5_188), (6, .int l6_188), (7, .int l7_188), (8, .int l7_188)] (kdec dk_cX10_line 114 rfl) (by decide) rfl ?_
            refine kv_iinc C 227 rfl 7 4 [1, 2, 3, 4, 0, 5] (fun v9 => [(0, .ref (ρ 61)), (4, .int l4_188), (5, .int l5_188), (6, .int l6_188), (7, .int v9), (8, .int l7_188)]) (kdec dk_cX10_line 115 rfl) rfl (by decide) (fun _ => rfl) 1 rfl (fun x153 q154 h155e h155 h155l h155u => ?_)
            try have h155n : x153.toInt = l7_188.toInt + 1 := by omega
            clear h155 q154
            refine kv_aload_n C 228 rfl 0 (kdec dk_cX10_line 116 rfl) rfl rfl ?_
            refine kv_aload_n C 229 rfl 0 (kdec dk_cX10_line 117 rfl) rfl rfl ?_
            refine kv_getr C 232 rfl 61 46 rfl rfl inX10 (by decide) mfl_TaleMachineModel_80 rfl rfl (kdec dk_cX10_line 118 rfl) ?_
            refine kv_iload C 234 rfl 5 (kdec dk_cX10_line 119 rfl) rfl ?_
            obtain ⟨x156, e157⟩ : ∃ z : Int32, w_188 85 (l7_188 : Int32).toNatClampNeg = z := ⟨_, rfl⟩
            have b158 : (-2147483648 : Int) ≤ x156.toInt ∧ x156.toInt ≤ 2147483647 := by rw [← e157]; exact I_188 85 _
            refine kv_iald C 235 rfl 85 rfl (by omega) (by omega) e157 (kdec dk_cX10_line 120 rfl) ?_
            refine kv_callVi (As := [.int x156]) (rest := []) C 238 rfl 61 (k_x_isSeparator l D τ ρ σ w_188 x156 I_188 ) rfl rfl mml_TaleMachineModel_358 mim_yX10_isSeparator mse_yX10_isSeparator mcd_yX10_isSeparator min_yX10_isSeparator hd_yX10_isSeparator rfl rfl rfl (by decide) rfl (Nat.le_of_ble_eq_true rfl) (kdec dk_cX10_line 121 rfl) (fun x163 w159 h160 => ?_)
            obtain ⟨I161, f162, p164⟩ := h160
            have F165 : kF [(61, some 12), (61, some 13), (61, some 48), (64, none), (85, none), (86, none)] w w159 := kF_call F_188 f162 (by decide)
            have g166 := kf_rng x163
            refine kv_if_ne C 241 rfl 287 (kdec dk_cX10_line 122 rfl) (by decide) (fun d167 => ?_) (fun d167 => ?_)
            · skip
              exact cut287 w159 l4_188 l5_188 l6_188 x153 l7_188 I161 F165 (by omega) (by omega) (by rw [e40]; try omega)
            · skip
              exact cut241 ((((9 - (x153 : Int32).toInt)) : Int).toNat + 1) w159 l4_188 l5_188 l6_188 x153 l7_188 I161 F165 (by omega) (by omega) (by rw [e40]; try omega) (by omega)
          · skip
            refine kv_iinc C 217 rfl 7 4 [1, 2, 3, 4, 0] (fun v9 => [(0, .ref (ρ 61)), (4, .int l4_188), (5, .int l5_188), (6, .int l6_188), (7, .int v9)]) (kdec dk_cX10_line 111 rfl) rfl (by decide) (fun _ => rfl) 1 rfl (fun x168 q169 h170e h170 h170l h170u => ?_)
            try have h170n : x168.toInt = l7_188.toInt + 1 := by omega
            clear h170 q169
            refine kv_goto C 188 (kdec dk_cX10_line 112 rfl) (by decide) ?_
            exact ih188 w_188 l4_188 l5_188 l6_188 x168 I_188 F_188 (by omega) (by omega) (by rw [e40]; try omega) (by omega)
  have cut183 : ∀ (w_183 : kw) (l4_183 l5_183 s0_183 : Int32), kI false w_183 → kF [(61, some 12), (61, some 13), (61, some 48), (64, none), (85, none), (86, none)] w w_183 → (0 ≤ l4_183.toInt ∧ l4_183.toInt ≤ 8) → ((w 61 12).toInt = 3) → kV p l e { frames := 4, cells := 0, slots := 0, locals := 144 } s m args below meth c (kQ below args s D τ ρ (fun o w' => ∃ r : Int32, o = some (.int r) ∧ kI false w' ∧ kF [(61, some 12), (61, some 13), (61, some 48), (64, none), (85, none), (86, none)] w w' ∧ ((w 61 12).toInt = 3 ∨ r.toInt = -2 ∧ (w' 61 12).toInt = (w 61 12).toInt))) 11 D τ ρ 183 [(0, .ref (ρ 61)), (4, .int l4_183), (5, .int l5_183)] [.int s0_183] w_183 := by
    intro w_183 l4_183 l5_183 s0_183 I_183 F_183 k183_0 k183_1
    have gl4_183 := kf_rng l4_183
    have gl5_183 := kf_rng l5_183
    have gs0_183 := kf_rng s0_183
    obtain ⟨x171, e172⟩ : ∃ z : Int32, w 61 12 = z := ⟨_, rfl⟩
    have b173 : (0 : Int) ≤ x171.toInt ∧ x171.toInt ≤ 4 := by rw [← e172]; exact hI 61 12
    rw [e172] at k183_1
    refine kv_istore C 185 rfl 6 [1, 2, 3, 0] [(0, .ref (ρ 61)), (4, .int l4_183), (5, .int l5_183), (6, .int s0_183)] (kdec dk_cX10_line 96 rfl) (by decide) rfl ?_
    refine kv_iconst C 186 rfl 0 (kdec dk_cX10_line 97 rfl) rfl ?_
    refine kv_istore C 188 rfl 7 [1, 2, 3, 4, 0] [(0, .ref (ρ 61)), (4, .int l4_183), (5, .int l5_183), (6, .int s0_183), (7, .int 0)] (kdec dk_cX10_line 98 rfl) (by decide) rfl ?_
    exact cut188 ((((9 - (0 : Int32).toInt)) : Int).toNat + 1) w_183 l4_183 l5_183 s0_183 0 I_183 F_183 (by omega) (by omega) (by rw [e172]; try omega) (by omega)
  have cut147 : ∀ (w_147 : kw) (l4_147 : Int32), kI false w_147 → kF [(61, some 12), (61, some 13), (61, some 48), (64, none), (85, none), (86, none)] w w_147 → (0 ≤ l4_147.toInt ∧ l4_147.toInt ≤ 8) → ((w 61 12).toInt = 3) → kV p l e { frames := 4, cells := 0, slots := 0, locals := 144 } s m args below meth c (kQ below args s D τ ρ (fun o w' => ∃ r : Int32, o = some (.int r) ∧ kI false w' ∧ kF [(61, some 12), (61, some 13), (61, some 48), (64, none), (85, none), (86, none)] w w' ∧ ((w 61 12).toInt = 3 ∨ r.toInt = -2 ∧ (w' 61 12).toInt = (w 61 12).toInt))) 11 D τ ρ 147 [(0, .ref (ρ 61)), (4, .int l4_147)] [] w_147 := by
    intro w_147 l4_147 I_147 F_147 k147_0 k147_1
    have gl4_147 := kf_rng l4_147
    obtain ⟨x174, e175⟩ : ∃ z : Int32, w 61 12 = z := ⟨_, rfl⟩
    have b176 : (0 : Int) ≤ x174.toInt ∧ x174.toInt ≤ 4 := by rw [← e175]; exact hI 61 12
    rw [e175] at k147_1
    refine kv_aload_n C 148 rfl 0 (kdec dk_cX10_line 76 rfl) rfl rfl ?_
    refine kv_aload_n C 149 rfl 0 (kdec dk_cX10_line 77 rfl) rfl rfl ?_
    obtain ⟨x177, e178⟩ : ∃ z : Int32, w 61 26 = z := ⟨_, rfl⟩
    have b179 : (0 : Int) ≤ x177.toInt ∧ x177.toInt ≤ 65535 := by rw [← e178]; exact hI 61 26
    have e180 : w_147 61 26 = x177 := ((F_147 61 26 rfl : w_147 61 26 = w 61 26).trans e178)
    refine kv_get C 152 rfl 61 26 rfl rfl inX10 (by decide) mfl_TaleMachineModel_323 rfl rfl (kdec dk_cX10_line 78 rfl) e180 ?_
    refine kv_iconst C 153 rfl 1 (kdec dk_cX10_line 79 rfl) rfl ?_
    refine kv_iadd C 154 rfl (kdec dk_cX10_line 80 rfl) (fun x181 q183 h182e h182 h182l h182u => ?_)
    try have h182n : x181.toInt = x177.toInt + (1 : Int32).toInt := by omega
    clear h182 q183
    refine kv_iload C 156 rfl 1 (kdec dk_cX10_line 81 rfl) rfl ?_
    refine kv_iadd C 157 rfl (kdec dk_cX10_line 82 rfl) (fun x184 q186 h185e h185 h185l h185u => ?_)
    try have h185n : x184.toInt = x181.toInt + l4_147.toInt := by omega
    clear h185 q186
    refine kv_iconst C 158 rfl 0 (kdec dk_cX10_line 83 rfl) rfl ?_
    refine kv_callVv (As := [.int x184, .int 0]) (rest := []) C 161 rfl 61 (k_x_putByte l D τ ρ σ w_147 x184 0 I_147 ) rfl rfl mml_TaleMachineModel_208 mim_yX10_putByte mse_yX10_putByte mcd_yX10_putByte min_yX10_putByte hd_yX10_putByte rfl rfl rfl (by decide) rfl (Nat.le_of_ble_eq_true rfl) (kdec dk_cX10_line 84 rfl) (fun w187 h188 => ?_)
    obtain ⟨I189, f190, p192⟩ := h188
    have F193 : kF [(61, some 12), (61, some 13), (61, some 48), (64, none), (85, none), (86, none)] w w187 := kF_call F_147 f190 (by decide)
    obtain ⟨x194, e195⟩ : ∃ z : Int32, w_147 61 13 = z := ⟨_, rfl⟩
    have b196 : (0 : Int) ≤ x194.toInt ∧ x194.toInt ≤ 13 := by rw [← e195]; exact I_147 61 13
    obtain ⟨x197, e198⟩ : ∃ z : Int32, w187 61 13 = z := ⟨_, rfl⟩
    have b199 : (0 : Int) ≤ x197.toInt ∧ x197.toInt ≤ 13 := by rw [← e198]; exact I189 61 13
    rw [e195, e198] at p192
    refine kv_iconst C 162 rfl 0 (kdec dk_cX10_line 85 rfl) rfl ?_
    refine kv_istore C 164 rfl 5 [1, 2, 0] [(0, .ref (ρ 61)), (4, .int l4_147), (5, .int 0)] (kdec dk_cX10_line 86 rfl) (by decide) rfl ?_
    refine kv_aload_n C 165 rfl 0 (kdec dk_cX10_line 87 rfl) rfl rfl ?_
    refine kv_get C 168 rfl 61 13 rfl rfl inX10 (by decide) mfl_TaleMachineModel_148 rfl rfl (kdec dk_cX10_line 88 rfl) e198 ?_
    refine kv_if_le C 171 rfl 175 (kdec dk_cX10_line 89 rfl) (by decide) (fun d200 => ?_) (fun d200 => ?_)
    · skip
      refine kv_aload_n C 176 rfl 0 (kdec dk_cX10_line 92 rfl) rfl rfl ?_
      refine kv_aload_n C 177 rfl 0 (kdec dk_cX10_line 93 rfl) rfl rfl ?_
      obtain ⟨x201, e202⟩ : ∃ z : Int32, w 61 27 = z := ⟨_, rfl⟩
      have b203 : (0 : Int) ≤ x201.toInt ∧ x201.toInt ≤ 65535 := by rw [← e202]; exact hI 61 27
      have e204 : w187 61 27 = x201 := ((f190 61 27 rfl : w187 61 27 = w_147 61 27).trans ((F_147 61 27 rfl : w_147 61 27 = w 61 27).trans e202))
      refine kv_get C 180 rfl 61 27 rfl rfl inX10 (by decide) mfl_TaleMachineModel_326 rfl rfl (kdec dk_cX10_line 94 rfl) e204 ?_
      refine kv_callVi (As := [.int x201]) (rest := []) C 183 rfl 61 (k_x_byteAt l D τ ρ σ w187 x201 I189 ) rfl rfl mml_TaleMachineModel_163 mim_yX10_byteAt mse_yX10_byteAt mcd_yX10_byteAt min_yX10_byteAt hd_yX10_byteAt rfl rfl rfl (by decide) rfl (Nat.le_of_ble_eq_true rfl) (kdec dk_cX10_line 95 rfl) (fun x209 w205 h206 => ?_)
      obtain ⟨I207, f208, p210, p211, p212⟩ := h206
      have F213 : kF [(61, some 12), (61, some 13), (61, some 48), (64, none), (85, none), (86, none)] w w205 := kF_call F193 f208 (by decide)
      have g214 := kf_rng x209
      obtain ⟨x215, e216⟩ : ∃ z : Int32, w205 61 13 = z := ⟨_, rfl⟩
      have b217 : (0 : Int) ≤ x215.toInt ∧ x215.toInt ≤ 13 := by rw [← e216]; exact I207 61 13
      rw [e198, e216] at p211
      rw [e216] at p212
      exact cut183 w205 l4_147 0 x209 I207 F213 (by omega) (by rw [e175]; try omega)
    · skip
      refine kv_iconst C 172 rfl 0 (kdec dk_cX10_line 90 rfl) rfl ?_
      refine kv_goto C 183 (kdec dk_cX10_line 91 rfl) (by decide) ?_
      exact cut183 w187 l4_147 0 0 I189 F193 (by omega) (by rw [e175]; try omega)
  have cut26 : ∀ (n_26 : Nat) (w_26 : kw) (l1_26 l2_26 l3_26 l4_26 l5_26 : Int32), kI false w_26 → kF [(61, some 12), (61, some 13), (61, some 48), (64, none), (85, none), (86, none)] w w_26 → (0 ≤ l4_26.toInt ∧ l4_26.toInt ≤ l5_26.toInt ∧ l5_26.toInt ≤ 8) → ((w 61 12).toInt = 3) → ((9 - l5_26.toInt) : Int) < (n_26 : Int) → kV p l e { frames := 4, cells := 0, slots := 0, locals := 144 } s m args below meth c (kQ below args s D τ ρ (fun o w' => ∃ r : Int32, o = some (.int r) ∧ kI false w' ∧ kF [(61, some 12), (61, some 13), (61, some 48), (64, none), (85, none), (86, none)] w w' ∧ ((w 61 12).toInt = 3 ∨ r.toInt = -2 ∧ (w' 61 12).toInt = (w 61 12).toInt))) 11 D τ ρ 26 [(0, .ref (ρ 61)), (1, .int l1_26), (2, .int l2_26), (3, .int l3_26), (4, .int l4_26), (5, .int l5_26)] [] w_26 := by
    intro n_26
    induction n_26 with
    | zero => intro w_26 l1_26 l2_26 l3_26 l4_26 l5_26 I_26 F_26 k26_0 k26_1 hmz; exfalso; omega
    | succ n_26 ih26 =>
      intro w_26 l1_26 l2_26 l3_26 l4_26 l5_26 I_26 F_26 k26_0 k26_1 hm26
      have gl1_26 := kf_rng l1_26
      have gl2_26 := kf_rng l2_26
      have gl3_26 := kf_rng l3_26
      have gl4_26 := kf_rng l4_26
      have gl5_26 := kf_rng l5_26
      obtain ⟨x218, e219⟩ : ∃ z : Int32, w 61 12 = z := ⟨_, rfl⟩
      have b220 : (0 : Int) ≤ x218.toInt ∧ x218.toInt ≤ 4 := by rw [← e219]; exact hI 61 12
      rw [e219] at k26_1
      have cut141 : ∀ (w_141 : kw) (l1_141 l2_141 l3_141 l4_141 l5_141 : Int32), kI false w_141 → kF [(61, some 12), (61, some 13), (61, some 48), (64, none), (85, none), (86, none)] w w_141 → (0 ≤ l4_141.toInt ∧ l4_141.toInt ≤ l5_141.toInt + 1 ∧ l5_141.toInt < 8 ∧ l5_141.toInt = l5_26.toInt) → ((w 61 12).toInt = 3) → kV p l e { frames := 4, cells := 0, slots := 0, locals := 144 } s m args below meth c (kQ below args s D τ ρ (fun o w' => ∃ r : Int32, o = some (.int r) ∧ kI false w' ∧ kF [(61, some 12), (61, some 13), (61, some 48), (64, none), (85, none), (86, none)] w w' ∧ ((w 61 12).toInt = 3 ∨ r.toInt = -2 ∧ (w' 61 12).toInt = (w 61 12).toInt))) 11 D τ ρ 141 [(0, .ref (ρ 61)), (1, .int l1_141), (2, .int l2_141), (3, .int l3_141), (4, .int l4_141), (5, .int l5_141)] [] w_141 := by
        intro w_141 l1_141 l2_141 l3_141 l4_141 l5_141 I_141 F_141 k141_0 k141_1
        have gl1_141 := kf_rng l1_141
        have gl2_141 := kf_rng l2_141
        have gl3_141 := kf_rng l3_141
        have gl4_141 := kf_rng l4_141
        have gl5_141 := kf_rng l5_141
        rw [e219] at k141_1
        refine kv_iinc C 144 rfl 5 5 [1, 2, 3, 4, 5, 0] (fun v9 => [(0, .ref (ρ 61)), (1, .int l1_141), (2, .int l2_141), (3, .int l3_141), (4, .int l4_141), (5, .int v9)]) (kdec dk_cX10_line 74 rfl) rfl (by decide) (fun _ => rfl) 1 rfl (fun x221 q222 h223e h223 h223l h223u => ?_)
        try have h223n : x221.toInt = l5_141.toInt + 1 := by omega
        clear h223 q222
        refine kv_goto C 26 (kdec dk_cX10_line 75 rfl) (by decide) ?_
        exact ih26 w_141 l1_141 l2_141 l3_141 l4_141 x221 I_141 F_141 (by omega) (by rw [e219]; try omega) (by omega)
      have cut51 : ∀ (w_51 : kw) (l1_51 l2_51 l3_51 l4_51 l5_51 s0_51 : Int32), kI false w_51 → kF [(61, some 12), (61, some 13), (61, some 48), (64, none), (85, none), (86, none)] w w_51 → (0 ≤ l4_51.toInt ∧ l4_51.toInt = l5_51.toInt ∧ l5_51.toInt < 8 ∧ l5_51.toInt = l5_26.toInt) → ((w 61 12).toInt = 3) → kV p l e { frames := 4, cells := 0, slots := 0, locals := 144 } s m args below meth c (kQ below args s D τ ρ (fun o w' => ∃ r : Int32, o = some (.int r) ∧ kI false w' ∧ kF [(61, some 12), (61, some 13), (61, some 48), (64, none), (85, none), (86, none)] w w' ∧ ((w 61 12).toInt = 3 ∨ r.toInt = -2 ∧ (w' 61 12).toInt = (w 61 12).toInt))) 11 D τ ρ 51 [(0, .ref (ρ 61)), (1, .int l1_51), (2, .int l2_51), (3, .int l3_51), (4, .int l4_51), (5, .int l5_51)] [.int s0_51] w_51 := by
        intro w_51 l1_51 l2_51 l3_51 l4_51 l5_51 s0_51 I_51 F_51 k51_0 k51_1
        have gl1_51 := kf_rng l1_51
        have gl2_51 := kf_rng l2_51
        have gl3_51 := kf_rng l3_51
        have gl4_51 := kf_rng l4_51
        have gl5_51 := kf_rng l5_51
        have gs0_51 := kf_rng s0_51
        rw [e219] at k51_1
        refine kv_bipush C 53 rfl 24 (kdec dk_cX10_line 27 rfl) rfl ?_
        refine kv_iload C 55 rfl 5 (kdec dk_cX10_line 28 rfl) rfl ?_
        refine kv_iconst C 56 rfl 4 (kdec dk_cX10_line 29 rfl) rfl ?_
        refine kv_irem C 57 rfl (kdec dk_cX10_line 30 rfl) (by decide) (fun x224 h225e h225l h225u => ?_)
        refine kv_bipush C 59 rfl 8 (kdec dk_cX10_line 31 rfl) rfl ?_
        refine kv_imul C 60 rfl (kdec dk_cX10_line 32 rfl) (fun x226 h227e h227l h227u => ?_)
        obtain ⟨q228, g229⟩ := kf_mul x224 8
        rw [← h227e, c_8] at g229
        try have h227n : x226.toInt = 8 * x224.toInt := by omega
        clear g229 q228
        refine kv_isub C 61 rfl (kdec dk_cX10_line 33 rfl) (fun x230 q232 h231e h231 h231l h231u => ?_)
        try have h231n : x230.toInt = (24 : Int32).toInt - x226.toInt := by omega
        clear h231 q232
        refine kv_ishr C 62 rfl (kdec dk_cX10_line 34 rfl) (fun x233 h234e h234l h234u => ?_)
        refine kv_sipush C 65 rfl 255 (kdec dk_cX10_line 35 rfl) rfl ?_
        refine kv_iand C 66 rfl (kdec dk_cX10_line 36 rfl) (fun x235 h236e h236l h236u => ?_)
        have g237 := kf_and255 h236e
        refine kv_istore C 68 rfl 6 [1, 2, 3, 4, 5, 6, 0] [(0, .ref (ρ 61)), (1, .int l1_51), (2, .int l2_51), (3, .int l3_51), (4, .int l4_51), (5, .int l5_51), (6, .int x235)] (kdec dk_cX10_line 37 rfl) (by decide) rfl ?_
        refine kv_iload C 70 rfl 6 (kdec dk_cX10_line 38 rfl) rfl ?_
        refine kv_if_le C 73 rfl 141 (kdec dk_cX10_line 39 rfl) (by decide) (fun d238 => ?_) (fun d238 => ?_)
        · skip
          refine kV.sub [0, 1, 2, 3, 4, 5] (L' := [(0, .ref (ρ 61)), (1, .int l1_51), (2, .int l2_51), (3, .int l3_51), (4, .int l4_51), (5, .int l5_51)]) rfl ?_
          exact cut141 w_51 l1_51 l2_51 l3_51 l4_51 l5_51 I_51 F_51 (by omega) (by rw [e219]; try omega)
        · skip
          refine kv_iload C 75 rfl 4 (kdec dk_cX10_line 40 rfl) rfl ?_
          refine kv_iload_n C 76 rfl 3 (kdec dk_cX10_line 41 rfl) rfl rfl ?_
          refine kv_icmp_ge C 79 rfl 141 (kdec dk_cX10_line 42 rfl) (by decide) (fun d239 => ?_) (fun d239 => ?_)
          · skip
            refine kV.sub [0, 1, 2, 3, 4, 5] (L' := [(0, .ref (ρ 61)), (1, .int l1_51), (2, .int l2_51), (3, .int l3_51), (4, .int l4_51), (5, .int l5_51)]) rfl ?_
            exact cut141 w_51 l1_51 l2_51 l3_51 l4_51 l5_51 I_51 F_51 (by omega) (by rw [e219]; try omega)
          · skip
            refine kv_aload_n C 80 rfl 0 (kdec dk_cX10_line 43 rfl) rfl rfl ?_
            obtain ⟨x240, e241⟩ : ∃ z : Int32, w_51 61 13 = z := ⟨_, rfl⟩
            have b242 : (0 : Int) ≤ x240.toInt ∧ x240.toInt ≤ 13 := by rw [← e241]; exact I_51 61 13
            refine kv_get C 83 rfl 61 13 rfl rfl inX10 (by decide) mfl_TaleMachineModel_148 rfl rfl (kdec dk_cX10_line 44 rfl) e241 ?_
            refine kv_if_ne C 86 rfl 141 (kdec dk_cX10_line 45 rfl) (by decide) (fun d243 => ?_) (fun d243 => ?_)
            · skip
              refine kV.sub [0, 1, 2, 3, 4, 5] (L' := [(0, .ref (ρ 61)), (1, .int l1_51), (2, .int l2_51), (3, .int l3_51), (4, .int l4_51), (5, .int l5_51)]) rfl ?_
              exact cut141 w_51 l1_51 l2_51 l3_51 l4_51 l5_51 I_51 F_51 (by omega) (by rw [e219]; try omega)
            · skip
              refine kv_aload_n C 87 rfl 0 (kdec dk_cX10_line 46 rfl) rfl rfl ?_
              refine kv_getr C 90 rfl 61 46 rfl rfl inX10 (by decide) mfl_TaleMachineModel_80 rfl rfl (kdec dk_cX10_line 47 rfl) ?_
              refine kv_iload C 92 rfl 4 (kdec dk_cX10_line 48 rfl) rfl ?_
              refine kv_iload C 94 rfl 6 (kdec dk_cX10_line 49 rfl) rfl ?_
              refine kv_i2l C 95 rfl (kdec dk_cX10_line 50 rfl) ?_
              have h244 := kf_i2l x235
              refine kv_ldc2 C 98 rfl 65 (kdec dk_cX10_line 51 rfl) mcl_TaleMachineModel_354 ?_
              have h245 : (65 : Int64).toInt = 65 := by decide
              refine kv_ldc2 C 101 rfl 90 (kdec dk_cX10_line 52 rfl) mcl_TaleMachineModel_356 ?_
              have h246 : (90 : Int64).toInt = 90 := by decide
              refine kv_callSi (As := [.long (x235 : Int32).toInt64, .long (65 : Int64), .long (90 : Int64)]) (rest := [.int l4_51, .ref (ρ 85)]) C 104 rfl (k_x_in l D τ ρ σ w_51 (x235 : Int32).toInt64 (65 : Int64) (90 : Int64) I_51 ) mml_TaleMachineModel_94 mst_yX10_in mcd_yX10_in min_yX10_in hd_yX10_in rfl rfl rfl (by decide) rfl (Nat.le_of_ble_eq_true rfl) (kdec dk_cX10_line 53 rfl) (fun x251 w247 h248 => ?_)
              obtain ⟨I249, f250, p252, p253⟩ := h248
              have F254 : kF [(61, some 12), (61, some 13), (61, some 48), (64, none), (85, none), (86, none)] w w247 := kF_call F_51 f250 (by decide)
              have g255 := kf_rng x251
              refine kv_if_eq C 107 rfl 115 (kdec dk_cX10_line 54 rfl) (by decide) (fun d256 => ?_) (fun d256 => ?_)
              · skip
                refine kv_iload C 117 rfl 6 (kdec dk_cX10_line 59 rfl) rfl ?_
                refine kv_iast C 118 rfl 85 rfl (by omega) (by omega) (kdec dk_cX10_line 60 rfl) (fun w257 u258 => ?_)
                have I259 : kI false w257 := kI_put u258 I249 (kf_rng _).1 (kf_rng _).2
                have F260 : kF [(61, some 12), (61, some 13), (61, some 48), (64, none), (85, none), (86, none)] w w257 := kF_put u258 F254 rfl
                refine kv_aload_n C 119 rfl 0 (kdec dk_cX10_line 61 rfl) rfl rfl ?_
                refine kv_aload_n C 120 rfl 0 (kdec dk_cX10_line 62 rfl) rfl rfl ?_
                obtain ⟨x261, e262⟩ : ∃ z : Int32, w 61 26 = z := ⟨_, rfl⟩
                have b263 : (0 : Int) ≤ x261.toInt ∧ x261.toInt ≤ 65535 := by rw [← e262]; exact hI 61 26
                have e264 : w257 61 26 = x261 := ((kup_ne u258 rfl : w257 61 26 = w247 61 26).trans ((f250 61 26 rfl : w247 61 26 = w_51 61 26).trans ((F_51 61 26 rfl : w_51 61 26 = w 61 26).trans e262)))
                refine kv_get C 123 rfl 61 26 rfl rfl inX10 (by decide) mfl_TaleMachineModel_323 rfl rfl (kdec dk_cX10_line 63 rfl) e264 ?_
                refine kv_iconst C 124 rfl 1 (kdec dk_cX10_line 64 rfl) rfl ?_
                refine kv_iadd C 125 rfl (kdec dk_cX10_line 65 rfl) (fun x265 q267 h266e h266 h266l h266u => ?_)
                try have h266n : x265.toInt = x261.toInt + (1 : Int32).toInt := by omega
                clear h266 q267
                refine kv_iload C 127 rfl 4 (kdec dk_cX10_line 66 rfl) rfl ?_
                refine kv_iadd C 128 rfl (kdec dk_cX10_line 67 rfl) (fun x268 q270 h269e h269 h269l h269u => ?_)
                try have h269n : x268.toInt = x265.toInt + l4_51.toInt := by omega
                clear h269 q270
                refine kv_aload_n C 129 rfl 0 (kdec dk_cX10_line 68 rfl) rfl rfl ?_
                refine kv_getr C 132 rfl 61 46 rfl rfl inX10 (by decide) mfl_TaleMachineModel_80 rfl rfl (kdec dk_cX10_line 69 rfl) ?_
                refine kv_iload C 134 rfl 4 (kdec dk_cX10_line 70 rfl) rfl ?_
                obtain ⟨x271, e272⟩ : ∃ z : Int32, w257 85 (l4_51 : Int32).toNatClampNeg = z := ⟨_, rfl⟩
                have b273 : (-2147483648 : Int) ≤ x271.toInt ∧ x271.toInt ≤ 2147483647 := by rw [← e272]; exact I259 85 _
                refine kv_iald C 135 rfl 85 rfl (by omega) (by omega) e272 (kdec dk_cX10_line 71 rfl) ?_
                refine kv_callVv (As := [.int x268, .int x271]) (rest := []) C 138 rfl 61 (k_x_putByte l D τ ρ σ w257 x268 x271 I259 ) rfl rfl mml_TaleMachineModel_208 mim_yX10_putByte mse_yX10_putByte mcd_yX10_putByte min_yX10_putByte hd_yX10_putByte rfl rfl rfl (by decide) rfl (Nat.le_of_ble_eq_true rfl) (kdec dk_cX10_line 72 rfl) (fun w274 h275 => ?_)
                obtain ⟨I276, f277, p279⟩ := h275
                have F280 : kF [(61, some 12), (61, some 13), (61, some 48), (64, none), (85, none), (86, none)] w w274 := kF_call F260 f277 (by decide)
                have e281 : w257 61 13 = x240 := ((kup_ne u258 rfl : w257 61 13 = w247 61 13).trans ((f250 61 13 rfl : w247 61 13 = w_51 61 13).trans e241))
                obtain ⟨x282, e283⟩ : ∃ z : Int32, w274 61 13 = z := ⟨_, rfl⟩
                have b284 : (0 : Int) ≤ x282.toInt ∧ x282.toInt ≤ 13 := by rw [← e283]; exact I276 61 13
                rw [e281, e283] at p279
                refine kv_iinc C 141 rfl 4 4 [1, 2, 3, 4, 0, 5, 6] (fun v9 => [(0, .ref (ρ 61)), (1, .int l1_51), (2, .int l2_51), (3, .int l3_51), (4, .int v9), (5, .int l5_51), (6, .int x235)]) (kdec dk_cX10_line 73 rfl) rfl (by decide) (fun _ => rfl) 1 rfl (fun x285 q286 h287e h287 h287l h287u => ?_)
                try have h287n : x285.toInt = l4_51.toInt + 1 := by omega
                clear h287 q286
                refine kV.sub [0, 1, 2, 3, 4, 5] (L' := [(0, .ref (ρ 61)), (1, .int l1_51), (2, .int l2_51), (3, .int l3_51), (4, .int x285), (5, .int l5_51)]) rfl ?_
                exact cut141 w274 l1_51 l2_51 l3_51 x285 l5_51 I276 F280 (by omega) (by rw [e219]; try omega)
              · skip
                refine kv_iload C 109 rfl 6 (kdec dk_cX10_line 55 rfl) rfl ?_
                refine kv_bipush C 111 rfl 32 (kdec dk_cX10_line 56 rfl) rfl ?_
                refine kv_iadd C 112 rfl (kdec dk_cX10_line 57 rfl) (fun x288 q290 h289e h289 h289l h289u => ?_)
                try have h289n : x288.toInt = x235.toInt + (32 : Int32).toInt := by omega
                clear h289 q290
                refine kv_goto C 117 (kdec dk_cX10_line 58 rfl) (by decide) ?_
                refine kv_iast C 118 rfl 85 rfl (by omega) (by omega) (kdec dk_cX10_line 60 rfl) (fun w291 u292 => ?_)
                have I293 : kI false w291 := kI_put u292 I249 (kf_rng _).1 (kf_rng _).2
                have F294 : kF [(61, some 12), (61, some 13), (61, some 48), (64, none), (85, none), (86, none)] w w291 := kF_put u292 F254 rfl
                refine kv_aload_n C 119 rfl 0 (kdec dk_cX10_line 61 rfl) rfl rfl ?_
                refine kv_aload_n C 120 rfl 0 (kdec dk_cX10_line 62 rfl) rfl rfl ?_
                obtain ⟨x295, e296⟩ : ∃ z : Int32, w 61 26 = z := ⟨_, rfl⟩
                have b297 : (0 : Int) ≤ x295.toInt ∧ x295.toInt ≤ 65535 := by rw [← e296]; exact hI 61 26
                have e298 : w291 61 26 = x295 := ((kup_ne u292 rfl : w291 61 26 = w247 61 26).trans ((f250 61 26 rfl : w247 61 26 = w_51 61 26).trans ((F_51 61 26 rfl : w_51 61 26 = w 61 26).trans e296)))
                refine kv_get C 123 rfl 61 26 rfl rfl inX10 (by decide) mfl_TaleMachineModel_323 rfl rfl (kdec dk_cX10_line 63 rfl) e298 ?_
                refine kv_iconst C 124 rfl 1 (kdec dk_cX10_line 64 rfl) rfl ?_
                refine kv_iadd C 125 rfl (kdec dk_cX10_line 65 rfl) (fun x299 q301 h300e h300 h300l h300u => ?_)
                try have h300n : x299.toInt = x295.toInt + (1 : Int32).toInt := by omega
                clear h300 q301
                refine kv_iload C 127 rfl 4 (kdec dk_cX10_line 66 rfl) rfl ?_
                refine kv_iadd C 128 rfl (kdec dk_cX10_line 67 rfl) (fun x302 q304 h303e h303 h303l h303u => ?_)
                try have h303n : x302.toInt = x299.toInt + l4_51.toInt := by omega
                clear h303 q304
                refine kv_aload_n C 129 rfl 0 (kdec dk_cX10_line 68 rfl) rfl rfl ?_
                refine kv_getr C 132 rfl 61 46 rfl rfl inX10 (by decide) mfl_TaleMachineModel_80 rfl rfl (kdec dk_cX10_line 69 rfl) ?_
                refine kv_iload C 134 rfl 4 (kdec dk_cX10_line 70 rfl) rfl ?_
                obtain ⟨x305, e306⟩ : ∃ z : Int32, w291 85 (l4_51 : Int32).toNatClampNeg = z := ⟨_, rfl⟩
                have b307 : (-2147483648 : Int) ≤ x305.toInt ∧ x305.toInt ≤ 2147483647 := by rw [← e306]; exact I293 85 _
                refine kv_iald C 135 rfl 85 rfl (by omega) (by omega) e306 (kdec dk_cX10_line 71 rfl) ?_
                refine kv_callVv (As := [.int x302, .int x305]) (rest := []) C 138 rfl 61 (k_x_putByte l D τ ρ σ w291 x302 x305 I293 ) rfl rfl mml_TaleMachineModel_208 mim_yX10_putByte mse_yX10_putByte mcd_yX10_putByte min_yX10_putByte hd_yX10_putByte rfl rfl rfl (by decide) rfl (Nat.le_of_ble_eq_true rfl) (kdec dk_cX10_line 72 rfl) (fun w308 h309 => ?_)
                obtain ⟨I310, f311, p313⟩ := h309
                have F314 : kF [(61, some 12), (61, some 13), (61, some 48), (64, none), (85, none), (86, none)] w w308 := kF_call F294 f311 (by decide)
                have e315 : w291 61 13 = x240 := ((kup_ne u292 rfl : w291 61 13 = w247 61 13).trans ((f250 61 13 rfl : w247 61 13 = w_51 61 13).trans e241))
                obtain ⟨x316, e317⟩ : ∃ z : Int32, w308 61 13 = z := ⟨_, rfl⟩
                have b318 : (0 : Int) ≤ x316.toInt ∧ x316.toInt ≤ 13 := by rw [← e317]; exact I310 61 13
                rw [e315, e317] at p313
                refine kv_iinc C 141 rfl 4 4 [1, 2, 3, 4, 0, 5, 6] (fun v9 => [(0, .ref (ρ 61)), (1, .int l1_51), (2, .int l2_51), (3, .int l3_51), (4, .int v9), (5, .int l5_51), (6, .int x235)]) (kdec dk_cX10_line 73 rfl) rfl (by decide) (fun _ => rfl) 1 rfl (fun x319 q320 h321e h321 h321l h321u => ?_)
                try have h321n : x319.toInt = l4_51.toInt + 1 := by omega
                clear h321 q320
                refine kV.sub [0, 1, 2, 3, 4, 5] (L' := [(0, .ref (ρ 61)), (1, .int l1_51), (2, .int l2_51), (3, .int l3_51), (4, .int x319), (5, .int l5_51)]) rfl ?_
                exact cut141 w308 l1_51 l2_51 l3_51 x319 l5_51 I310 F314 (by omega) (by rw [e219]; try omega)
      refine kv_iload C 28 rfl 5 (kdec dk_cX10_line 15 rfl) rfl ?_
      refine kv_bipush C 30 rfl 8 (kdec dk_cX10_line 16 rfl) rfl ?_
      refine kv_icmp_ge C 33 rfl 147 (kdec dk_cX10_line 17 rfl) (by decide) (fun d322 => ?_) (fun d322 => ?_)
      · skip
        refine kV.sub [0, 4] (L' := [(0, .ref (ρ 61)), (4, .int l4_26)]) rfl ?_
        exact cut147 w_26 l4_26 I_26 F_26 (by omega) (by rw [e219]; try omega)
      · skip
        refine kv_iload C 35 rfl 4 (kdec dk_cX10_line 18 rfl) rfl ?_
        refine kv_iload C 37 rfl 5 (kdec dk_cX10_line 19 rfl) rfl ?_
        refine kv_icmp_ne C 40 rfl 147 (kdec dk_cX10_line 20 rfl) (by decide) (fun d323 => ?_) (fun d323 => ?_)
        · skip
          refine kV.sub [0, 4] (L' := [(0, .ref (ρ 61)), (4, .int l4_26)]) rfl ?_
          exact cut147 w_26 l4_26 I_26 F_26 (by omega) (by rw [e219]; try omega)
        · skip
          refine kv_iload C 42 rfl 5 (kdec dk_cX10_line 21 rfl) rfl ?_
          refine kv_iconst C 43 rfl 4 (kdec dk_cX10_line 22 rfl) rfl ?_
          refine kv_icmp_ge C 46 rfl 50 (kdec dk_cX10_line 23 rfl) (by decide) (fun d324 => ?_) (fun d324 => ?_)
          · skip
            refine kv_iload_n C 51 rfl 2 (kdec dk_cX10_line 26 rfl) rfl rfl ?_
            exact cut51 w_26 l1_26 l2_26 l3_26 l4_26 l5_26 l2_26 I_26 F_26 (by omega) (by rw [e219]; try omega)
          · skip
            refine kv_iload_n C 47 rfl 1 (kdec dk_cX10_line 24 rfl) rfl rfl ?_
            refine kv_goto C 51 (kdec dk_cX10_line 25 rfl) (by decide) ?_
            exact cut51 w_26 l1_26 l2_26 l3_26 l4_26 l5_26 l1_26 I_26 F_26 (by omega) (by rw [e219]; try omega)
  refine kv_aload_n C 1 rfl 0 (kdec dk_cX10_line 0 rfl) rfl rfl ?_
  obtain ⟨x325, e326⟩ : ∃ z : Int32, w 61 12 = z := ⟨_, rfl⟩
  have b327 : (0 : Int) ≤ x325.toInt ∧ x325.toInt ≤ 4 := by rw [← e326]; exact hI 61 12
  refine kv_get C 4 rfl 61 12 rfl rfl inX10 (by decide) mfl_TaleMachineModel_112 rfl rfl (kdec dk_cX10_line 1 rfl) e326 ?_
  refine kv_iconst C 5 rfl 3 (kdec dk_cX10_line 2 rfl) rfl ?_
  refine kv_icmp_eq C 8 rfl 11 (kdec dk_cX10_line 3 rfl) (by decide) (fun d328 => ?_) (fun d328 => ?_)
  · skip
    refine kv_aload_n C 12 rfl 0 (kdec dk_cX10_line 6 rfl) rfl rfl ?_
    refine kv_aload_n C 13 rfl 0 (kdec dk_cX10_line 7 rfl) rfl rfl ?_
    obtain ⟨x329, e330⟩ : ∃ z : Int32, w 61 26 = z := ⟨_, rfl⟩
    have b331 : (0 : Int) ≤ x329.toInt ∧ x329.toInt ≤ 65535 := by rw [← e330]; exact hI 61 26
    refine kv_get C 16 rfl 61 26 rfl rfl inX10 (by decide) mfl_TaleMachineModel_323 rfl rfl (kdec dk_cX10_line 8 rfl) e330 ?_
    refine kv_callVi (As := [.int x329]) (rest := []) C 19 rfl 61 (k_x_byteAt l D τ ρ σ w x329 hI ) rfl rfl mml_TaleMachineModel_163 mim_yX10_byteAt mse_yX10_byteAt mcd_yX10_byteAt min_yX10_byteAt hd_yX10_byteAt rfl rfl rfl (by decide) rfl (Nat.le_of_ble_eq_true rfl) (kdec dk_cX10_line 9 rfl) (fun x336 w332 h333 => ?_)
    obtain ⟨I334, f335, p337, p338, p339⟩ := h333
    have F340 : kF [(61, some 12), (61, some 13), (61, some 48), (64, none), (85, none), (86, none)] w w332 := kF_call hF0 f335 (by decide)
    have g341 := kf_rng x336
    obtain ⟨x342, e343⟩ : ∃ z : Int32, w 61 13 = z := ⟨_, rfl⟩
    have b344 : (0 : Int) ≤ x342.toInt ∧ x342.toInt ≤ 13 := by rw [← e343]; exact hI 61 13
    obtain ⟨x345, e346⟩ : ∃ z : Int32, w332 61 13 = z := ⟨_, rfl⟩
    have b347 : (0 : Int) ≤ x345.toInt ∧ x345.toInt ≤ 13 := by rw [← e346]; exact I334 61 13
    rw [e343, e346] at p338
    rw [e346] at p339
    refine kv_istore_n C 20 rfl 3 [1, 2, 3, 0] [(0, .ref (ρ 61)), (1, .int a1), (2, .int a2), (3, .int x336)] (kdec dk_cX10_line 10 rfl) rfl (by decide) rfl ?_
    refine kv_iconst C 21 rfl 0 (kdec dk_cX10_line 11 rfl) rfl ?_
    refine kv_istore C 23 rfl 4 [1, 2, 3, 4, 0] [(0, .ref (ρ 61)), (1, .int a1), (2, .int a2), (3, .int x336), (4, .int 0)] (kdec dk_cX10_line 12 rfl) (by decide) rfl ?_
    refine kv_iconst C 24 rfl 0 (kdec dk_cX10_line 13 rfl) rfl ?_
    refine kv_istore C 26 rfl 5 [1, 2, 3, 4, 5, 0] [(0, .ref (ρ 61)), (1, .int a1), (2, .int a2), (3, .int x336), (4, .int 0), (5, .int 0)] (kdec dk_cX10_line 14 rfl) (by decide) rfl ?_
    exact cut26 ((((9 - (0 : Int32).toInt)) : Int).toNat + 1) w332 a1 a2 x336 0 0 I334 F340 (by omega) (by rw [e326]; try omega) (by omega)
  · skip
    refine kv_bipush C 10 rfl (-2) (kdec dk_cX10_line 4 rfl) rfl ?_
    exact kv_iret C hr hlk (kdec dk_cX10_line 5 rfl) ⟨_, rfl, hI, hF0, (by rw [e326]; try omega)⟩

set_option maxHeartbeats 4000000 in
set_option maxRecDepth 100000 in
theorem k_x_run (l : Launch) (D : va_G) (τ : Nat → ClassId) (ρ σ : Nat → Nat) (w : kw) (a1 : Int32) (hI : kI false w) (hp0 : (w 61 31).toInt ≤ 2000000000 ∧ (w 61 29).toInt ≤ 2000000000) (hMp : ((w 61 3).toInt = 0 ∧ (w 61 12).toInt = 0 ∨ kMoT w)) :
    kM l D τ ρ σ yX10_run cX10_run 3 (some .int) { frames := 10, cells := 0, slots := 0, locals := 360 } [.ref (ρ 61), .int a1] w
      (fun o w' => ∃ r : Int32, o = some (.int r) ∧ kI false w' ∧ kF [(61, some 12), (61, some 13), (61, some 14), (61, some 15), (61, some 16), (61, some 17), (61, some 19), (61, some 20), (61, some 26), (61, some 27), (61, some 29), (61, some 31), (61, some 43), (61, some 45), (64, none), (66, none), (67, none), (68, none), (69, none), (70, none), (71, none), (72, none), (73, none), (81, none), (82, none), (83, none), (84, none)] w w' ∧ ((w' 61 31).toInt ≤ (w 61 31).toInt + 150300 ∧ (w' 61 29).toInt ≤ (w 61 29).toInt + 150300) ∧ ((w 61 12).toInt = 1 ∨ (w' 61 12).toInt = (w 61 12).toInt ∧ ((a1.toInt < 0 ∨ 300 < a1.toInt) ∧ r.toInt = -1 ∨ 0 ≤ a1.toInt ∧ a1.toInt ≤ 300 ∧ r.toInt = -2)) ∧ ((w' 61 3).toInt = 0 ∧ (w' 61 12).toInt = 0 ∨ kMoT w')) := by
  refine kM_of (own := "TaleMachineModel") rfl (by decide) (Nat.le_of_ble_eq_true rfl) ?_
  intro p e s m args below meth c C hr hlk
  have hF0 : kF [(61, some 12), (61, some 13), (61, some 14), (61, some 15), (61, some 16), (61, some 17), (61, some 19), (61, some 20), (61, some 26), (61, some 27), (61, some 29), (61, some 31), (61, some 43), (61, some 45), (64, none), (66, none), (67, none), (68, none), (69, none), (70, none), (71, none), (72, none), (73, none), (81, none), (82, none), (83, none), (84, none)] w w := kF.rf
  have c_m2 : (-2 : Int32).toInt = -2 := by decide
  have c_m1 : (-1 : Int32).toInt = -1 := by decide
  have c_0 : (0 : Int32).toInt = 0 := by decide
  have c_1 : (1 : Int32).toInt = 1 := by decide
  refine kV.L (L' := [(0, .ref (ρ 61)), (1, .int a1)]) rfl ?_
  obtain ⟨x1, e2⟩ : ∃ z : Int32, w 61 31 = z := ⟨_, rfl⟩
  have b3 : (0 : Int) ≤ x1.toInt ∧ x1.toInt ≤ 2147483647 := by rw [← e2]; exact hI 61 31
  obtain ⟨x4, e5⟩ : ∃ z : Int32, w 61 29 = z := ⟨_, rfl⟩
  have b6 : (0 : Int) ≤ x4.toInt ∧ x4.toInt ≤ 2147483647 := by rw [← e5]; exact hI 61 29
  rw [e2, e5] at hp0
  have g7 := kf_rng a1
  have cut27 : ∀ (n_27 : Nat) (w_27 : kw) (l1_27 l2_27 : Int32), kI false w_27 → kF [(61, some 12), (61, some 13), (61, some 14), (61, some 15), (61, some 16), (61, some 17), (61, some 19), (61, some 20), (61, some 26), (61, some 27), (61, some 29), (61, some 31), (61, some 43), (61, some 45), (64, none), (66, none), (67, none), (68, none), (69, none), (70, none), (71, none), (72, none), (73, none), (81, none), (82, none), (83, none), (84, none)] w w_27 → (0 ≤ l2_27.toInt ∧ l2_27.toInt ≤ 300) → (l1_27.toInt ≤ 300) → ((w_27 61 31).toInt ≤ (w 61 31).toInt + 501 * l2_27.toInt ∧ (w_27 61 29).toInt ≤ (w 61 29).toInt + 501 * l2_27.toInt) → ((w 61 12).toInt = 1) → kMoT w_27 → ((301 - l2_27.toInt) : Int) < (n_27 : Int) → kV p l e { frames := 10, cells := 0, slots := 0, locals := 360 } s m args below meth c (kQ below args s D τ ρ (fun o w' => ∃ r : Int32, o = some (.int r) ∧ kI false w' ∧ kF [(61, some 12), (61, some 13), (61, some 14), (61, some 15), (61, some 16), (61, some 17), (61, some 19), (61, some 20), (61, some 26), (61, some 27), (61, some 29), (61, some 31), (61, some 43), (61, some 45), (64, none), (66, none), (67, none), (68, none), (69, none), (70, none), (71, none), (72, none), (73, none), (81, none), (82, none), (83, none), (84, none)] w w' ∧ ((w' 61 31).toInt ≤ (w 61 31).toInt + 150300 ∧ (w' 61 29).toInt ≤ (w 61 29).toInt + 150300) ∧ ((w 61 12).toInt = 1 ∨ (w' 61 12).toInt = (w 61 12).toInt ∧ ((a1.toInt < 0 ∨ 300 < a1.toInt) ∧ r.toInt = -1 ∨ 0 ≤ a1.toInt ∧ a1.toInt ≤ 300 ∧ r.toInt = -2)) ∧ ((w' 61 3).toInt = 0 ∧ (w' 61 12).toInt = 0 ∨ kMoT w'))) 3 D τ ρ 27 [(0, .ref (ρ 61)), (1, .int l1_27), (2, .int l2_27)] [] w_27 := by
    intro n_27
    induction n_27 with
    | zero => intro w_27 l1_27 l2_27 I_27 F_27 k27_0 k27_1 k27_2 k27_3 M_27 hmz; exfalso; omega
    | succ n_27 ih27 =>
      intro w_27 l1_27 l2_27 I_27 F_27 k27_0 k27_1 k27_2 k27_3 M_27 hm27
      have gl1_27 := kf_rng l1_27
      have gl2_27 := kf_rng l2_27
      obtain ⟨x8, e9⟩ : ∃ z : Int32, w_27 61 20 = z := ⟨_, rfl⟩
      have b10 : (0 : Int) ≤ x8.toInt ∧ x8.toInt ≤ 20 := by rw [← e9]; exact I_27 61 20
      have r11 := kMoT_fr M_27
      rw [e9] at r11
      obtain ⟨x12, e13⟩ : ∃ z : Int32, w_27 61 31 = z := ⟨_, rfl⟩
      have b14 : (0 : Int) ≤ x12.toInt ∧ x12.toInt ≤ 2147483647 := by rw [← e13]; exact I_27 61 31
      obtain ⟨x15, e16⟩ : ∃ z : Int32, w_27 61 29 = z := ⟨_, rfl⟩
      have b17 : (0 : Int) ≤ x15.toInt ∧ x15.toInt ≤ 2147483647 := by rw [← e16]; exact I_27 61 29
      rw [e2, e5, e13, e16] at k27_2
      obtain ⟨x18, e19⟩ : ∃ z : Int32, w 61 12 = z := ⟨_, rfl⟩
      have b20 : (0 : Int) ≤ x18.toInt ∧ x18.toInt ≤ 4 := by rw [← e19]; exact hI 61 12
      rw [e19] at k27_3
      refine kv_iload_n C 28 rfl 2 (kdec dk_cX10_run 16 rfl) rfl rfl ?_
      refine kv_iload_n C 29 rfl 1 (kdec dk_cX10_run 17 rfl) rfl rfl ?_
      refine kv_icmp_ge C 32 rfl 50 (kdec dk_cX10_run 18 rfl) (by decide) (fun d21 => ?_) (fun d21 => ?_)
      · skip
        refine kv_aload_n C 51 rfl 0 (kdec dk_cX10_run 27 rfl) rfl rfl ?_
        obtain ⟨x22, e23⟩ : ∃ z : Int32, w_27 61 12 = z := ⟨_, rfl⟩
        have b24 : (0 : Int) ≤ x22.toInt ∧ x22.toInt ≤ 4 := by rw [← e23]; exact I_27 61 12
        refine kv_get C 54 rfl 61 12 rfl rfl inX10 (by decide) mfl_TaleMachineModel_112 rfl rfl (kdec dk_cX10_run 28 rfl) e23 ?_
        exact kv_iret C hr hlk (kdec dk_cX10_run 29 rfl) ⟨_, rfl, I_27, F_27, (by rw [e2, e5, e13, e16]; try omega), (by rw [e19, e23]; try omega), (Or.inr M_27)⟩
      · skip
        refine kv_aload_n C 33 rfl 0 (kdec dk_cX10_run 19 rfl) rfl rfl ?_
        obtain ⟨x25, e26⟩ : ∃ z : Int32, w_27 61 12 = z := ⟨_, rfl⟩
        have b27 : (0 : Int) ≤ x25.toInt ∧ x25.toInt ≤ 4 := by rw [← e26]; exact I_27 61 12
        refine kv_get C 36 rfl 61 12 rfl rfl inX10 (by decide) mfl_TaleMachineModel_112 rfl rfl (kdec dk_cX10_run 20 rfl) e26 ?_
        refine kv_iconst C 37 rfl 1 (kdec dk_cX10_run 21 rfl) rfl ?_
        refine kv_icmp_ne C 40 rfl 50 (kdec dk_cX10_run 22 rfl) (by decide) (fun d28 => ?_) (fun d28 => ?_)
        · skip
          refine kv_aload_n C 51 rfl 0 (kdec dk_cX10_run 27 rfl) rfl rfl ?_
          refine kv_get C 54 rfl 61 12 rfl rfl inX10 (by decide) mfl_TaleMachineModel_112 rfl rfl (kdec dk_cX10_run 28 rfl) e26 ?_
          exact kv_iret C hr hlk (kdec dk_cX10_run 29 rfl) ⟨_, rfl, I_27, F_27, (by rw [e2, e5, e13, e16]; try omega), (by rw [e19, e26]; try omega), (Or.inr M_27)⟩
        · skip
          refine kv_aload_n C 41 rfl 0 (kdec dk_cX10_run 23 rfl) rfl rfl ?_
          refine kv_callVv (As := []) (rest := []) C 44 rfl 61 (k_x_order l D τ ρ σ w_27  I_27 (by rw [e13, e16]; try omega) M_27) rfl rfl mml_TaleMachineModel_338 mim_yX10_order mse_yX10_order mcd_yX10_order min_yX10_order hd_yX10_order rfl rfl rfl (by decide) rfl (Nat.le_of_ble_eq_true rfl) (kdec dk_cX10_run 24 rfl) (fun w29 h30 => ?_)
          obtain ⟨I31, f32, p34, M35⟩ := h30
          have F36 : kF [(61, some 12), (61, some 13), (61, some 14), (61, some 15), (61, some 16), (61, some 17), (61, some 19), (61, some 20), (61, some 26), (61, some 27), (61, some 29), (61, some 31), (61, some 43), (61, some 45), (64, none), (66, none), (67, none), (68, none), (69, none), (70, none), (71, none), (72, none), (73, none), (81, none), (82, none), (83, none), (84, none)] w w29 := kF_call F_27 f32 (by decide)
          obtain ⟨x37, e38⟩ : ∃ z : Int32, w29 61 20 = z := ⟨_, rfl⟩
          have b39 : (0 : Int) ≤ x37.toInt ∧ x37.toInt ≤ 20 := by rw [← e38]; exact I31 61 20
          have r40 := kMoT_fr M35
          rw [e38] at r40
          obtain ⟨x41, e42⟩ : ∃ z : Int32, w29 61 31 = z := ⟨_, rfl⟩
          have b43 : (0 : Int) ≤ x41.toInt ∧ x41.toInt ≤ 2147483647 := by rw [← e42]; exact I31 61 31
          obtain ⟨x44, e45⟩ : ∃ z : Int32, w29 61 29 = z := ⟨_, rfl⟩
          have b46 : (0 : Int) ≤ x44.toInt ∧ x44.toInt ≤ 2147483647 := by rw [← e45]; exact I31 61 29
          rw [e13, e16, e42, e45] at p34
          refine kv_iinc C 47 rfl 2 2 [1, 2, 0] (fun v9 => [(0, .ref (ρ 61)), (1, .int l1_27), (2, .int v9)]) (kdec dk_cX10_run 25 rfl) rfl (by decide) (fun _ => rfl) 1 rfl (fun x47 q48 h49e h49 h49l h49u => ?_)
          try have h49n : x47.toInt = l2_27.toInt + 1 := by omega
          clear h49 q48
          refine kv_goto C 27 (kdec dk_cX10_run 26 rfl) (by decide) ?_
          exact ih27 w29 l1_27 x47 I31 F36 (by omega) (by omega) (by rw [e2, e5, e42, e45]; try omega) (by rw [e19]; try omega) M35 (by omega)
  refine kv_iload_n C 1 rfl 1 (kdec dk_cX10_run 0 rfl) rfl rfl ?_
  refine kv_i2l C 2 rfl (kdec dk_cX10_run 1 rfl) ?_
  have h50 := kf_i2l a1
  refine kv_lconst C 3 rfl 0 (kdec dk_cX10_run 2 rfl) rfl ?_
  have h51 : (0 : Int64).toInt = 0 := by decide
  refine kv_ldc2 C 6 rfl 300 (kdec dk_cX10_run 3 rfl) mcl_TaleMachineModel_336 ?_
  have h52 : (300 : Int64).toInt = 300 := by decide
  refine kv_callSi (As := [.long (a1 : Int32).toInt64, .long (0 : Int64), .long (300 : Int64)]) (rest := []) C 9 rfl (k_x_in l D τ ρ σ w (a1 : Int32).toInt64 (0 : Int64) (300 : Int64) hI ) mml_TaleMachineModel_94 mst_yX10_in mcd_yX10_in min_yX10_in hd_yX10_in rfl rfl rfl (by decide) rfl (Nat.le_of_ble_eq_true rfl) (kdec dk_cX10_run 4 rfl) (fun x57 w53 h54 => ?_)
  obtain ⟨I55, f56, p58, p59⟩ := h54
  have F60 : kF [(61, some 12), (61, some 13), (61, some 14), (61, some 15), (61, some 16), (61, some 17), (61, some 19), (61, some 20), (61, some 26), (61, some 27), (61, some 29), (61, some 31), (61, some 43), (61, some 45), (64, none), (66, none), (67, none), (68, none), (69, none), (70, none), (71, none), (72, none), (73, none), (81, none), (82, none), (83, none), (84, none)] w w53 := kF_call hF0 f56 (by decide)
  have M61 : ((w53 61 3).toInt = 0 ∧ (w53 61 12).toInt = 0 ∨ kMoT w53) := kMoP_kF f56 hMp rfl rfl rfl rfl (fun _ => rfl)
  have g62 := kf_rng x57
  refine kv_if_ne C 12 rfl 14 (kdec dk_cX10_run 5 rfl) (by decide) (fun d63 => ?_) (fun d63 => ?_)
  · skip
    refine kv_aload_n C 15 rfl 0 (kdec dk_cX10_run 8 rfl) rfl rfl ?_
    obtain ⟨x64, e65⟩ : ∃ z : Int32, w 61 12 = z := ⟨_, rfl⟩
    have b66 : (0 : Int) ≤ x64.toInt ∧ x64.toInt ≤ 4 := by rw [← e65]; exact hI 61 12
    have e67 : w53 61 12 = x64 := ((f56 61 12 rfl : w53 61 12 = w 61 12).trans e65)
    refine kv_get C 18 rfl 61 12 rfl rfl inX10 (by decide) mfl_TaleMachineModel_112 rfl rfl (kdec dk_cX10_run 9 rfl) e67 ?_
    refine kv_iconst C 19 rfl 1 (kdec dk_cX10_run 10 rfl) rfl ?_
    refine kv_icmp_eq C 22 rfl 25 (kdec dk_cX10_run 11 rfl) (by decide) (fun d68 => ?_) (fun d68 => ?_)
    · skip
      obtain ⟨x70, e71⟩ : ∃ z : Int32, w 61 3 = z := ⟨_, rfl⟩
      have b72 : (0 : Int) ≤ x70.toInt ∧ x70.toInt ≤ 1 := by rw [← e71]; exact hI 61 3
      have e73 : w53 61 3 = x70 := ((f56 61 3 rfl : w53 61 3 = w 61 3).trans e71)
      have M69 : kMoT w53 := M61.resolve_left (by rw [e73, e67]; omega)
      obtain ⟨x74, e75⟩ : ∃ z : Int32, w 61 20 = z := ⟨_, rfl⟩
      have b76 : (0 : Int) ≤ x74.toInt ∧ x74.toInt ≤ 20 := by rw [← e75]; exact hI 61 20
      have e77 : w53 61 20 = x74 := ((f56 61 20 rfl : w53 61 20 = w 61 20).trans e75)
      have r78 := kMoT_fr M69
      rw [e77] at r78
      refine kv_iconst C 26 rfl 0 (kdec dk_cX10_run 14 rfl) rfl ?_
      refine kv_istore_n C 27 rfl 2 [1, 2, 0] [(0, .ref (ρ 61)), (1, .int a1), (2, .int 0)] (kdec dk_cX10_run 15 rfl) rfl (by decide) rfl ?_
      have e79 : w53 61 31 = x1 := ((f56 61 31 rfl : w53 61 31 = w 61 31).trans e2)
      have e80 : w53 61 29 = x4 := ((f56 61 29 rfl : w53 61 29 = w 61 29).trans e5)
      exact cut27 ((((301 - (0 : Int32).toInt)) : Int).toNat + 1) w53 a1 0 I55 F60 (by omega) (by omega) (by rw [e2, e5, e79, e80]; try omega) (by rw [e65]; try omega) M69 (by omega)
    · skip
      refine kv_bipush C 24 rfl (-2) (kdec dk_cX10_run 12 rfl) rfl ?_
      have e81 : w53 61 31 = x1 := ((f56 61 31 rfl : w53 61 31 = w 61 31).trans e2)
      have e82 : w53 61 29 = x4 := ((f56 61 29 rfl : w53 61 29 = w 61 29).trans e5)
      exact kv_iret C hr hlk (kdec dk_cX10_run 13 rfl) ⟨_, rfl, I55, F60, (by rw [e2, e5, e81, e82]; try omega), (by rw [e65, e67]; try omega), M61⟩
  · skip
    refine kv_iconst C 13 rfl (-1) (kdec dk_cX10_run 6 rfl) rfl ?_
    have e83 : w53 61 31 = x1 := ((f56 61 31 rfl : w53 61 31 = w 61 31).trans e2)
    have e84 : w53 61 29 = x4 := ((f56 61 29 rfl : w53 61 29 = w 61 29).trans e5)
    obtain ⟨x85, e86⟩ : ∃ z : Int32, w 61 12 = z := ⟨_, rfl⟩
    have b87 : (0 : Int) ≤ x85.toInt ∧ x85.toInt ≤ 4 := by rw [← e86]; exact hI 61 12
    have e88 : w53 61 12 = x85 := ((f56 61 12 rfl : w53 61 12 = w 61 12).trans e86)
    exact kv_iret C hr hlk (kdec dk_cX10_run 7 rfl) ⟨_, rfl, I55, F60, (by rw [e2, e5, e83, e84]; try omega), (by rw [e86, e88]; try omega), M61⟩

set_option maxHeartbeats 4000000 in
set_option maxRecDepth 100000 in
theorem k_x_state (l : Launch) (D : va_G) (τ : Nat → ClassId) (ρ σ : Nat → Nat) (w : kw)  (hI : kI false w)  :
    kM l D τ ρ σ yX10_state cX10_state 1 (some .int) { frames := 0, cells := 0, slots := 0, locals := 0 } [.ref (ρ 61)] w
      (fun o w' => ∃ r : Int32, o = some (.int r) ∧ kI false w' ∧ kF [] w w' ∧ (r.toInt = (w 61 12).toInt)) := by
  refine kM_of (own := "TaleMachineModel") rfl (by decide) (Nat.le_of_ble_eq_true rfl) ?_
  intro p e s m args below meth c C hr hlk
  have hF0 : kF [] w w := kF.rf
  refine kV.L (L' := [(0, .ref (ρ 61))]) rfl ?_
  refine kv_aload_n C 1 rfl 0 (kdec dk_cX10_state 0 rfl) rfl rfl ?_
  obtain ⟨x1, e2⟩ : ∃ z : Int32, w 61 12 = z := ⟨_, rfl⟩
  have b3 : (0 : Int) ≤ x1.toInt ∧ x1.toInt ≤ 4 := by rw [← e2]; exact hI 61 12
  refine kv_get C 4 rfl 61 12 rfl rfl inX10 (by decide) mfl_TaleMachineModel_112 rfl rfl (kdec dk_cX10_state 1 rfl) e2 ?_
  exact kv_iret C hr hlk (kdec dk_cX10_state 2 rfl) ⟨_, rfl, hI, hF0, (by rw [e2]; try omega)⟩

set_option maxHeartbeats 4000000 in
set_option maxRecDepth 100000 in
theorem k_x_start (l : Launch) (D : va_G) (τ : Nat → ClassId) (ρ σ : Nat → Nat) (w : kw)  (hI : kI false w) (hMp : ((w 61 3).toInt = 0 ∧ (w 61 12).toInt = 0 ∨ kMoT w)) :
    kM l D τ ρ σ yX10_start cX10_start 1 (some .int) { frames := 2, cells := 0, slots := 0, locals := 72 } [.ref (ρ 61)] w
      (fun o w' => ∃ r : Int32, o = some (.int r) ∧ kI false w' ∧ kF [(61, some 12), (61, some 13), (61, some 14), (61, some 16), (61, some 17), (61, some 19), (61, some 20), (61, some 31), (64, none), (67, none), (68, none), (69, none), (70, none)] w w' ∧ ((w 61 3).toInt = 0 ∧ r.toInt = -2 ∧ (w' 61 12).toInt = (w 61 12).toInt ∨ ¬ (w 61 3).toInt = 0 ∧ r.toInt = 1) ∧ ((w' 61 31).toInt ≤ (w 61 31).toInt) ∧ ((w' 61 3).toInt = 0 ∧ (w' 61 12).toInt = 0 ∨ kMoT w')) := by
  refine kM_of (own := "TaleMachineModel") rfl (by decide) (Nat.le_of_ble_eq_true rfl) ?_
  intro p e s m args below meth c C hr hlk
  have hF0 : kF [(61, some 12), (61, some 13), (61, some 14), (61, some 16), (61, some 17), (61, some 19), (61, some 20), (61, some 31), (64, none), (67, none), (68, none), (69, none), (70, none)] w w := kF.rf
  have c_m2 : (-2 : Int32).toInt = -2 := by decide
  have c_1 : (1 : Int32).toInt = 1 := by decide
  refine kV.L (L' := [(0, .ref (ρ 61))]) rfl ?_
  refine kv_aload_n C 1 rfl 0 (kdec dk_cX10_start 0 rfl) rfl rfl ?_
  obtain ⟨x1, e2⟩ : ∃ z : Int32, w 61 3 = z := ⟨_, rfl⟩
  have b3 : (0 : Int) ≤ x1.toInt ∧ x1.toInt ≤ 1 := by rw [← e2]; exact hI 61 3
  refine kv_get C 4 rfl 61 3 rfl rfl inX10 (by decide) mfl_TaleMachineModel_108 rfl rfl (kdec dk_cX10_start 1 rfl) e2 ?_
  refine kv_if_ne C 7 rfl 10 (kdec dk_cX10_start 2 rfl) (by decide) (fun d4 => ?_) (fun d4 => ?_)
  · skip
    refine kv_aload_n C 11 rfl 0 (kdec dk_cX10_start 5 rfl) rfl rfl ?_
    refine kv_callVv (As := []) (rest := []) C 14 rfl 61 (k_x_begins l D τ ρ σ w  hI ) rfl rfl mml_TaleMachineModel_133 mim_yX10_begins mse_yX10_begins mcd_yX10_begins min_yX10_begins hd_yX10_begins rfl rfl rfl (by decide) rfl (Nat.le_of_ble_eq_true rfl) (kdec dk_cX10_start 6 rfl) (fun w5 h6 => ?_)
    obtain ⟨I7, f8, p10, p11, p12, M13⟩ := h6
    have F14 : kF [(61, some 12), (61, some 13), (61, some 14), (61, some 16), (61, some 17), (61, some 19), (61, some 20), (61, some 31), (64, none), (67, none), (68, none), (69, none), (70, none)] w w5 := kF_call hF0 f8 (by decide)
    obtain ⟨x15, e16⟩ : ∃ z : Int32, w5 61 20 = z := ⟨_, rfl⟩
    have b17 : (0 : Int) ≤ x15.toInt ∧ x15.toInt ≤ 20 := by rw [← e16]; exact I7 61 20
    have r18 := kMoT_fr M13
    rw [e16] at r18
    obtain ⟨x19, e20⟩ : ∃ z : Int32, w5 61 12 = z := ⟨_, rfl⟩
    have b21 : (0 : Int) ≤ x19.toInt ∧ x19.toInt ≤ 4 := by rw [← e20]; exact I7 61 12
    rw [e20] at p10
    obtain ⟨x22, e23⟩ : ∃ z : Int32, w5 61 31 = z := ⟨_, rfl⟩
    have b24 : (0 : Int) ≤ x22.toInt ∧ x22.toInt ≤ 2147483647 := by rw [← e23]; exact I7 61 31
    rw [e23] at p11
    obtain ⟨x25, e26⟩ : ∃ z : Int32, w5 61 13 = z := ⟨_, rfl⟩
    have b27 : (0 : Int) ≤ x25.toInt ∧ x25.toInt ≤ 13 := by rw [← e26]; exact I7 61 13
    rw [e26] at p12
    refine kv_iconst C 15 rfl 1 (kdec dk_cX10_start 7 rfl) rfl ?_
    obtain ⟨x28, e29⟩ : ∃ z : Int32, w 61 12 = z := ⟨_, rfl⟩
    have b30 : (0 : Int) ≤ x28.toInt ∧ x28.toInt ≤ 4 := by rw [← e29]; exact hI 61 12
    obtain ⟨x31, e32⟩ : ∃ z : Int32, w 61 31 = z := ⟨_, rfl⟩
    have b33 : (0 : Int) ≤ x31.toInt ∧ x31.toInt ≤ 2147483647 := by rw [← e32]; exact hI 61 31
    exact kv_iret C hr hlk (kdec dk_cX10_start 8 rfl) ⟨_, rfl, I7, F14, (by rw [e2, e29, e20]; try omega), (by rw [e32, e23]; try omega), (Or.inr M13)⟩
  · skip
    refine kv_bipush C 9 rfl (-2) (kdec dk_cX10_start 3 rfl) rfl ?_
    obtain ⟨x34, e35⟩ : ∃ z : Int32, w 61 12 = z := ⟨_, rfl⟩
    have b36 : (0 : Int) ≤ x34.toInt ∧ x34.toInt ≤ 4 := by rw [← e35]; exact hI 61 12
    obtain ⟨x37, e38⟩ : ∃ z : Int32, w 61 31 = z := ⟨_, rfl⟩
    have b39 : (0 : Int) ≤ x37.toInt ∧ x37.toInt ≤ 2147483647 := by rw [← e38]; exact hI 61 31
    exact kv_iret C hr hlk (kdec dk_cX10_start 4 rfl) ⟨_, rfl, hI, hF0, (by rw [e2, e35]; try omega), (by rw [e38]; try omega), hMp⟩

set_option maxHeartbeats 4000000 in
set_option maxRecDepth 100000 in
theorem k_x_out (l : Launch) (D : va_G) (τ : Nat → ClassId) (ρ σ : Nat → Nat) (w : kw) (a1 : Int32) (hI : kI false w)  :
    kM l D τ ρ σ yX10_out cX10_out 2 (some .int) { frames := 1, cells := 0, slots := 0, locals := 36 } [.ref (ρ 61), .int a1] w
      (fun o w' => ∃ r : Int32, o = some (.int r) ∧ kI false w' ∧ kF [] w w' ∧ (¬ (w 61 3).toInt = 0 ∨ r.toInt = -1)) := by
  refine kM_of (own := "TaleMachineModel") rfl (by decide) (Nat.le_of_ble_eq_true rfl) ?_
  intro p e s m args below meth c C hr hlk
  have hF0 : kF [] w w := kF.rf
  have c_m1 : (-1 : Int32).toInt = -1 := by decide
  have c_1 : (1 : Int32).toInt = 1 := by decide
  have c_299 : (299 : Int32).toInt = 299 := by decide
  have c_300 : (300 : Int32).toInt = 300 := by decide
  refine kV.L (L' := [(0, .ref (ρ 61)), (1, .int a1)]) rfl ?_
  have g1 := kf_rng a1
  refine kv_iload_n C 1 rfl 1 (kdec dk_cX10_out 0 rfl) rfl rfl ?_
  refine kv_i2l C 2 rfl (kdec dk_cX10_out 1 rfl) ?_
  have h2 := kf_i2l a1
  refine kv_lconst C 3 rfl 0 (kdec dk_cX10_out 2 rfl) rfl ?_
  have h3 : (0 : Int64).toInt = 0 := by decide
  refine kv_aload_n C 4 rfl 0 (kdec dk_cX10_out 3 rfl) rfl rfl ?_
  obtain ⟨x4, e5⟩ : ∃ z : Int32, w 61 31 = z := ⟨_, rfl⟩
  have b6 : (0 : Int) ≤ x4.toInt ∧ x4.toInt ≤ 2147483647 := by rw [← e5]; exact hI 61 31
  refine kv_get C 7 rfl 61 31 rfl rfl inX10 (by decide) mfl_TaleMachineModel_157 rfl rfl (kdec dk_cX10_out 4 rfl) e5 ?_
  refine kv_sipush C 10 rfl 300 (kdec dk_cX10_out 5 rfl) rfl ?_
  refine kv_icmp_ge C 13 rfl 20 (kdec dk_cX10_out 6 rfl) (by decide) (fun d7 => ?_) (fun d7 => ?_)
  · skip
    refine kv_sipush C 23 rfl 300 (kdec dk_cX10_out 10 rfl) rfl ?_
    refine kv_iconst C 24 rfl 1 (kdec dk_cX10_out 11 rfl) rfl ?_
    refine kv_isub C 25 rfl (kdec dk_cX10_out 12 rfl) (fun x8 q10 h9e h9 h9l h9u => ?_)
    try have h9n : x8.toInt = (300 : Int32).toInt - (1 : Int32).toInt := by omega
    clear h9 q10
    obtain rfl : x8 = 299 := by rw [h9e]; decide
    refine kv_i2l C 26 rfl (kdec dk_cX10_out 13 rfl) ?_
    have h11 := kf_i2l 299
    refine kv_callSi (As := [.long (a1 : Int32).toInt64, .long (0 : Int64), .long (299 : Int32).toInt64]) (rest := []) C 29 rfl (k_x_in l D τ ρ σ w (a1 : Int32).toInt64 (0 : Int64) (299 : Int32).toInt64 hI ) mml_TaleMachineModel_94 mst_yX10_in mcd_yX10_in min_yX10_in hd_yX10_in rfl rfl rfl (by decide) rfl (Nat.le_of_ble_eq_true rfl) (kdec dk_cX10_out 14 rfl) (fun x16 w12 h13 => ?_)
    obtain ⟨I14, f15, p17, p18⟩ := h13
    have F19 : kF [] w w12 := kF_call hF0 f15 (by decide)
    have g20 := kf_rng x16
    refine kv_if_eq C 32 rfl 48 (kdec dk_cX10_out 15 rfl) (by decide) (fun d21 => ?_) (fun d21 => ?_)
    · skip
      refine kv_iconst C 49 rfl (-1) (kdec dk_cX10_out 24 rfl) rfl ?_
      obtain ⟨x22, e23⟩ : ∃ z : Int32, w 61 3 = z := ⟨_, rfl⟩
      have b24 : (0 : Int) ≤ x22.toInt ∧ x22.toInt ≤ 1 := by rw [← e23]; exact hI 61 3
      exact kv_iret C hr hlk (kdec dk_cX10_out 25 rfl) ⟨_, rfl, I14, F19, (by rw [e23]; try omega)⟩
    · skip
      refine kv_aload_n C 33 rfl 0 (kdec dk_cX10_out 16 rfl) rfl rfl ?_
      obtain ⟨x25, e26⟩ : ∃ z : Int32, w 61 3 = z := ⟨_, rfl⟩
      have b27 : (0 : Int) ≤ x25.toInt ∧ x25.toInt ≤ 1 := by rw [← e26]; exact hI 61 3
      have e28 : w12 61 3 = x25 := ((f15 61 3 rfl : w12 61 3 = w 61 3).trans e26)
      refine kv_get C 36 rfl 61 3 rfl rfl inX10 (by decide) mfl_TaleMachineModel_108 rfl rfl (kdec dk_cX10_out 17 rfl) e28 ?_
      refine kv_if_eq C 39 rfl 48 (kdec dk_cX10_out 18 rfl) (by decide) (fun d29 => ?_) (fun d29 => ?_)
      · skip
        refine kv_iconst C 49 rfl (-1) (kdec dk_cX10_out 24 rfl) rfl ?_
        exact kv_iret C hr hlk (kdec dk_cX10_out 25 rfl) ⟨_, rfl, I14, F19, (by rw [e26]; try omega)⟩
      · skip
        refine kv_aload_n C 40 rfl 0 (kdec dk_cX10_out 19 rfl) rfl rfl ?_
        refine kv_getr C 43 rfl 61 32 rfl rfl inX10 (by decide) mfl_TaleMachineModel_43 rfl rfl (kdec dk_cX10_out 20 rfl) ?_
        refine kv_iload_n C 44 rfl 1 (kdec dk_cX10_out 21 rfl) rfl rfl ?_
        obtain ⟨x30, e31⟩ : ∃ z : Int32, w12 73 (a1 : Int32).toNatClampNeg = z := ⟨_, rfl⟩
        have b32 : (-2147483648 : Int) ≤ x30.toInt ∧ x30.toInt ≤ 2147483647 := by rw [← e31]; exact I14 73 _
        refine kv_iald C 45 rfl 73 rfl (by omega) (by omega) e31 (kdec dk_cX10_out 22 rfl) ?_
        refine kv_goto C 49 (kdec dk_cX10_out 23 rfl) (by decide) ?_
        exact kv_iret C hr hlk (kdec dk_cX10_out 25 rfl) ⟨_, rfl, I14, F19, (by rw [e26]; try omega)⟩
  · skip
    refine kv_aload_n C 14 rfl 0 (kdec dk_cX10_out 7 rfl) rfl rfl ?_
    refine kv_get C 17 rfl 61 31 rfl rfl inX10 (by decide) mfl_TaleMachineModel_157 rfl rfl (kdec dk_cX10_out 8 rfl) e5 ?_
    refine kv_goto C 23 (kdec dk_cX10_out 9 rfl) (by decide) ?_
    refine kv_iconst C 24 rfl 1 (kdec dk_cX10_out 11 rfl) rfl ?_
    refine kv_isub C 25 rfl (kdec dk_cX10_out 12 rfl) (fun x33 q35 h34e h34 h34l h34u => ?_)
    try have h34n : x33.toInt = x4.toInt - (1 : Int32).toInt := by omega
    clear h34 q35
    refine kv_i2l C 26 rfl (kdec dk_cX10_out 13 rfl) ?_
    have h36 := kf_i2l x33
    refine kv_callSi (As := [.long (a1 : Int32).toInt64, .long (0 : Int64), .long (x33 : Int32).toInt64]) (rest := []) C 29 rfl (k_x_in l D τ ρ σ w (a1 : Int32).toInt64 (0 : Int64) (x33 : Int32).toInt64 hI ) mml_TaleMachineModel_94 mst_yX10_in mcd_yX10_in min_yX10_in hd_yX10_in rfl rfl rfl (by decide) rfl (Nat.le_of_ble_eq_true rfl) (kdec dk_cX10_out 14 rfl) (fun x41 w37 h38 => ?_)
    obtain ⟨I39, f40, p42, p43⟩ := h38
    have F44 : kF [] w w37 := kF_call hF0 f40 (by decide)
    have g45 := kf_rng x41
    refine kv_if_eq C 32 rfl 48 (kdec dk_cX10_out 15 rfl) (by decide) (fun d46 => ?_) (fun d46 => ?_)
    · skip
      refine kv_iconst C 49 rfl (-1) (kdec dk_cX10_out 24 rfl) rfl ?_
      obtain ⟨x47, e48⟩ : ∃ z : Int32, w 61 3 = z := ⟨_, rfl⟩
      have b49 : (0 : Int) ≤ x47.toInt ∧ x47.toInt ≤ 1 := by rw [← e48]; exact hI 61 3
      exact kv_iret C hr hlk (kdec dk_cX10_out 25 rfl) ⟨_, rfl, I39, F44, (by rw [e48]; try omega)⟩
    · skip
      refine kv_aload_n C 33 rfl 0 (kdec dk_cX10_out 16 rfl) rfl rfl ?_
      obtain ⟨x50, e51⟩ : ∃ z : Int32, w 61 3 = z := ⟨_, rfl⟩
      have b52 : (0 : Int) ≤ x50.toInt ∧ x50.toInt ≤ 1 := by rw [← e51]; exact hI 61 3
      have e53 : w37 61 3 = x50 := ((f40 61 3 rfl : w37 61 3 = w 61 3).trans e51)
      refine kv_get C 36 rfl 61 3 rfl rfl inX10 (by decide) mfl_TaleMachineModel_108 rfl rfl (kdec dk_cX10_out 17 rfl) e53 ?_
      refine kv_if_eq C 39 rfl 48 (kdec dk_cX10_out 18 rfl) (by decide) (fun d54 => ?_) (fun d54 => ?_)
      · skip
        refine kv_iconst C 49 rfl (-1) (kdec dk_cX10_out 24 rfl) rfl ?_
        exact kv_iret C hr hlk (kdec dk_cX10_out 25 rfl) ⟨_, rfl, I39, F44, (by rw [e51]; try omega)⟩
      · skip
        refine kv_aload_n C 40 rfl 0 (kdec dk_cX10_out 19 rfl) rfl rfl ?_
        refine kv_getr C 43 rfl 61 32 rfl rfl inX10 (by decide) mfl_TaleMachineModel_43 rfl rfl (kdec dk_cX10_out 20 rfl) ?_
        refine kv_iload_n C 44 rfl 1 (kdec dk_cX10_out 21 rfl) rfl rfl ?_
        obtain ⟨x55, e56⟩ : ∃ z : Int32, w37 73 (a1 : Int32).toNatClampNeg = z := ⟨_, rfl⟩
        have b57 : (-2147483648 : Int) ≤ x55.toInt ∧ x55.toInt ≤ 2147483647 := by rw [← e56]; exact I39 73 _
        refine kv_iald C 45 rfl 73 rfl (by omega) (by omega) e56 (kdec dk_cX10_out 22 rfl) ?_
        refine kv_goto C 49 (kdec dk_cX10_out 23 rfl) (by decide) ?_
        exact kv_iret C hr hlk (kdec dk_cX10_out 25 rfl) ⟨_, rfl, I39, F44, (by rw [e51]; try omega)⟩

set_option maxHeartbeats 4000000 in
set_option maxRecDepth 100000 in
theorem k_x_count (l : Launch) (D : va_G) (τ : Nat → ClassId) (ρ σ : Nat → Nat) (w : kw) (a1 : Int32) (hI : kI false w) (hMp : ((w 61 3).toInt = 0 ∧ (w 61 12).toInt = 0 ∨ kMoT w)) :
    kM l D τ ρ σ yX10_count cX10_count 2 (some .int) { frames := 1, cells := 0, slots := 0, locals := 36 } [.ref (ρ 61), .int a1] w
      (fun o w' => ∃ r : Int32, o = some (.int r) ∧ kI false w' ∧ kF [] w w' ∧ (¬ (w 61 3).toInt = 0 ∨ (a1.toInt < 0 ∨ 9 < a1.toInt) ∧ r.toInt = -1 ∨ a1.toInt = 9 ∧ r.toInt = (w 61 2).toInt ∨ 0 ≤ a1.toInt ∧ a1.toInt ≤ 8 ∧ r.toInt = -2)) := by
  refine kM_of (own := "TaleMachineModel") rfl (by decide) (Nat.le_of_ble_eq_true rfl) ?_
  intro p e s m args below meth c C hr hlk
  have hF0 : kF [] w w := kF.rf
  have c_m2 : (-2 : Int32).toInt = -2 := by decide
  have c_m1 : (-1 : Int32).toInt = -1 := by decide
  have c_1 : (1 : Int32).toInt = 1 := by decide
  have c_9 : (9 : Int32).toInt = 9 := by decide
  refine kV.L (L' := [(0, .ref (ρ 61)), (1, .int a1)]) rfl ?_
  have g1 := kf_rng a1
  refine kv_iload_n C 1 rfl 1 (kdec dk_cX10_count 0 rfl) rfl rfl ?_
  refine kv_i2l C 2 rfl (kdec dk_cX10_count 1 rfl) ?_
  have h2 := kf_i2l a1
  refine kv_lconst C 3 rfl 0 (kdec dk_cX10_count 2 rfl) rfl ?_
  have h3 : (0 : Int64).toInt = 0 := by decide
  refine kv_ldc2 C 6 rfl 9 (kdec dk_cX10_count 3 rfl) mcl_TaleMachineModel_364 ?_
  have h4 : (9 : Int64).toInt = 9 := by decide
  refine kv_callSi (As := [.long (a1 : Int32).toInt64, .long (0 : Int64), .long (9 : Int64)]) (rest := []) C 9 rfl (k_x_in l D τ ρ σ w (a1 : Int32).toInt64 (0 : Int64) (9 : Int64) hI ) mml_TaleMachineModel_94 mst_yX10_in mcd_yX10_in min_yX10_in hd_yX10_in rfl rfl rfl (by decide) rfl (Nat.le_of_ble_eq_true rfl) (kdec dk_cX10_count 4 rfl) (fun x9 w5 h6 => ?_)
  obtain ⟨I7, f8, p10, p11⟩ := h6
  have F12 : kF [] w w5 := kF_call hF0 f8 (by decide)
  have M13 : ((w5 61 3).toInt = 0 ∧ (w5 61 12).toInt = 0 ∨ kMoT w5) := kMoP_kF f8 hMp rfl rfl rfl rfl (fun _ => rfl)
  have g14 := kf_rng x9
  refine kv_if_ne C 12 rfl 14 (kdec dk_cX10_count 5 rfl) (by decide) (fun d15 => ?_) (fun d15 => ?_)
  · skip
    refine kv_iload_n C 15 rfl 1 (kdec dk_cX10_count 8 rfl) rfl rfl ?_
    refine kv_bipush C 17 rfl 9 (kdec dk_cX10_count 9 rfl) rfl ?_
    refine kv_icmp_ne C 20 rfl 25 (kdec dk_cX10_count 10 rfl) (by decide) (fun d16 => ?_) (fun d16 => ?_)
    · skip
      refine kv_aload_n C 26 rfl 0 (kdec dk_cX10_count 14 rfl) rfl rfl ?_
      obtain ⟨x17, e18⟩ : ∃ z : Int32, w 61 3 = z := ⟨_, rfl⟩
      have b19 : (0 : Int) ≤ x17.toInt ∧ x17.toInt ≤ 1 := by rw [← e18]; exact hI 61 3
      have e20 : w5 61 3 = x17 := ((f8 61 3 rfl : w5 61 3 = w 61 3).trans e18)
      refine kv_get C 29 rfl 61 3 rfl rfl inX10 (by decide) mfl_TaleMachineModel_108 rfl rfl (kdec dk_cX10_count 15 rfl) e20 ?_
      refine kv_if_ne C 32 rfl 35 (kdec dk_cX10_count 16 rfl) (by decide) (fun d21 => ?_) (fun d21 => ?_)
      · skip
        obtain ⟨x23, e24⟩ : ∃ z : Int32, w 61 12 = z := ⟨_, rfl⟩
        have b25 : (0 : Int) ≤ x23.toInt ∧ x23.toInt ≤ 4 := by rw [← e24]; exact hI 61 12
        have e26 : w5 61 12 = x23 := ((f8 61 12 rfl : w5 61 12 = w 61 12).trans e24)
        have M22 : kMoT w5 := M13.resolve_left (by rw [e20, e26]; omega)
        obtain ⟨x27, e28⟩ : ∃ z : Int32, w 61 20 = z := ⟨_, rfl⟩
        have b29 : (0 : Int) ≤ x27.toInt ∧ x27.toInt ≤ 20 := by rw [← e28]; exact hI 61 20
        have e30 : w5 61 20 = x27 := ((f8 61 20 rfl : w5 61 20 = w 61 20).trans e28)
        have r31 := kMoT_fr M22
        rw [e30] at r31
        refine kv_iload_n C 36 rfl 1 (kdec dk_cX10_count 19 rfl) rfl rfl ?_
        by_cases d32 : a1.toInt = 0
        · skip
          refine kv_tableIn C 0 84 (kdec dk_cX10_count 20 rfl) d32 (by decide) (by decide) rfl (by decide) ?_
          refine kv_aload_n C 85 rfl 0 (kdec dk_cX10_count 21 rfl) rfl rfl ?_
          obtain ⟨x33, e34⟩ : ∃ z : Int32, w 61 31 = z := ⟨_, rfl⟩
          have b35 : (0 : Int) ≤ x33.toInt ∧ x33.toInt ≤ 2147483647 := by rw [← e34]; exact hI 61 31
          have e36 : w5 61 31 = x33 := ((f8 61 31 rfl : w5 61 31 = w 61 31).trans e34)
          refine kv_get C 88 rfl 61 31 rfl rfl inX10 (by decide) mfl_TaleMachineModel_157 rfl rfl (kdec dk_cX10_count 22 rfl) e36 ?_
          obtain ⟨x37, e38⟩ : ∃ z : Int32, w 61 2 = z := ⟨_, rfl⟩
          have b39 : (0 : Int) ≤ x37.toInt ∧ x37.toInt ≤ 1024 := by rw [← e38]; exact hI 61 2
          exact kv_iret C hr hlk (kdec dk_cX10_count 23 rfl) ⟨_, rfl, I7, F12, (by rw [e18, e38]; try omega)⟩
        by_cases d40 : a1.toInt = 1
        · skip
          refine kv_tableIn C 1 89 (kdec dk_cX10_count 20 rfl) d40 (by decide) (by decide) rfl (by decide) ?_
          refine kv_aload_n C 90 rfl 0 (kdec dk_cX10_count 24 rfl) rfl rfl ?_
          obtain ⟨x41, e42⟩ : ∃ z : Int32, w 61 16 = z := ⟨_, rfl⟩
          have b43 : (-2147483648 : Int) ≤ x41.toInt ∧ x41.toInt ≤ 2147483647 := by rw [← e42]; exact hI 61 16
          have e44 : w5 61 16 = x41 := ((f8 61 16 rfl : w5 61 16 = w 61 16).trans e42)
          refine kv_get C 93 rfl 61 16 rfl rfl inX10 (by decide) mfl_TaleMachineModel_151 rfl rfl (kdec dk_cX10_count 25 rfl) e44 ?_
          obtain ⟨x45, e46⟩ : ∃ z : Int32, w 61 2 = z := ⟨_, rfl⟩
          have b47 : (0 : Int) ≤ x45.toInt ∧ x45.toInt ≤ 1024 := by rw [← e46]; exact hI 61 2
          exact kv_iret C hr hlk (kdec dk_cX10_count 26 rfl) ⟨_, rfl, I7, F12, (by rw [e18, e46]; try omega)⟩
        by_cases d48 : a1.toInt = 2
        · skip
          refine kv_tableIn C 2 94 (kdec dk_cX10_count 20 rfl) d48 (by decide) (by decide) rfl (by decide) ?_
          refine kv_aload_n C 95 rfl 0 (kdec dk_cX10_count 27 rfl) rfl rfl ?_
          obtain ⟨x49, e50⟩ : ∃ z : Int32, w 61 19 = z := ⟨_, rfl⟩
          have b51 : (0 : Int) ≤ x49.toInt ∧ x49.toInt ≤ 120 := by rw [← e50]; exact hI 61 19
          have e52 : w5 61 19 = x49 := ((f8 61 19 rfl : w5 61 19 = w 61 19).trans e50)
          refine kv_get C 98 rfl 61 19 rfl rfl inX10 (by decide) mfl_TaleMachineModel_136 rfl rfl (kdec dk_cX10_count 28 rfl) e52 ?_
          obtain ⟨x53, e54⟩ : ∃ z : Int32, w 61 2 = z := ⟨_, rfl⟩
          have b55 : (0 : Int) ≤ x53.toInt ∧ x53.toInt ≤ 1024 := by rw [← e54]; exact hI 61 2
          exact kv_iret C hr hlk (kdec dk_cX10_count 29 rfl) ⟨_, rfl, I7, F12, (by rw [e18, e54]; try omega)⟩
        by_cases d56 : a1.toInt = 3
        · skip
          refine kv_tableIn C 3 99 (kdec dk_cX10_count 20 rfl) d56 (by decide) (by decide) rfl (by decide) ?_
          refine kv_aload_n C 100 rfl 0 (kdec dk_cX10_count 30 rfl) rfl rfl ?_
          refine kv_get C 103 rfl 61 20 rfl rfl inX10 (by decide) mfl_TaleMachineModel_139 rfl rfl (kdec dk_cX10_count 31 rfl) e30 ?_
          obtain ⟨x57, e58⟩ : ∃ z : Int32, w 61 2 = z := ⟨_, rfl⟩
          have b59 : (0 : Int) ≤ x57.toInt ∧ x57.toInt ≤ 1024 := by rw [← e58]; exact hI 61 2
          exact kv_iret C hr hlk (kdec dk_cX10_count 32 rfl) ⟨_, rfl, I7, F12, (by rw [e18, e58]; try omega)⟩
        by_cases d60 : a1.toInt = 4
        · skip
          refine kv_tableIn C 4 104 (kdec dk_cX10_count 20 rfl) d60 (by decide) (by decide) rfl (by decide) ?_
          refine kv_aload_n C 105 rfl 0 (kdec dk_cX10_count 33 rfl) rfl rfl ?_
          obtain ⟨x61, e62⟩ : ∃ z : Int32, w 61 14 = z := ⟨_, rfl⟩
          have b63 : (0 : Int) ≤ x61.toInt ∧ x61.toInt ≤ 65535 := by rw [← e62]; exact hI 61 14
          have e64 : w5 61 14 = x61 := ((f8 61 14 rfl : w5 61 14 = w 61 14).trans e62)
          refine kv_get C 108 rfl 61 14 rfl rfl inX10 (by decide) mfl_TaleMachineModel_142 rfl rfl (kdec dk_cX10_count 34 rfl) e64 ?_
          obtain ⟨x65, e66⟩ : ∃ z : Int32, w 61 2 = z := ⟨_, rfl⟩
          have b67 : (0 : Int) ≤ x65.toInt ∧ x65.toInt ≤ 1024 := by rw [← e66]; exact hI 61 2
          exact kv_iret C hr hlk (kdec dk_cX10_count 35 rfl) ⟨_, rfl, I7, F12, (by rw [e18, e66]; try omega)⟩
        by_cases d68 : a1.toInt = 5
        · skip
          refine kv_tableIn C 5 109 (kdec dk_cX10_count 20 rfl) d68 (by decide) (by decide) rfl (by decide) ?_
          refine kv_aload_n C 110 rfl 0 (kdec dk_cX10_count 36 rfl) rfl rfl ?_
          obtain ⟨x69, e70⟩ : ∃ z : Int32, w 61 13 = z := ⟨_, rfl⟩
          have b71 : (0 : Int) ≤ x69.toInt ∧ x69.toInt ≤ 13 := by rw [← e70]; exact hI 61 13
          have e72 : w5 61 13 = x69 := ((f8 61 13 rfl : w5 61 13 = w 61 13).trans e70)
          refine kv_get C 113 rfl 61 13 rfl rfl inX10 (by decide) mfl_TaleMachineModel_148 rfl rfl (kdec dk_cX10_count 37 rfl) e72 ?_
          obtain ⟨x73, e74⟩ : ∃ z : Int32, w 61 2 = z := ⟨_, rfl⟩
          have b75 : (0 : Int) ≤ x73.toInt ∧ x73.toInt ≤ 1024 := by rw [← e74]; exact hI 61 2
          exact kv_iret C hr hlk (kdec dk_cX10_count 38 rfl) ⟨_, rfl, I7, F12, (by rw [e18, e74]; try omega)⟩
        by_cases d76 : a1.toInt = 6
        · skip
          refine kv_tableIn C 6 114 (kdec dk_cX10_count 20 rfl) d76 (by decide) (by decide) rfl (by decide) ?_
          refine kv_aload_n C 115 rfl 0 (kdec dk_cX10_count 39 rfl) rfl rfl ?_
          refine kv_getr C 118 rfl 61 24 rfl rfl inX10 (by decide) mfl_TaleMachineModel_34 rfl rfl (kdec dk_cX10_count 40 rfl) ?_
          refine kv_aload_n C 119 rfl 0 (kdec dk_cX10_count 41 rfl) rfl rfl ?_
          refine kv_get C 122 rfl 61 20 rfl rfl inX10 (by decide) mfl_TaleMachineModel_139 rfl rfl (kdec dk_cX10_count 42 rfl) e30 ?_
          refine kv_iconst C 123 rfl 1 (kdec dk_cX10_count 43 rfl) rfl ?_
          refine kv_isub C 124 rfl (kdec dk_cX10_count 44 rfl) (fun x77 q79 h78e h78 h78l h78u => ?_)
          try have h78n : x77.toInt = x27.toInt - (1 : Int32).toInt := by omega
          clear h78 q79
          obtain ⟨x80, e81⟩ : ∃ z : Int32, w5 70 (x77 : Int32).toNatClampNeg = z := ⟨_, rfl⟩
          have b82 : (0 : Int) ≤ x80.toInt ∧ x80.toInt ≤ 15 := by rw [← e81]; exact I7 70 _
          refine kv_iald C 125 rfl 70 rfl (by omega) (by omega) e81 (kdec dk_cX10_count 45 rfl) ?_
          obtain ⟨x83, e84⟩ : ∃ z : Int32, w 61 2 = z := ⟨_, rfl⟩
          have b85 : (0 : Int) ≤ x83.toInt ∧ x83.toInt ≤ 1024 := by rw [← e84]; exact hI 61 2
          exact kv_iret C hr hlk (kdec dk_cX10_count 46 rfl) ⟨_, rfl, I7, F12, (by rw [e18, e84]; try omega)⟩
        by_cases d86 : a1.toInt = 7
        · skip
          refine kv_tableIn C 7 126 (kdec dk_cX10_count 20 rfl) d86 (by decide) (by decide) rfl (by decide) ?_
          refine kv_aload_n C 127 rfl 0 (kdec dk_cX10_count 47 rfl) rfl rfl ?_
          obtain ⟨x87, e88⟩ : ∃ z : Int32, w 61 6 = z := ⟨_, rfl⟩
          have b89 : (0 : Int) ≤ x87.toInt ∧ x87.toInt ≤ 1024 := by rw [← e88]; exact hI 61 6
          have e90 : w5 61 6 = x87 := ((f8 61 6 rfl : w5 61 6 = w 61 6).trans e88)
          refine kv_get C 130 rfl 61 6 rfl rfl inX10 (by decide) mfl_TaleMachineModel_115 rfl rfl (kdec dk_cX10_count 48 rfl) e90 ?_
          obtain ⟨x91, e92⟩ : ∃ z : Int32, w 61 2 = z := ⟨_, rfl⟩
          have b93 : (0 : Int) ≤ x91.toInt ∧ x91.toInt ≤ 1024 := by rw [← e92]; exact hI 61 2
          exact kv_iret C hr hlk (kdec dk_cX10_count 49 rfl) ⟨_, rfl, I7, F12, (by rw [e18, e92]; try omega)⟩
        refine kv_tableOut C 131 (kdec dk_cX10_count 20 rfl) (by omega) (by decide) ?_
        refine kv_aload_n C 132 rfl 0 (kdec dk_cX10_count 50 rfl) rfl rfl ?_
        obtain ⟨x94, e95⟩ : ∃ z : Int32, w 61 7 = z := ⟨_, rfl⟩
        have b96 : (0 : Int) ≤ x94.toInt ∧ x94.toInt ≤ 1024 := by rw [← e95]; exact hI 61 7
        have e97 : w5 61 7 = x94 := ((f8 61 7 rfl : w5 61 7 = w 61 7).trans e95)
        refine kv_get C 135 rfl 61 7 rfl rfl inX10 (by decide) mfl_TaleMachineModel_118 rfl rfl (kdec dk_cX10_count 51 rfl) e97 ?_
        obtain ⟨x98, e99⟩ : ∃ z : Int32, w 61 2 = z := ⟨_, rfl⟩
        have b100 : (0 : Int) ≤ x98.toInt ∧ x98.toInt ≤ 1024 := by rw [← e99]; exact hI 61 2
        exact kv_iret C hr hlk (kdec dk_cX10_count 52 rfl) ⟨_, rfl, I7, F12, (by rw [e18, e99]; try omega)⟩
      · skip
        refine kv_bipush C 34 rfl (-2) (kdec dk_cX10_count 17 rfl) rfl ?_
        obtain ⟨x101, e102⟩ : ∃ z : Int32, w 61 2 = z := ⟨_, rfl⟩
        have b103 : (0 : Int) ≤ x101.toInt ∧ x101.toInt ≤ 1024 := by rw [← e102]; exact hI 61 2
        exact kv_iret C hr hlk (kdec dk_cX10_count 18 rfl) ⟨_, rfl, I7, F12, (by rw [e18, e102]; try omega)⟩
    · skip
      refine kv_aload_n C 21 rfl 0 (kdec dk_cX10_count 11 rfl) rfl rfl ?_
      obtain ⟨x104, e105⟩ : ∃ z : Int32, w 61 2 = z := ⟨_, rfl⟩
      have b106 : (0 : Int) ≤ x104.toInt ∧ x104.toInt ≤ 1024 := by rw [← e105]; exact hI 61 2
      have e107 : w5 61 2 = x104 := ((f8 61 2 rfl : w5 61 2 = w 61 2).trans e105)
      refine kv_get C 24 rfl 61 2 rfl rfl inX10 (by decide) mfl_TaleMachineModel_86 rfl rfl (kdec dk_cX10_count 12 rfl) e107 ?_
      obtain ⟨x108, e109⟩ : ∃ z : Int32, w 61 3 = z := ⟨_, rfl⟩
      have b110 : (0 : Int) ≤ x108.toInt ∧ x108.toInt ≤ 1 := by rw [← e109]; exact hI 61 3
      exact kv_iret C hr hlk (kdec dk_cX10_count 13 rfl) ⟨_, rfl, I7, F12, (by rw [e109, e105]; try omega)⟩
  · skip
    refine kv_iconst C 13 rfl (-1) (kdec dk_cX10_count 6 rfl) rfl ?_
    obtain ⟨x111, e112⟩ : ∃ z : Int32, w 61 3 = z := ⟨_, rfl⟩
    have b113 : (0 : Int) ≤ x111.toInt ∧ x111.toInt ≤ 1 := by rw [← e112]; exact hI 61 3
    obtain ⟨x114, e115⟩ : ∃ z : Int32, w 61 2 = z := ⟨_, rfl⟩
    have b116 : (0 : Int) ≤ x114.toInt ∧ x114.toInt ≤ 1024 := by rw [← e115]; exact hI 61 2
    exact kv_iret C hr hlk (kdec dk_cX10_count 7 rfl) ⟨_, rfl, I7, F12, (by rw [e112, e115]; try omega)⟩

set_option maxHeartbeats 4000000 in
set_option maxRecDepth 100000 in
theorem k_x_peek (l : Launch) (D : va_G) (τ : Nat → ClassId) (ρ σ : Nat → Nat) (w : kw) (a1 : Int32) (hI : kI false w)  :
    kM l D τ ρ σ yX10_peek cX10_peek 2 (some .int) { frames := 1, cells := 0, slots := 0, locals := 36 } [.ref (ρ 61), .int a1] w
      (fun o w' => ∃ r : Int32, o = some (.int r) ∧ kI false w' ∧ kF [] w w' ∧ (¬ (w 61 3).toInt = 0 ∨ r.toInt = -1)) := by
  refine kM_of (own := "TaleMachineModel") rfl (by decide) (Nat.le_of_ble_eq_true rfl) ?_
  intro p e s m args below meth c C hr hlk
  have hF0 : kF [] w w := kF.rf
  have c_m1 : (-1 : Int32).toInt = -1 := by decide
  have c_1 : (1 : Int32).toInt = 1 := by decide
  refine kV.L (L' := [(0, .ref (ρ 61)), (1, .int a1)]) rfl ?_
  have g1 := kf_rng a1
  refine kv_aload_n C 1 rfl 0 (kdec dk_cX10_peek 0 rfl) rfl rfl ?_
  obtain ⟨x2, e3⟩ : ∃ z : Int32, w 61 3 = z := ⟨_, rfl⟩
  have b4 : (0 : Int) ≤ x2.toInt ∧ x2.toInt ≤ 1 := by rw [← e3]; exact hI 61 3
  refine kv_get C 4 rfl 61 3 rfl rfl inX10 (by decide) mfl_TaleMachineModel_108 rfl rfl (kdec dk_cX10_peek 1 rfl) e3 ?_
  refine kv_if_eq C 7 rfl 32 (kdec dk_cX10_peek 2 rfl) (by decide) (fun d5 => ?_) (fun d5 => ?_)
  · skip
    refine kv_iconst C 33 rfl (-1) (kdec dk_cX10_peek 18 rfl) rfl ?_
    exact kv_iret C hr hlk (kdec dk_cX10_peek 19 rfl) ⟨_, rfl, hI, hF0, (by rw [e3]; try omega)⟩
  · skip
    refine kv_iload_n C 8 rfl 1 (kdec dk_cX10_peek 3 rfl) rfl rfl ?_
    refine kv_i2l C 9 rfl (kdec dk_cX10_peek 4 rfl) ?_
    have h6 := kf_i2l a1
    refine kv_lconst C 10 rfl 0 (kdec dk_cX10_peek 5 rfl) rfl ?_
    have h7 : (0 : Int64).toInt = 0 := by decide
    refine kv_aload_n C 11 rfl 0 (kdec dk_cX10_peek 6 rfl) rfl rfl ?_
    obtain ⟨x8, e9⟩ : ∃ z : Int32, w 61 6 = z := ⟨_, rfl⟩
    have b10 : (0 : Int) ≤ x8.toInt ∧ x8.toInt ≤ 1024 := by rw [← e9]; exact hI 61 6
    refine kv_get C 14 rfl 61 6 rfl rfl inX10 (by decide) mfl_TaleMachineModel_115 rfl rfl (kdec dk_cX10_peek 7 rfl) e9 ?_
    refine kv_iconst C 15 rfl 1 (kdec dk_cX10_peek 8 rfl) rfl ?_
    refine kv_isub C 16 rfl (kdec dk_cX10_peek 9 rfl) (fun x11 q13 h12e h12 h12l h12u => ?_)
    try have h12n : x11.toInt = x8.toInt - (1 : Int32).toInt := by omega
    clear h12 q13
    refine kv_i2l C 17 rfl (kdec dk_cX10_peek 10 rfl) ?_
    have h14 := kf_i2l x11
    refine kv_callSi (As := [.long (a1 : Int32).toInt64, .long (0 : Int64), .long (x11 : Int32).toInt64]) (rest := []) C 20 rfl (k_x_in l D τ ρ σ w (a1 : Int32).toInt64 (0 : Int64) (x11 : Int32).toInt64 hI ) mml_TaleMachineModel_94 mst_yX10_in mcd_yX10_in min_yX10_in hd_yX10_in rfl rfl rfl (by decide) rfl (Nat.le_of_ble_eq_true rfl) (kdec dk_cX10_peek 11 rfl) (fun x19 w15 h16 => ?_)
    obtain ⟨I17, f18, p20, p21⟩ := h16
    have F22 : kF [] w w15 := kF_call hF0 f18 (by decide)
    have g23 := kf_rng x19
    refine kv_if_eq C 23 rfl 32 (kdec dk_cX10_peek 12 rfl) (by decide) (fun d24 => ?_) (fun d24 => ?_)
    · skip
      refine kv_iconst C 33 rfl (-1) (kdec dk_cX10_peek 18 rfl) rfl ?_
      exact kv_iret C hr hlk (kdec dk_cX10_peek 19 rfl) ⟨_, rfl, I17, F22, (by rw [e3]; try omega)⟩
    · skip
      refine kv_aload_n C 24 rfl 0 (kdec dk_cX10_peek 13 rfl) rfl rfl ?_
      refine kv_getr C 27 rfl 61 4 rfl rfl inX10 (by decide) mfl_TaleMachineModel_16 rfl rfl (kdec dk_cX10_peek 14 rfl) ?_
      refine kv_iload_n C 28 rfl 1 (kdec dk_cX10_peek 15 rfl) rfl rfl ?_
      obtain ⟨x25, e26⟩ : ∃ z : Int32, w15 64 (a1 : Int32).toNatClampNeg = z := ⟨_, rfl⟩
      have b27 : (0 : Int) ≤ x25.toInt ∧ x25.toInt ≤ 255 := by rw [← e26]; exact I17 64 _
      refine kv_iald C 29 rfl 64 rfl (by omega) (by omega) e26 (kdec dk_cX10_peek 16 rfl) ?_
      refine kv_goto C 33 (kdec dk_cX10_peek 17 rfl) (by decide) ?_
      exact kv_iret C hr hlk (kdec dk_cX10_peek 19 rfl) ⟨_, rfl, I17, F22, (by rw [e3]; try omega)⟩

set_option maxHeartbeats 4000000 in
set_option maxRecDepth 100000 in
theorem k_x_word (l : Launch) (D : va_G) (τ : Nat → ClassId) (ρ σ : Nat → Nat) (w : kw) (a1 : Int32) (a2 : Int32) (hI : kI false w) (hMp : ((w 61 3).toInt = 0 ∧ (w 61 12).toInt = 0 ∨ kMoT w)) :
    kM l D τ ρ σ yX10_word cX10_word 3 (some .int) { frames := 1, cells := 0, slots := 0, locals := 36 } [.ref (ρ 61), .int a1, .int a2] w
      (fun o w' => ∃ r : Int32, o = some (.int r) ∧ kI false w' ∧ kF [] w w' ∧ (¬ (w 61 3).toInt = 0 ∨ r.toInt = -1)) := by
  refine kM_of (own := "TaleMachineModel") rfl (by decide) (Nat.le_of_ble_eq_true rfl) ?_
  intro p e s m args below meth c C hr hlk
  have hF0 : kF [] w w := kF.rf
  have c_m1 : (-1 : Int32).toInt = -1 := by decide
  have c_1 : (1 : Int32).toInt = 1 := by decide
  have c_16 : (16 : Int32).toInt = 16 := by decide
  refine kV.L (L' := [(0, .ref (ρ 61)), (1, .int a1), (2, .int a2)]) rfl ?_
  have g1 := kf_rng a1
  have g2 := kf_rng a2
  refine kv_aload_n C 1 rfl 0 (kdec dk_cX10_word 0 rfl) rfl rfl ?_
  obtain ⟨x3, e4⟩ : ∃ z : Int32, w 61 3 = z := ⟨_, rfl⟩
  have b5 : (0 : Int) ≤ x3.toInt ∧ x3.toInt ≤ 1 := by rw [← e4]; exact hI 61 3
  refine kv_get C 4 rfl 61 3 rfl rfl inX10 (by decide) mfl_TaleMachineModel_108 rfl rfl (kdec dk_cX10_word 1 rfl) e4 ?_
  refine kv_if_ne C 7 rfl 9 (kdec dk_cX10_word 2 rfl) (by decide) (fun d6 => ?_) (fun d6 => ?_)
  · skip
    obtain ⟨x8, e9⟩ : ∃ z : Int32, w 61 12 = z := ⟨_, rfl⟩
    have b10 : (0 : Int) ≤ x8.toInt ∧ x8.toInt ≤ 4 := by rw [← e9]; exact hI 61 12
    have M7 : kMoT w := hMp.resolve_left (by rw [e4, e9]; omega)
    obtain ⟨x11, e12⟩ : ∃ z : Int32, w 61 20 = z := ⟨_, rfl⟩
    have b13 : (0 : Int) ≤ x11.toInt ∧ x11.toInt ≤ 20 := by rw [← e12]; exact hI 61 20
    have r14 := kMoT_fr M7
    rw [e12] at r14
    refine kv_iload_n C 10 rfl 2 (kdec dk_cX10_word 5 rfl) rfl rfl ?_
    refine kv_if_eq C 13 rfl 55 (kdec dk_cX10_word 6 rfl) (by decide) (fun d15 => ?_) (fun d15 => ?_)
    · skip
      refine kv_iload_n C 56 rfl 1 (kdec dk_cX10_word 34 rfl) rfl rfl ?_
      refine kv_i2l C 57 rfl (kdec dk_cX10_word 35 rfl) ?_
      have h16 := kf_i2l a1
      refine kv_lconst C 58 rfl 0 (kdec dk_cX10_word 36 rfl) rfl ?_
      have h17 : (0 : Int64).toInt = 0 := by decide
      refine kv_aload_n C 59 rfl 0 (kdec dk_cX10_word 37 rfl) rfl rfl ?_
      obtain ⟨x18, e19⟩ : ∃ z : Int32, w 61 19 = z := ⟨_, rfl⟩
      have b20 : (0 : Int) ≤ x18.toInt ∧ x18.toInt ≤ 120 := by rw [← e19]; exact hI 61 19
      refine kv_get C 62 rfl 61 19 rfl rfl inX10 (by decide) mfl_TaleMachineModel_136 rfl rfl (kdec dk_cX10_word 38 rfl) e19 ?_
      refine kv_iconst C 63 rfl 1 (kdec dk_cX10_word 39 rfl) rfl ?_
      refine kv_isub C 64 rfl (kdec dk_cX10_word 40 rfl) (fun x21 q23 h22e h22 h22l h22u => ?_)
      try have h22n : x21.toInt = x18.toInt - (1 : Int32).toInt := by omega
      clear h22 q23
      refine kv_i2l C 65 rfl (kdec dk_cX10_word 41 rfl) ?_
      have h24 := kf_i2l x21
      refine kv_callSi (As := [.long (a1 : Int32).toInt64, .long (0 : Int64), .long (x21 : Int32).toInt64]) (rest := []) C 68 rfl (k_x_in l D τ ρ σ w (a1 : Int32).toInt64 (0 : Int64) (x21 : Int32).toInt64 hI ) mml_TaleMachineModel_94 mst_yX10_in mcd_yX10_in min_yX10_in hd_yX10_in rfl rfl rfl (by decide) rfl (Nat.le_of_ble_eq_true rfl) (kdec dk_cX10_word 42 rfl) (fun x29 w25 h26 => ?_)
      obtain ⟨I27, f28, p30, p31⟩ := h26
      have F32 : kF [] w w25 := kF_call hF0 f28 (by decide)
      have M33 : kMoT w25 := kMoT_kF f28 M7 rfl rfl (fun _ => rfl)
      have g34 := kf_rng x29
      refine kv_if_eq C 71 rfl 80 (kdec dk_cX10_word 43 rfl) (by decide) (fun d35 => ?_) (fun d35 => ?_)
      · skip
        refine kv_iconst C 81 rfl (-1) (kdec dk_cX10_word 49 rfl) rfl ?_
        exact kv_iret C hr hlk (kdec dk_cX10_word 50 rfl) ⟨_, rfl, I27, F32, (by rw [e4]; try omega)⟩
      · skip
        refine kv_aload_n C 72 rfl 0 (kdec dk_cX10_word 44 rfl) rfl rfl ?_
        refine kv_getr C 75 rfl 61 18 rfl rfl inX10 (by decide) mfl_TaleMachineModel_22 rfl rfl (kdec dk_cX10_word 45 rfl) ?_
        refine kv_iload_n C 76 rfl 1 (kdec dk_cX10_word 46 rfl) rfl rfl ?_
        obtain ⟨x36, e37⟩ : ∃ z : Int32, w25 66 (a1 : Int32).toNatClampNeg = z := ⟨_, rfl⟩
        have b38 : (0 : Int) ≤ x36.toInt ∧ x36.toInt ≤ 65535 := by rw [← e37]; exact I27 66 _
        refine kv_iald C 77 rfl 66 rfl (by omega) (by omega) e37 (kdec dk_cX10_word 47 rfl) ?_
        refine kv_goto C 81 (kdec dk_cX10_word 48 rfl) (by decide) ?_
        exact kv_iret C hr hlk (kdec dk_cX10_word 50 rfl) ⟨_, rfl, I27, F32, (by rw [e4]; try omega)⟩
    · skip
      refine kv_iload_n C 14 rfl 1 (kdec dk_cX10_word 7 rfl) rfl rfl ?_
      refine kv_i2l C 15 rfl (kdec dk_cX10_word 8 rfl) ?_
      have h39 := kf_i2l a1
      refine kv_lconst C 16 rfl 1 (kdec dk_cX10_word 9 rfl) rfl ?_
      have h40 : (1 : Int64).toInt = 1 := by decide
      refine kv_aload_n C 17 rfl 0 (kdec dk_cX10_word 10 rfl) rfl rfl ?_
      refine kv_getr C 20 rfl 61 24 rfl rfl inX10 (by decide) mfl_TaleMachineModel_34 rfl rfl (kdec dk_cX10_word 11 rfl) ?_
      refine kv_aload_n C 21 rfl 0 (kdec dk_cX10_word 12 rfl) rfl rfl ?_
      refine kv_get C 24 rfl 61 20 rfl rfl inX10 (by decide) mfl_TaleMachineModel_139 rfl rfl (kdec dk_cX10_word 13 rfl) e12 ?_
      refine kv_iconst C 25 rfl 1 (kdec dk_cX10_word 14 rfl) rfl ?_
      refine kv_isub C 26 rfl (kdec dk_cX10_word 15 rfl) (fun x41 q43 h42e h42 h42l h42u => ?_)
      try have h42n : x41.toInt = x11.toInt - (1 : Int32).toInt := by omega
      clear h42 q43
      obtain ⟨x44, e45⟩ : ∃ z : Int32, w 70 (x41 : Int32).toNatClampNeg = z := ⟨_, rfl⟩
      have b46 : (0 : Int) ≤ x44.toInt ∧ x44.toInt ≤ 15 := by rw [← e45]; exact hI 70 _
      refine kv_iald C 27 rfl 70 rfl (by omega) (by omega) e45 (kdec dk_cX10_word 16 rfl) ?_
      refine kv_i2l C 28 rfl (kdec dk_cX10_word 17 rfl) ?_
      have h47 := kf_i2l x44
      refine kv_callSi (As := [.long (a1 : Int32).toInt64, .long (1 : Int64), .long (x44 : Int32).toInt64]) (rest := []) C 31 rfl (k_x_in l D τ ρ σ w (a1 : Int32).toInt64 (1 : Int64) (x44 : Int32).toInt64 hI ) mml_TaleMachineModel_94 mst_yX10_in mcd_yX10_in min_yX10_in hd_yX10_in rfl rfl rfl (by decide) rfl (Nat.le_of_ble_eq_true rfl) (kdec dk_cX10_word 18 rfl) (fun x52 w48 h49 => ?_)
      obtain ⟨I50, f51, p53, p54⟩ := h49
      have F55 : kF [] w w48 := kF_call hF0 f51 (by decide)
      have M56 : kMoT w48 := kMoT_kF f51 M7 rfl rfl (fun _ => rfl)
      have g57 := kf_rng x52
      refine kv_if_eq C 34 rfl 53 (kdec dk_cX10_word 19 rfl) (by decide) (fun d58 => ?_) (fun d58 => ?_)
      · skip
        refine kv_iconst C 54 rfl (-1) (kdec dk_cX10_word 32 rfl) rfl ?_
        exact kv_iret C hr hlk (kdec dk_cX10_word 33 rfl) ⟨_, rfl, I50, F55, (by rw [e4]; try omega)⟩
      · skip
        refine kv_aload_n C 35 rfl 0 (kdec dk_cX10_word 20 rfl) rfl rfl ?_
        refine kv_getr C 38 rfl 61 25 rfl rfl inX10 (by decide) mfl_TaleMachineModel_37 rfl rfl (kdec dk_cX10_word 21 rfl) ?_
        refine kv_bipush C 40 rfl 16 (kdec dk_cX10_word 22 rfl) rfl ?_
        refine kv_aload_n C 41 rfl 0 (kdec dk_cX10_word 23 rfl) rfl rfl ?_
        have e59 : w48 61 20 = x11 := ((f51 61 20 rfl : w48 61 20 = w 61 20).trans e12)
        refine kv_get C 44 rfl 61 20 rfl rfl inX10 (by decide) mfl_TaleMachineModel_139 rfl rfl (kdec dk_cX10_word 24 rfl) e59 ?_
        refine kv_iconst C 45 rfl 1 (kdec dk_cX10_word 25 rfl) rfl ?_
        refine kv_isub C 46 rfl (kdec dk_cX10_word 26 rfl) (fun x60 q62 h61e h61 h61l h61u => ?_)
        try have h61n : x60.toInt = x11.toInt - (1 : Int32).toInt := by omega
        clear h61 q62
        have h61q : x41 = x60 := h42e.trans h61e.symm
        subst h61q
        refine kv_imul C 47 rfl (kdec dk_cX10_word 27 rfl) (fun x63 h64e h64l h64u => ?_)
        obtain ⟨q65, g66⟩ := kf_mul 16 x41
        rw [← h64e, c_16] at g66
        try have h64n : x63.toInt = 16 * x41.toInt := by omega
        clear g66 q65
        refine kv_iload_n C 48 rfl 1 (kdec dk_cX10_word 28 rfl) rfl rfl ?_
        refine kv_iadd C 49 rfl (kdec dk_cX10_word 29 rfl) (fun x67 q69 h68e h68 h68l h68u => ?_)
        try have h68n : x67.toInt = x63.toInt + a1.toInt := by omega
        clear h68 q69
        obtain ⟨x70, e71⟩ : ∃ z : Int32, w48 71 (x67 : Int32).toNatClampNeg = z := ⟨_, rfl⟩
        have b72 : (0 : Int) ≤ x70.toInt ∧ x70.toInt ≤ 65535 := by rw [← e71]; exact I50 71 _
        refine kv_iald C 50 rfl 71 rfl (by omega) (by omega) e71 (kdec dk_cX10_word 30 rfl) ?_
        refine kv_goto C 54 (kdec dk_cX10_word 31 rfl) (by decide) ?_
        exact kv_iret C hr hlk (kdec dk_cX10_word 33 rfl) ⟨_, rfl, I50, F55, (by rw [e4]; try omega)⟩
  · skip
    refine kv_iconst C 8 rfl (-1) (kdec dk_cX10_word 3 rfl) rfl ?_
    exact kv_iret C hr hlk (kdec dk_cX10_word 4 rfl) ⟨_, rfl, hI, hF0, (by rw [e4]; try omega)⟩

set_option maxHeartbeats 4000000 in
set_option maxRecDepth 100000 in
theorem k_x_text (l : Launch) (D : va_G) (τ : Nat → ClassId) (ρ σ : Nat → Nat) (w : kw) (a1 : Int32) (a2 : Int32) (hI : kI false w) (hp0 : (w 61 31).toInt ≤ 2000000000 ∧ (w 61 29).toInt ≤ 2000000000) :
    kM l D τ ρ σ yX10_text cX10_text 6 (some .int) { frames := 4, cells := 0, slots := 0, locals := 144 } [.ref (ρ 61), .int a1, .int a2] w
      (fun o w' => ∃ r : Int32, o = some (.int r) ∧ kI false w' ∧ kF [(61, some 13), (61, some 28), (61, some 29), (61, some 31), (61, some 43), (72, none), (73, none), (81, none), (82, none), (83, none)] w w' ∧ ((w' 61 31).toInt ≤ (w 61 31).toInt + 500 ∧ (w' 61 29).toInt ≤ (w 61 29).toInt + 500) ∧ (¬ (w 61 3).toInt = 0 ∨ r.toInt = -1)) := by
  refine kM_of (own := "TaleMachineModel") rfl (by decide) (Nat.le_of_ble_eq_true rfl) ?_
  intro p e s m args below meth c C hr hlk
  have hF0 : kF [(61, some 13), (61, some 28), (61, some 29), (61, some 31), (61, some 43), (72, none), (73, none), (81, none), (82, none), (83, none)] w w := kF.rf
  have c_m10 : (-10 : Int32).toInt = -10 := by decide
  have c_m4 : (-4 : Int32).toInt = -4 := by decide
  have c_m1 : (-1 : Int32).toInt = -1 := by decide
  have c_0 : (0 : Int32).toInt = 0 := by decide
  have c_1 : (1 : Int32).toInt = 1 := by decide
  have c_200 : (200 : Int32).toInt = 200 := by decide
  have c_65535 : (65535 : Int32).toInt = 65535 := by decide
  refine kV.L (L' := [(0, .ref (ρ 61)), (1, .int a1), (2, .int a2)]) rfl ?_
  obtain ⟨x1, e2⟩ : ∃ z : Int32, w 61 31 = z := ⟨_, rfl⟩
  have b3 : (0 : Int) ≤ x1.toInt ∧ x1.toInt ≤ 2147483647 := by rw [← e2]; exact hI 61 31
  obtain ⟨x4, e5⟩ : ∃ z : Int32, w 61 29 = z := ⟨_, rfl⟩
  have b6 : (0 : Int) ≤ x4.toInt ∧ x4.toInt ≤ 2147483647 := by rw [← e5]; exact hI 61 29
  rw [e2, e5] at hp0
  have g7 := kf_rng a1
  have g8 := kf_rng a2
  refine kv_aload_n C 1 rfl 0 (kdec dk_cX10_text 0 rfl) rfl rfl ?_
  obtain ⟨x9, e10⟩ : ∃ z : Int32, w 61 3 = z := ⟨_, rfl⟩
  have b11 : (0 : Int) ≤ x9.toInt ∧ x9.toInt ≤ 1 := by rw [← e10]; exact hI 61 3
  refine kv_get C 4 rfl 61 3 rfl rfl inX10 (by decide) mfl_TaleMachineModel_108 rfl rfl (kdec dk_cX10_text 1 rfl) e10 ?_
  refine kv_if_ne C 7 rfl 9 (kdec dk_cX10_text 2 rfl) (by decide) (fun d12 => ?_) (fun d12 => ?_)
  · skip
    refine kv_aload_n C 10 rfl 0 (kdec dk_cX10_text 5 rfl) rfl rfl ?_
    obtain ⟨x13, e14⟩ : ∃ z : Int32, w 61 13 = z := ⟨_, rfl⟩
    have b15 : (0 : Int) ≤ x13.toInt ∧ x13.toInt ≤ 13 := by rw [← e14]; exact hI 61 13
    refine kv_get C 13 rfl 61 13 rfl rfl inX10 (by decide) mfl_TaleMachineModel_148 rfl rfl (kdec dk_cX10_text 6 rfl) e14 ?_
    refine kv_istore_n C 14 rfl 3 [1, 2, 3, 0] [(0, .ref (ρ 61)), (1, .int a1), (2, .int a2), (3, .int x13)] (kdec dk_cX10_text 7 rfl) rfl (by decide) rfl ?_
    refine kv_aload_n C 15 rfl 0 (kdec dk_cX10_text 8 rfl) rfl rfl ?_
    refine kv_iconst C 16 rfl 0 (kdec dk_cX10_text 9 rfl) rfl ?_
    refine kv_put C 19 rfl 61 13 rfl rfl inX10 (by decide) mfl_TaleMachineModel_148 rfl tyX10 tyX10_ok nmX10 rfl rfl (kdec dk_cX10_text 10 rfl) rfl rfl (fun w16 u17 => ?_)
    have I18 : kI false w16 := kI_put u17 hI (show (0 : Int) ≤ (0 : Int32).toInt by omega) (show (0 : Int32).toInt ≤ 13 by omega)
    have F19 : kF [(61, some 13), (61, some 28), (61, some 29), (61, some 31), (61, some 43), (72, none), (73, none), (81, none), (82, none), (83, none)] w w16 := kF_put u17 hF0 rfl
    refine kv_aload_n C 20 rfl 0 (kdec dk_cX10_text 11 rfl) rfl rfl ?_
    refine kv_iconst C 21 rfl 1 (kdec dk_cX10_text 12 rfl) rfl ?_
    refine kv_put C 24 rfl 61 28 rfl rfl inX10 (by decide) mfl_TaleMachineModel_244 rfl tyX10 tyX10_ok nmX10 rfl rfl (kdec dk_cX10_text 13 rfl) (kf_bool (by decide)) rfl (fun w20 u21 => ?_)
    have I22 : kI false w20 := kI_put u21 I18 (show (0 : Int) ≤ (1 : Int32).toInt by omega) (show (1 : Int32).toInt ≤ 1 by omega)
    have F23 : kF [(61, some 13), (61, some 28), (61, some 29), (61, some 31), (61, some 43), (72, none), (73, none), (81, none), (82, none), (83, none)] w w20 := kF_put u21 F19 rfl
    refine kv_aload_n C 25 rfl 0 (kdec dk_cX10_text 14 rfl) rfl rfl ?_
    refine kv_iconst C 26 rfl 0 (kdec dk_cX10_text 15 rfl) rfl ?_
    refine kv_put C 29 rfl 61 29 rfl rfl inX10 (by decide) mfl_TaleMachineModel_247 rfl tyX10 tyX10_ok nmX10 rfl rfl (kdec dk_cX10_text 16 rfl) rfl rfl (fun w24 u25 => ?_)
    have I26 : kI false w24 := kI_put u25 I22 (show (0 : Int) ≤ (0 : Int32).toInt by omega) (show (0 : Int32).toInt ≤ 2147483647 by omega)
    have F27 : kF [(61, some 13), (61, some 28), (61, some 29), (61, some 31), (61, some 43), (72, none), (73, none), (81, none), (82, none), (83, none)] w w24 := kF_put u25 F23 rfl
    refine kv_aload_n C 30 rfl 0 (kdec dk_cX10_text 17 rfl) rfl rfl ?_
    refine kv_iload_n C 31 rfl 1 (kdec dk_cX10_text 18 rfl) rfl rfl ?_
    refine kv_ldc C 33 rfl 65535 (kdec dk_cX10_text 19 rfl) mco_TaleMachineModel_104 ?_
    refine kv_iand C 34 rfl (kdec dk_cX10_text 20 rfl) (fun x28 h29e h29l h29u => ?_)
    have g30 := kf_and65535 h29e
    have e31 : w24 61 31 = x1 := ((kup_ne u25 rfl : w24 61 31 = w20 61 31).trans ((kup_ne u21 rfl : w20 61 31 = w16 61 31).trans ((kup_ne u17 rfl : w16 61 31 = w 61 31).trans e2)))
    refine kv_callVi (As := [.int x28]) (rest := []) C 37 rfl 61 (k_x_tellsText l D τ ρ σ w24 x28 I26 (by rw [e31, (kup_eq u25)]; try omega)) rfl rfl mml_TaleMachineModel_314 mim_yX10_tellsText mse_yX10_tellsText mcd_yX10_tellsText min_yX10_tellsText hd_yX10_tellsText rfl rfl rfl (by decide) rfl (Nat.le_of_ble_eq_true rfl) (kdec dk_cX10_text 21 rfl) (fun x36 w32 h33 => ?_)
    obtain ⟨I34, f35, p37, p38⟩ := h33
    have F39 : kF [(61, some 13), (61, some 28), (61, some 29), (61, some 31), (61, some 43), (72, none), (73, none), (81, none), (82, none), (83, none)] w w32 := kF_call F27 f35 (by decide)
    have g40 := kf_rng x36
    obtain ⟨x41, e42⟩ : ∃ z : Int32, w32 61 31 = z := ⟨_, rfl⟩
    have b43 : (0 : Int) ≤ x41.toInt ∧ x41.toInt ≤ 2147483647 := by rw [← e42]; exact I34 61 31
    obtain ⟨x44, e45⟩ : ∃ z : Int32, w32 61 29 = z := ⟨_, rfl⟩
    have b46 : (0 : Int) ≤ x44.toInt ∧ x44.toInt ≤ 2147483647 := by rw [← e45]; exact I34 61 29
    rw [e31, (kup_eq u25), e42, e45] at p37
    refine kv_istore C 39 rfl 4 [1, 2, 3, 4, 0] [(0, .ref (ρ 61)), (1, .int a1), (2, .int a2), (3, .int x13), (4, .int x36)] (kdec dk_cX10_text 22 rfl) (by decide) rfl ?_
    refine kv_aload_n C 40 rfl 0 (kdec dk_cX10_text 23 rfl) rfl rfl ?_
    obtain ⟨x47, e48⟩ : ∃ z : Int32, w32 61 13 = z := ⟨_, rfl⟩
    have b49 : (0 : Int) ≤ x47.toInt ∧ x47.toInt ≤ 13 := by rw [← e48]; exact I34 61 13
    refine kv_get C 43 rfl 61 13 rfl rfl inX10 (by decide) mfl_TaleMachineModel_148 rfl rfl (kdec dk_cX10_text 24 rfl) e48 ?_
    refine kv_istore C 45 rfl 5 [1, 2, 3, 4, 5, 0] [(0, .ref (ρ 61)), (1, .int a1), (2, .int a2), (3, .int x13), (4, .int x36), (5, .int x47)] (kdec dk_cX10_text 25 rfl) (by decide) rfl ?_
    refine kv_aload_n C 46 rfl 0 (kdec dk_cX10_text 26 rfl) rfl rfl ?_
    refine kv_iconst C 47 rfl 0 (kdec dk_cX10_text 27 rfl) rfl ?_
    refine kv_put C 50 rfl 61 28 rfl rfl inX10 (by decide) mfl_TaleMachineModel_244 rfl tyX10 tyX10_ok nmX10 rfl rfl (kdec dk_cX10_text 28 rfl) (kf_bool (by decide)) rfl (fun w50 u51 => ?_)
    have I52 : kI false w50 := kI_put u51 I34 (show (0 : Int) ≤ (0 : Int32).toInt by omega) (show (0 : Int32).toInt ≤ 1 by omega)
    have F53 : kF [(61, some 13), (61, some 28), (61, some 29), (61, some 31), (61, some 43), (72, none), (73, none), (81, none), (82, none), (83, none)] w w50 := kF_put u51 F39 rfl
    refine kv_aload_n C 51 rfl 0 (kdec dk_cX10_text 29 rfl) rfl rfl ?_
    refine kv_iload_n C 52 rfl 3 (kdec dk_cX10_text 30 rfl) rfl rfl ?_
    refine kv_put C 55 rfl 61 13 rfl rfl inX10 (by decide) mfl_TaleMachineModel_148 rfl tyX10 tyX10_ok nmX10 rfl rfl (kdec dk_cX10_text 31 rfl) rfl rfl (fun w54 u55 => ?_)
    have I56 : kI false w54 := kI_put u55 I52 (show (0 : Int) ≤ (x13 : Int32).toInt by omega) (show (x13 : Int32).toInt ≤ 13 by omega)
    have F57 : kF [(61, some 13), (61, some 28), (61, some 29), (61, some 31), (61, some 43), (72, none), (73, none), (81, none), (82, none), (83, none)] w w54 := kF_put u55 F53 rfl
    refine kv_iload C 57 rfl 5 (kdec dk_cX10_text 32 rfl) rfl ?_
    refine kv_if_le C 60 rfl 66 (kdec dk_cX10_text 33 rfl) (by decide) (fun d58 => ?_) (fun d58 => ?_)
    · skip
      refine kv_aload_n C 67 rfl 0 (kdec dk_cX10_text 38 rfl) rfl rfl ?_
      have e59 : w54 61 29 = x44 := ((kup_ne u55 rfl : w54 61 29 = w50 61 29).trans ((kup_ne u51 rfl : w50 61 29 = w32 61 29).trans e45))
      refine kv_get C 70 rfl 61 29 rfl rfl inX10 (by decide) mfl_TaleMachineModel_247 rfl rfl (kdec dk_cX10_text 39 rfl) e59 ?_
      refine kv_sipush C 73 rfl 200 (kdec dk_cX10_text 40 rfl) rfl ?_
      refine kv_icmp_le C 76 rfl 78 (kdec dk_cX10_text 41 rfl) (by decide) (fun d60 => ?_) (fun d60 => ?_)
      · skip
        refine kv_iload_n C 79 rfl 2 (kdec dk_cX10_text 44 rfl) rfl rfl ?_
        refine kv_bipush C 81 rfl (-4) (kdec dk_cX10_text 45 rfl) rfl ?_
        refine kv_icmp_ne C 84 rfl 91 (kdec dk_cX10_text 46 rfl) (by decide) (fun d61 => ?_) (fun d61 => ?_)
        · skip
          refine kv_iload_n C 92 rfl 2 (kdec dk_cX10_text 50 rfl) rfl rfl ?_
          refine kv_i2l C 93 rfl (kdec dk_cX10_text 51 rfl) ?_
          have h62 := kf_i2l a2
          refine kv_lconst C 94 rfl 0 (kdec dk_cX10_text 52 rfl) rfl ?_
          have h63 : (0 : Int64).toInt = 0 := by decide
          refine kv_aload_n C 95 rfl 0 (kdec dk_cX10_text 53 rfl) rfl rfl ?_
          refine kv_get C 98 rfl 61 29 rfl rfl inX10 (by decide) mfl_TaleMachineModel_247 rfl rfl (kdec dk_cX10_text 54 rfl) e59 ?_
          refine kv_iconst C 99 rfl 1 (kdec dk_cX10_text 55 rfl) rfl ?_
          refine kv_isub C 100 rfl (kdec dk_cX10_text 56 rfl) (fun x64 q66 h65e h65 h65l h65u => ?_)
          try have h65n : x64.toInt = x44.toInt - (1 : Int32).toInt := by omega
          clear h65 q66
          refine kv_i2l C 101 rfl (kdec dk_cX10_text 57 rfl) ?_
          have h67 := kf_i2l x64
          refine kv_callSi (As := [.long (a2 : Int32).toInt64, .long (0 : Int64), .long (x64 : Int32).toInt64]) (rest := []) C 104 rfl (k_x_in l D τ ρ σ w54 (a2 : Int32).toInt64 (0 : Int64) (x64 : Int32).toInt64 I56 ) mml_TaleMachineModel_94 mst_yX10_in mcd_yX10_in min_yX10_in hd_yX10_in rfl rfl rfl (by decide) rfl (Nat.le_of_ble_eq_true rfl) (kdec dk_cX10_text 58 rfl) (fun x72 w68 h69 => ?_)
          obtain ⟨I70, f71, p73, p74⟩ := h69
          have F75 : kF [(61, some 13), (61, some 28), (61, some 29), (61, some 31), (61, some 43), (72, none), (73, none), (81, none), (82, none), (83, none)] w w68 := kF_call F57 f71 (by decide)
          have g76 := kf_rng x72
          refine kv_if_eq C 107 rfl 116 (kdec dk_cX10_text 59 rfl) (by decide) (fun d77 => ?_) (fun d77 => ?_)
          · skip
            refine kv_iconst C 117 rfl (-1) (kdec dk_cX10_text 65 rfl) rfl ?_
            have e78 : w68 61 31 = x41 := ((f71 61 31 rfl : w68 61 31 = w54 61 31).trans ((kup_ne u55 rfl : w54 61 31 = w50 61 31).trans ((kup_ne u51 rfl : w50 61 31 = w32 61 31).trans e42)))
            have e79 : w68 61 29 = x44 := ((f71 61 29 rfl : w68 61 29 = w54 61 29).trans e59)
            exact kv_iret C hr hlk (kdec dk_cX10_text 66 rfl) ⟨_, rfl, I70, F75, (by rw [e2, e5, e78, e79]; try omega), (by rw [e10]; try omega)⟩
          · skip
            refine kv_aload_n C 108 rfl 0 (kdec dk_cX10_text 60 rfl) rfl rfl ?_
            refine kv_getr C 111 rfl 61 30 rfl rfl inX10 (by decide) mfl_TaleMachineModel_40 rfl rfl (kdec dk_cX10_text 61 rfl) ?_
            refine kv_iload_n C 112 rfl 2 (kdec dk_cX10_text 62 rfl) rfl rfl ?_
            obtain ⟨x80, e81⟩ : ∃ z : Int32, w68 72 (a2 : Int32).toNatClampNeg = z := ⟨_, rfl⟩
            have b82 : (-2147483648 : Int) ≤ x80.toInt ∧ x80.toInt ≤ 2147483647 := by rw [← e81]; exact I70 72 _
            refine kv_iald C 113 rfl 72 rfl (by omega) (by omega) e81 (kdec dk_cX10_text 63 rfl) ?_
            refine kv_goto C 117 (kdec dk_cX10_text 64 rfl) (by decide) ?_
            have e83 : w68 61 31 = x41 := ((f71 61 31 rfl : w68 61 31 = w54 61 31).trans ((kup_ne u55 rfl : w54 61 31 = w50 61 31).trans ((kup_ne u51 rfl : w50 61 31 = w32 61 31).trans e42)))
            have e84 : w68 61 29 = x44 := ((f71 61 29 rfl : w68 61 29 = w54 61 29).trans e59)
            exact kv_iret C hr hlk (kdec dk_cX10_text 66 rfl) ⟨_, rfl, I70, F75, (by rw [e2, e5, e83, e84]; try omega), (by rw [e10]; try omega)⟩
        · skip
          refine kv_aload_n C 85 rfl 0 (kdec dk_cX10_text 47 rfl) rfl rfl ?_
          refine kv_get C 88 rfl 61 29 rfl rfl inX10 (by decide) mfl_TaleMachineModel_247 rfl rfl (kdec dk_cX10_text 48 rfl) e59 ?_
          refine kv_goto C 117 (kdec dk_cX10_text 49 rfl) (by decide) ?_
          have e85 : w54 61 31 = x41 := ((kup_ne u55 rfl : w54 61 31 = w50 61 31).trans ((kup_ne u51 rfl : w50 61 31 = w32 61 31).trans e42))
          exact kv_iret C hr hlk (kdec dk_cX10_text 66 rfl) ⟨_, rfl, I56, F57, (by rw [e2, e5, e85, e59]; try omega), (by rw [e10]; try omega)⟩
      · skip
        refine kv_iconst C 77 rfl (-1) (kdec dk_cX10_text 42 rfl) rfl ?_
        have e86 : w54 61 31 = x41 := ((kup_ne u55 rfl : w54 61 31 = w50 61 31).trans ((kup_ne u51 rfl : w50 61 31 = w32 61 31).trans e42))
        exact kv_iret C hr hlk (kdec dk_cX10_text 43 rfl) ⟨_, rfl, I56, F57, (by rw [e2, e5, e86, e59]; try omega), (by rw [e10]; try omega)⟩
    · skip
      refine kv_bipush C 62 rfl (-10) (kdec dk_cX10_text 34 rfl) rfl ?_
      refine kv_iload C 64 rfl 5 (kdec dk_cX10_text 35 rfl) rfl ?_
      refine kv_isub C 65 rfl (kdec dk_cX10_text 36 rfl) (fun x87 q89 h88e h88 h88l h88u => ?_)
      try have h88n : x87.toInt = ((-10) : Int32).toInt - x47.toInt := by omega
      clear h88 q89
      have e90 : w54 61 31 = x41 := ((kup_ne u55 rfl : w54 61 31 = w50 61 31).trans ((kup_ne u51 rfl : w50 61 31 = w32 61 31).trans e42))
      have e91 : w54 61 29 = x44 := ((kup_ne u55 rfl : w54 61 29 = w50 61 29).trans ((kup_ne u51 rfl : w50 61 29 = w32 61 29).trans e45))
      exact kv_iret C hr hlk (kdec dk_cX10_text 37 rfl) ⟨_, rfl, I56, F57, (by rw [e2, e5, e90, e91]; try omega), (by rw [e10]; try omega)⟩
  · skip
    refine kv_iconst C 8 rfl (-1) (kdec dk_cX10_text 3 rfl) rfl ?_
    exact kv_iret C hr hlk (kdec dk_cX10_text 4 rfl) ⟨_, rfl, hI, hF0, (by rw [e2, e5]; try omega), (by rw [e10]; try omega)⟩
