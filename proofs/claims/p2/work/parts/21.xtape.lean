set_option maxHeartbeats 4000000 in
set_option maxRecDepth 100000 in
theorem k_x_in (l : Launch) (D : va_G) (τ : Nat → ClassId) (ρ σ : Nat → Nat) (w : kw) (a1 : Int64) (a2 : Int64) (a3 : Int64) (hI : kI false w)  :
    kM l D τ ρ σ yX10_in cX10_in 6 (some .boolean) { frames := 0, cells := 0, slots := 0, locals := 0 } [.long a1, .long a2, .long a3] w
      (fun o w' => ∃ r : Int32, o = some (.int r) ∧ kI false w' ∧ kF [] w w' ∧ (r.toInt = 1 ∧ a2.toInt ≤ a1.toInt ∧ a1.toInt ≤ a3.toInt ∨ r.toInt = 0 ∧ (a1.toInt < a2.toInt ∨ a3.toInt < a1.toInt)) ∧ (0 ≤ r.toInt ∧ r.toInt ≤ 1)) := by
  refine kM_of (own := "TaleMachineModel") rfl (by decide) (Nat.le_of_ble_eq_true rfl) ?_
  intro p e s m args below meth c C hr hlk
  have hF0 : kF [] w w := kF.rf
  have c_0 : (0 : Int32).toInt = 0 := by decide
  have c_1 : (1 : Int32).toInt = 1 := by decide
  refine kV.L (L' := [(0, .long a1), (2, .long a2), (4, .long a3)]) rfl ?_
  refine kv_lload_n C 1 rfl 0 (kdec dk_cX10_in 0 rfl) rfl rfl ?_
  refine kv_lload_n C 2 rfl 1 (kdec dk_cX10_in 1 rfl) rfl rfl ?_
  refine kv_lcmp C 3 rfl (kdec dk_cX10_in 2 rfl) ?_
  generalize h2e : lg_cmp a1 a2 = x1
  have h2 := kf_lcmp h2e
  refine kv_if_lt C 6 rfl 17 (kdec dk_cX10_in 3 rfl) (by decide) (fun d3 => ?_) (fun d3 => ?_)
  · skip
    refine kv_iconst C 18 rfl 0 (kdec dk_cX10_in 10 rfl) rfl ?_
    exact kv_zret C hr hlk (kdec dk_cX10_in 11 rfl) (kf_bool (by decide)) ⟨_, rfl, hI, hF0, (by omega), (by omega)⟩
  · skip
    refine kv_lload_n C 7 rfl 0 (kdec dk_cX10_in 4 rfl) rfl rfl ?_
    refine kv_lload C 9 rfl 2 (kdec dk_cX10_in 5 rfl) rfl ?_
    refine kv_lcmp C 10 rfl (kdec dk_cX10_in 6 rfl) ?_
    generalize h5e : lg_cmp a1 a3 = x4
    have h5 := kf_lcmp h5e
    refine kv_if_gt C 13 rfl 17 (kdec dk_cX10_in 7 rfl) (by decide) (fun d6 => ?_) (fun d6 => ?_)
    · skip
      refine kv_iconst C 18 rfl 0 (kdec dk_cX10_in 10 rfl) rfl ?_
      exact kv_zret C hr hlk (kdec dk_cX10_in 11 rfl) (kf_bool (by decide)) ⟨_, rfl, hI, hF0, (by omega), (by omega)⟩
    · skip
      refine kv_iconst C 14 rfl 1 (kdec dk_cX10_in 8 rfl) rfl ?_
      refine kv_goto C 18 (kdec dk_cX10_in 9 rfl) (by decide) ?_
      exact kv_zret C hr hlk (kdec dk_cX10_in 11 rfl) (kf_bool (by decide)) ⟨_, rfl, hI, hF0, (by omega), (by omega)⟩

set_option maxHeartbeats 4000000 in
set_option maxRecDepth 100000 in
theorem k_x_four (l : Launch) (D : va_G) (τ : Nat → ClassId) (ρ σ : Nat → Nat) (w : kw) (a1 : Int32) (hI : kI false w) (hp0 : (w 61 2).toInt ≤ 1020) :
    kM l D τ ρ σ yX10_four cX10_four 3 none { frames := 0, cells := 0, slots := 0, locals := 0 } [.ref (ρ 61), .int a1] w
      (fun o w' => o = none ∧ kI false w' ∧ kF [(61, some 2), (63, none)] w w' ∧ ((w' 61 2).toInt = (w 61 2).toInt + 4)) := by
  refine kM_of (own := "TaleMachineModel") rfl (by decide) (Nat.le_of_ble_eq_true rfl) ?_
  intro p e s m args below meth c C hr hlk
  have hF0 : kF [(61, some 2), (63, none)] w w := kF.rf
  have c_1 : (1 : Int32).toInt = 1 := by decide
  have c_24 : (24 : Int32).toInt = 24 := by decide
  have c_255 : (255 : Int32).toInt = 255 := by decide
  refine kV.L (L' := [(0, .ref (ρ 61)), (1, .int a1)]) rfl ?_
  obtain ⟨x1, e2⟩ : ∃ z : Int32, w 61 2 = z := ⟨_, rfl⟩
  have b3 : (0 : Int) ≤ x1.toInt ∧ x1.toInt ≤ 1024 := by rw [← e2]; exact hI 61 2
  rw [e2] at hp0
  have g4 := kf_rng a1
  have cut3 : ∀ (n_3 : Nat) (w_3 : kw) (l1_3 l2_3 : Int32), kI false w_3 → kF [(61, some 2), (63, none)] w w_3 → (-8 ≤ l2_3.toInt ∧ l2_3.toInt ≤ 24) → (8 * ((w_3 61 2).toInt - (w 61 2).toInt) = 24 - l2_3.toInt) → ((l2_3.toInt + 8) : Int) < (n_3 : Int) → kV p l e { frames := 0, cells := 0, slots := 0, locals := 0 } s m args below meth c (kQ below args s D τ ρ (fun o w' => o = none ∧ kI false w' ∧ kF [(61, some 2), (63, none)] w w' ∧ ((w' 61 2).toInt = (w 61 2).toInt + 4))) 3 D τ ρ 3 [(0, .ref (ρ 61)), (1, .int l1_3), (2, .int l2_3)] [] w_3 := by
    intro n_3
    induction n_3 with
    | zero => intro w_3 l1_3 l2_3 I_3 F_3 k3_0 k3_1 hmz; exfalso; omega
    | succ n_3 ih3 =>
      intro w_3 l1_3 l2_3 I_3 F_3 k3_0 k3_1 hm3
      have gl1_3 := kf_rng l1_3
      have gl2_3 := kf_rng l2_3
      obtain ⟨x5, e6⟩ : ∃ z : Int32, w_3 61 2 = z := ⟨_, rfl⟩
      have b7 : (0 : Int) ≤ x5.toInt ∧ x5.toInt ≤ 1024 := by rw [← e6]; exact I_3 61 2
      rw [e2, e6] at k3_1
      refine kv_iload_n C 4 rfl 2 (kdec dk_cX10_four 2 rfl) rfl rfl ?_
      refine kv_if_lt C 7 rfl 39 (kdec dk_cX10_four 3 rfl) (by decide) (fun d8 => ?_) (fun d8 => ?_)
      · skip
        exact kv_vret C hr hlk (kdec dk_cX10_four 22 rfl) ⟨rfl, I_3, F_3, (by rw [e2, e6]; try omega)⟩
      · skip
        refine kv_aload_n C 8 rfl 0 (kdec dk_cX10_four 4 rfl) rfl rfl ?_
        refine kv_getr C 11 rfl 61 1 rfl rfl inX10 (by decide) mfl_TaleMachineModel_13 rfl rfl (kdec dk_cX10_four 5 rfl) ?_
        refine kv_aload_n C 12 rfl 0 (kdec dk_cX10_four 6 rfl) rfl rfl ?_
        refine kv_get C 15 rfl 61 2 rfl rfl inX10 (by decide) mfl_TaleMachineModel_86 rfl rfl (kdec dk_cX10_four 7 rfl) e6 ?_
        refine kv_iload_n C 16 rfl 1 (kdec dk_cX10_four 8 rfl) rfl rfl ?_
        refine kv_iload_n C 17 rfl 2 (kdec dk_cX10_four 9 rfl) rfl rfl ?_
        refine kv_ishr C 18 rfl (kdec dk_cX10_four 10 rfl) (fun x9 h10e h10l h10u => ?_)
        refine kv_sipush C 21 rfl 255 (kdec dk_cX10_four 11 rfl) rfl ?_
        refine kv_iand C 22 rfl (kdec dk_cX10_four 12 rfl) (fun x11 h12e h12l h12u => ?_)
        have g13 := kf_and255 h12e
        refine kv_iast C 23 rfl 63 rfl (by omega) (by omega) (kdec dk_cX10_four 13 rfl) (fun w14 u15 => ?_)
        have I16 : kI false w14 := kI_put u15 I_3 (show (0 : Int) ≤ (x11 : Int32).toInt by omega) (show (x11 : Int32).toInt ≤ 255 by omega)
        have F17 : kF [(61, some 2), (63, none)] w w14 := kF_put u15 F_3 rfl
        refine kv_aload_n C 24 rfl 0 (kdec dk_cX10_four 14 rfl) rfl rfl ?_
        refine kv_dup C 25 rfl (kdec dk_cX10_four 15 rfl) rfl ?_
        have e18 : w14 61 2 = x5 := ((kup_ne u15 rfl : w14 61 2 = w_3 61 2).trans e6)
        refine kv_get C 28 rfl 61 2 rfl rfl inX10 (by decide) mfl_TaleMachineModel_86 rfl rfl (kdec dk_cX10_four 16 rfl) e18 ?_
        refine kv_iconst C 29 rfl 1 (kdec dk_cX10_four 17 rfl) rfl ?_
        refine kv_iadd C 30 rfl (kdec dk_cX10_four 18 rfl) (fun x19 q21 h20e h20 h20l h20u => ?_)
        try have h20n : x19.toInt = x5.toInt + (1 : Int32).toInt := by omega
        clear h20 q21
        refine kv_put C 33 rfl 61 2 rfl rfl inX10 (by decide) mfl_TaleMachineModel_86 rfl tyX10 tyX10_ok nmX10 rfl rfl (kdec dk_cX10_four 19 rfl) rfl rfl (fun w22 u23 => ?_)
        have I24 : kI false w22 := kI_put u23 I16 (show (0 : Int) ≤ (x19 : Int32).toInt by omega) (show (x19 : Int32).toInt ≤ 1024 by omega)
        have F25 : kF [(61, some 2), (63, none)] w w22 := kF_put u23 F17 rfl
        refine kv_iinc C 36 rfl 2 2 [1, 2, 0] (fun v9 => [(0, .ref (ρ 61)), (1, .int l1_3), (2, .int v9)]) (kdec dk_cX10_four 20 rfl) rfl (by decide) (fun _ => rfl) (-8) rfl (fun x26 q27 h28e h28 h28l h28u => ?_)
        try have h28n : x26.toInt = l2_3.toInt + (-8) := by omega
        clear h28 q27
        refine kv_goto C 3 (kdec dk_cX10_four 21 rfl) (by decide) ?_
        exact ih3 w22 l1_3 x26 I24 F25 (by omega) (by rw [e2, (kup_eq u23)]; try omega) (by omega)
  refine kv_bipush C 2 rfl 24 (kdec dk_cX10_four 0 rfl) rfl ?_
  refine kv_istore_n C 3 rfl 2 [1, 2, 0] [(0, .ref (ρ 61)), (1, .int a1), (2, .int 24)] (kdec dk_cX10_four 1 rfl) rfl (by decide) rfl ?_
  exact cut3 (((((24 : Int32).toInt + 8)) : Int).toNat + 1) w a1 24 hI hF0 (by omega) (by rw [e2]; try omega) (by omega)

set_option maxHeartbeats 4000000 in
set_option maxRecDepth 100000 in
theorem k_x_feed (l : Launch) (D : va_G) (τ : Nat → ClassId) (ρ σ : Nat → Nat) (w : kw) (a1 : Int32) (a2 : Int32) (a3 : Int32) (a4 : Int32) (a5 : Int32) (a6 : Int32) (a7 : Int32) (a8 : Int32) (hI : kI false w)  :
    kM l D τ ρ σ yX10_feed cX10_feed 9 (some .int) { frames := 1, cells := 0, slots := 0, locals := 36 } [.ref (ρ 61), .int a1, .int a2, .int a3, .int a4, .int a5, .int a6, .int a7, .int a8] w
      (fun o w' => ∃ r : Int32, o = some (.int r) ∧ kI false w' ∧ kF [(61, some 2), (63, none)] w w' ∧ ((w 61 2).toInt ≤ 992 ∧ (w' 61 2).toInt = (w 61 2).toInt + 32 ∧ r.toInt = (w 61 2).toInt + 32 ∨ 992 < (w 61 2).toInt ∧ (w' 61 2).toInt = (w 61 2).toInt ∧ r.toInt = -3)) := by
  refine kM_of (own := "TaleMachineModel") rfl (by decide) (Nat.le_of_ble_eq_true rfl) ?_
  intro p e s m args below meth c C hr hlk
  have hF0 : kF [(61, some 2), (63, none)] w w := kF.rf
  have c_m3 : (-3 : Int32).toInt = -3 := by decide
  have c_32 : (32 : Int32).toInt = 32 := by decide
  have c_1024 : (1024 : Int32).toInt = 1024 := by decide
  refine kV.L (L' := [(0, .ref (ρ 61)), (1, .int a1), (2, .int a2), (3, .int a3), (4, .int a4), (5, .int a5), (6, .int a6), (7, .int a7), (8, .int a8)]) rfl ?_
  have g1 := kf_rng a1
  have g2 := kf_rng a2
  have g3 := kf_rng a3
  have g4 := kf_rng a4
  have g5 := kf_rng a5
  have g6 := kf_rng a6
  have g7 := kf_rng a7
  have g8 := kf_rng a8
  refine kv_aload_n C 1 rfl 0 (kdec dk_cX10_feed 0 rfl) rfl rfl ?_
  obtain ⟨x9, e10⟩ : ∃ z : Int32, w 61 2 = z := ⟨_, rfl⟩
  have b11 : (0 : Int) ≤ x9.toInt ∧ x9.toInt ≤ 1024 := by rw [← e10]; exact hI 61 2
  refine kv_get C 4 rfl 61 2 rfl rfl inX10 (by decide) mfl_TaleMachineModel_86 rfl rfl (kdec dk_cX10_feed 1 rfl) e10 ?_
  refine kv_bipush C 6 rfl 32 (kdec dk_cX10_feed 2 rfl) rfl ?_
  refine kv_iadd C 7 rfl (kdec dk_cX10_feed 3 rfl) (fun x12 q14 h13e h13 h13l h13u => ?_)
  try have h13n : x12.toInt = x9.toInt + (32 : Int32).toInt := by omega
  clear h13 q14
  refine kv_sipush C 10 rfl 1024 (kdec dk_cX10_feed 4 rfl) rfl ?_
  refine kv_icmp_le C 13 rfl 16 (kdec dk_cX10_feed 5 rfl) (by decide) (fun d15 => ?_) (fun d15 => ?_)
  · skip
    refine kv_aload_n C 17 rfl 0 (kdec dk_cX10_feed 8 rfl) rfl rfl ?_
    refine kv_iload_n C 18 rfl 1 (kdec dk_cX10_feed 9 rfl) rfl rfl ?_
    refine kv_callVv (As := [.int a1]) (rest := []) C 21 rfl 61 (k_x_four l D τ ρ σ w a1 hI (by rw [e10]; try omega)) rfl rfl mml_TaleMachineModel_90 mim_yX10_four mse_yX10_four mcd_yX10_four min_yX10_four hd_yX10_four rfl rfl rfl (by decide) rfl (Nat.le_of_ble_eq_true rfl) (kdec dk_cX10_feed 10 rfl) (fun w16 h17 => ?_)
    obtain ⟨I18, f19, p21⟩ := h17
    have F22 : kF [(61, some 2), (63, none)] w w16 := kF_call hF0 f19 (by decide)
    obtain ⟨x23, e24⟩ : ∃ z : Int32, w16 61 2 = z := ⟨_, rfl⟩
    have b25 : (0 : Int) ≤ x23.toInt ∧ x23.toInt ≤ 1024 := by rw [← e24]; exact I18 61 2
    rw [e10, e24] at p21
    refine kv_aload_n C 22 rfl 0 (kdec dk_cX10_feed 11 rfl) rfl rfl ?_
    refine kv_iload_n C 23 rfl 2 (kdec dk_cX10_feed 12 rfl) rfl rfl ?_
    refine kv_callVv (As := [.int a2]) (rest := []) C 26 rfl 61 (k_x_four l D τ ρ σ w16 a2 I18 (by rw [e24]; try omega)) rfl rfl mml_TaleMachineModel_90 mim_yX10_four mse_yX10_four mcd_yX10_four min_yX10_four hd_yX10_four rfl rfl rfl (by decide) rfl (Nat.le_of_ble_eq_true rfl) (kdec dk_cX10_feed 13 rfl) (fun w26 h27 => ?_)
    obtain ⟨I28, f29, p31⟩ := h27
    have F32 : kF [(61, some 2), (63, none)] w w26 := kF_call F22 f29 (by decide)
    obtain ⟨x33, e34⟩ : ∃ z : Int32, w26 61 2 = z := ⟨_, rfl⟩
    have b35 : (0 : Int) ≤ x33.toInt ∧ x33.toInt ≤ 1024 := by rw [← e34]; exact I28 61 2
    rw [e24, e34] at p31
    refine kv_aload_n C 27 rfl 0 (kdec dk_cX10_feed 14 rfl) rfl rfl ?_
    refine kv_iload_n C 28 rfl 3 (kdec dk_cX10_feed 15 rfl) rfl rfl ?_
    refine kv_callVv (As := [.int a3]) (rest := []) C 31 rfl 61 (k_x_four l D τ ρ σ w26 a3 I28 (by rw [e34]; try omega)) rfl rfl mml_TaleMachineModel_90 mim_yX10_four mse_yX10_four mcd_yX10_four min_yX10_four hd_yX10_four rfl rfl rfl (by decide) rfl (Nat.le_of_ble_eq_true rfl) (kdec dk_cX10_feed 16 rfl) (fun w36 h37 => ?_)
    obtain ⟨I38, f39, p41⟩ := h37
    have F42 : kF [(61, some 2), (63, none)] w w36 := kF_call F32 f39 (by decide)
    obtain ⟨x43, e44⟩ : ∃ z : Int32, w36 61 2 = z := ⟨_, rfl⟩
    have b45 : (0 : Int) ≤ x43.toInt ∧ x43.toInt ≤ 1024 := by rw [← e44]; exact I38 61 2
    rw [e34, e44] at p41
    refine kv_aload_n C 32 rfl 0 (kdec dk_cX10_feed 17 rfl) rfl rfl ?_
    refine kv_iload C 34 rfl 4 (kdec dk_cX10_feed 18 rfl) rfl ?_
    refine kv_callVv (As := [.int a4]) (rest := []) C 37 rfl 61 (k_x_four l D τ ρ σ w36 a4 I38 (by rw [e44]; try omega)) rfl rfl mml_TaleMachineModel_90 mim_yX10_four mse_yX10_four mcd_yX10_four min_yX10_four hd_yX10_four rfl rfl rfl (by decide) rfl (Nat.le_of_ble_eq_true rfl) (kdec dk_cX10_feed 19 rfl) (fun w46 h47 => ?_)
    obtain ⟨I48, f49, p51⟩ := h47
    have F52 : kF [(61, some 2), (63, none)] w w46 := kF_call F42 f49 (by decide)
    obtain ⟨x53, e54⟩ : ∃ z : Int32, w46 61 2 = z := ⟨_, rfl⟩
    have b55 : (0 : Int) ≤ x53.toInt ∧ x53.toInt ≤ 1024 := by rw [← e54]; exact I48 61 2
    rw [e44, e54] at p51
    refine kv_aload_n C 38 rfl 0 (kdec dk_cX10_feed 20 rfl) rfl rfl ?_
    refine kv_iload C 40 rfl 5 (kdec dk_cX10_feed 21 rfl) rfl ?_
    refine kv_callVv (As := [.int a5]) (rest := []) C 43 rfl 61 (k_x_four l D τ ρ σ w46 a5 I48 (by rw [e54]; try omega)) rfl rfl mml_TaleMachineModel_90 mim_yX10_four mse_yX10_four mcd_yX10_four min_yX10_four hd_yX10_four rfl rfl rfl (by decide) rfl (Nat.le_of_ble_eq_true rfl) (kdec dk_cX10_feed 22 rfl) (fun w56 h57 => ?_)
    obtain ⟨I58, f59, p61⟩ := h57
    have F62 : kF [(61, some 2), (63, none)] w w56 := kF_call F52 f59 (by decide)
    obtain ⟨x63, e64⟩ : ∃ z : Int32, w56 61 2 = z := ⟨_, rfl⟩
    have b65 : (0 : Int) ≤ x63.toInt ∧ x63.toInt ≤ 1024 := by rw [← e64]; exact I58 61 2
    rw [e54, e64] at p61
    refine kv_aload_n C 44 rfl 0 (kdec dk_cX10_feed 23 rfl) rfl rfl ?_
    refine kv_iload C 46 rfl 6 (kdec dk_cX10_feed 24 rfl) rfl ?_
    refine kv_callVv (As := [.int a6]) (rest := []) C 49 rfl 61 (k_x_four l D τ ρ σ w56 a6 I58 (by rw [e64]; try omega)) rfl rfl mml_TaleMachineModel_90 mim_yX10_four mse_yX10_four mcd_yX10_four min_yX10_four hd_yX10_four rfl rfl rfl (by decide) rfl (Nat.le_of_ble_eq_true rfl) (kdec dk_cX10_feed 25 rfl) (fun w66 h67 => ?_)
    obtain ⟨I68, f69, p71⟩ := h67
    have F72 : kF [(61, some 2), (63, none)] w w66 := kF_call F62 f69 (by decide)
    obtain ⟨x73, e74⟩ : ∃ z : Int32, w66 61 2 = z := ⟨_, rfl⟩
    have b75 : (0 : Int) ≤ x73.toInt ∧ x73.toInt ≤ 1024 := by rw [← e74]; exact I68 61 2
    rw [e64, e74] at p71
    refine kv_aload_n C 50 rfl 0 (kdec dk_cX10_feed 26 rfl) rfl rfl ?_
    refine kv_iload C 52 rfl 7 (kdec dk_cX10_feed 27 rfl) rfl ?_
    refine kv_callVv (As := [.int a7]) (rest := []) C 55 rfl 61 (k_x_four l D τ ρ σ w66 a7 I68 (by rw [e74]; try omega)) rfl rfl mml_TaleMachineModel_90 mim_yX10_four mse_yX10_four mcd_yX10_four min_yX10_four hd_yX10_four rfl rfl rfl (by decide) rfl (Nat.le_of_ble_eq_true rfl) (kdec dk_cX10_feed 28 rfl) (fun w76 h77 => ?_)
    obtain ⟨I78, f79, p81⟩ := h77
    have F82 : kF [(61, some 2), (63, none)] w w76 := kF_call F72 f79 (by decide)
    obtain ⟨x83, e84⟩ : ∃ z : Int32, w76 61 2 = z := ⟨_, rfl⟩
    have b85 : (0 : Int) ≤ x83.toInt ∧ x83.toInt ≤ 1024 := by rw [← e84]; exact I78 61 2
    rw [e74, e84] at p81
    refine kv_aload_n C 56 rfl 0 (kdec dk_cX10_feed 29 rfl) rfl rfl ?_
    refine kv_iload C 58 rfl 8 (kdec dk_cX10_feed 30 rfl) rfl ?_
    refine kv_callVv (As := [.int a8]) (rest := []) C 61 rfl 61 (k_x_four l D τ ρ σ w76 a8 I78 (by rw [e84]; try omega)) rfl rfl mml_TaleMachineModel_90 mim_yX10_four mse_yX10_four mcd_yX10_four min_yX10_four hd_yX10_four rfl rfl rfl (by decide) rfl (Nat.le_of_ble_eq_true rfl) (kdec dk_cX10_feed 31 rfl) (fun w86 h87 => ?_)
    obtain ⟨I88, f89, p91⟩ := h87
    have F92 : kF [(61, some 2), (63, none)] w w86 := kF_call F82 f89 (by decide)
    obtain ⟨x93, e94⟩ : ∃ z : Int32, w86 61 2 = z := ⟨_, rfl⟩
    have b95 : (0 : Int) ≤ x93.toInt ∧ x93.toInt ≤ 1024 := by rw [← e94]; exact I88 61 2
    rw [e84, e94] at p91
    refine kv_aload_n C 62 rfl 0 (kdec dk_cX10_feed 32 rfl) rfl rfl ?_
    refine kv_get C 65 rfl 61 2 rfl rfl inX10 (by decide) mfl_TaleMachineModel_86 rfl rfl (kdec dk_cX10_feed 33 rfl) e94 ?_
    exact kv_iret C hr hlk (kdec dk_cX10_feed 34 rfl) ⟨_, rfl, I88, F92, (by rw [e10, e94]; try omega)⟩
  · skip
    refine kv_bipush C 15 rfl (-3) (kdec dk_cX10_feed 6 rfl) rfl ?_
    exact kv_iret C hr hlk (kdec dk_cX10_feed 7 rfl) ⟨_, rfl, hI, hF0, (by rw [e10]; try omega)⟩

set_option maxHeartbeats 4000000 in
set_option maxRecDepth 100000 in
theorem k_x_end (l : Launch) (D : va_G) (τ : Nat → ClassId) (ρ σ : Nat → Nat) (w : kw) (a1 : Int32) (hI : kI false w)  :
    kM l D τ ρ σ yX10_end cX10_end 3 (some .int) { frames := 1, cells := 0, slots := 0, locals := 36 } [.ref (ρ 61), .int a1] w
      (fun o w' => ∃ r : Int32, o = some (.int r) ∧ kI false w' ∧ kF [(61, some 2)] w w' ∧ (0 ≤ a1.toInt ∧ a1.toInt ≤ (w 61 2).toInt ∧ (w' 61 2).toInt = a1.toInt ∧ r.toInt = (w 61 2).toInt ∨ (a1.toInt < 0 ∨ (w 61 2).toInt < a1.toInt) ∧ (w' 61 2).toInt = (w 61 2).toInt ∧ r.toInt = -1)) := by
  refine kM_of (own := "TaleMachineModel") rfl (by decide) (Nat.le_of_ble_eq_true rfl) ?_
  intro p e s m args below meth c C hr hlk
  have hF0 : kF [(61, some 2)] w w := kF.rf
  have c_m1 : (-1 : Int32).toInt = -1 := by decide
  refine kV.L (L' := [(0, .ref (ρ 61)), (1, .int a1)]) rfl ?_
  have g1 := kf_rng a1
  refine kv_iload_n C 1 rfl 1 (kdec dk_cX10_end 0 rfl) rfl rfl ?_
  refine kv_i2l C 2 rfl (kdec dk_cX10_end 1 rfl) ?_
  have h2 := kf_i2l a1
  refine kv_lconst C 3 rfl 0 (kdec dk_cX10_end 2 rfl) rfl ?_
  have h3 : (0 : Int64).toInt = 0 := by decide
  refine kv_aload_n C 4 rfl 0 (kdec dk_cX10_end 3 rfl) rfl rfl ?_
  obtain ⟨x4, e5⟩ : ∃ z : Int32, w 61 2 = z := ⟨_, rfl⟩
  have b6 : (0 : Int) ≤ x4.toInt ∧ x4.toInt ≤ 1024 := by rw [← e5]; exact hI 61 2
  refine kv_get C 7 rfl 61 2 rfl rfl inX10 (by decide) mfl_TaleMachineModel_86 rfl rfl (kdec dk_cX10_end 4 rfl) e5 ?_
  refine kv_i2l C 8 rfl (kdec dk_cX10_end 5 rfl) ?_
  have h7 := kf_i2l x4
  refine kv_callSi (As := [.long (a1 : Int32).toInt64, .long (0 : Int64), .long (x4 : Int32).toInt64]) (rest := []) C 11 rfl (k_x_in l D τ ρ σ w (a1 : Int32).toInt64 (0 : Int64) (x4 : Int32).toInt64 hI ) mml_TaleMachineModel_94 mst_yX10_in mcd_yX10_in min_yX10_in hd_yX10_in rfl rfl rfl (by decide) rfl (Nat.le_of_ble_eq_true rfl) (kdec dk_cX10_end 6 rfl) (fun x12 w8 h9 => ?_)
  obtain ⟨I10, f11, p13, p14⟩ := h9
  have F15 : kF [(61, some 2)] w w8 := kF_call hF0 f11 (by decide)
  have g16 := kf_rng x12
  refine kv_if_ne C 14 rfl 16 (kdec dk_cX10_end 7 rfl) (by decide) (fun d17 => ?_) (fun d17 => ?_)
  · skip
    refine kv_aload_n C 17 rfl 0 (kdec dk_cX10_end 10 rfl) rfl rfl ?_
    have e18 : w8 61 2 = x4 := ((f11 61 2 rfl : w8 61 2 = w 61 2).trans e5)
    refine kv_get C 20 rfl 61 2 rfl rfl inX10 (by decide) mfl_TaleMachineModel_86 rfl rfl (kdec dk_cX10_end 11 rfl) e18 ?_
    refine kv_istore_n C 21 rfl 2 [1, 2, 0] [(0, .ref (ρ 61)), (1, .int a1), (2, .int x4)] (kdec dk_cX10_end 12 rfl) rfl (by decide) rfl ?_
    refine kv_aload_n C 22 rfl 0 (kdec dk_cX10_end 13 rfl) rfl rfl ?_
    refine kv_iload_n C 23 rfl 1 (kdec dk_cX10_end 14 rfl) rfl rfl ?_
    refine kv_put C 26 rfl 61 2 rfl rfl inX10 (by decide) mfl_TaleMachineModel_86 rfl tyX10 tyX10_ok nmX10 rfl rfl (kdec dk_cX10_end 15 rfl) rfl rfl (fun w19 u20 => ?_)
    have I21 : kI false w19 := kI_put u20 I10 (show (0 : Int) ≤ (a1 : Int32).toInt by omega) (show (a1 : Int32).toInt ≤ 1024 by omega)
    have F22 : kF [(61, some 2)] w w19 := kF_put u20 F15 rfl
    refine kv_iload_n C 27 rfl 2 (kdec dk_cX10_end 16 rfl) rfl rfl ?_
    exact kv_iret C hr hlk (kdec dk_cX10_end 17 rfl) ⟨_, rfl, I21, F22, (by rw [e5, (kup_eq u20)]; try omega)⟩
  · skip
    refine kv_iconst C 15 rfl (-1) (kdec dk_cX10_end 8 rfl) rfl ?_
    have e23 : w8 61 2 = x4 := ((f11 61 2 rfl : w8 61 2 = w 61 2).trans e5)
    exact kv_iret C hr hlk (kdec dk_cX10_end 9 rfl) ⟨_, rfl, I10, F15, (by rw [e5, e23]; try omega)⟩

set_option maxHeartbeats 4000000 in
set_option maxRecDepth 100000 in
theorem k_x_tapeWord14 (l : Launch) (D : va_G) (τ : Nat → ClassId) (ρ σ : Nat → Nat) (w : kw)  (hI : kI false w)  :
    kM l D τ ρ σ yX10_tapeWord cX10_tapeWord 2 (some .int) { frames := 0, cells := 0, slots := 0, locals := 0 } [.ref (ρ 61), .int 14] w
      (fun o w' => ∃ r : Int32, o = some (.int r) ∧ kI false w' ∧ kF [] w w' ∧ (r.toInt = 256 * (w 63 14).toInt + (w 63 15).toInt)) := by
  refine kM_of (own := "TaleMachineModel") rfl (by decide) (Nat.le_of_ble_eq_true rfl) ?_
  intro p e s m args below meth c C hr hlk
  have hF0 : kF [] w w := kF.rf
  have c_1 : (1 : Int32).toInt = 1 := by decide
  have c_14 : (14 : Int32).toInt = 14 := by decide
  have c_15 : (15 : Int32).toInt = 15 := by decide
  have c_256 : (256 : Int32).toInt = 256 := by decide
  refine kV.L (L' := [(0, .ref (ρ 61)), (1, .int 14)]) rfl ?_
  refine kv_sipush C 3 rfl 256 (kdec dk_cX10_tapeWord 0 rfl) rfl ?_
  refine kv_aload_n C 4 rfl 0 (kdec dk_cX10_tapeWord 1 rfl) rfl rfl ?_
  refine kv_getr C 7 rfl 61 1 rfl rfl inX10 (by decide) mfl_TaleMachineModel_13 rfl rfl (kdec dk_cX10_tapeWord 2 rfl) ?_
  refine kv_iload_n C 8 rfl 1 (kdec dk_cX10_tapeWord 3 rfl) rfl rfl ?_
  obtain ⟨x1, e2⟩ : ∃ z : Int32, w 63 14 = z := ⟨_, rfl⟩
  have b3 : (0 : Int) ≤ x1.toInt ∧ x1.toInt ≤ 255 := by rw [← e2]; exact hI 63 14
  refine kv_iald C 9 rfl 63 rfl (by omega) (by omega) (show w 63 (14 : Int32).toNatClampNeg = x1 from e2) (kdec dk_cX10_tapeWord 4 rfl) ?_
  refine kv_imul C 10 rfl (kdec dk_cX10_tapeWord 5 rfl) (fun x4 h5e h5l h5u => ?_)
  obtain ⟨q6, g7⟩ := kf_mul 256 x1
  rw [← h5e, c_256] at g7
  try have h5n : x4.toInt = 256 * x1.toInt := by omega
  clear g7 q6
  refine kv_aload_n C 11 rfl 0 (kdec dk_cX10_tapeWord 6 rfl) rfl rfl ?_
  refine kv_getr C 14 rfl 61 1 rfl rfl inX10 (by decide) mfl_TaleMachineModel_13 rfl rfl (kdec dk_cX10_tapeWord 7 rfl) ?_
  refine kv_iload_n C 15 rfl 1 (kdec dk_cX10_tapeWord 8 rfl) rfl rfl ?_
  refine kv_iconst C 16 rfl 1 (kdec dk_cX10_tapeWord 9 rfl) rfl ?_
  refine kv_iadd C 17 rfl (kdec dk_cX10_tapeWord 10 rfl) (fun x8 q10 h9e h9 h9l h9u => ?_)
  try have h9n : x8.toInt = (14 : Int32).toInt + (1 : Int32).toInt := by omega
  clear h9 q10
  obtain rfl : x8 = 15 := by rw [h9e]; decide
  obtain ⟨x11, e12⟩ : ∃ z : Int32, w 63 15 = z := ⟨_, rfl⟩
  have b13 : (0 : Int) ≤ x11.toInt ∧ x11.toInt ≤ 255 := by rw [← e12]; exact hI 63 15
  refine kv_iald C 18 rfl 63 rfl (by omega) (by omega) (show w 63 (15 : Int32).toNatClampNeg = x11 from e12) (kdec dk_cX10_tapeWord 11 rfl) ?_
  refine kv_iadd C 19 rfl (kdec dk_cX10_tapeWord 12 rfl) (fun x14 q16 h15e h15 h15l h15u => ?_)
  try have h15n : x14.toInt = x4.toInt + x11.toInt := by omega
  clear h15 q16
  exact kv_iret C hr hlk (kdec dk_cX10_tapeWord 13 rfl) ⟨_, rfl, hI, hF0, (by rw [e2, e12]; try omega)⟩

set_option maxHeartbeats 4000000 in
set_option maxRecDepth 100000 in
theorem k_x_tapeWord4 (l : Launch) (D : va_G) (τ : Nat → ClassId) (ρ σ : Nat → Nat) (w : kw)  (hI : kI false w)  :
    kM l D τ ρ σ yX10_tapeWord cX10_tapeWord 2 (some .int) { frames := 0, cells := 0, slots := 0, locals := 0 } [.ref (ρ 61), .int 4] w
      (fun o w' => ∃ r : Int32, o = some (.int r) ∧ kI false w' ∧ kF [] w w' ∧ (r.toInt = 256 * (w 63 4).toInt + (w 63 5).toInt)) := by
  refine kM_of (own := "TaleMachineModel") rfl (by decide) (Nat.le_of_ble_eq_true rfl) ?_
  intro p e s m args below meth c C hr hlk
  have hF0 : kF [] w w := kF.rf
  have c_1 : (1 : Int32).toInt = 1 := by decide
  have c_4 : (4 : Int32).toInt = 4 := by decide
  have c_5 : (5 : Int32).toInt = 5 := by decide
  have c_256 : (256 : Int32).toInt = 256 := by decide
  refine kV.L (L' := [(0, .ref (ρ 61)), (1, .int 4)]) rfl ?_
  refine kv_sipush C 3 rfl 256 (kdec dk_cX10_tapeWord 0 rfl) rfl ?_
  refine kv_aload_n C 4 rfl 0 (kdec dk_cX10_tapeWord 1 rfl) rfl rfl ?_
  refine kv_getr C 7 rfl 61 1 rfl rfl inX10 (by decide) mfl_TaleMachineModel_13 rfl rfl (kdec dk_cX10_tapeWord 2 rfl) ?_
  refine kv_iload_n C 8 rfl 1 (kdec dk_cX10_tapeWord 3 rfl) rfl rfl ?_
  obtain ⟨x1, e2⟩ : ∃ z : Int32, w 63 4 = z := ⟨_, rfl⟩
  have b3 : (0 : Int) ≤ x1.toInt ∧ x1.toInt ≤ 255 := by rw [← e2]; exact hI 63 4
  refine kv_iald C 9 rfl 63 rfl (by omega) (by omega) (show w 63 (4 : Int32).toNatClampNeg = x1 from e2) (kdec dk_cX10_tapeWord 4 rfl) ?_
  refine kv_imul C 10 rfl (kdec dk_cX10_tapeWord 5 rfl) (fun x4 h5e h5l h5u => ?_)
  obtain ⟨q6, g7⟩ := kf_mul 256 x1
  rw [← h5e, c_256] at g7
  try have h5n : x4.toInt = 256 * x1.toInt := by omega
  clear g7 q6
  refine kv_aload_n C 11 rfl 0 (kdec dk_cX10_tapeWord 6 rfl) rfl rfl ?_
  refine kv_getr C 14 rfl 61 1 rfl rfl inX10 (by decide) mfl_TaleMachineModel_13 rfl rfl (kdec dk_cX10_tapeWord 7 rfl) ?_
  refine kv_iload_n C 15 rfl 1 (kdec dk_cX10_tapeWord 8 rfl) rfl rfl ?_
  refine kv_iconst C 16 rfl 1 (kdec dk_cX10_tapeWord 9 rfl) rfl ?_
  refine kv_iadd C 17 rfl (kdec dk_cX10_tapeWord 10 rfl) (fun x8 q10 h9e h9 h9l h9u => ?_)
  try have h9n : x8.toInt = (4 : Int32).toInt + (1 : Int32).toInt := by omega
  clear h9 q10
  obtain rfl : x8 = 5 := by rw [h9e]; decide
  obtain ⟨x11, e12⟩ : ∃ z : Int32, w 63 5 = z := ⟨_, rfl⟩
  have b13 : (0 : Int) ≤ x11.toInt ∧ x11.toInt ≤ 255 := by rw [← e12]; exact hI 63 5
  refine kv_iald C 18 rfl 63 rfl (by omega) (by omega) (show w 63 (5 : Int32).toNatClampNeg = x11 from e12) (kdec dk_cX10_tapeWord 11 rfl) ?_
  refine kv_iadd C 19 rfl (kdec dk_cX10_tapeWord 12 rfl) (fun x14 q16 h15e h15 h15l h15u => ?_)
  try have h15n : x14.toInt = x4.toInt + x11.toInt := by omega
  clear h15 q16
  exact kv_iret C hr hlk (kdec dk_cX10_tapeWord 13 rfl) ⟨_, rfl, hI, hF0, (by rw [e2, e12]; try omega)⟩

set_option maxHeartbeats 4000000 in
set_option maxRecDepth 100000 in
theorem k_x_tapeWord6 (l : Launch) (D : va_G) (τ : Nat → ClassId) (ρ σ : Nat → Nat) (w : kw)  (hI : kI false w)  :
    kM l D τ ρ σ yX10_tapeWord cX10_tapeWord 2 (some .int) { frames := 0, cells := 0, slots := 0, locals := 0 } [.ref (ρ 61), .int 6] w
      (fun o w' => ∃ r : Int32, o = some (.int r) ∧ kI false w' ∧ kF [] w w' ∧ (r.toInt = 256 * (w 63 6).toInt + (w 63 7).toInt)) := by
  refine kM_of (own := "TaleMachineModel") rfl (by decide) (Nat.le_of_ble_eq_true rfl) ?_
  intro p e s m args below meth c C hr hlk
  have hF0 : kF [] w w := kF.rf
  have c_1 : (1 : Int32).toInt = 1 := by decide
  have c_6 : (6 : Int32).toInt = 6 := by decide
  have c_7 : (7 : Int32).toInt = 7 := by decide
  have c_256 : (256 : Int32).toInt = 256 := by decide
  refine kV.L (L' := [(0, .ref (ρ 61)), (1, .int 6)]) rfl ?_
  refine kv_sipush C 3 rfl 256 (kdec dk_cX10_tapeWord 0 rfl) rfl ?_
  refine kv_aload_n C 4 rfl 0 (kdec dk_cX10_tapeWord 1 rfl) rfl rfl ?_
  refine kv_getr C 7 rfl 61 1 rfl rfl inX10 (by decide) mfl_TaleMachineModel_13 rfl rfl (kdec dk_cX10_tapeWord 2 rfl) ?_
  refine kv_iload_n C 8 rfl 1 (kdec dk_cX10_tapeWord 3 rfl) rfl rfl ?_
  obtain ⟨x1, e2⟩ : ∃ z : Int32, w 63 6 = z := ⟨_, rfl⟩
  have b3 : (0 : Int) ≤ x1.toInt ∧ x1.toInt ≤ 255 := by rw [← e2]; exact hI 63 6
  refine kv_iald C 9 rfl 63 rfl (by omega) (by omega) (show w 63 (6 : Int32).toNatClampNeg = x1 from e2) (kdec dk_cX10_tapeWord 4 rfl) ?_
  refine kv_imul C 10 rfl (kdec dk_cX10_tapeWord 5 rfl) (fun x4 h5e h5l h5u => ?_)
  obtain ⟨q6, g7⟩ := kf_mul 256 x1
  rw [← h5e, c_256] at g7
  try have h5n : x4.toInt = 256 * x1.toInt := by omega
  clear g7 q6
  refine kv_aload_n C 11 rfl 0 (kdec dk_cX10_tapeWord 6 rfl) rfl rfl ?_
  refine kv_getr C 14 rfl 61 1 rfl rfl inX10 (by decide) mfl_TaleMachineModel_13 rfl rfl (kdec dk_cX10_tapeWord 7 rfl) ?_
  refine kv_iload_n C 15 rfl 1 (kdec dk_cX10_tapeWord 8 rfl) rfl rfl ?_
  refine kv_iconst C 16 rfl 1 (kdec dk_cX10_tapeWord 9 rfl) rfl ?_
  refine kv_iadd C 17 rfl (kdec dk_cX10_tapeWord 10 rfl) (fun x8 q10 h9e h9 h9l h9u => ?_)
  try have h9n : x8.toInt = (6 : Int32).toInt + (1 : Int32).toInt := by omega
  clear h9 q10
  obtain rfl : x8 = 7 := by rw [h9e]; decide
  obtain ⟨x11, e12⟩ : ∃ z : Int32, w 63 7 = z := ⟨_, rfl⟩
  have b13 : (0 : Int) ≤ x11.toInt ∧ x11.toInt ≤ 255 := by rw [← e12]; exact hI 63 7
  refine kv_iald C 18 rfl 63 rfl (by omega) (by omega) (show w 63 (7 : Int32).toNatClampNeg = x11 from e12) (kdec dk_cX10_tapeWord 11 rfl) ?_
  refine kv_iadd C 19 rfl (kdec dk_cX10_tapeWord 12 rfl) (fun x14 q16 h15e h15 h15l h15u => ?_)
  try have h15n : x14.toInt = x4.toInt + x11.toInt := by omega
  clear h15 q16
  exact kv_iret C hr hlk (kdec dk_cX10_tapeWord 13 rfl) ⟨_, rfl, hI, hF0, (by rw [e2, e12]; try omega)⟩

set_option maxHeartbeats 4000000 in
set_option maxRecDepth 100000 in
theorem k_x_tapeWord26 (l : Launch) (D : va_G) (τ : Nat → ClassId) (ρ σ : Nat → Nat) (w : kw)  (hI : kI false w)  :
    kM l D τ ρ σ yX10_tapeWord cX10_tapeWord 2 (some .int) { frames := 0, cells := 0, slots := 0, locals := 0 } [.ref (ρ 61), .int 26] w
      (fun o w' => ∃ r : Int32, o = some (.int r) ∧ kI false w' ∧ kF [] w w' ∧ (r.toInt = 256 * (w 63 26).toInt + (w 63 27).toInt)) := by
  refine kM_of (own := "TaleMachineModel") rfl (by decide) (Nat.le_of_ble_eq_true rfl) ?_
  intro p e s m args below meth c C hr hlk
  have hF0 : kF [] w w := kF.rf
  have c_1 : (1 : Int32).toInt = 1 := by decide
  have c_26 : (26 : Int32).toInt = 26 := by decide
  have c_27 : (27 : Int32).toInt = 27 := by decide
  have c_256 : (256 : Int32).toInt = 256 := by decide
  refine kV.L (L' := [(0, .ref (ρ 61)), (1, .int 26)]) rfl ?_
  refine kv_sipush C 3 rfl 256 (kdec dk_cX10_tapeWord 0 rfl) rfl ?_
  refine kv_aload_n C 4 rfl 0 (kdec dk_cX10_tapeWord 1 rfl) rfl rfl ?_
  refine kv_getr C 7 rfl 61 1 rfl rfl inX10 (by decide) mfl_TaleMachineModel_13 rfl rfl (kdec dk_cX10_tapeWord 2 rfl) ?_
  refine kv_iload_n C 8 rfl 1 (kdec dk_cX10_tapeWord 3 rfl) rfl rfl ?_
  obtain ⟨x1, e2⟩ : ∃ z : Int32, w 63 26 = z := ⟨_, rfl⟩
  have b3 : (0 : Int) ≤ x1.toInt ∧ x1.toInt ≤ 255 := by rw [← e2]; exact hI 63 26
  refine kv_iald C 9 rfl 63 rfl (by omega) (by omega) (show w 63 (26 : Int32).toNatClampNeg = x1 from e2) (kdec dk_cX10_tapeWord 4 rfl) ?_
  refine kv_imul C 10 rfl (kdec dk_cX10_tapeWord 5 rfl) (fun x4 h5e h5l h5u => ?_)
  obtain ⟨q6, g7⟩ := kf_mul 256 x1
  rw [← h5e, c_256] at g7
  try have h5n : x4.toInt = 256 * x1.toInt := by omega
  clear g7 q6
  refine kv_aload_n C 11 rfl 0 (kdec dk_cX10_tapeWord 6 rfl) rfl rfl ?_
  refine kv_getr C 14 rfl 61 1 rfl rfl inX10 (by decide) mfl_TaleMachineModel_13 rfl rfl (kdec dk_cX10_tapeWord 7 rfl) ?_
  refine kv_iload_n C 15 rfl 1 (kdec dk_cX10_tapeWord 8 rfl) rfl rfl ?_
  refine kv_iconst C 16 rfl 1 (kdec dk_cX10_tapeWord 9 rfl) rfl ?_
  refine kv_iadd C 17 rfl (kdec dk_cX10_tapeWord 10 rfl) (fun x8 q10 h9e h9 h9l h9u => ?_)
  try have h9n : x8.toInt = (26 : Int32).toInt + (1 : Int32).toInt := by omega
  clear h9 q10
  obtain rfl : x8 = 27 := by rw [h9e]; decide
  obtain ⟨x11, e12⟩ : ∃ z : Int32, w 63 27 = z := ⟨_, rfl⟩
  have b13 : (0 : Int) ≤ x11.toInt ∧ x11.toInt ≤ 255 := by rw [← e12]; exact hI 63 27
  refine kv_iald C 18 rfl 63 rfl (by omega) (by omega) (show w 63 (27 : Int32).toNatClampNeg = x11 from e12) (kdec dk_cX10_tapeWord 11 rfl) ?_
  refine kv_iadd C 19 rfl (kdec dk_cX10_tapeWord 12 rfl) (fun x14 q16 h15e h15 h15l h15u => ?_)
  try have h15n : x14.toInt = x4.toInt + x11.toInt := by omega
  clear h15 q16
  exact kv_iret C hr hlk (kdec dk_cX10_tapeWord 13 rfl) ⟨_, rfl, hI, hF0, (by rw [e2, e12]; try omega)⟩

set_option maxHeartbeats 4000000 in
set_option maxRecDepth 100000 in
theorem k_x_tapeWord28 (l : Launch) (D : va_G) (τ : Nat → ClassId) (ρ σ : Nat → Nat) (w : kw)  (hI : kI false w)  :
    kM l D τ ρ σ yX10_tapeWord cX10_tapeWord 2 (some .int) { frames := 0, cells := 0, slots := 0, locals := 0 } [.ref (ρ 61), .int 28] w
      (fun o w' => ∃ r : Int32, o = some (.int r) ∧ kI false w' ∧ kF [] w w' ∧ (r.toInt = 256 * (w 63 28).toInt + (w 63 29).toInt)) := by
  refine kM_of (own := "TaleMachineModel") rfl (by decide) (Nat.le_of_ble_eq_true rfl) ?_
  intro p e s m args below meth c C hr hlk
  have hF0 : kF [] w w := kF.rf
  have c_1 : (1 : Int32).toInt = 1 := by decide
  have c_28 : (28 : Int32).toInt = 28 := by decide
  have c_29 : (29 : Int32).toInt = 29 := by decide
  have c_256 : (256 : Int32).toInt = 256 := by decide
  refine kV.L (L' := [(0, .ref (ρ 61)), (1, .int 28)]) rfl ?_
  refine kv_sipush C 3 rfl 256 (kdec dk_cX10_tapeWord 0 rfl) rfl ?_
  refine kv_aload_n C 4 rfl 0 (kdec dk_cX10_tapeWord 1 rfl) rfl rfl ?_
  refine kv_getr C 7 rfl 61 1 rfl rfl inX10 (by decide) mfl_TaleMachineModel_13 rfl rfl (kdec dk_cX10_tapeWord 2 rfl) ?_
  refine kv_iload_n C 8 rfl 1 (kdec dk_cX10_tapeWord 3 rfl) rfl rfl ?_
  obtain ⟨x1, e2⟩ : ∃ z : Int32, w 63 28 = z := ⟨_, rfl⟩
  have b3 : (0 : Int) ≤ x1.toInt ∧ x1.toInt ≤ 255 := by rw [← e2]; exact hI 63 28
  refine kv_iald C 9 rfl 63 rfl (by omega) (by omega) (show w 63 (28 : Int32).toNatClampNeg = x1 from e2) (kdec dk_cX10_tapeWord 4 rfl) ?_
  refine kv_imul C 10 rfl (kdec dk_cX10_tapeWord 5 rfl) (fun x4 h5e h5l h5u => ?_)
  obtain ⟨q6, g7⟩ := kf_mul 256 x1
  rw [← h5e, c_256] at g7
  try have h5n : x4.toInt = 256 * x1.toInt := by omega
  clear g7 q6
  refine kv_aload_n C 11 rfl 0 (kdec dk_cX10_tapeWord 6 rfl) rfl rfl ?_
  refine kv_getr C 14 rfl 61 1 rfl rfl inX10 (by decide) mfl_TaleMachineModel_13 rfl rfl (kdec dk_cX10_tapeWord 7 rfl) ?_
  refine kv_iload_n C 15 rfl 1 (kdec dk_cX10_tapeWord 8 rfl) rfl rfl ?_
  refine kv_iconst C 16 rfl 1 (kdec dk_cX10_tapeWord 9 rfl) rfl ?_
  refine kv_iadd C 17 rfl (kdec dk_cX10_tapeWord 10 rfl) (fun x8 q10 h9e h9 h9l h9u => ?_)
  try have h9n : x8.toInt = (28 : Int32).toInt + (1 : Int32).toInt := by omega
  clear h9 q10
  obtain rfl : x8 = 29 := by rw [h9e]; decide
  obtain ⟨x11, e12⟩ : ∃ z : Int32, w 63 29 = z := ⟨_, rfl⟩
  have b13 : (0 : Int) ≤ x11.toInt ∧ x11.toInt ≤ 255 := by rw [← e12]; exact hI 63 29
  refine kv_iald C 18 rfl 63 rfl (by omega) (by omega) (show w 63 (29 : Int32).toNatClampNeg = x11 from e12) (kdec dk_cX10_tapeWord 11 rfl) ?_
  refine kv_iadd C 19 rfl (kdec dk_cX10_tapeWord 12 rfl) (fun x14 q16 h15e h15 h15l h15u => ?_)
  try have h15n : x14.toInt = x4.toInt + x11.toInt := by omega
  clear h15 q16
  exact kv_iret C hr hlk (kdec dk_cX10_tapeWord 13 rfl) ⟨_, rfl, hI, hF0, (by rw [e2, e12]; try omega)⟩

set_option maxHeartbeats 4000000 in
set_option maxRecDepth 100000 in
theorem k_x_tapeWord8 (l : Launch) (D : va_G) (τ : Nat → ClassId) (ρ σ : Nat → Nat) (w : kw)  (hI : kI false w)  :
    kM l D τ ρ σ yX10_tapeWord cX10_tapeWord 2 (some .int) { frames := 0, cells := 0, slots := 0, locals := 0 } [.ref (ρ 61), .int 8] w
      (fun o w' => ∃ r : Int32, o = some (.int r) ∧ kI false w' ∧ kF [] w w' ∧ (r.toInt = 256 * (w 63 8).toInt + (w 63 9).toInt)) := by
  refine kM_of (own := "TaleMachineModel") rfl (by decide) (Nat.le_of_ble_eq_true rfl) ?_
  intro p e s m args below meth c C hr hlk
  have hF0 : kF [] w w := kF.rf
  have c_1 : (1 : Int32).toInt = 1 := by decide
  have c_8 : (8 : Int32).toInt = 8 := by decide
  have c_9 : (9 : Int32).toInt = 9 := by decide
  have c_256 : (256 : Int32).toInt = 256 := by decide
  refine kV.L (L' := [(0, .ref (ρ 61)), (1, .int 8)]) rfl ?_
  refine kv_sipush C 3 rfl 256 (kdec dk_cX10_tapeWord 0 rfl) rfl ?_
  refine kv_aload_n C 4 rfl 0 (kdec dk_cX10_tapeWord 1 rfl) rfl rfl ?_
  refine kv_getr C 7 rfl 61 1 rfl rfl inX10 (by decide) mfl_TaleMachineModel_13 rfl rfl (kdec dk_cX10_tapeWord 2 rfl) ?_
  refine kv_iload_n C 8 rfl 1 (kdec dk_cX10_tapeWord 3 rfl) rfl rfl ?_
  obtain ⟨x1, e2⟩ : ∃ z : Int32, w 63 8 = z := ⟨_, rfl⟩
  have b3 : (0 : Int) ≤ x1.toInt ∧ x1.toInt ≤ 255 := by rw [← e2]; exact hI 63 8
  refine kv_iald C 9 rfl 63 rfl (by omega) (by omega) (show w 63 (8 : Int32).toNatClampNeg = x1 from e2) (kdec dk_cX10_tapeWord 4 rfl) ?_
  refine kv_imul C 10 rfl (kdec dk_cX10_tapeWord 5 rfl) (fun x4 h5e h5l h5u => ?_)
  obtain ⟨q6, g7⟩ := kf_mul 256 x1
  rw [← h5e, c_256] at g7
  try have h5n : x4.toInt = 256 * x1.toInt := by omega
  clear g7 q6
  refine kv_aload_n C 11 rfl 0 (kdec dk_cX10_tapeWord 6 rfl) rfl rfl ?_
  refine kv_getr C 14 rfl 61 1 rfl rfl inX10 (by decide) mfl_TaleMachineModel_13 rfl rfl (kdec dk_cX10_tapeWord 7 rfl) ?_
  refine kv_iload_n C 15 rfl 1 (kdec dk_cX10_tapeWord 8 rfl) rfl rfl ?_
  refine kv_iconst C 16 rfl 1 (kdec dk_cX10_tapeWord 9 rfl) rfl ?_
  refine kv_iadd C 17 rfl (kdec dk_cX10_tapeWord 10 rfl) (fun x8 q10 h9e h9 h9l h9u => ?_)
  try have h9n : x8.toInt = (8 : Int32).toInt + (1 : Int32).toInt := by omega
  clear h9 q10
  obtain rfl : x8 = 9 := by rw [h9e]; decide
  obtain ⟨x11, e12⟩ : ∃ z : Int32, w 63 9 = z := ⟨_, rfl⟩
  have b13 : (0 : Int) ≤ x11.toInt ∧ x11.toInt ≤ 255 := by rw [← e12]; exact hI 63 9
  refine kv_iald C 18 rfl 63 rfl (by omega) (by omega) (show w 63 (9 : Int32).toNatClampNeg = x11 from e12) (kdec dk_cX10_tapeWord 11 rfl) ?_
  refine kv_iadd C 19 rfl (kdec dk_cX10_tapeWord 12 rfl) (fun x14 q16 h15e h15 h15l h15u => ?_)
  try have h15n : x14.toInt = x4.toInt + x11.toInt := by omega
  clear h15 q16
  exact kv_iret C hr hlk (kdec dk_cX10_tapeWord 13 rfl) ⟨_, rfl, hI, hF0, (by rw [e2, e12]; try omega)⟩

set_option maxHeartbeats 4000000 in
set_option maxRecDepth 100000 in
theorem k_x_tapeWord10 (l : Launch) (D : va_G) (τ : Nat → ClassId) (ρ σ : Nat → Nat) (w : kw)  (hI : kI false w)  :
    kM l D τ ρ σ yX10_tapeWord cX10_tapeWord 2 (some .int) { frames := 0, cells := 0, slots := 0, locals := 0 } [.ref (ρ 61), .int 10] w
      (fun o w' => ∃ r : Int32, o = some (.int r) ∧ kI false w' ∧ kF [] w w' ∧ (r.toInt = 256 * (w 63 10).toInt + (w 63 11).toInt)) := by
  refine kM_of (own := "TaleMachineModel") rfl (by decide) (Nat.le_of_ble_eq_true rfl) ?_
  intro p e s m args below meth c C hr hlk
  have hF0 : kF [] w w := kF.rf
  have c_1 : (1 : Int32).toInt = 1 := by decide
  have c_10 : (10 : Int32).toInt = 10 := by decide
  have c_11 : (11 : Int32).toInt = 11 := by decide
  have c_256 : (256 : Int32).toInt = 256 := by decide
  refine kV.L (L' := [(0, .ref (ρ 61)), (1, .int 10)]) rfl ?_
  refine kv_sipush C 3 rfl 256 (kdec dk_cX10_tapeWord 0 rfl) rfl ?_
  refine kv_aload_n C 4 rfl 0 (kdec dk_cX10_tapeWord 1 rfl) rfl rfl ?_
  refine kv_getr C 7 rfl 61 1 rfl rfl inX10 (by decide) mfl_TaleMachineModel_13 rfl rfl (kdec dk_cX10_tapeWord 2 rfl) ?_
  refine kv_iload_n C 8 rfl 1 (kdec dk_cX10_tapeWord 3 rfl) rfl rfl ?_
  obtain ⟨x1, e2⟩ : ∃ z : Int32, w 63 10 = z := ⟨_, rfl⟩
  have b3 : (0 : Int) ≤ x1.toInt ∧ x1.toInt ≤ 255 := by rw [← e2]; exact hI 63 10
  refine kv_iald C 9 rfl 63 rfl (by omega) (by omega) (show w 63 (10 : Int32).toNatClampNeg = x1 from e2) (kdec dk_cX10_tapeWord 4 rfl) ?_
  refine kv_imul C 10 rfl (kdec dk_cX10_tapeWord 5 rfl) (fun x4 h5e h5l h5u => ?_)
  obtain ⟨q6, g7⟩ := kf_mul 256 x1
  rw [← h5e, c_256] at g7
  try have h5n : x4.toInt = 256 * x1.toInt := by omega
  clear g7 q6
  refine kv_aload_n C 11 rfl 0 (kdec dk_cX10_tapeWord 6 rfl) rfl rfl ?_
  refine kv_getr C 14 rfl 61 1 rfl rfl inX10 (by decide) mfl_TaleMachineModel_13 rfl rfl (kdec dk_cX10_tapeWord 7 rfl) ?_
  refine kv_iload_n C 15 rfl 1 (kdec dk_cX10_tapeWord 8 rfl) rfl rfl ?_
  refine kv_iconst C 16 rfl 1 (kdec dk_cX10_tapeWord 9 rfl) rfl ?_
  refine kv_iadd C 17 rfl (kdec dk_cX10_tapeWord 10 rfl) (fun x8 q10 h9e h9 h9l h9u => ?_)
  try have h9n : x8.toInt = (10 : Int32).toInt + (1 : Int32).toInt := by omega
  clear h9 q10
  obtain rfl : x8 = 11 := by rw [h9e]; decide
  obtain ⟨x11, e12⟩ : ∃ z : Int32, w 63 11 = z := ⟨_, rfl⟩
  have b13 : (0 : Int) ≤ x11.toInt ∧ x11.toInt ≤ 255 := by rw [← e12]; exact hI 63 11
  refine kv_iald C 18 rfl 63 rfl (by omega) (by omega) (show w 63 (11 : Int32).toNatClampNeg = x11 from e12) (kdec dk_cX10_tapeWord 11 rfl) ?_
  refine kv_iadd C 19 rfl (kdec dk_cX10_tapeWord 12 rfl) (fun x14 q16 h15e h15 h15l h15u => ?_)
  try have h15n : x14.toInt = x4.toInt + x11.toInt := by omega
  clear h15 q16
  exact kv_iret C hr hlk (kdec dk_cX10_tapeWord 13 rfl) ⟨_, rfl, hI, hF0, (by rw [e2, e12]; try omega)⟩

set_option maxHeartbeats 4000000 in
set_option maxRecDepth 100000 in
theorem k_x_tapeWord12 (l : Launch) (D : va_G) (τ : Nat → ClassId) (ρ σ : Nat → Nat) (w : kw)  (hI : kI false w)  :
    kM l D τ ρ σ yX10_tapeWord cX10_tapeWord 2 (some .int) { frames := 0, cells := 0, slots := 0, locals := 0 } [.ref (ρ 61), .int 12] w
      (fun o w' => ∃ r : Int32, o = some (.int r) ∧ kI false w' ∧ kF [] w w' ∧ (r.toInt = 256 * (w 63 12).toInt + (w 63 13).toInt)) := by
  refine kM_of (own := "TaleMachineModel") rfl (by decide) (Nat.le_of_ble_eq_true rfl) ?_
  intro p e s m args below meth c C hr hlk
  have hF0 : kF [] w w := kF.rf
  have c_1 : (1 : Int32).toInt = 1 := by decide
  have c_12 : (12 : Int32).toInt = 12 := by decide
  have c_13 : (13 : Int32).toInt = 13 := by decide
  have c_256 : (256 : Int32).toInt = 256 := by decide
  refine kV.L (L' := [(0, .ref (ρ 61)), (1, .int 12)]) rfl ?_
  refine kv_sipush C 3 rfl 256 (kdec dk_cX10_tapeWord 0 rfl) rfl ?_
  refine kv_aload_n C 4 rfl 0 (kdec dk_cX10_tapeWord 1 rfl) rfl rfl ?_
  refine kv_getr C 7 rfl 61 1 rfl rfl inX10 (by decide) mfl_TaleMachineModel_13 rfl rfl (kdec dk_cX10_tapeWord 2 rfl) ?_
  refine kv_iload_n C 8 rfl 1 (kdec dk_cX10_tapeWord 3 rfl) rfl rfl ?_
  obtain ⟨x1, e2⟩ : ∃ z : Int32, w 63 12 = z := ⟨_, rfl⟩
  have b3 : (0 : Int) ≤ x1.toInt ∧ x1.toInt ≤ 255 := by rw [← e2]; exact hI 63 12
  refine kv_iald C 9 rfl 63 rfl (by omega) (by omega) (show w 63 (12 : Int32).toNatClampNeg = x1 from e2) (kdec dk_cX10_tapeWord 4 rfl) ?_
  refine kv_imul C 10 rfl (kdec dk_cX10_tapeWord 5 rfl) (fun x4 h5e h5l h5u => ?_)
  obtain ⟨q6, g7⟩ := kf_mul 256 x1
  rw [← h5e, c_256] at g7
  try have h5n : x4.toInt = 256 * x1.toInt := by omega
  clear g7 q6
  refine kv_aload_n C 11 rfl 0 (kdec dk_cX10_tapeWord 6 rfl) rfl rfl ?_
  refine kv_getr C 14 rfl 61 1 rfl rfl inX10 (by decide) mfl_TaleMachineModel_13 rfl rfl (kdec dk_cX10_tapeWord 7 rfl) ?_
  refine kv_iload_n C 15 rfl 1 (kdec dk_cX10_tapeWord 8 rfl) rfl rfl ?_
  refine kv_iconst C 16 rfl 1 (kdec dk_cX10_tapeWord 9 rfl) rfl ?_
  refine kv_iadd C 17 rfl (kdec dk_cX10_tapeWord 10 rfl) (fun x8 q10 h9e h9 h9l h9u => ?_)
  try have h9n : x8.toInt = (12 : Int32).toInt + (1 : Int32).toInt := by omega
  clear h9 q10
  obtain rfl : x8 = 13 := by rw [h9e]; decide
  obtain ⟨x11, e12⟩ : ∃ z : Int32, w 63 13 = z := ⟨_, rfl⟩
  have b13 : (0 : Int) ≤ x11.toInt ∧ x11.toInt ≤ 255 := by rw [← e12]; exact hI 63 13
  refine kv_iald C 18 rfl 63 rfl (by omega) (by omega) (show w 63 (13 : Int32).toNatClampNeg = x11 from e12) (kdec dk_cX10_tapeWord 11 rfl) ?_
  refine kv_iadd C 19 rfl (kdec dk_cX10_tapeWord 12 rfl) (fun x14 q16 h15e h15 h15l h15u => ?_)
  try have h15n : x14.toInt = x4.toInt + x11.toInt := by omega
  clear h15 q16
  exact kv_iret C hr hlk (kdec dk_cX10_tapeWord 13 rfl) ⟨_, rfl, hI, hF0, (by rw [e2, e12]; try omega)⟩

set_option maxHeartbeats 4000000 in
set_option maxRecDepth 100000 in
theorem k_x_tapeWord24 (l : Launch) (D : va_G) (τ : Nat → ClassId) (ρ σ : Nat → Nat) (w : kw)  (hI : kI false w)  :
    kM l D τ ρ σ yX10_tapeWord cX10_tapeWord 2 (some .int) { frames := 0, cells := 0, slots := 0, locals := 0 } [.ref (ρ 61), .int 24] w
      (fun o w' => ∃ r : Int32, o = some (.int r) ∧ kI false w' ∧ kF [] w w' ∧ (r.toInt = 256 * (w 63 24).toInt + (w 63 25).toInt)) := by
  refine kM_of (own := "TaleMachineModel") rfl (by decide) (Nat.le_of_ble_eq_true rfl) ?_
  intro p e s m args below meth c C hr hlk
  have hF0 : kF [] w w := kF.rf
  have c_1 : (1 : Int32).toInt = 1 := by decide
  have c_24 : (24 : Int32).toInt = 24 := by decide
  have c_25 : (25 : Int32).toInt = 25 := by decide
  have c_256 : (256 : Int32).toInt = 256 := by decide
  refine kV.L (L' := [(0, .ref (ρ 61)), (1, .int 24)]) rfl ?_
  refine kv_sipush C 3 rfl 256 (kdec dk_cX10_tapeWord 0 rfl) rfl ?_
  refine kv_aload_n C 4 rfl 0 (kdec dk_cX10_tapeWord 1 rfl) rfl rfl ?_
  refine kv_getr C 7 rfl 61 1 rfl rfl inX10 (by decide) mfl_TaleMachineModel_13 rfl rfl (kdec dk_cX10_tapeWord 2 rfl) ?_
  refine kv_iload_n C 8 rfl 1 (kdec dk_cX10_tapeWord 3 rfl) rfl rfl ?_
  obtain ⟨x1, e2⟩ : ∃ z : Int32, w 63 24 = z := ⟨_, rfl⟩
  have b3 : (0 : Int) ≤ x1.toInt ∧ x1.toInt ≤ 255 := by rw [← e2]; exact hI 63 24
  refine kv_iald C 9 rfl 63 rfl (by omega) (by omega) (show w 63 (24 : Int32).toNatClampNeg = x1 from e2) (kdec dk_cX10_tapeWord 4 rfl) ?_
  refine kv_imul C 10 rfl (kdec dk_cX10_tapeWord 5 rfl) (fun x4 h5e h5l h5u => ?_)
  obtain ⟨q6, g7⟩ := kf_mul 256 x1
  rw [← h5e, c_256] at g7
  try have h5n : x4.toInt = 256 * x1.toInt := by omega
  clear g7 q6
  refine kv_aload_n C 11 rfl 0 (kdec dk_cX10_tapeWord 6 rfl) rfl rfl ?_
  refine kv_getr C 14 rfl 61 1 rfl rfl inX10 (by decide) mfl_TaleMachineModel_13 rfl rfl (kdec dk_cX10_tapeWord 7 rfl) ?_
  refine kv_iload_n C 15 rfl 1 (kdec dk_cX10_tapeWord 8 rfl) rfl rfl ?_
  refine kv_iconst C 16 rfl 1 (kdec dk_cX10_tapeWord 9 rfl) rfl ?_
  refine kv_iadd C 17 rfl (kdec dk_cX10_tapeWord 10 rfl) (fun x8 q10 h9e h9 h9l h9u => ?_)
  try have h9n : x8.toInt = (24 : Int32).toInt + (1 : Int32).toInt := by omega
  clear h9 q10
  obtain rfl : x8 = 25 := by rw [h9e]; decide
  obtain ⟨x11, e12⟩ : ∃ z : Int32, w 63 25 = z := ⟨_, rfl⟩
  have b13 : (0 : Int) ≤ x11.toInt ∧ x11.toInt ≤ 255 := by rw [← e12]; exact hI 63 25
  refine kv_iald C 18 rfl 63 rfl (by omega) (by omega) (show w 63 (25 : Int32).toNatClampNeg = x11 from e12) (kdec dk_cX10_tapeWord 11 rfl) ?_
  refine kv_iadd C 19 rfl (kdec dk_cX10_tapeWord 12 rfl) (fun x14 q16 h15e h15 h15l h15u => ?_)
  try have h15n : x14.toInt = x4.toInt + x11.toInt := by omega
  clear h15 q16
  exact kv_iret C hr hlk (kdec dk_cX10_tapeWord 13 rfl) ⟨_, rfl, hI, hF0, (by rw [e2, e12]; try omega)⟩

set_option maxHeartbeats 4000000 in
set_option maxRecDepth 100000 in
theorem k_x_faultOf (l : Launch) (D : va_G) (τ : Nat → ClassId) (ρ σ : Nat → Nat) (w : kw) (a1 : Int32) (hI : kI false w) (hp0 : 0 ≤ a1.toInt ∧ a1.toInt ≤ 1024) :
    kM l D τ ρ σ yX10_faultOf cX10_faultOf 5 (some .int) { frames := 1, cells := 0, slots := 0, locals := 36 } [.ref (ρ 61), .int a1] w
      (fun o w' => ∃ r : Int32, o = some (.int r) ∧ kI false w' ∧ kF [] w w' ∧ (0 ≤ r.toInt ∧ r.toInt ≤ 7) ∧ (64 ≤ a1.toInt ∨ r.toInt = 1) ∧ (¬ r.toInt = 0 ∨ 256 * (w 63 14).toInt + (w 63 15).toInt ≤ a1.toInt)) := by
  refine kM_of (own := "TaleMachineModel") rfl (by decide) (Nat.le_of_ble_eq_true rfl) ?_
  intro p e s m args below meth c C hr hlk
  have hF0 : kF [] w w := kF.rf
  have c_0 : (0 : Int32).toInt = 0 := by decide
  have c_1 : (1 : Int32).toInt = 1 := by decide
  have c_2 : (2 : Int32).toInt = 2 := by decide
  have c_3 : (3 : Int32).toInt = 3 := by decide
  have c_4 : (4 : Int32).toInt = 4 := by decide
  have c_5 : (5 : Int32).toInt = 5 := by decide
  have c_6 : (6 : Int32).toInt = 6 := by decide
  have c_7 : (7 : Int32).toInt = 7 := by decide
  have c_14 : (14 : Int32).toInt = 14 := by decide
  have c_26 : (26 : Int32).toInt = 26 := by decide
  have c_28 : (28 : Int32).toInt = 28 := by decide
  have c_64 : (64 : Int32).toInt = 64 := by decide
  have c_65535 : (65535 : Int32).toInt = 65535 := by decide
  refine kV.L (L' := [(0, .ref (ρ 61)), (1, .int a1)]) rfl ?_
  have g1 := kf_rng a1
  have cut102 : ∀ (n_102 : Nat) (w_102 : kw) (l1_102 l2_102 l3_102 l4_102 : Int32), kI false w_102 → kF [] w w_102 → (64 ≤ l4_102.toInt ∧ l4_102.toInt ≤ 1024) → (64 ≤ l1_102.toInt ∧ l1_102.toInt ≤ 1024 ∧ l1_102.toInt = a1.toInt) → (256 * (w 63 14).toInt + (w 63 15).toInt ≤ a1.toInt) → ((1025 - l4_102.toInt) : Int) < (n_102 : Int) → kV p l e { frames := 1, cells := 0, slots := 0, locals := 36 } s m args below meth c (kQ below args s D τ ρ (fun o w' => ∃ r : Int32, o = some (.int r) ∧ kI false w' ∧ kF [] w w' ∧ (0 ≤ r.toInt ∧ r.toInt ≤ 7) ∧ (64 ≤ a1.toInt ∨ r.toInt = 1) ∧ (¬ r.toInt = 0 ∨ 256 * (w 63 14).toInt + (w 63 15).toInt ≤ a1.toInt))) 5 D τ ρ 102 [(0, .ref (ρ 61)), (1, .int l1_102), (2, .int l2_102), (3, .int l3_102), (4, .int l4_102)] [] w_102 := by
    intro n_102
    induction n_102 with
    | zero => intro w_102 l1_102 l2_102 l3_102 l4_102 I_102 F_102 k102_0 k102_1 k102_2 hmz; exfalso; omega
    | succ n_102 ih102 =>
      intro w_102 l1_102 l2_102 l3_102 l4_102 I_102 F_102 k102_0 k102_1 k102_2 hm102
      have gl1_102 := kf_rng l1_102
      have gl2_102 := kf_rng l2_102
      have gl3_102 := kf_rng l3_102
      have gl4_102 := kf_rng l4_102
      obtain ⟨x2, e3⟩ : ∃ z : Int32, w 63 14 = z := ⟨_, rfl⟩
      have b4 : (0 : Int) ≤ x2.toInt ∧ x2.toInt ≤ 255 := by rw [← e3]; exact hI 63 14
      obtain ⟨x5, e6⟩ : ∃ z : Int32, w 63 15 = z := ⟨_, rfl⟩
      have b7 : (0 : Int) ≤ x5.toInt ∧ x5.toInt ≤ 255 := by rw [← e6]; exact hI 63 15
      rw [e3, e6] at k102_2
      refine kv_iload C 104 rfl 4 (kdec dk_cX10_faultOf 62 rfl) rfl ?_
      refine kv_iload_n C 105 rfl 1 (kdec dk_cX10_faultOf 63 rfl) rfl rfl ?_
      refine kv_icmp_ge C 108 rfl 124 (kdec dk_cX10_faultOf 64 rfl) (by decide) (fun d8 => ?_) (fun d8 => ?_)
      · skip
        refine kv_iload_n C 125 rfl 2 (kdec dk_cX10_faultOf 74 rfl) rfl rfl ?_
        refine kv_if_eq C 128 rfl 146 (kdec dk_cX10_faultOf 75 rfl) (by decide) (fun d9 => ?_) (fun d9 => ?_)
        · skip
          refine kv_iconst C 147 rfl 0 (kdec dk_cX10_faultOf 85 rfl) rfl ?_
          exact kv_iret C hr hlk (kdec dk_cX10_faultOf 86 rfl) ⟨_, rfl, I_102, F_102, (by omega), (by omega), (by rw [e3, e6]; try omega)⟩
        · skip
          refine kv_iload_n C 129 rfl 3 (kdec dk_cX10_faultOf 76 rfl) rfl rfl ?_
          refine kv_ldc C 131 rfl 65535 (kdec dk_cX10_faultOf 77 rfl) mco_TaleMachineModel_104 ?_
          refine kv_iand C 132 rfl (kdec dk_cX10_faultOf 78 rfl) (fun x10 h11e h11l h11u => ?_)
          have g12 := kf_and65535 h11e
          refine kv_aload_n C 133 rfl 0 (kdec dk_cX10_faultOf 79 rfl) rfl rfl ?_
          refine kv_bipush C 135 rfl 28 (kdec dk_cX10_faultOf 80 rfl) rfl ?_
          refine kv_callVi (As := [.int 28]) (rest := [.int x10]) C 138 rfl 61 (k_x_tapeWord28 l D τ ρ σ w_102  I_102 ) rfl rfl mml_TaleMachineModel_98 mim_yX10_tapeWord mse_yX10_tapeWord mcd_yX10_tapeWord min_yX10_tapeWord hd_yX10_tapeWord rfl rfl rfl (by decide) rfl (Nat.le_of_ble_eq_true rfl) (kdec dk_cX10_faultOf 81 rfl) (fun x17 w13 h14 => ?_)
          obtain ⟨I15, f16, p18⟩ := h14
          have F19 : kF [] w w13 := kF_call F_102 f16 (by decide)
          have g20 := kf_rng x17
          obtain ⟨x21, e22⟩ : ∃ z : Int32, w 63 28 = z := ⟨_, rfl⟩
          have b23 : (0 : Int) ≤ x21.toInt ∧ x21.toInt ≤ 255 := by rw [← e22]; exact hI 63 28
          have e24 : w_102 63 28 = x21 := ((F_102 63 28 rfl : w_102 63 28 = w 63 28).trans e22)
          obtain ⟨x25, e26⟩ : ∃ z : Int32, w 63 29 = z := ⟨_, rfl⟩
          have b27 : (0 : Int) ≤ x25.toInt ∧ x25.toInt ≤ 255 := by rw [← e26]; exact hI 63 29
          have e28 : w_102 63 29 = x25 := ((F_102 63 29 rfl : w_102 63 29 = w 63 29).trans e26)
          rw [e24, e28] at p18
          refine kv_icmp_eq C 141 rfl 146 (kdec dk_cX10_faultOf 82 rfl) (by decide) (fun d29 => ?_) (fun d29 => ?_)
          · skip
            refine kv_iconst C 147 rfl 0 (kdec dk_cX10_faultOf 85 rfl) rfl ?_
            exact kv_iret C hr hlk (kdec dk_cX10_faultOf 86 rfl) ⟨_, rfl, I15, F19, (by omega), (by omega), (by rw [e3, e6]; try omega)⟩
          · skip
            refine kv_bipush C 143 rfl 7 (kdec dk_cX10_faultOf 83 rfl) rfl ?_
            refine kv_goto C 147 (kdec dk_cX10_faultOf 84 rfl) (by decide) ?_
            exact kv_iret C hr hlk (kdec dk_cX10_faultOf 86 rfl) ⟨_, rfl, I15, F19, (by omega), (by omega), (by rw [e3, e6]; try omega)⟩
      · skip
        refine kv_iload_n C 109 rfl 3 (kdec dk_cX10_faultOf 65 rfl) rfl rfl ?_
        refine kv_aload_n C 110 rfl 0 (kdec dk_cX10_faultOf 66 rfl) rfl rfl ?_
        refine kv_getr C 113 rfl 61 1 rfl rfl inX10 (by decide) mfl_TaleMachineModel_13 rfl rfl (kdec dk_cX10_faultOf 67 rfl) ?_
        refine kv_iload C 115 rfl 4 (kdec dk_cX10_faultOf 68 rfl) rfl ?_
        obtain ⟨x30, e31⟩ : ∃ z : Int32, w_102 63 (l4_102 : Int32).toNatClampNeg = z := ⟨_, rfl⟩
        have b32 : (0 : Int) ≤ x30.toInt ∧ x30.toInt ≤ 255 := by rw [← e31]; exact I_102 63 _
        refine kv_iald C 116 rfl 63 rfl (by omega) (by omega) e31 (kdec dk_cX10_faultOf 69 rfl) ?_
        refine kv_iadd C 117 rfl (kdec dk_cX10_faultOf 70 rfl) (fun x33 q35 h34e h34 h34l h34u => ?_)
        try have h34n : x33.toInt = l3_102.toInt + x30.toInt := by omega
        clear h34 q35
        refine kv_istore_n C 118 rfl 3 [1, 2, 3, 0, 4] [(0, .ref (ρ 61)), (1, .int l1_102), (2, .int l2_102), (3, .int x33), (4, .int l4_102)] (kdec dk_cX10_faultOf 71 rfl) rfl (by decide) rfl ?_
        refine kv_iinc C 121 rfl 4 4 [1, 2, 3, 4, 0] (fun v9 => [(0, .ref (ρ 61)), (1, .int l1_102), (2, .int l2_102), (3, .int x33), (4, .int v9)]) (kdec dk_cX10_faultOf 72 rfl) rfl (by decide) (fun _ => rfl) 1 rfl (fun x36 q37 h38e h38 h38l h38u => ?_)
        try have h38n : x36.toInt = l4_102.toInt + 1 := by omega
        clear h38 q37
        refine kv_goto C 102 (kdec dk_cX10_faultOf 73 rfl) (by decide) ?_
        exact ih102 w_102 l1_102 l2_102 x33 x36 I_102 F_102 (by omega) (by omega) (by rw [e3, e6]; try omega) (by omega)
  refine kv_iload_n C 1 rfl 1 (kdec dk_cX10_faultOf 0 rfl) rfl rfl ?_
  refine kv_bipush C 3 rfl 64 (kdec dk_cX10_faultOf 1 rfl) rfl ?_
  refine kv_icmp_ge C 6 rfl 8 (kdec dk_cX10_faultOf 2 rfl) (by decide) (fun d39 => ?_) (fun d39 => ?_)
  · skip
    refine kv_aload_n C 9 rfl 0 (kdec dk_cX10_faultOf 5 rfl) rfl rfl ?_
    refine kv_getr C 12 rfl 61 1 rfl rfl inX10 (by decide) mfl_TaleMachineModel_13 rfl rfl (kdec dk_cX10_faultOf 6 rfl) ?_
    refine kv_iconst C 13 rfl 0 (kdec dk_cX10_faultOf 7 rfl) rfl ?_
    obtain ⟨x40, e41⟩ : ∃ z : Int32, w 63 0 = z := ⟨_, rfl⟩
    have b42 : (0 : Int) ≤ x40.toInt ∧ x40.toInt ≤ 255 := by rw [← e41]; exact hI 63 0
    refine kv_iald C 14 rfl 63 rfl (by omega) (by omega) (show w 63 (0 : Int32).toNatClampNeg = x40 from e41) (kdec dk_cX10_faultOf 8 rfl) ?_
    refine kv_iconst C 15 rfl 3 (kdec dk_cX10_faultOf 9 rfl) rfl ?_
    refine kv_icmp_eq C 18 rfl 20 (kdec dk_cX10_faultOf 10 rfl) (by decide) (fun d43 => ?_) (fun d43 => ?_)
    · skip
      refine kv_aload_n C 21 rfl 0 (kdec dk_cX10_faultOf 13 rfl) rfl rfl ?_
      refine kv_bipush C 23 rfl 14 (kdec dk_cX10_faultOf 14 rfl) rfl ?_
      refine kv_callVi (As := [.int 14]) (rest := []) C 26 rfl 61 (k_x_tapeWord14 l D τ ρ σ w  hI ) rfl rfl mml_TaleMachineModel_98 mim_yX10_tapeWord mse_yX10_tapeWord mcd_yX10_tapeWord min_yX10_tapeWord hd_yX10_tapeWord rfl rfl rfl (by decide) rfl (Nat.le_of_ble_eq_true rfl) (kdec dk_cX10_faultOf 15 rfl) (fun x48 w44 h45 => ?_)
      obtain ⟨I46, f47, p49⟩ := h45
      have F50 : kF [] w w44 := kF_call hF0 f47 (by decide)
      have g51 := kf_rng x48
      obtain ⟨x52, e53⟩ : ∃ z : Int32, w 63 14 = z := ⟨_, rfl⟩
      have b54 : (0 : Int) ≤ x52.toInt ∧ x52.toInt ≤ 255 := by rw [← e53]; exact hI 63 14
      obtain ⟨x55, e56⟩ : ∃ z : Int32, w 63 15 = z := ⟨_, rfl⟩
      have b57 : (0 : Int) ≤ x55.toInt ∧ x55.toInt ≤ 255 := by rw [← e56]; exact hI 63 15
      rw [e53, e56] at p49
      refine kv_i2l C 27 rfl (kdec dk_cX10_faultOf 16 rfl) ?_
      have h58 := kf_i2l x48
      refine kv_ldc2 C 30 rfl 64 (kdec dk_cX10_faultOf 17 rfl) mcl_TaleMachineModel_102 ?_
      have h59 : (64 : Int64).toInt = 64 := by decide
      refine kv_iload_n C 31 rfl 1 (kdec dk_cX10_faultOf 18 rfl) rfl rfl ?_
      refine kv_i2l C 32 rfl (kdec dk_cX10_faultOf 19 rfl) ?_
      have h60 := kf_i2l a1
      refine kv_callSi (As := [.long (x48 : Int32).toInt64, .long (64 : Int64), .long (a1 : Int32).toInt64]) (rest := []) C 35 rfl (k_x_in l D τ ρ σ w44 (x48 : Int32).toInt64 (64 : Int64) (a1 : Int32).toInt64 I46 ) mml_TaleMachineModel_94 mst_yX10_in mcd_yX10_in min_yX10_in hd_yX10_in rfl rfl rfl (by decide) rfl (Nat.le_of_ble_eq_true rfl) (kdec dk_cX10_faultOf 20 rfl) (fun x65 w61 h62 => ?_)
      obtain ⟨I63, f64, p66, p67⟩ := h62
      have F68 : kF [] w w61 := kF_call F50 f64 (by decide)
      have g69 := kf_rng x65
      refine kv_if_ne C 38 rfl 40 (kdec dk_cX10_faultOf 21 rfl) (by decide) (fun d70 => ?_) (fun d70 => ?_)
      · skip
        refine kv_aload_n C 41 rfl 0 (kdec dk_cX10_faultOf 24 rfl) rfl rfl ?_
        refine kv_iconst C 42 rfl 4 (kdec dk_cX10_faultOf 25 rfl) rfl ?_
        refine kv_callVi (As := [.int 4]) (rest := []) C 45 rfl 61 (k_x_tapeWord4 l D τ ρ σ w61  I63 ) rfl rfl mml_TaleMachineModel_98 mim_yX10_tapeWord mse_yX10_tapeWord mcd_yX10_tapeWord min_yX10_tapeWord hd_yX10_tapeWord rfl rfl rfl (by decide) rfl (Nat.le_of_ble_eq_true rfl) (kdec dk_cX10_faultOf 26 rfl) (fun x75 w71 h72 => ?_)
        obtain ⟨I73, f74, p76⟩ := h72
        have F77 : kF [] w w71 := kF_call F68 f74 (by decide)
        have g78 := kf_rng x75
        obtain ⟨x79, e80⟩ : ∃ z : Int32, w 63 4 = z := ⟨_, rfl⟩
        have b81 : (0 : Int) ≤ x79.toInt ∧ x79.toInt ≤ 255 := by rw [← e80]; exact hI 63 4
        have e82 : w61 63 4 = x79 := ((f64 63 4 rfl : w61 63 4 = w44 63 4).trans ((f47 63 4 rfl : w44 63 4 = w 63 4).trans e80))
        obtain ⟨x83, e84⟩ : ∃ z : Int32, w 63 5 = z := ⟨_, rfl⟩
        have b85 : (0 : Int) ≤ x83.toInt ∧ x83.toInt ≤ 255 := by rw [← e84]; exact hI 63 5
        have e86 : w61 63 5 = x83 := ((f64 63 5 rfl : w61 63 5 = w44 63 5).trans ((f47 63 5 rfl : w44 63 5 = w 63 5).trans e84))
        rw [e82, e86] at p76
        refine kv_i2l C 46 rfl (kdec dk_cX10_faultOf 27 rfl) ?_
        have h87 := kf_i2l x75
        refine kv_aload_n C 47 rfl 0 (kdec dk_cX10_faultOf 28 rfl) rfl rfl ?_
        refine kv_bipush C 49 rfl 14 (kdec dk_cX10_faultOf 29 rfl) rfl ?_
        refine kv_callVi (As := [.int 14]) (rest := [.long (x75 : Int32).toInt64]) C 52 rfl 61 (k_x_tapeWord14 l D τ ρ σ w71  I73 ) rfl rfl mml_TaleMachineModel_98 mim_yX10_tapeWord mse_yX10_tapeWord mcd_yX10_tapeWord min_yX10_tapeWord hd_yX10_tapeWord rfl rfl rfl (by decide) rfl (Nat.le_of_ble_eq_true rfl) (kdec dk_cX10_faultOf 30 rfl) (fun x92 w88 h89 => ?_)
        obtain ⟨I90, f91, p93⟩ := h89
        have F94 : kF [] w w88 := kF_call F77 f91 (by decide)
        have g95 := kf_rng x92
        have e96 : w71 63 14 = x52 := ((f74 63 14 rfl : w71 63 14 = w61 63 14).trans ((f64 63 14 rfl : w61 63 14 = w44 63 14).trans ((f47 63 14 rfl : w44 63 14 = w 63 14).trans e53)))
        have e97 : w71 63 15 = x55 := ((f74 63 15 rfl : w71 63 15 = w61 63 15).trans ((f64 63 15 rfl : w61 63 15 = w44 63 15).trans ((f47 63 15 rfl : w44 63 15 = w 63 15).trans e56)))
        rw [e96, e97] at p93
        refine kv_i2l C 53 rfl (kdec dk_cX10_faultOf 31 rfl) ?_
        have h98 := kf_i2l x92
        refine kv_iload_n C 54 rfl 1 (kdec dk_cX10_faultOf 32 rfl) rfl rfl ?_
        refine kv_i2l C 55 rfl (kdec dk_cX10_faultOf 33 rfl) ?_
        have h99 := kf_i2l a1
        refine kv_callSi (As := [.long (x75 : Int32).toInt64, .long (x92 : Int32).toInt64, .long (a1 : Int32).toInt64]) (rest := []) C 58 rfl (k_x_in l D τ ρ σ w88 (x75 : Int32).toInt64 (x92 : Int32).toInt64 (a1 : Int32).toInt64 I90 ) mml_TaleMachineModel_94 mst_yX10_in mcd_yX10_in min_yX10_in hd_yX10_in rfl rfl rfl (by decide) rfl (Nat.le_of_ble_eq_true rfl) (kdec dk_cX10_faultOf 34 rfl) (fun x104 w100 h101 => ?_)
        obtain ⟨I102, f103, p105, p106⟩ := h101
        have F107 : kF [] w w100 := kF_call F94 f103 (by decide)
        have g108 := kf_rng x104
        refine kv_if_ne C 61 rfl 63 (kdec dk_cX10_faultOf 35 rfl) (by decide) (fun d109 => ?_) (fun d109 => ?_)
        · skip
          refine kv_aload_n C 64 rfl 0 (kdec dk_cX10_faultOf 38 rfl) rfl rfl ?_
          refine kv_bipush C 66 rfl 6 (kdec dk_cX10_faultOf 39 rfl) rfl ?_
          refine kv_callVi (As := [.int 6]) (rest := []) C 69 rfl 61 (k_x_tapeWord6 l D τ ρ σ w100  I102 ) rfl rfl mml_TaleMachineModel_98 mim_yX10_tapeWord mse_yX10_tapeWord mcd_yX10_tapeWord min_yX10_tapeWord hd_yX10_tapeWord rfl rfl rfl (by decide) rfl (Nat.le_of_ble_eq_true rfl) (kdec dk_cX10_faultOf 40 rfl) (fun x114 w110 h111 => ?_)
          obtain ⟨I112, f113, p115⟩ := h111
          have F116 : kF [] w w110 := kF_call F107 f113 (by decide)
          have g117 := kf_rng x114
          obtain ⟨x118, e119⟩ : ∃ z : Int32, w 63 6 = z := ⟨_, rfl⟩
          have b120 : (0 : Int) ≤ x118.toInt ∧ x118.toInt ≤ 255 := by rw [← e119]; exact hI 63 6
          have e121 : w100 63 6 = x118 := ((f103 63 6 rfl : w100 63 6 = w88 63 6).trans ((f91 63 6 rfl : w88 63 6 = w71 63 6).trans ((f74 63 6 rfl : w71 63 6 = w61 63 6).trans ((f64 63 6 rfl : w61 63 6 = w44 63 6).trans ((f47 63 6 rfl : w44 63 6 = w 63 6).trans e119)))))
          obtain ⟨x122, e123⟩ : ∃ z : Int32, w 63 7 = z := ⟨_, rfl⟩
          have b124 : (0 : Int) ≤ x122.toInt ∧ x122.toInt ≤ 255 := by rw [← e123]; exact hI 63 7
          have e125 : w100 63 7 = x122 := ((f103 63 7 rfl : w100 63 7 = w88 63 7).trans ((f91 63 7 rfl : w88 63 7 = w71 63 7).trans ((f74 63 7 rfl : w71 63 7 = w61 63 7).trans ((f64 63 7 rfl : w61 63 7 = w44 63 7).trans ((f47 63 7 rfl : w44 63 7 = w 63 7).trans e123)))))
          rw [e121, e125] at p115
          refine kv_iload_n C 70 rfl 1 (kdec dk_cX10_faultOf 41 rfl) rfl rfl ?_
          refine kv_icmp_lt C 73 rfl 75 (kdec dk_cX10_faultOf 42 rfl) (by decide) (fun d126 => ?_) (fun d126 => ?_)
          · skip
            refine kv_iconst C 76 rfl 2 (kdec dk_cX10_faultOf 45 rfl) rfl ?_
            refine kv_aload_n C 77 rfl 0 (kdec dk_cX10_faultOf 46 rfl) rfl rfl ?_
            refine kv_bipush C 79 rfl 26 (kdec dk_cX10_faultOf 47 rfl) rfl ?_
            refine kv_callVi (As := [.int 26]) (rest := [.int 2]) C 82 rfl 61 (k_x_tapeWord26 l D τ ρ σ w110  I112 ) rfl rfl mml_TaleMachineModel_98 mim_yX10_tapeWord mse_yX10_tapeWord mcd_yX10_tapeWord min_yX10_tapeWord hd_yX10_tapeWord rfl rfl rfl (by decide) rfl (Nat.le_of_ble_eq_true rfl) (kdec dk_cX10_faultOf 48 rfl) (fun x131 w127 h128 => ?_)
            obtain ⟨I129, f130, p132⟩ := h128
            have F133 : kF [] w w127 := kF_call F116 f130 (by decide)
            have g134 := kf_rng x131
            obtain ⟨x135, e136⟩ : ∃ z : Int32, w 63 26 = z := ⟨_, rfl⟩
            have b137 : (0 : Int) ≤ x135.toInt ∧ x135.toInt ≤ 255 := by rw [← e136]; exact hI 63 26
            have e138 : w110 63 26 = x135 := ((f113 63 26 rfl : w110 63 26 = w100 63 26).trans ((f103 63 26 rfl : w100 63 26 = w88 63 26).trans ((f91 63 26 rfl : w88 63 26 = w71 63 26).trans ((f74 63 26 rfl : w71 63 26 = w61 63 26).trans ((f64 63 26 rfl : w61 63 26 = w44 63 26).trans ((f47 63 26 rfl : w44 63 26 = w 63 26).trans e136))))))
            obtain ⟨x139, e140⟩ : ∃ z : Int32, w 63 27 = z := ⟨_, rfl⟩
            have b141 : (0 : Int) ≤ x139.toInt ∧ x139.toInt ≤ 255 := by rw [← e140]; exact hI 63 27
            have e142 : w110 63 27 = x139 := ((f113 63 27 rfl : w110 63 27 = w100 63 27).trans ((f103 63 27 rfl : w100 63 27 = w88 63 27).trans ((f91 63 27 rfl : w88 63 27 = w71 63 27).trans ((f74 63 27 rfl : w71 63 27 = w61 63 27).trans ((f64 63 27 rfl : w61 63 27 = w44 63 27).trans ((f47 63 27 rfl : w44 63 27 = w 63 27).trans e140))))))
            rw [e138, e142] at p132
            refine kv_imul C 83 rfl (kdec dk_cX10_faultOf 49 rfl) (fun x143 h144e h144l h144u => ?_)
            obtain ⟨q145, g146⟩ := kf_mul 2 x131
            rw [← h144e, c_2] at g146
            try have h144n : x143.toInt = 2 * x131.toInt := by omega
            clear g146 q145
            refine kv_istore_n C 84 rfl 2 [1, 2, 0] [(0, .ref (ρ 61)), (1, .int a1), (2, .int x143)] (kdec dk_cX10_faultOf 50 rfl) rfl (by decide) rfl ?_
            refine kv_iload_n C 85 rfl 2 (kdec dk_cX10_faultOf 51 rfl) rfl rfl ?_
            refine kv_if_eq C 88 rfl 96 (kdec dk_cX10_faultOf 52 rfl) (by decide) (fun d147 => ?_) (fun d147 => ?_)
            · skip
              refine kv_iconst C 97 rfl 0 (kdec dk_cX10_faultOf 58 rfl) rfl ?_
              refine kv_istore_n C 98 rfl 3 [1, 2, 3, 0] [(0, .ref (ρ 61)), (1, .int a1), (2, .int x143), (3, .int 0)] (kdec dk_cX10_faultOf 59 rfl) rfl (by decide) rfl ?_
              refine kv_bipush C 100 rfl 64 (kdec dk_cX10_faultOf 60 rfl) rfl ?_
              refine kv_istore C 102 rfl 4 [1, 2, 3, 4, 0] [(0, .ref (ρ 61)), (1, .int a1), (2, .int x143), (3, .int 0), (4, .int 64)] (kdec dk_cX10_faultOf 61 rfl) (by decide) rfl ?_
              exact cut102 ((((1025 - (64 : Int32).toInt)) : Int).toNat + 1) w127 a1 x143 0 64 I129 F133 (by omega) (by omega) (by rw [e53, e56]; try omega) (by omega)
            · skip
              refine kv_iload_n C 89 rfl 2 (kdec dk_cX10_faultOf 53 rfl) rfl rfl ?_
              refine kv_iload_n C 90 rfl 1 (kdec dk_cX10_faultOf 54 rfl) rfl rfl ?_
              refine kv_icmp_eq C 93 rfl 96 (kdec dk_cX10_faultOf 55 rfl) (by decide) (fun d148 => ?_) (fun d148 => ?_)
              · skip
                refine kv_iconst C 97 rfl 0 (kdec dk_cX10_faultOf 58 rfl) rfl ?_
                refine kv_istore_n C 98 rfl 3 [1, 2, 3, 0] [(0, .ref (ρ 61)), (1, .int a1), (2, .int x143), (3, .int 0)] (kdec dk_cX10_faultOf 59 rfl) rfl (by decide) rfl ?_
                refine kv_bipush C 100 rfl 64 (kdec dk_cX10_faultOf 60 rfl) rfl ?_
                refine kv_istore C 102 rfl 4 [1, 2, 3, 4, 0] [(0, .ref (ρ 61)), (1, .int a1), (2, .int x143), (3, .int 0), (4, .int 64)] (kdec dk_cX10_faultOf 61 rfl) (by decide) rfl ?_
                exact cut102 ((((1025 - (64 : Int32).toInt)) : Int).toNat + 1) w127 a1 x143 0 64 I129 F133 (by omega) (by omega) (by rw [e53, e56]; try omega) (by omega)
              · skip
                refine kv_bipush C 95 rfl 6 (kdec dk_cX10_faultOf 56 rfl) rfl ?_
                exact kv_iret C hr hlk (kdec dk_cX10_faultOf 57 rfl) ⟨_, rfl, I129, F133, (by omega), (by omega), (by rw [e53, e56]; try omega)⟩
          · skip
            refine kv_iconst C 74 rfl 5 (kdec dk_cX10_faultOf 43 rfl) rfl ?_
            exact kv_iret C hr hlk (kdec dk_cX10_faultOf 44 rfl) ⟨_, rfl, I112, F116, (by omega), (by omega), (by rw [e53, e56]; try omega)⟩
        · skip
          refine kv_iconst C 62 rfl 4 (kdec dk_cX10_faultOf 36 rfl) rfl ?_
          exact kv_iret C hr hlk (kdec dk_cX10_faultOf 37 rfl) ⟨_, rfl, I102, F107, (by omega), (by omega), (by rw [e53, e56]; try omega)⟩
      · skip
        refine kv_iconst C 39 rfl 3 (kdec dk_cX10_faultOf 22 rfl) rfl ?_
        exact kv_iret C hr hlk (kdec dk_cX10_faultOf 23 rfl) ⟨_, rfl, I63, F68, (by omega), (by omega), (by rw [e53, e56]; try omega)⟩
    · skip
      refine kv_iconst C 19 rfl 2 (kdec dk_cX10_faultOf 11 rfl) rfl ?_
      obtain ⟨x149, e150⟩ : ∃ z : Int32, w 63 14 = z := ⟨_, rfl⟩
      have b151 : (0 : Int) ≤ x149.toInt ∧ x149.toInt ≤ 255 := by rw [← e150]; exact hI 63 14
      obtain ⟨x152, e153⟩ : ∃ z : Int32, w 63 15 = z := ⟨_, rfl⟩
      have b154 : (0 : Int) ≤ x152.toInt ∧ x152.toInt ≤ 255 := by rw [← e153]; exact hI 63 15
      exact kv_iret C hr hlk (kdec dk_cX10_faultOf 12 rfl) ⟨_, rfl, hI, hF0, (by omega), (by omega), (by rw [e150, e153]; try omega)⟩
  · skip
    refine kv_iconst C 7 rfl 1 (kdec dk_cX10_faultOf 3 rfl) rfl ?_
    obtain ⟨x155, e156⟩ : ∃ z : Int32, w 63 14 = z := ⟨_, rfl⟩
    have b157 : (0 : Int) ≤ x155.toInt ∧ x155.toInt ≤ 255 := by rw [← e156]; exact hI 63 14
    obtain ⟨x158, e159⟩ : ∃ z : Int32, w 63 15 = z := ⟨_, rfl⟩
    have b160 : (0 : Int) ≤ x158.toInt ∧ x158.toInt ≤ 255 := by rw [← e159]; exact hI 63 15
    exact kv_iret C hr hlk (kdec dk_cX10_faultOf 4 rfl) ⟨_, rfl, hI, hF0, (by omega), (by omega), (by rw [e156, e159]; try omega)⟩
