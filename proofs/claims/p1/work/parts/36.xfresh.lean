set_option maxHeartbeats 4000000 in
set_option maxRecDepth 100000 in
theorem k_z_in (l : Launch) (D : va_G) (τ : Nat → ClassId) (ρ σ : Nat → Nat) (w : kw) (a1 : Int64) (a2 : Int64) (a3 : Int64) (hI : kI false w)  :
    kM l D τ ρ σ yX10_in cX10_in 6 (some .boolean) { frames := 0, cells := 0, slots := 0, locals := 0 } [.long a1, .long a2, .long a3] w
      (fun o w' => ∃ r : Int32, o = some (.int r) ∧ kI false w' ∧ kF [] w w' ∧ (r.toInt = 1 ∧ a2.toInt ≤ a1.toInt ∧ a1.toInt ≤ a3.toInt ∨ r.toInt = 0 ∧ (a1.toInt < a2.toInt ∨ a3.toInt < a1.toInt)) ∧ (0 ≤ r.toInt ∧ r.toInt ≤ 1)) := by
  refine kM_of (own := "TaleMachineModel") rfl (by decide) (Nat.le_of_ble_eq_true rfl) ?_
  intro p e s m args below meth c C hr hlk
  have hF0 : kF [] w w := kF.rf
  have c_0 : (0 : Int32).toInt = 0 := by decide
  have c_1 : (1 : Int32).toInt = 1 := by decide
  refine kV.L (L' := [(0, .long a1), (2, .long a2), (4, .long a3)]) rfl ?_
  refine kv_lload_n C 1 rfl 0 (kdec dk_cX10_in 0 rfl) rfl rfl ?_
  refine kv_lload_n C 2 rfl 1 (kdec dk_cX10_in 1 rfl) rfl rfl ?_
  refine kv_lcmp C 3 rfl (kdec dk_cX10_in 2 rfl) ?_
  generalize h2e : lg_cmp a1 a2 = x1
  have h2 := kf_lcmp h2e
  refine kv_if_lt C 6 rfl 17 (kdec dk_cX10_in 3 rfl) (by decide) (fun d3 => ?_) (fun d3 => ?_)
  · skip
    refine kv_iconst C 18 rfl 0 (kdec dk_cX10_in 10 rfl) rfl ?_
    exact kv_zret C hr hlk (kdec dk_cX10_in 11 rfl) (kf_bool (by decide)) ⟨_, rfl, hI, hF0, (by omega), (by omega)⟩
  · skip
    refine kv_lload_n C 7 rfl 0 (kdec dk_cX10_in 4 rfl) rfl rfl ?_
    refine kv_lload C 9 rfl 2 (kdec dk_cX10_in 5 rfl) rfl ?_
    refine kv_lcmp C 10 rfl (kdec dk_cX10_in 6 rfl) ?_
    generalize h5e : lg_cmp a1 a3 = x4
    have h5 := kf_lcmp h5e
    refine kv_if_gt C 13 rfl 17 (kdec dk_cX10_in 7 rfl) (by decide) (fun d6 => ?_) (fun d6 => ?_)
    · skip
      refine kv_iconst C 18 rfl 0 (kdec dk_cX10_in 10 rfl) rfl ?_
      exact kv_zret C hr hlk (kdec dk_cX10_in 11 rfl) (kf_bool (by decide)) ⟨_, rfl, hI, hF0, (by omega), (by omega)⟩
    · skip
      refine kv_iconst C 14 rfl 1 (kdec dk_cX10_in 8 rfl) rfl ?_
      refine kv_goto C 18 (kdec dk_cX10_in 9 rfl) (by decide) ?_
      exact kv_zret C hr hlk (kdec dk_cX10_in 11 rfl) (kf_bool (by decide)) ⟨_, rfl, hI, hF0, (by omega), (by omega)⟩

set_option maxHeartbeats 4000000 in
set_option maxRecDepth 100000 in
theorem k_z_four (l : Launch) (D : va_G) (τ : Nat → ClassId) (ρ σ : Nat → Nat) (w : kw) (a1 : Int32) (hI : kI false w) (hp0 : (w 61 2).toInt ≤ 1020) :
    kM l D τ ρ σ yX10_four cX10_four 3 none { frames := 0, cells := 0, slots := 0, locals := 0 } [.ref (ρ 61), .int a1] w
      (fun o w' => o = none ∧ kI false w' ∧ kF [(61, some 2), (63, none)] w w' ∧ ((w' 61 2).toInt = (w 61 2).toInt + 4)) := by
  refine kM_of (own := "TaleMachineModel") rfl (by decide) (Nat.le_of_ble_eq_true rfl) ?_
  intro p e s m args below meth c C hr hlk
  have hF0 : kF [(61, some 2), (63, none)] w w := kF.rf
  have c_1 : (1 : Int32).toInt = 1 := by decide
  have c_24 : (24 : Int32).toInt = 24 := by decide
  have c_255 : (255 : Int32).toInt = 255 := by decide
  refine kV.L (L' := [(0, .ref (ρ 61)), (1, .int a1)]) rfl ?_
  obtain ⟨x1, e2⟩ : ∃ z : Int32, w 61 2 = z := ⟨_, rfl⟩
  have b3 : (0 : Int) ≤ x1.toInt ∧ x1.toInt ≤ 1024 := by rw [← e2]; exact hI 61 2
  rw [e2] at hp0
  have g4 := kf_rng a1
  have cut3 : ∀ (n_3 : Nat) (w_3 : kw) (l1_3 l2_3 : Int32), kI false w_3 → kF [(61, some 2), (63, none)] w w_3 → (-8 ≤ l2_3.toInt ∧ l2_3.toInt ≤ 24) → (8 * ((w_3 61 2).toInt - (w 61 2).toInt) = 24 - l2_3.toInt) → ((l2_3.toInt + 8) : Int) < (n_3 : Int) → kV p l e { frames := 0, cells := 0, slots := 0, locals := 0 } s m args below meth c (kQ below args s D τ ρ (fun o w' => o = none ∧ kI false w' ∧ kF [(61, some 2), (63, none)] w w' ∧ ((w' 61 2).toInt = (w 61 2).toInt + 4))) 3 D τ ρ 3 [(0, .ref (ρ 61)), (1, .int l1_3), (2, .int l2_3)] [] w_3 := by
    intro n_3
    induction n_3 with
    | zero => intro w_3 l1_3 l2_3 I_3 F_3 k3_0 k3_1 hmz; exfalso; omega
    | succ n_3 ih3 =>
      intro w_3 l1_3 l2_3 I_3 F_3 k3_0 k3_1 hm3
      have gl1_3 := kf_rng l1_3
      have gl2_3 := kf_rng l2_3
      obtain ⟨x5, e6⟩ : ∃ z : Int32, w_3 61 2 = z := ⟨_, rfl⟩
      have b7 : (0 : Int) ≤ x5.toInt ∧ x5.toInt ≤ 1024 := by rw [← e6]; exact I_3 61 2
      rw [e2, e6] at k3_1
      refine kv_iload_n C 4 rfl 2 (kdec dk_cX10_four 2 rfl) rfl rfl ?_
      refine kv_if_lt C 7 rfl 39 (kdec dk_cX10_four 3 rfl) (by decide) (fun d8 => ?_) (fun d8 => ?_)
      · skip
        exact kv_vret C hr hlk (kdec dk_cX10_four 22 rfl) ⟨rfl, I_3, F_3, (by rw [e2, e6]; try omega)⟩
      · skip
        refine kv_aload_n C 8 rfl 0 (kdec dk_cX10_four 4 rfl) rfl rfl ?_
        refine kv_getr C 11 rfl 61 1 rfl rfl inX10 (by decide) mfl_TaleMachineModel_13 rfl rfl (kdec dk_cX10_four 5 rfl) ?_
        refine kv_aload_n C 12 rfl 0 (kdec dk_cX10_four 6 rfl) rfl rfl ?_
        refine kv_get C 15 rfl 61 2 rfl rfl inX10 (by decide) mfl_TaleMachineModel_86 rfl rfl (kdec dk_cX10_four 7 rfl) e6 ?_
        refine kv_iload_n C 16 rfl 1 (kdec dk_cX10_four 8 rfl) rfl rfl ?_
        refine kv_iload_n C 17 rfl 2 (kdec dk_cX10_four 9 rfl) rfl rfl ?_
        refine kv_ishr C 18 rfl (kdec dk_cX10_four 10 rfl) (fun x9 h10e h10l h10u => ?_)
        refine kv_sipush C 21 rfl 255 (kdec dk_cX10_four 11 rfl) rfl ?_
        refine kv_iand C 22 rfl (kdec dk_cX10_four 12 rfl) (fun x11 h12e h12l h12u => ?_)
        have g13 := kf_and255 h12e
        refine kv_iast C 23 rfl 63 rfl (by omega) (by omega) (kdec dk_cX10_four 13 rfl) (fun w14 u15 => ?_)
        have I16 : kI false w14 := kI_put u15 I_3 (show (0 : Int) ≤ (x11 : Int32).toInt by omega) (show (x11 : Int32).toInt ≤ 255 by omega)
        have F17 : kF [(61, some 2), (63, none)] w w14 := kF_put u15 F_3 rfl
        refine kv_aload_n C 24 rfl 0 (kdec dk_cX10_four 14 rfl) rfl rfl ?_
        refine kv_dup C 25 rfl (kdec dk_cX10_four 15 rfl) rfl ?_
        have e18 : w14 61 2 = x5 := ((kup_ne u15 rfl : w14 61 2 = w_3 61 2).trans e6)
        refine kv_get C 28 rfl 61 2 rfl rfl inX10 (by decide) mfl_TaleMachineModel_86 rfl rfl (kdec dk_cX10_four 16 rfl) e18 ?_
        refine kv_iconst C 29 rfl 1 (kdec dk_cX10_four 17 rfl) rfl ?_
        refine kv_iadd C 30 rfl (kdec dk_cX10_four 18 rfl) (fun x19 q21 h20e h20 h20l h20u => ?_)
        try have h20n : x19.toInt = x5.toInt + (1 : Int32).toInt := by omega
        clear h20 q21
        refine kv_put C 33 rfl 61 2 rfl rfl inX10 (by decide) mfl_TaleMachineModel_86 rfl tyX10 tyX10_ok nmX10 rfl rfl (kdec dk_cX10_four 19 rfl) rfl rfl (fun w22 u23 => ?_)
        have I24 : kI false w22 := kI_put u23 I16 (show (0 : Int) ≤ (x19 : Int32).toInt by omega) (show (x19 : Int32).toInt ≤ 1024 by omega)
        have F25 : kF [(61, some 2), (63, none)] w w22 := kF_put u23 F17 rfl
        refine kv_iinc C 36 rfl 2 2 [1, 2, 0] (fun v9 => [(0, .ref (ρ 61)), (1, .int l1_3), (2, .int v9)]) (kdec dk_cX10_four 20 rfl) rfl (by decide) (fun _ => rfl) (-8) rfl (fun x26 q27 h28e h28 h28l h28u => ?_)
        try have h28n : x26.toInt = l2_3.toInt + (-8) := by omega
        clear h28 q27
        refine kv_goto C 3 (kdec dk_cX10_four 21 rfl) (by decide) ?_
        exact ih3 w22 l1_3 x26 I24 F25 (by omega) (by rw [e2, (kup_eq u23)]; try omega) (by omega)
  refine kv_bipush C 2 rfl 24 (kdec dk_cX10_four 0 rfl) rfl ?_
  refine kv_istore_n C 3 rfl 2 [1, 2, 0] [(0, .ref (ρ 61)), (1, .int a1), (2, .int 24)] (kdec dk_cX10_four 1 rfl) rfl (by decide) rfl ?_
  exact cut3 (((((24 : Int32).toInt + 8)) : Int).toNat + 1) w a1 24 hI hF0 (by omega) (by rw [e2]; try omega) (by omega)

set_option maxHeartbeats 4000000 in
set_option maxRecDepth 100000 in
theorem k_z_faultOf (l : Launch) (D : va_G) (τ : Nat → ClassId) (ρ σ : Nat → Nat) (w : kw)  (hI : kI false w)  :
    kM l D τ ρ σ yX10_faultOf cX10_faultOf 5 (some .int) { frames := 0, cells := 0, slots := 0, locals := 0 } [.ref (ρ 61), .int 0] w
      (fun o w' => ∃ r : Int32, o = some (.int r) ∧ kI false w' ∧ kF [] w w' ∧ (r.toInt = 1)) := by
  refine kM_of (own := "TaleMachineModel") rfl (by decide) (Nat.le_of_ble_eq_true rfl) ?_
  intro p e s m args below meth c C hr hlk
  have hF0 : kF [] w w := kF.rf
  have c_0 : (0 : Int32).toInt = 0 := by decide
  have c_1 : (1 : Int32).toInt = 1 := by decide
  have c_64 : (64 : Int32).toInt = 64 := by decide
  refine kV.L (L' := [(0, .ref (ρ 61)), (1, .int 0)]) rfl ?_
  refine kv_iload_n C 1 rfl 1 (kdec dk_cX10_faultOf 0 rfl) rfl rfl ?_
  refine kv_bipush C 3 rfl 64 (kdec dk_cX10_faultOf 1 rfl) rfl ?_
  refine kv_icmp_ge C 6 rfl 8 (kdec dk_cX10_faultOf 2 rfl) (by decide) (fun d1 => ?_) (fun d1 => ?_)
  · exfalso; omega
  · skip
    refine kv_iconst C 7 rfl 1 (kdec dk_cX10_faultOf 3 rfl) rfl ?_
    exact kv_iret C hr hlk (kdec dk_cX10_faultOf 4 rfl) ⟨_, rfl, hI, hF0, (by omega)⟩

set_option maxHeartbeats 4000000 in
set_option maxRecDepth 100000 in
theorem k_z_feed (l : Launch) (D : va_G) (τ : Nat → ClassId) (ρ σ : Nat → Nat) (w : kw) (a1 : Int32) (a2 : Int32) (a3 : Int32) (a4 : Int32) (a5 : Int32) (a6 : Int32) (a7 : Int32) (a8 : Int32) (hI : kI false w) (hx_61_2 : w 61 2 = 0) :
    kM l D τ ρ σ yX10_feed cX10_feed 9 (some .int) { frames := 1, cells := 0, slots := 0, locals := 36 } [.ref (ρ 61), .int a1, .int a2, .int a3, .int a4, .int a5, .int a6, .int a7, .int a8] w
      (fun o w' => ∃ r : Int32, o = some (.int r) ∧ kI false w' ∧ kF [(61, some 2), (63, none)] w w' ∧ (r.toInt = 32)) := by
  refine kM_of (own := "TaleMachineModel") rfl (by decide) (Nat.le_of_ble_eq_true rfl) ?_
  intro p e s m args below meth c C hr hlk
  have hF0 : kF [(61, some 2), (63, none)] w w := kF.rf
  have c_0 : (0 : Int32).toInt = 0 := by decide
  have c_32 : (32 : Int32).toInt = 32 := by decide
  have c_1024 : (1024 : Int32).toInt = 1024 := by decide
  refine kV.L (L' := [(0, .ref (ρ 61)), (1, .int a1), (2, .int a2), (3, .int a3), (4, .int a4), (5, .int a5), (6, .int a6), (7, .int a7), (8, .int a8)]) rfl ?_
  have g1 := kf_rng a1
  have g2 := kf_rng a2
  have g3 := kf_rng a3
  have g4 := kf_rng a4
  have g5 := kf_rng a5
  have g6 := kf_rng a6
  have g7 := kf_rng a7
  have g8 := kf_rng a8
  refine kv_aload_n C 1 rfl 0 (kdec dk_cX10_feed 0 rfl) rfl rfl ?_
  refine kv_get C 4 rfl 61 2 rfl rfl inX10 (by decide) mfl_TaleMachineModel_86 rfl rfl (kdec dk_cX10_feed 1 rfl) hx_61_2 ?_
  refine kv_bipush C 6 rfl 32 (kdec dk_cX10_feed 2 rfl) rfl ?_
  refine kv_iadd C 7 rfl (kdec dk_cX10_feed 3 rfl) (fun x9 q11 h10e h10 h10l h10u => ?_)
  try have h10n : x9.toInt = (0 : Int32).toInt + (32 : Int32).toInt := by omega
  clear h10 q11
  obtain rfl : x9 = 32 := by rw [h10e]; decide
  refine kv_sipush C 10 rfl 1024 (kdec dk_cX10_feed 4 rfl) rfl ?_
  refine kv_icmp_le C 13 rfl 16 (kdec dk_cX10_feed 5 rfl) (by decide) (fun d12 => ?_) (fun d12 => ?_)
  · skip
    refine kv_aload_n C 17 rfl 0 (kdec dk_cX10_feed 8 rfl) rfl rfl ?_
    refine kv_iload_n C 18 rfl 1 (kdec dk_cX10_feed 9 rfl) rfl rfl ?_
    refine kv_callVv (As := [.int a1]) (rest := []) C 21 rfl 61 (k_z_four l D τ ρ σ w a1 hI (by rw [hx_61_2]; try omega)) rfl rfl mml_TaleMachineModel_90 mim_yX10_four mse_yX10_four mcd_yX10_four min_yX10_four hd_yX10_four rfl rfl rfl (by decide) rfl (Nat.le_of_ble_eq_true rfl) (kdec dk_cX10_feed 10 rfl) (fun w13 h14 => ?_)
    obtain ⟨I15, f16, p18⟩ := h14
    have F19 : kF [(61, some 2), (63, none)] w w13 := kF_call hF0 f16 (by decide)
    obtain ⟨x20, e21⟩ : ∃ z : Int32, w13 61 2 = z := ⟨_, rfl⟩
    have b22 : (0 : Int) ≤ x20.toInt ∧ x20.toInt ≤ 1024 := by rw [← e21]; exact I15 61 2
    rw [hx_61_2, e21] at p18
    refine kv_aload_n C 22 rfl 0 (kdec dk_cX10_feed 11 rfl) rfl rfl ?_
    refine kv_iload_n C 23 rfl 2 (kdec dk_cX10_feed 12 rfl) rfl rfl ?_
    refine kv_callVv (As := [.int a2]) (rest := []) C 26 rfl 61 (k_z_four l D τ ρ σ w13 a2 I15 (by rw [e21]; try omega)) rfl rfl mml_TaleMachineModel_90 mim_yX10_four mse_yX10_four mcd_yX10_four min_yX10_four hd_yX10_four rfl rfl rfl (by decide) rfl (Nat.le_of_ble_eq_true rfl) (kdec dk_cX10_feed 13 rfl) (fun w23 h24 => ?_)
    obtain ⟨I25, f26, p28⟩ := h24
    have F29 : kF [(61, some 2), (63, none)] w w23 := kF_call F19 f26 (by decide)
    obtain ⟨x30, e31⟩ : ∃ z : Int32, w23 61 2 = z := ⟨_, rfl⟩
    have b32 : (0 : Int) ≤ x30.toInt ∧ x30.toInt ≤ 1024 := by rw [← e31]; exact I25 61 2
    rw [e21, e31] at p28
    refine kv_aload_n C 27 rfl 0 (kdec dk_cX10_feed 14 rfl) rfl rfl ?_
    refine kv_iload_n C 28 rfl 3 (kdec dk_cX10_feed 15 rfl) rfl rfl ?_
    refine kv_callVv (As := [.int a3]) (rest := []) C 31 rfl 61 (k_z_four l D τ ρ σ w23 a3 I25 (by rw [e31]; try omega)) rfl rfl mml_TaleMachineModel_90 mim_yX10_four mse_yX10_four mcd_yX10_four min_yX10_four hd_yX10_four rfl rfl rfl (by decide) rfl (Nat.le_of_ble_eq_true rfl) (kdec dk_cX10_feed 16 rfl) (fun w33 h34 => ?_)
    obtain ⟨I35, f36, p38⟩ := h34
    have F39 : kF [(61, some 2), (63, none)] w w33 := kF_call F29 f36 (by decide)
    obtain ⟨x40, e41⟩ : ∃ z : Int32, w33 61 2 = z := ⟨_, rfl⟩
    have b42 : (0 : Int) ≤ x40.toInt ∧ x40.toInt ≤ 1024 := by rw [← e41]; exact I35 61 2
    rw [e31, e41] at p38
    refine kv_aload_n C 32 rfl 0 (kdec dk_cX10_feed 17 rfl) rfl rfl ?_
    refine kv_iload C 34 rfl 4 (kdec dk_cX10_feed 18 rfl) rfl ?_
    refine kv_callVv (As := [.int a4]) (rest := []) C 37 rfl 61 (k_z_four l D τ ρ σ w33 a4 I35 (by rw [e41]; try omega)) rfl rfl mml_TaleMachineModel_90 mim_yX10_four mse_yX10_four mcd_yX10_four min_yX10_four hd_yX10_four rfl rfl rfl (by decide) rfl (Nat.le_of_ble_eq_true rfl) (kdec dk_cX10_feed 19 rfl) (fun w43 h44 => ?_)
    obtain ⟨I45, f46, p48⟩ := h44
    have F49 : kF [(61, some 2), (63, none)] w w43 := kF_call F39 f46 (by decide)
    obtain ⟨x50, e51⟩ : ∃ z : Int32, w43 61 2 = z := ⟨_, rfl⟩
    have b52 : (0 : Int) ≤ x50.toInt ∧ x50.toInt ≤ 1024 := by rw [← e51]; exact I45 61 2
    rw [e41, e51] at p48
    refine kv_aload_n C 38 rfl 0 (kdec dk_cX10_feed 20 rfl) rfl rfl ?_
    refine kv_iload C 40 rfl 5 (kdec dk_cX10_feed 21 rfl) rfl ?_
    refine kv_callVv (As := [.int a5]) (rest := []) C 43 rfl 61 (k_z_four l D τ ρ σ w43 a5 I45 (by rw [e51]; try omega)) rfl rfl mml_TaleMachineModel_90 mim_yX10_four mse_yX10_four mcd_yX10_four min_yX10_four hd_yX10_four rfl rfl rfl (by decide) rfl (Nat.le_of_ble_eq_true rfl) (kdec dk_cX10_feed 22 rfl) (fun w53 h54 => ?_)
    obtain ⟨I55, f56, p58⟩ := h54
    have F59 : kF [(61, some 2), (63, none)] w w53 := kF_call F49 f56 (by decide)
    obtain ⟨x60, e61⟩ : ∃ z : Int32, w53 61 2 = z := ⟨_, rfl⟩
    have b62 : (0 : Int) ≤ x60.toInt ∧ x60.toInt ≤ 1024 := by rw [← e61]; exact I55 61 2
    rw [e51, e61] at p58
    refine kv_aload_n C 44 rfl 0 (kdec dk_cX10_feed 23 rfl) rfl rfl ?_
    refine kv_iload C 46 rfl 6 (kdec dk_cX10_feed 24 rfl) rfl ?_
    refine kv_callVv (As := [.int a6]) (rest := []) C 49 rfl 61 (k_z_four l D τ ρ σ w53 a6 I55 (by rw [e61]; try omega)) rfl rfl mml_TaleMachineModel_90 mim_yX10_four mse_yX10_four mcd_yX10_four min_yX10_four hd_yX10_four rfl rfl rfl (by decide) rfl (Nat.le_of_ble_eq_true rfl) (kdec dk_cX10_feed 25 rfl) (fun w63 h64 => ?_)
    obtain ⟨I65, f66, p68⟩ := h64
    have F69 : kF [(61, some 2), (63, none)] w w63 := kF_call F59 f66 (by decide)
    obtain ⟨x70, e71⟩ : ∃ z : Int32, w63 61 2 = z := ⟨_, rfl⟩
    have b72 : (0 : Int) ≤ x70.toInt ∧ x70.toInt ≤ 1024 := by rw [← e71]; exact I65 61 2
    rw [e61, e71] at p68
    refine kv_aload_n C 50 rfl 0 (kdec dk_cX10_feed 26 rfl) rfl rfl ?_
    refine kv_iload C 52 rfl 7 (kdec dk_cX10_feed 27 rfl) rfl ?_
    refine kv_callVv (As := [.int a7]) (rest := []) C 55 rfl 61 (k_z_four l D τ ρ σ w63 a7 I65 (by rw [e71]; try omega)) rfl rfl mml_TaleMachineModel_90 mim_yX10_four mse_yX10_four mcd_yX10_four min_yX10_four hd_yX10_four rfl rfl rfl (by decide) rfl (Nat.le_of_ble_eq_true rfl) (kdec dk_cX10_feed 28 rfl) (fun w73 h74 => ?_)
    obtain ⟨I75, f76, p78⟩ := h74
    have F79 : kF [(61, some 2), (63, none)] w w73 := kF_call F69 f76 (by decide)
    obtain ⟨x80, e81⟩ : ∃ z : Int32, w73 61 2 = z := ⟨_, rfl⟩
    have b82 : (0 : Int) ≤ x80.toInt ∧ x80.toInt ≤ 1024 := by rw [← e81]; exact I75 61 2
    rw [e71, e81] at p78
    refine kv_aload_n C 56 rfl 0 (kdec dk_cX10_feed 29 rfl) rfl rfl ?_
    refine kv_iload C 58 rfl 8 (kdec dk_cX10_feed 30 rfl) rfl ?_
    refine kv_callVv (As := [.int a8]) (rest := []) C 61 rfl 61 (k_z_four l D τ ρ σ w73 a8 I75 (by rw [e81]; try omega)) rfl rfl mml_TaleMachineModel_90 mim_yX10_four mse_yX10_four mcd_yX10_four min_yX10_four hd_yX10_four rfl rfl rfl (by decide) rfl (Nat.le_of_ble_eq_true rfl) (kdec dk_cX10_feed 31 rfl) (fun w83 h84 => ?_)
    obtain ⟨I85, f86, p88⟩ := h84
    have F89 : kF [(61, some 2), (63, none)] w w83 := kF_call F79 f86 (by decide)
    obtain ⟨x90, e91⟩ : ∃ z : Int32, w83 61 2 = z := ⟨_, rfl⟩
    have b92 : (0 : Int) ≤ x90.toInt ∧ x90.toInt ≤ 1024 := by rw [← e91]; exact I85 61 2
    rw [e81, e91] at p88
    refine kv_aload_n C 62 rfl 0 (kdec dk_cX10_feed 32 rfl) rfl rfl ?_
    refine kv_get C 65 rfl 61 2 rfl rfl inX10 (by decide) mfl_TaleMachineModel_86 rfl rfl (kdec dk_cX10_feed 33 rfl) e91 ?_
    exact kv_iret C hr hlk (kdec dk_cX10_feed 34 rfl) ⟨_, rfl, I85, F89, (by omega)⟩
  · exfalso; omega

set_option maxHeartbeats 4000000 in
set_option maxRecDepth 100000 in
theorem k_z_end (l : Launch) (D : va_G) (τ : Nat → ClassId) (ρ σ : Nat → Nat) (w : kw) (a1 : Int32) (hI : kI false w) (hx_61_2 : w 61 2 = 0) :
    kM l D τ ρ σ yX10_end cX10_end 3 (some .int) { frames := 1, cells := 0, slots := 0, locals := 36 } [.ref (ρ 61), .int a1] w
      (fun o w' => ∃ r : Int32, o = some (.int r) ∧ kI false w' ∧ kF [(61, some 2)] w w' ∧ (a1.toInt = 0 ∧ r.toInt = 0 ∨ ¬ a1.toInt = 0 ∧ r.toInt = -1)) := by
  refine kM_of (own := "TaleMachineModel") rfl (by decide) (Nat.le_of_ble_eq_true rfl) ?_
  intro p e s m args below meth c C hr hlk
  have hF0 : kF [(61, some 2)] w w := kF.rf
  have c_m1 : (-1 : Int32).toInt = -1 := by decide
  have c_0 : (0 : Int32).toInt = 0 := by decide
  refine kV.L (L' := [(0, .ref (ρ 61)), (1, .int a1)]) rfl ?_
  have g1 := kf_rng a1
  refine kv_iload_n C 1 rfl 1 (kdec dk_cX10_end 0 rfl) rfl rfl ?_
  refine kv_i2l C 2 rfl (kdec dk_cX10_end 1 rfl) ?_
  have h2 := kf_i2l a1
  refine kv_lconst C 3 rfl 0 (kdec dk_cX10_end 2 rfl) rfl ?_
  have h3 : (0 : Int64).toInt = 0 := by decide
  refine kv_aload_n C 4 rfl 0 (kdec dk_cX10_end 3 rfl) rfl rfl ?_
  refine kv_get C 7 rfl 61 2 rfl rfl inX10 (by decide) mfl_TaleMachineModel_86 rfl rfl (kdec dk_cX10_end 4 rfl) hx_61_2 ?_
  refine kv_i2l C 8 rfl (kdec dk_cX10_end 5 rfl) ?_
  have h4 := kf_i2l 0
  refine kv_callSi (As := [.long (a1 : Int32).toInt64, .long (0 : Int64), .long (0 : Int32).toInt64]) (rest := []) C 11 rfl (k_z_in l D τ ρ σ w (a1 : Int32).toInt64 (0 : Int64) (0 : Int32).toInt64 hI ) mml_TaleMachineModel_94 mst_yX10_in mcd_yX10_in min_yX10_in hd_yX10_in rfl rfl rfl (by decide) rfl (Nat.le_of_ble_eq_true rfl) (kdec dk_cX10_end 6 rfl) (fun x9 w5 h6 => ?_)
  obtain ⟨I7, f8, p10, p11⟩ := h6
  have F12 : kF [(61, some 2)] w w5 := kF_call hF0 f8 (by decide)
  have g13 := kf_rng x9
  refine kv_if_ne C 14 rfl 16 (kdec dk_cX10_end 7 rfl) (by decide) (fun d14 => ?_) (fun d14 => ?_)
  · skip
    refine kv_aload_n C 17 rfl 0 (kdec dk_cX10_end 10 rfl) rfl rfl ?_
    have e15 : w5 61 2 = 0 := ((f8 61 2 rfl : w5 61 2 = w 61 2).trans hx_61_2)
    refine kv_get C 20 rfl 61 2 rfl rfl inX10 (by decide) mfl_TaleMachineModel_86 rfl rfl (kdec dk_cX10_end 11 rfl) e15 ?_
    refine kv_istore_n C 21 rfl 2 [1, 2, 0] [(0, .ref (ρ 61)), (1, .int a1), (2, .int 0)] (kdec dk_cX10_end 12 rfl) rfl (by decide) rfl ?_
    refine kv_aload_n C 22 rfl 0 (kdec dk_cX10_end 13 rfl) rfl rfl ?_
    refine kv_iload_n C 23 rfl 1 (kdec dk_cX10_end 14 rfl) rfl rfl ?_
    refine kv_put C 26 rfl 61 2 rfl rfl inX10 (by decide) mfl_TaleMachineModel_86 rfl tyX10 tyX10_ok nmX10 rfl rfl (kdec dk_cX10_end 15 rfl) rfl rfl (fun w16 u17 => ?_)
    have I18 : kI false w16 := kI_put u17 I7 (show (0 : Int) ≤ (a1 : Int32).toInt by omega) (show (a1 : Int32).toInt ≤ 1024 by omega)
    have F19 : kF [(61, some 2)] w w16 := kF_put u17 F12 rfl
    refine kv_iload_n C 27 rfl 2 (kdec dk_cX10_end 16 rfl) rfl rfl ?_
    exact kv_iret C hr hlk (kdec dk_cX10_end 17 rfl) ⟨_, rfl, I18, F19, (by omega)⟩
  · skip
    refine kv_iconst C 15 rfl (-1) (kdec dk_cX10_end 8 rfl) rfl ?_
    exact kv_iret C hr hlk (kdec dk_cX10_end 9 rfl) ⟨_, rfl, I7, F12, (by omega)⟩

set_option maxHeartbeats 4000000 in
set_option maxRecDepth 100000 in
theorem k_z_load (l : Launch) (D : va_G) (τ : Nat → ClassId) (ρ σ : Nat → Nat) (w : kw)  (hI : kI false w) (hx_61_2 : w 61 2 = 0) :
    kM l D τ ρ σ yX10_load cX10_load 4 (some .int) { frames := 1, cells := 0, slots := 0, locals := 36 } [.ref (ρ 61)] w
      (fun o w' => ∃ r : Int32, o = some (.int r) ∧ kI false w' ∧ kF [(61, some 2), (61, some 3), (61, some 12), (74, none)] w w' ∧ (r.toInt = -11)) := by
  refine kM_of (own := "TaleMachineModel") rfl (by decide) (Nat.le_of_ble_eq_true rfl) ?_
  intro p e s m args below meth c C hr hlk
  have hF0 : kF [(61, some 2), (61, some 3), (61, some 12), (74, none)] w w := kF.rf
  have c_m10 : (-10 : Int32).toInt = -10 := by decide
  have c_0 : (0 : Int32).toInt = 0 := by decide
  have c_4 : (4 : Int32).toInt = 4 := by decide
  refine kV.L (L' := [(0, .ref (ρ 61))]) rfl ?_
  have cut36 : ∀ (n_36 : Nat) (w_36 : kw) (l2_36 l3_36 : Int32), kI false w_36 → kF [(61, some 2), (61, some 3), (61, some 12), (74, none)] w w_36 → (0 ≤ l3_36.toInt ∧ l3_36.toInt ≤ 4) → (l2_36.toInt = 1) → ((5 - l3_36.toInt) : Int) < (n_36 : Int) → kV p l e { frames := 1, cells := 0, slots := 0, locals := 36 } s m args below meth c (kQ below args s D τ ρ (fun o w' => ∃ r : Int32, o = some (.int r) ∧ kI false w' ∧ kF [(61, some 2), (61, some 3), (61, some 12), (74, none)] w w' ∧ (r.toInt = -11))) 4 D τ ρ 36 [(0, .ref (ρ 61)), (2, .int l2_36), (3, .int l3_36)] [] w_36 := by
    intro n_36
    induction n_36 with
    | zero => intro w_36 l2_36 l3_36 I_36 F_36 k36_0 k36_1 hmz; exfalso; omega
    | succ n_36 ih36 =>
      intro w_36 l2_36 l3_36 I_36 F_36 k36_0 k36_1 hm36
      have gl2_36 := kf_rng l2_36
      have gl3_36 := kf_rng l3_36
      refine kv_iload_n C 37 rfl 2 (kdec dk_cX10_load 22 rfl) rfl rfl ?_
      refine kv_iconst C 38 rfl 4 (kdec dk_cX10_load 23 rfl) rfl ?_
      refine kv_icmp_ge C 41 rfl 54 (kdec dk_cX10_load 24 rfl) (by decide) (fun d1 => ?_) (fun d1 => ?_)
      · skip
        refine kv_iload_n C 55 rfl 1 (kdec dk_cX10_load 32 rfl) rfl rfl ?_
        refine kv_if_le C 58 rfl 63 (kdec dk_cX10_load 33 rfl) (by decide) (fun d2 => ?_) (fun d2 => ?_)
        · exfalso; omega
        · skip
          refine kv_bipush C 60 rfl (-10) (kdec dk_cX10_load 34 rfl) rfl ?_
          refine kv_iload_n C 61 rfl 1 (kdec dk_cX10_load 35 rfl) rfl rfl ?_
          refine kv_isub C 62 rfl (kdec dk_cX10_load 36 rfl) (fun x3 q5 h4e h4 h4l h4u => ?_)
          try have h4n : x3.toInt = ((-10) : Int32).toInt - l2_36.toInt := by omega
          clear h4 q5
          exact kv_iret C hr hlk (kdec dk_cX10_load 37 rfl) ⟨_, rfl, I_36, F_36, (by omega)⟩
      · skip
        refine kv_aload_n C 42 rfl 0 (kdec dk_cX10_load 25 rfl) rfl rfl ?_
        refine kv_getr C 45 rfl 61 33 rfl rfl inX10 (by decide) mfl_TaleMachineModel_46 rfl rfl (kdec dk_cX10_load 26 rfl) ?_
        refine kv_iload_n C 46 rfl 2 (kdec dk_cX10_load 27 rfl) rfl rfl ?_
        refine kv_iconst C 47 rfl 0 (kdec dk_cX10_load 28 rfl) rfl ?_
        refine kv_zast C 48 rfl 74 rfl (by omega) (by omega) (kdec dk_cX10_load 29 rfl) (fun w6 u7 => ?_)
        rw [kf_nar (by decide)] at u7
        have I8 : kI false w6 := kI_put u7 I_36 (show (0 : Int) ≤ (0 : Int32).toInt by omega) (show (0 : Int32).toInt ≤ 1 by omega)
        have F9 : kF [(61, some 2), (61, some 3), (61, some 12), (74, none)] w w6 := kF_put u7 F_36 rfl
        refine kv_iinc C 51 rfl 3 2 [1, 2, 0] (fun v9 => [(0, .ref (ρ 61)), (2, .int l2_36), (3, .int v9)]) (kdec dk_cX10_load 30 rfl) rfl (by decide) (fun _ => rfl) 1 rfl (fun x10 q11 h12e h12 h12l h12u => ?_)
        try have h12n : x10.toInt = l3_36.toInt + 1 := by omega
        clear h12 q11
        refine kv_goto C 36 (kdec dk_cX10_load 31 rfl) (by decide) ?_
        exact ih36 w6 l2_36 x10 I8 F9 (by omega) (by omega) (by omega)
  refine kv_aload_n C 1 rfl 0 (kdec dk_cX10_load 0 rfl) rfl rfl ?_
  refine kv_get C 4 rfl 61 2 rfl rfl inX10 (by decide) mfl_TaleMachineModel_86 rfl rfl (kdec dk_cX10_load 1 rfl) hx_61_2 ?_
  refine kv_istore_n C 5 rfl 1 [1, 0] [(0, .ref (ρ 61)), (1, .int 0)] (kdec dk_cX10_load 2 rfl) rfl (by decide) rfl ?_
  refine kv_aload_n C 6 rfl 0 (kdec dk_cX10_load 3 rfl) rfl rfl ?_
  refine kv_iload_n C 7 rfl 1 (kdec dk_cX10_load 4 rfl) rfl rfl ?_
  refine kv_callVi (As := [.int 0]) (rest := []) C 10 rfl 61 (k_z_faultOf l D τ ρ σ w  hI ) rfl rfl mml_TaleMachineModel_105 mim_yX10_faultOf mse_yX10_faultOf mcd_yX10_faultOf min_yX10_faultOf hd_yX10_faultOf rfl rfl rfl (by decide) rfl (Nat.le_of_ble_eq_true rfl) (kdec dk_cX10_load 5 rfl) (fun x17 w13 h14 => ?_)
  obtain ⟨I15, f16, p18⟩ := h14
  have F19 : kF [(61, some 2), (61, some 3), (61, some 12), (74, none)] w w13 := kF_call hF0 f16 (by decide)
  have g20 := kf_rng x17
  refine kv_istore_n C 11 rfl 2 [1, 2, 0] [(0, .ref (ρ 61)), (1, .int 0), (2, .int x17)] (kdec dk_cX10_load 6 rfl) rfl (by decide) rfl ?_
  refine kv_aload_n C 12 rfl 0 (kdec dk_cX10_load 7 rfl) rfl rfl ?_
  refine kv_iconst C 13 rfl 0 (kdec dk_cX10_load 8 rfl) rfl ?_
  refine kv_put C 16 rfl 61 2 rfl rfl inX10 (by decide) mfl_TaleMachineModel_86 rfl tyX10 tyX10_ok nmX10 rfl rfl (kdec dk_cX10_load 9 rfl) rfl rfl (fun w21 u22 => ?_)
  have I23 : kI false w21 := kI_put u22 I15 (show (0 : Int) ≤ (0 : Int32).toInt by omega) (show (0 : Int32).toInt ≤ 1024 by omega)
  have F24 : kF [(61, some 2), (61, some 3), (61, some 12), (74, none)] w w21 := kF_put u22 F19 rfl
  refine kv_aload_n C 17 rfl 0 (kdec dk_cX10_load 10 rfl) rfl rfl ?_
  refine kv_iload_n C 18 rfl 2 (kdec dk_cX10_load 11 rfl) rfl rfl ?_
  refine kv_if_ne C 21 rfl 25 (kdec dk_cX10_load 12 rfl) (by decide) (fun d25 => ?_) (fun d25 => ?_)
  · skip
    refine kv_iconst C 26 rfl 0 (kdec dk_cX10_load 15 rfl) rfl ?_
    refine kv_put C 29 rfl 61 3 rfl rfl inX10 (by decide) mfl_TaleMachineModel_108 rfl tyX10 tyX10_ok nmX10 rfl rfl (kdec dk_cX10_load 16 rfl) (kf_bool (by decide)) rfl (fun w26 u27 => ?_)
    have I28 : kI false w26 := kI_put u27 I23 (show (0 : Int) ≤ (0 : Int32).toInt by omega) (show (0 : Int32).toInt ≤ 1 by omega)
    have F29 : kF [(61, some 2), (61, some 3), (61, some 12), (74, none)] w w26 := kF_put u27 F24 rfl
    refine kv_aload_n C 30 rfl 0 (kdec dk_cX10_load 17 rfl) rfl rfl ?_
    refine kv_iconst C 31 rfl 0 (kdec dk_cX10_load 18 rfl) rfl ?_
    refine kv_put C 34 rfl 61 12 rfl rfl inX10 (by decide) mfl_TaleMachineModel_112 rfl tyX10 tyX10_ok nmX10 rfl rfl (kdec dk_cX10_load 19 rfl) rfl rfl (fun w30 u31 => ?_)
    have I32 : kI false w30 := kI_put u31 I28 (show (0 : Int) ≤ (0 : Int32).toInt by omega) (show (0 : Int32).toInt ≤ 4 by omega)
    have F33 : kF [(61, some 2), (61, some 3), (61, some 12), (74, none)] w w30 := kF_put u31 F29 rfl
    refine kv_iconst C 35 rfl 0 (kdec dk_cX10_load 20 rfl) rfl ?_
    refine kv_istore_n C 36 rfl 3 [1, 2, 3, 0] [(0, .ref (ρ 61)), (1, .int 0), (2, .int x17), (3, .int 0)] (kdec dk_cX10_load 21 rfl) rfl (by decide) rfl ?_
    refine kV.sub [0, 2, 3] (L' := [(0, .ref (ρ 61)), (2, .int x17), (3, .int 0)]) rfl ?_
    exact cut36 ((((5 - (0 : Int32).toInt)) : Int).toNat + 1) w30 x17 0 I32 F33 (by omega) (by omega) (by omega)
  · exfalso; omega

set_option maxHeartbeats 4000000 in
set_option maxRecDepth 100000 in
theorem k_z_run (l : Launch) (D : va_G) (τ : Nat → ClassId) (ρ σ : Nat → Nat) (w : kw) (a1 : Int32) (hI : kI false w) (hx_61_12 : w 61 12 = 0) :
    kM l D τ ρ σ yX10_run cX10_run 3 (some .int) { frames := 1, cells := 0, slots := 0, locals := 36 } [.ref (ρ 61), .int a1] w
      (fun o w' => ∃ r : Int32, o = some (.int r) ∧ kI false w' ∧ kF [] w w' ∧ ((a1.toInt < 0 ∨ 300 < a1.toInt) ∧ r.toInt = -1 ∨ 0 ≤ a1.toInt ∧ a1.toInt ≤ 300 ∧ r.toInt = -2)) := by
  refine kM_of (own := "TaleMachineModel") rfl (by decide) (Nat.le_of_ble_eq_true rfl) ?_
  intro p e s m args below meth c C hr hlk
  have hF0 : kF [] w w := kF.rf
  have c_m2 : (-2 : Int32).toInt = -2 := by decide
  have c_m1 : (-1 : Int32).toInt = -1 := by decide
  have c_0 : (0 : Int32).toInt = 0 := by decide
  have c_1 : (1 : Int32).toInt = 1 := by decide
  refine kV.L (L' := [(0, .ref (ρ 61)), (1, .int a1)]) rfl ?_
  have g1 := kf_rng a1
  refine kv_iload_n C 1 rfl 1 (kdec dk_cX10_run 0 rfl) rfl rfl ?_
  refine kv_i2l C 2 rfl (kdec dk_cX10_run 1 rfl) ?_
  have h2 := kf_i2l a1
  refine kv_lconst C 3 rfl 0 (kdec dk_cX10_run 2 rfl) rfl ?_
  have h3 : (0 : Int64).toInt = 0 := by decide
  refine kv_ldc2 C 6 rfl 300 (kdec dk_cX10_run 3 rfl) mcl_TaleMachineModel_336 ?_
  have h4 : (300 : Int64).toInt = 300 := by decide
  refine kv_callSi (As := [.long (a1 : Int32).toInt64, .long (0 : Int64), .long (300 : Int64)]) (rest := []) C 9 rfl (k_z_in l D τ ρ σ w (a1 : Int32).toInt64 (0 : Int64) (300 : Int64) hI ) mml_TaleMachineModel_94 mst_yX10_in mcd_yX10_in min_yX10_in hd_yX10_in rfl rfl rfl (by decide) rfl (Nat.le_of_ble_eq_true rfl) (kdec dk_cX10_run 4 rfl) (fun x9 w5 h6 => ?_)
  obtain ⟨I7, f8, p10, p11⟩ := h6
  have F12 : kF [] w w5 := kF_call hF0 f8 (by decide)
  have g13 := kf_rng x9
  refine kv_if_ne C 12 rfl 14 (kdec dk_cX10_run 5 rfl) (by decide) (fun d14 => ?_) (fun d14 => ?_)
  · skip
    refine kv_aload_n C 15 rfl 0 (kdec dk_cX10_run 8 rfl) rfl rfl ?_
    have e15 : w5 61 12 = 0 := ((f8 61 12 rfl : w5 61 12 = w 61 12).trans hx_61_12)
    refine kv_get C 18 rfl 61 12 rfl rfl inX10 (by decide) mfl_TaleMachineModel_112 rfl rfl (kdec dk_cX10_run 9 rfl) e15 ?_
    refine kv_iconst C 19 rfl 1 (kdec dk_cX10_run 10 rfl) rfl ?_
    refine kv_icmp_eq C 22 rfl 25 (kdec dk_cX10_run 11 rfl) (by decide) (fun d16 => ?_) (fun d16 => ?_)
    · exfalso; omega
    · skip
      refine kv_bipush C 24 rfl (-2) (kdec dk_cX10_run 12 rfl) rfl ?_
      exact kv_iret C hr hlk (kdec dk_cX10_run 13 rfl) ⟨_, rfl, I7, F12, (by omega)⟩
  · skip
    refine kv_iconst C 13 rfl (-1) (kdec dk_cX10_run 6 rfl) rfl ?_
    exact kv_iret C hr hlk (kdec dk_cX10_run 7 rfl) ⟨_, rfl, I7, F12, (by omega)⟩

set_option maxHeartbeats 4000000 in
set_option maxRecDepth 100000 in
theorem k_z_state (l : Launch) (D : va_G) (τ : Nat → ClassId) (ρ σ : Nat → Nat) (w : kw)  (hI : kI false w) (hx_61_12 : w 61 12 = 0) :
    kM l D τ ρ σ yX10_state cX10_state 1 (some .int) { frames := 0, cells := 0, slots := 0, locals := 0 } [.ref (ρ 61)] w
      (fun o w' => ∃ r : Int32, o = some (.int r) ∧ kI false w' ∧ kF [] w w' ∧ (r.toInt = 0)) := by
  refine kM_of (own := "TaleMachineModel") rfl (by decide) (Nat.le_of_ble_eq_true rfl) ?_
  intro p e s m args below meth c C hr hlk
  have hF0 : kF [] w w := kF.rf
  have c_0 : (0 : Int32).toInt = 0 := by decide
  refine kV.L (L' := [(0, .ref (ρ 61))]) rfl ?_
  refine kv_aload_n C 1 rfl 0 (kdec dk_cX10_state 0 rfl) rfl rfl ?_
  refine kv_get C 4 rfl 61 12 rfl rfl inX10 (by decide) mfl_TaleMachineModel_112 rfl rfl (kdec dk_cX10_state 1 rfl) hx_61_12 ?_
  exact kv_iret C hr hlk (kdec dk_cX10_state 2 rfl) ⟨_, rfl, hI, hF0, (by omega)⟩

set_option maxHeartbeats 4000000 in
set_option maxRecDepth 100000 in
theorem k_z_line (l : Launch) (D : va_G) (τ : Nat → ClassId) (ρ σ : Nat → Nat) (w : kw) (a1 : Int32) (a2 : Int32) (hI : kI false w) (hx_61_12 : w 61 12 = 0) :
    kM l D τ ρ σ yX10_line cX10_line 11 (some .int) { frames := 0, cells := 0, slots := 0, locals := 0 } [.ref (ρ 61), .int a1, .int a2] w
      (fun o w' => ∃ r : Int32, o = some (.int r) ∧ kI false w' ∧ kF [] w w' ∧ (r.toInt = -2)) := by
  refine kM_of (own := "TaleMachineModel") rfl (by decide) (Nat.le_of_ble_eq_true rfl) ?_
  intro p e s m args below meth c C hr hlk
  have hF0 : kF [] w w := kF.rf
  have c_m2 : (-2 : Int32).toInt = -2 := by decide
  have c_0 : (0 : Int32).toInt = 0 := by decide
  have c_3 : (3 : Int32).toInt = 3 := by decide
  refine kV.L (L' := [(0, .ref (ρ 61)), (1, .int a1), (2, .int a2)]) rfl ?_
  have g1 := kf_rng a1
  have g2 := kf_rng a2
  refine kv_aload_n C 1 rfl 0 (kdec dk_cX10_line 0 rfl) rfl rfl ?_
  refine kv_get C 4 rfl 61 12 rfl rfl inX10 (by decide) mfl_TaleMachineModel_112 rfl rfl (kdec dk_cX10_line 1 rfl) hx_61_12 ?_
  refine kv_iconst C 5 rfl 3 (kdec dk_cX10_line 2 rfl) rfl ?_
  refine kv_icmp_eq C 8 rfl 11 (kdec dk_cX10_line 3 rfl) (by decide) (fun d3 => ?_) (fun d3 => ?_)
  · exfalso; omega
  · skip
    refine kv_bipush C 10 rfl (-2) (kdec dk_cX10_line 4 rfl) rfl ?_
    exact kv_iret C hr hlk (kdec dk_cX10_line 5 rfl) ⟨_, rfl, hI, hF0, (by omega)⟩

set_option maxHeartbeats 4000000 in
set_option maxRecDepth 100000 in
theorem k_z_start (l : Launch) (D : va_G) (τ : Nat → ClassId) (ρ σ : Nat → Nat) (w : kw)  (hI : kI false w) (hx_61_3 : w 61 3 = 0) :
    kM l D τ ρ σ yX10_start cX10_start 1 (some .int) { frames := 0, cells := 0, slots := 0, locals := 0 } [.ref (ρ 61)] w
      (fun o w' => ∃ r : Int32, o = some (.int r) ∧ kI false w' ∧ kF [] w w' ∧ (r.toInt = -2)) := by
  refine kM_of (own := "TaleMachineModel") rfl (by decide) (Nat.le_of_ble_eq_true rfl) ?_
  intro p e s m args below meth c C hr hlk
  have hF0 : kF [] w w := kF.rf
  have c_m2 : (-2 : Int32).toInt = -2 := by decide
  have c_0 : (0 : Int32).toInt = 0 := by decide
  refine kV.L (L' := [(0, .ref (ρ 61))]) rfl ?_
  refine kv_aload_n C 1 rfl 0 (kdec dk_cX10_start 0 rfl) rfl rfl ?_
  refine kv_get C 4 rfl 61 3 rfl rfl inX10 (by decide) mfl_TaleMachineModel_108 rfl rfl (kdec dk_cX10_start 1 rfl) hx_61_3 ?_
  refine kv_if_ne C 7 rfl 10 (kdec dk_cX10_start 2 rfl) (by decide) (fun d1 => ?_) (fun d1 => ?_)
  · exfalso; omega
  · skip
    refine kv_bipush C 9 rfl (-2) (kdec dk_cX10_start 3 rfl) rfl ?_
    exact kv_iret C hr hlk (kdec dk_cX10_start 4 rfl) ⟨_, rfl, hI, hF0, (by omega)⟩

set_option maxHeartbeats 4000000 in
set_option maxRecDepth 100000 in
theorem k_z_out (l : Launch) (D : va_G) (τ : Nat → ClassId) (ρ σ : Nat → Nat) (w : kw) (a1 : Int32) (hI : kI false w) (hx_61_31 : w 61 31 = 0) (hx_61_3 : w 61 3 = 0) :
    kM l D τ ρ σ yX10_out cX10_out 2 (some .int) { frames := 1, cells := 0, slots := 0, locals := 36 } [.ref (ρ 61), .int a1] w
      (fun o w' => ∃ r : Int32, o = some (.int r) ∧ kI false w' ∧ kF [] w w' ∧ (r.toInt = -1)) := by
  refine kM_of (own := "TaleMachineModel") rfl (by decide) (Nat.le_of_ble_eq_true rfl) ?_
  intro p e s m args below meth c C hr hlk
  have hF0 : kF [] w w := kF.rf
  have c_m1 : (-1 : Int32).toInt = -1 := by decide
  have c_0 : (0 : Int32).toInt = 0 := by decide
  have c_1 : (1 : Int32).toInt = 1 := by decide
  have c_300 : (300 : Int32).toInt = 300 := by decide
  refine kV.L (L' := [(0, .ref (ρ 61)), (1, .int a1)]) rfl ?_
  have g1 := kf_rng a1
  refine kv_iload_n C 1 rfl 1 (kdec dk_cX10_out 0 rfl) rfl rfl ?_
  refine kv_i2l C 2 rfl (kdec dk_cX10_out 1 rfl) ?_
  have h2 := kf_i2l a1
  refine kv_lconst C 3 rfl 0 (kdec dk_cX10_out 2 rfl) rfl ?_
  have h3 : (0 : Int64).toInt = 0 := by decide
  refine kv_aload_n C 4 rfl 0 (kdec dk_cX10_out 3 rfl) rfl rfl ?_
  refine kv_get C 7 rfl 61 31 rfl rfl inX10 (by decide) mfl_TaleMachineModel_157 rfl rfl (kdec dk_cX10_out 4 rfl) hx_61_31 ?_
  refine kv_sipush C 10 rfl 300 (kdec dk_cX10_out 5 rfl) rfl ?_
  refine kv_icmp_ge C 13 rfl 20 (kdec dk_cX10_out 6 rfl) (by decide) (fun d4 => ?_) (fun d4 => ?_)
  · exfalso; omega
  · skip
    refine kv_aload_n C 14 rfl 0 (kdec dk_cX10_out 7 rfl) rfl rfl ?_
    refine kv_get C 17 rfl 61 31 rfl rfl inX10 (by decide) mfl_TaleMachineModel_157 rfl rfl (kdec dk_cX10_out 8 rfl) hx_61_31 ?_
    refine kv_goto C 23 (kdec dk_cX10_out 9 rfl) (by decide) ?_
    refine kv_iconst C 24 rfl 1 (kdec dk_cX10_out 11 rfl) rfl ?_
    refine kv_isub C 25 rfl (kdec dk_cX10_out 12 rfl) (fun x5 q7 h6e h6 h6l h6u => ?_)
    try have h6n : x5.toInt = (0 : Int32).toInt - (1 : Int32).toInt := by omega
    clear h6 q7
    obtain rfl : x5 = (-1) := by rw [h6e]; decide
    refine kv_i2l C 26 rfl (kdec dk_cX10_out 13 rfl) ?_
    have h8 := kf_i2l (-1)
    refine kv_callSi (As := [.long (a1 : Int32).toInt64, .long (0 : Int64), .long ((-1) : Int32).toInt64]) (rest := []) C 29 rfl (k_z_in l D τ ρ σ w (a1 : Int32).toInt64 (0 : Int64) ((-1) : Int32).toInt64 hI ) mml_TaleMachineModel_94 mst_yX10_in mcd_yX10_in min_yX10_in hd_yX10_in rfl rfl rfl (by decide) rfl (Nat.le_of_ble_eq_true rfl) (kdec dk_cX10_out 14 rfl) (fun x13 w9 h10 => ?_)
    obtain ⟨I11, f12, p14, p15⟩ := h10
    have F16 : kF [] w w9 := kF_call hF0 f12 (by decide)
    have g17 := kf_rng x13
    refine kv_if_eq C 32 rfl 48 (kdec dk_cX10_out 15 rfl) (by decide) (fun d18 => ?_) (fun d18 => ?_)
    · skip
      refine kv_iconst C 49 rfl (-1) (kdec dk_cX10_out 24 rfl) rfl ?_
      exact kv_iret C hr hlk (kdec dk_cX10_out 25 rfl) ⟨_, rfl, I11, F16, (by omega)⟩
    · skip
      refine kv_aload_n C 33 rfl 0 (kdec dk_cX10_out 16 rfl) rfl rfl ?_
      have e19 : w9 61 3 = 0 := ((f12 61 3 rfl : w9 61 3 = w 61 3).trans hx_61_3)
      refine kv_get C 36 rfl 61 3 rfl rfl inX10 (by decide) mfl_TaleMachineModel_108 rfl rfl (kdec dk_cX10_out 17 rfl) e19 ?_
      refine kv_if_eq C 39 rfl 48 (kdec dk_cX10_out 18 rfl) (by decide) (fun d20 => ?_) (fun d20 => ?_)
      · skip
        refine kv_iconst C 49 rfl (-1) (kdec dk_cX10_out 24 rfl) rfl ?_
        exact kv_iret C hr hlk (kdec dk_cX10_out 25 rfl) ⟨_, rfl, I11, F16, (by omega)⟩
      · exfalso; omega

set_option maxHeartbeats 4000000 in
set_option maxRecDepth 100000 in
theorem k_z_count (l : Launch) (D : va_G) (τ : Nat → ClassId) (ρ σ : Nat → Nat) (w : kw) (a1 : Int32) (hI : kI false w) (hx_61_2 : w 61 2 = 0) (hx_61_3 : w 61 3 = 0) :
    kM l D τ ρ σ yX10_count cX10_count 2 (some .int) { frames := 1, cells := 0, slots := 0, locals := 36 } [.ref (ρ 61), .int a1] w
      (fun o w' => ∃ r : Int32, o = some (.int r) ∧ kI false w' ∧ kF [] w w' ∧ ((a1.toInt < 0 ∨ 9 < a1.toInt) ∧ r.toInt = -1 ∨ a1.toInt = 9 ∧ r.toInt = 0 ∨ 0 ≤ a1.toInt ∧ a1.toInt ≤ 8 ∧ r.toInt = -2)) := by
  refine kM_of (own := "TaleMachineModel") rfl (by decide) (Nat.le_of_ble_eq_true rfl) ?_
  intro p e s m args below meth c C hr hlk
  have hF0 : kF [] w w := kF.rf
  have c_m2 : (-2 : Int32).toInt = -2 := by decide
  have c_m1 : (-1 : Int32).toInt = -1 := by decide
  have c_0 : (0 : Int32).toInt = 0 := by decide
  have c_9 : (9 : Int32).toInt = 9 := by decide
  refine kV.L (L' := [(0, .ref (ρ 61)), (1, .int a1)]) rfl ?_
  have g1 := kf_rng a1
  refine kv_iload_n C 1 rfl 1 (kdec dk_cX10_count 0 rfl) rfl rfl ?_
  refine kv_i2l C 2 rfl (kdec dk_cX10_count 1 rfl) ?_
  have h2 := kf_i2l a1
  refine kv_lconst C 3 rfl 0 (kdec dk_cX10_count 2 rfl) rfl ?_
  have h3 : (0 : Int64).toInt = 0 := by decide
  refine kv_ldc2 C 6 rfl 9 (kdec dk_cX10_count 3 rfl) mcl_TaleMachineModel_364 ?_
  have h4 : (9 : Int64).toInt = 9 := by decide
  refine kv_callSi (As := [.long (a1 : Int32).toInt64, .long (0 : Int64), .long (9 : Int64)]) (rest := []) C 9 rfl (k_z_in l D τ ρ σ w (a1 : Int32).toInt64 (0 : Int64) (9 : Int64) hI ) mml_TaleMachineModel_94 mst_yX10_in mcd_yX10_in min_yX10_in hd_yX10_in rfl rfl rfl (by decide) rfl (Nat.le_of_ble_eq_true rfl) (kdec dk_cX10_count 4 rfl) (fun x9 w5 h6 => ?_)
  obtain ⟨I7, f8, p10, p11⟩ := h6
  have F12 : kF [] w w5 := kF_call hF0 f8 (by decide)
  have g13 := kf_rng x9
  refine kv_if_ne C 12 rfl 14 (kdec dk_cX10_count 5 rfl) (by decide) (fun d14 => ?_) (fun d14 => ?_)
  · skip
    refine kv_iload_n C 15 rfl 1 (kdec dk_cX10_count 8 rfl) rfl rfl ?_
    refine kv_bipush C 17 rfl 9 (kdec dk_cX10_count 9 rfl) rfl ?_
    refine kv_icmp_ne C 20 rfl 25 (kdec dk_cX10_count 10 rfl) (by decide) (fun d15 => ?_) (fun d15 => ?_)
    · skip
      refine kv_aload_n C 26 rfl 0 (kdec dk_cX10_count 14 rfl) rfl rfl ?_
      have e16 : w5 61 3 = 0 := ((f8 61 3 rfl : w5 61 3 = w 61 3).trans hx_61_3)
      refine kv_get C 29 rfl 61 3 rfl rfl inX10 (by decide) mfl_TaleMachineModel_108 rfl rfl (kdec dk_cX10_count 15 rfl) e16 ?_
      refine kv_if_ne C 32 rfl 35 (kdec dk_cX10_count 16 rfl) (by decide) (fun d17 => ?_) (fun d17 => ?_)
      · exfalso; omega
      · skip
        refine kv_bipush C 34 rfl (-2) (kdec dk_cX10_count 17 rfl) rfl ?_
        exact kv_iret C hr hlk (kdec dk_cX10_count 18 rfl) ⟨_, rfl, I7, F12, (by omega)⟩
    · skip
      refine kv_aload_n C 21 rfl 0 (kdec dk_cX10_count 11 rfl) rfl rfl ?_
      have e18 : w5 61 2 = 0 := ((f8 61 2 rfl : w5 61 2 = w 61 2).trans hx_61_2)
      refine kv_get C 24 rfl 61 2 rfl rfl inX10 (by decide) mfl_TaleMachineModel_86 rfl rfl (kdec dk_cX10_count 12 rfl) e18 ?_
      exact kv_iret C hr hlk (kdec dk_cX10_count 13 rfl) ⟨_, rfl, I7, F12, (by omega)⟩
  · skip
    refine kv_iconst C 13 rfl (-1) (kdec dk_cX10_count 6 rfl) rfl ?_
    exact kv_iret C hr hlk (kdec dk_cX10_count 7 rfl) ⟨_, rfl, I7, F12, (by omega)⟩

set_option maxHeartbeats 4000000 in
set_option maxRecDepth 100000 in
theorem k_z_peek (l : Launch) (D : va_G) (τ : Nat → ClassId) (ρ σ : Nat → Nat) (w : kw) (a1 : Int32) (hI : kI false w) (hx_61_3 : w 61 3 = 0) :
    kM l D τ ρ σ yX10_peek cX10_peek 2 (some .int) { frames := 0, cells := 0, slots := 0, locals := 0 } [.ref (ρ 61), .int a1] w
      (fun o w' => ∃ r : Int32, o = some (.int r) ∧ kI false w' ∧ kF [] w w' ∧ (r.toInt = -1)) := by
  refine kM_of (own := "TaleMachineModel") rfl (by decide) (Nat.le_of_ble_eq_true rfl) ?_
  intro p e s m args below meth c C hr hlk
  have hF0 : kF [] w w := kF.rf
  have c_m1 : (-1 : Int32).toInt = -1 := by decide
  have c_0 : (0 : Int32).toInt = 0 := by decide
  refine kV.L (L' := [(0, .ref (ρ 61)), (1, .int a1)]) rfl ?_
  have g1 := kf_rng a1
  refine kv_aload_n C 1 rfl 0 (kdec dk_cX10_peek 0 rfl) rfl rfl ?_
  refine kv_get C 4 rfl 61 3 rfl rfl inX10 (by decide) mfl_TaleMachineModel_108 rfl rfl (kdec dk_cX10_peek 1 rfl) hx_61_3 ?_
  refine kv_if_eq C 7 rfl 32 (kdec dk_cX10_peek 2 rfl) (by decide) (fun d2 => ?_) (fun d2 => ?_)
  · skip
    refine kv_iconst C 33 rfl (-1) (kdec dk_cX10_peek 18 rfl) rfl ?_
    exact kv_iret C hr hlk (kdec dk_cX10_peek 19 rfl) ⟨_, rfl, hI, hF0, (by omega)⟩
  · exfalso; omega

set_option maxHeartbeats 4000000 in
set_option maxRecDepth 100000 in
theorem k_z_word (l : Launch) (D : va_G) (τ : Nat → ClassId) (ρ σ : Nat → Nat) (w : kw) (a1 : Int32) (a2 : Int32) (hI : kI false w) (hx_61_3 : w 61 3 = 0) :
    kM l D τ ρ σ yX10_word cX10_word 3 (some .int) { frames := 0, cells := 0, slots := 0, locals := 0 } [.ref (ρ 61), .int a1, .int a2] w
      (fun o w' => ∃ r : Int32, o = some (.int r) ∧ kI false w' ∧ kF [] w w' ∧ (r.toInt = -1)) := by
  refine kM_of (own := "TaleMachineModel") rfl (by decide) (Nat.le_of_ble_eq_true rfl) ?_
  intro p e s m args below meth c C hr hlk
  have hF0 : kF [] w w := kF.rf
  have c_m1 : (-1 : Int32).toInt = -1 := by decide
  have c_0 : (0 : Int32).toInt = 0 := by decide
  refine kV.L (L' := [(0, .ref (ρ 61)), (1, .int a1), (2, .int a2)]) rfl ?_
  have g1 := kf_rng a1
  have g2 := kf_rng a2
  refine kv_aload_n C 1 rfl 0 (kdec dk_cX10_word 0 rfl) rfl rfl ?_
  refine kv_get C 4 rfl 61 3 rfl rfl inX10 (by decide) mfl_TaleMachineModel_108 rfl rfl (kdec dk_cX10_word 1 rfl) hx_61_3 ?_
  refine kv_if_ne C 7 rfl 9 (kdec dk_cX10_word 2 rfl) (by decide) (fun d3 => ?_) (fun d3 => ?_)
  · exfalso; omega
  · skip
    refine kv_iconst C 8 rfl (-1) (kdec dk_cX10_word 3 rfl) rfl ?_
    exact kv_iret C hr hlk (kdec dk_cX10_word 4 rfl) ⟨_, rfl, hI, hF0, (by omega)⟩

set_option maxHeartbeats 4000000 in
set_option maxRecDepth 100000 in
theorem k_z_text (l : Launch) (D : va_G) (τ : Nat → ClassId) (ρ σ : Nat → Nat) (w : kw) (a1 : Int32) (a2 : Int32) (hI : kI false w) (hx_61_3 : w 61 3 = 0) :
    kM l D τ ρ σ yX10_text cX10_text 6 (some .int) { frames := 0, cells := 0, slots := 0, locals := 0 } [.ref (ρ 61), .int a1, .int a2] w
      (fun o w' => ∃ r : Int32, o = some (.int r) ∧ kI false w' ∧ kF [] w w' ∧ (r.toInt = -1)) := by
  refine kM_of (own := "TaleMachineModel") rfl (by decide) (Nat.le_of_ble_eq_true rfl) ?_
  intro p e s m args below meth c C hr hlk
  have hF0 : kF [] w w := kF.rf
  have c_m1 : (-1 : Int32).toInt = -1 := by decide
  have c_0 : (0 : Int32).toInt = 0 := by decide
  refine kV.L (L' := [(0, .ref (ρ 61)), (1, .int a1), (2, .int a2)]) rfl ?_
  have g1 := kf_rng a1
  have g2 := kf_rng a2
  refine kv_aload_n C 1 rfl 0 (kdec dk_cX10_text 0 rfl) rfl rfl ?_
  refine kv_get C 4 rfl 61 3 rfl rfl inX10 (by decide) mfl_TaleMachineModel_108 rfl rfl (kdec dk_cX10_text 1 rfl) hx_61_3 ?_
  refine kv_if_ne C 7 rfl 9 (kdec dk_cX10_text 2 rfl) (by decide) (fun d3 => ?_) (fun d3 => ?_)
  · exfalso; omega
  · skip
    refine kv_iconst C 8 rfl (-1) (kdec dk_cX10_text 3 rfl) rfl ?_
    exact kv_iret C hr hlk (kdec dk_cX10_text 4 rfl) ⟨_, rfl, hI, hF0, (by omega)⟩

set_option maxHeartbeats 4000000 in
set_option maxRecDepth 100000 in
theorem k_z_save (l : Launch) (D : va_G) (τ : Nat → ClassId) (ρ σ : Nat → Nat) (w : kw) (a1 : Int32) (hI : kI false w) (hx_61_12 : w 61 12 = 0) :
    kM l D τ ρ σ yX10_save cX10_save 5 (some .int) { frames := 1, cells := 0, slots := 0, locals := 36 } [.ref (ρ 61), .int a1] w
      (fun o w' => ∃ r : Int32, o = some (.int r) ∧ kI false w' ∧ kF [] w w' ∧ ((a1.toInt < 0 ∨ 3 < a1.toInt) ∧ r.toInt = -1 ∨ 0 ≤ a1.toInt ∧ a1.toInt ≤ 3 ∧ r.toInt = -2)) := by
  refine kM_of (own := "TaleMachineModel") rfl (by decide) (Nat.le_of_ble_eq_true rfl) ?_
  intro p e s m args below meth c C hr hlk
  have hF0 : kF [] w w := kF.rf
  have c_m2 : (-2 : Int32).toInt = -2 := by decide
  have c_m1 : (-1 : Int32).toInt = -1 := by decide
  have c_0 : (0 : Int32).toInt = 0 := by decide
  have c_1 : (1 : Int32).toInt = 1 := by decide
  have c_3 : (3 : Int32).toInt = 3 := by decide
  refine kV.L (L' := [(0, .ref (ρ 61)), (1, .int a1)]) rfl ?_
  have g1 := kf_rng a1
  refine kv_iload_n C 1 rfl 1 (kdec dk_cX10_save 0 rfl) rfl rfl ?_
  refine kv_i2l C 2 rfl (kdec dk_cX10_save 1 rfl) ?_
  have h2 := kf_i2l a1
  refine kv_lconst C 3 rfl 0 (kdec dk_cX10_save 2 rfl) rfl ?_
  have h3 : (0 : Int64).toInt = 0 := by decide
  refine kv_ldc2 C 6 rfl 3 (kdec dk_cX10_save 3 rfl) mcl_TaleMachineModel_259 ?_
  have h4 : (3 : Int64).toInt = 3 := by decide
  refine kv_callSi (As := [.long (a1 : Int32).toInt64, .long (0 : Int64), .long (3 : Int64)]) (rest := []) C 9 rfl (k_z_in l D τ ρ σ w (a1 : Int32).toInt64 (0 : Int64) (3 : Int64) hI ) mml_TaleMachineModel_94 mst_yX10_in mcd_yX10_in min_yX10_in hd_yX10_in rfl rfl rfl (by decide) rfl (Nat.le_of_ble_eq_true rfl) (kdec dk_cX10_save 4 rfl) (fun x9 w5 h6 => ?_)
  obtain ⟨I7, f8, p10, p11⟩ := h6
  have F12 : kF [] w w5 := kF_call hF0 f8 (by decide)
  have g13 := kf_rng x9
  refine kv_if_ne C 12 rfl 14 (kdec dk_cX10_save 5 rfl) (by decide) (fun d14 => ?_) (fun d14 => ?_)
  · skip
    refine kv_aload_n C 15 rfl 0 (kdec dk_cX10_save 8 rfl) rfl rfl ?_
    have e15 : w5 61 12 = 0 := ((f8 61 12 rfl : w5 61 12 = w 61 12).trans hx_61_12)
    refine kv_get C 18 rfl 61 12 rfl rfl inX10 (by decide) mfl_TaleMachineModel_112 rfl rfl (kdec dk_cX10_save 9 rfl) e15 ?_
    refine kv_iconst C 19 rfl 1 (kdec dk_cX10_save 10 rfl) rfl ?_
    refine kv_icmp_eq C 22 rfl 33 (kdec dk_cX10_save 11 rfl) (by decide) (fun d16 => ?_) (fun d16 => ?_)
    · exfalso; omega
    · skip
      refine kv_aload_n C 23 rfl 0 (kdec dk_cX10_save 12 rfl) rfl rfl ?_
      refine kv_get C 26 rfl 61 12 rfl rfl inX10 (by decide) mfl_TaleMachineModel_112 rfl rfl (kdec dk_cX10_save 13 rfl) e15 ?_
      refine kv_iconst C 27 rfl 3 (kdec dk_cX10_save 14 rfl) rfl ?_
      refine kv_icmp_eq C 30 rfl 33 (kdec dk_cX10_save 15 rfl) (by decide) (fun d17 => ?_) (fun d17 => ?_)
      · exfalso; omega
      · skip
        refine kv_bipush C 32 rfl (-2) (kdec dk_cX10_save 16 rfl) rfl ?_
        exact kv_iret C hr hlk (kdec dk_cX10_save 17 rfl) ⟨_, rfl, I7, F12, (by omega)⟩
  · skip
    refine kv_iconst C 13 rfl (-1) (kdec dk_cX10_save 6 rfl) rfl ?_
    exact kv_iret C hr hlk (kdec dk_cX10_save 7 rfl) ⟨_, rfl, I7, F12, (by omega)⟩

set_option maxHeartbeats 4000000 in
set_option maxRecDepth 100000 in
theorem k_z_restore (l : Launch) (D : va_G) (τ : Nat → ClassId) (ρ σ : Nat → Nat) (w : kw) (a1 : Int32) (hI : kI false w) (hx_61_3 : w 61 3 = 0) :
    kM l D τ ρ σ yX10_restore cX10_restore 5 (some .int) { frames := 1, cells := 0, slots := 0, locals := 36 } [.ref (ρ 61), .int a1] w
      (fun o w' => ∃ r : Int32, o = some (.int r) ∧ kI false w' ∧ kF [] w w' ∧ ((a1.toInt < 0 ∨ 3 < a1.toInt) ∧ r.toInt = -1 ∨ 0 ≤ a1.toInt ∧ a1.toInt ≤ 3 ∧ r.toInt = -2)) := by
  refine kM_of (own := "TaleMachineModel") rfl (by decide) (Nat.le_of_ble_eq_true rfl) ?_
  intro p e s m args below meth c C hr hlk
  have hF0 : kF [] w w := kF.rf
  have c_m2 : (-2 : Int32).toInt = -2 := by decide
  have c_m1 : (-1 : Int32).toInt = -1 := by decide
  have c_0 : (0 : Int32).toInt = 0 := by decide
  refine kV.L (L' := [(0, .ref (ρ 61)), (1, .int a1)]) rfl ?_
  have g1 := kf_rng a1
  refine kv_iload_n C 1 rfl 1 (kdec dk_cX10_restore 0 rfl) rfl rfl ?_
  refine kv_i2l C 2 rfl (kdec dk_cX10_restore 1 rfl) ?_
  have h2 := kf_i2l a1
  refine kv_lconst C 3 rfl 0 (kdec dk_cX10_restore 2 rfl) rfl ?_
  have h3 : (0 : Int64).toInt = 0 := by decide
  refine kv_ldc2 C 6 rfl 3 (kdec dk_cX10_restore 3 rfl) mcl_TaleMachineModel_259 ?_
  have h4 : (3 : Int64).toInt = 3 := by decide
  refine kv_callSi (As := [.long (a1 : Int32).toInt64, .long (0 : Int64), .long (3 : Int64)]) (rest := []) C 9 rfl (k_z_in l D τ ρ σ w (a1 : Int32).toInt64 (0 : Int64) (3 : Int64) hI ) mml_TaleMachineModel_94 mst_yX10_in mcd_yX10_in min_yX10_in hd_yX10_in rfl rfl rfl (by decide) rfl (Nat.le_of_ble_eq_true rfl) (kdec dk_cX10_restore 4 rfl) (fun x9 w5 h6 => ?_)
  obtain ⟨I7, f8, p10, p11⟩ := h6
  have F12 : kF [] w w5 := kF_call hF0 f8 (by decide)
  have g13 := kf_rng x9
  refine kv_if_ne C 12 rfl 14 (kdec dk_cX10_restore 5 rfl) (by decide) (fun d14 => ?_) (fun d14 => ?_)
  · skip
    refine kv_aload_n C 15 rfl 0 (kdec dk_cX10_restore 8 rfl) rfl rfl ?_
    have e15 : w5 61 3 = 0 := ((f8 61 3 rfl : w5 61 3 = w 61 3).trans hx_61_3)
    refine kv_get C 18 rfl 61 3 rfl rfl inX10 (by decide) mfl_TaleMachineModel_108 rfl rfl (kdec dk_cX10_restore 9 rfl) e15 ?_
    refine kv_if_eq C 21 rfl 30 (kdec dk_cX10_restore 10 rfl) (by decide) (fun d16 => ?_) (fun d16 => ?_)
    · skip
      refine kv_bipush C 32 rfl (-2) (kdec dk_cX10_restore 16 rfl) rfl ?_
      exact kv_iret C hr hlk (kdec dk_cX10_restore 17 rfl) ⟨_, rfl, I7, F12, (by omega)⟩
    · exfalso; omega
  · skip
    refine kv_iconst C 13 rfl (-1) (kdec dk_cX10_restore 6 rfl) rfl ?_
    exact kv_iret C hr hlk (kdec dk_cX10_restore 7 rfl) ⟨_, rfl, I7, F12, (by omega)⟩

set_option maxHeartbeats 4000000 in
set_option maxRecDepth 100000 in
theorem k_z_squeezed (l : Launch) (D : va_G) (τ : Nat → ClassId) (ρ σ : Nat → Nat) (w : kw) (a1 : Int32) (a2 : Int32) (hI : kI false w) (hz_74 : ∀ j : Nat, w 74 j = 0) :
    kM l D τ ρ σ yX10_squeezed cX10_squeezed 3 (some .int) { frames := 1, cells := 0, slots := 0, locals := 36 } [.ref (ρ 61), .int a1, .int a2] w
      (fun o w' => ∃ r : Int32, o = some (.int r) ∧ kI false w' ∧ kF [] w w' ∧ (r.toInt = -1)) := by
  refine kM_of (own := "TaleMachineModel") rfl (by decide) (Nat.le_of_ble_eq_true rfl) ?_
  intro p e s m args below meth c C hr hlk
  have hF0 : kF [] w w := kF.rf
  have c_m1 : (-1 : Int32).toInt = -1 := by decide
  have c_0 : (0 : Int32).toInt = 0 := by decide
  refine kV.L (L' := [(0, .ref (ρ 61)), (1, .int a1), (2, .int a2)]) rfl ?_
  have g1 := kf_rng a1
  have g2 := kf_rng a2
  refine kv_iload_n C 1 rfl 1 (kdec dk_cX10_squeezed 0 rfl) rfl rfl ?_
  refine kv_i2l C 2 rfl (kdec dk_cX10_squeezed 1 rfl) ?_
  have h3 := kf_i2l a1
  refine kv_lconst C 3 rfl 0 (kdec dk_cX10_squeezed 2 rfl) rfl ?_
  have h4 : (0 : Int64).toInt = 0 := by decide
  refine kv_ldc2 C 6 rfl 3 (kdec dk_cX10_squeezed 3 rfl) mcl_TaleMachineModel_259 ?_
  have h5 : (3 : Int64).toInt = 3 := by decide
  refine kv_callSi (As := [.long (a1 : Int32).toInt64, .long (0 : Int64), .long (3 : Int64)]) (rest := []) C 9 rfl (k_z_in l D τ ρ σ w (a1 : Int32).toInt64 (0 : Int64) (3 : Int64) hI ) mml_TaleMachineModel_94 mst_yX10_in mcd_yX10_in min_yX10_in hd_yX10_in rfl rfl rfl (by decide) rfl (Nat.le_of_ble_eq_true rfl) (kdec dk_cX10_squeezed 4 rfl) (fun x10 w6 h7 => ?_)
  obtain ⟨I8, f9, p11, p12⟩ := h7
  have F13 : kF [] w w6 := kF_call hF0 f9 (by decide)
  have g14 := kf_rng x10
  refine kv_if_eq C 12 rfl 54 (kdec dk_cX10_squeezed 5 rfl) (by decide) (fun d15 => ?_) (fun d15 => ?_)
  · skip
    refine kv_iconst C 55 rfl (-1) (kdec dk_cX10_squeezed 32 rfl) rfl ?_
    exact kv_iret C hr hlk (kdec dk_cX10_squeezed 33 rfl) ⟨_, rfl, I8, F13, (by omega)⟩
  · skip
    refine kv_aload_n C 13 rfl 0 (kdec dk_cX10_squeezed 6 rfl) rfl rfl ?_
    refine kv_getr C 16 rfl 61 33 rfl rfl inX10 (by decide) mfl_TaleMachineModel_46 rfl rfl (kdec dk_cX10_squeezed 7 rfl) ?_
    refine kv_iload_n C 17 rfl 1 (kdec dk_cX10_squeezed 8 rfl) rfl rfl ?_
    refine kv_zald C 18 rfl 74 rfl (by omega) (by omega) (show w6 74 ((a1 : Int32).toNatClampNeg) = 0 from (f9 74 (a1 : Int32).toNatClampNeg rfl : w6 74 (a1 : Int32).toNatClampNeg = w 74 (a1 : Int32).toNatClampNeg).trans (hz_74 _)) (kdec dk_cX10_squeezed 9 rfl) ?_
    refine kv_if_eq C 21 rfl 54 (kdec dk_cX10_squeezed 10 rfl) (by decide) (fun d16 => ?_) (fun d16 => ?_)
    · skip
      refine kv_iconst C 55 rfl (-1) (kdec dk_cX10_squeezed 32 rfl) rfl ?_
      exact kv_iret C hr hlk (kdec dk_cX10_squeezed 33 rfl) ⟨_, rfl, I8, F13, (by omega)⟩
    · exfalso; omega
