set_option maxHeartbeats 4000000 in
set_option maxRecDepth 100000 in
theorem k_q_layOnTape (l : Launch) (D : va_G) (τ : Nat → ClassId) (ρ σ : Nat → Nat) (w : kw) (a1 : Int32) (hI : kI false w) (hp0 : (w 0 9).toInt ≤ 1020) :
    kM l D τ ρ σ yX9_layOnTape cX9_layOnTape 3 none { frames := 0, cells := 0, slots := 0, locals := 0 } [.ref (ρ 0), .int a1] w
      (fun o w' => o = none ∧ kI false w' ∧ kF [(0, some 9), (1, none)] w w' ∧ ((w' 0 9).toInt = (w 0 9).toInt + 4)) := by
  refine kM_of (own := "TaleMachine") rfl (by decide) (Nat.le_of_ble_eq_true rfl) ?_
  intro p e s m args below meth c C hr hlk
  have hF0 : kF [(0, some 9), (1, none)] w w := kF.rf
  have c_1 : (1 : Int32).toInt = 1 := by decide
  have c_24 : (24 : Int32).toInt = 24 := by decide
  have c_255 : (255 : Int32).toInt = 255 := by decide
  have c_1024 : (1024 : Int32).toInt = 1024 := by decide
  refine kV.L (L' := [(0, .ref (ρ 0)), (1, .int a1)]) rfl ?_
  obtain ⟨x1, e2⟩ : ∃ z : Int32, w 0 9 = z := ⟨_, rfl⟩
  have b3 : (0 : Int) ≤ x1.toInt ∧ x1.toInt ≤ 1024 := by rw [← e2]; exact hI 0 9
  rw [e2] at hp0
  have g4 := kf_rng a1
  have cut3 : ∀ (n_3 : Nat) (w_3 : kw) (l1_3 l2_3 : Int32), kI false w_3 → kF [(0, some 9), (1, none)] w w_3 → (-8 ≤ l2_3.toInt ∧ l2_3.toInt ≤ 24) → (8 * ((w_3 0 9).toInt - (w 0 9).toInt) = 24 - l2_3.toInt) → ((l2_3.toInt + 8) : Int) < (n_3 : Int) → kV p l e { frames := 0, cells := 0, slots := 0, locals := 0 } s m args below meth c (kQ below args s D τ ρ (fun o w' => o = none ∧ kI false w' ∧ kF [(0, some 9), (1, none)] w w' ∧ ((w' 0 9).toInt = (w 0 9).toInt + 4))) 3 D τ ρ 3 [(0, .ref (ρ 0)), (1, .int l1_3), (2, .int l2_3)] [] w_3 := by
    intro n_3
    induction n_3 with
    | zero => intro w_3 l1_3 l2_3 I_3 F_3 k3_0 k3_1 hmz; exfalso; omega
    | succ n_3 ih3 =>
      intro w_3 l1_3 l2_3 I_3 F_3 k3_0 k3_1 hm3
      have gl1_3 := kf_rng l1_3
      have gl2_3 := kf_rng l2_3
      obtain ⟨x5, e6⟩ : ∃ z : Int32, w_3 0 9 = z := ⟨_, rfl⟩
      have b7 : (0 : Int) ≤ x5.toInt ∧ x5.toInt ≤ 1024 := by rw [← e6]; exact I_3 0 9
      rw [e2, e6] at k3_1
      refine kv_iload_n C 4 rfl 2 (kdec dk_cX9_layOnTape 2 rfl) rfl rfl ?_
      refine kv_if_lt C 7 rfl 51 (kdec dk_cX9_layOnTape 3 rfl) (by decide) (fun d8 => ?_) (fun d8 => ?_)
      · skip
        exact kv_vret C hr hlk (kdec dk_cX9_layOnTape 28 rfl) ⟨rfl, I_3, F_3, (by rw [e2, e6]; try omega)⟩
      · skip
        refine kv_aload_n C 8 rfl 0 (kdec dk_cX9_layOnTape 4 rfl) rfl rfl ?_
        refine kv_get C 11 rfl 0 9 rfl rfl inX9 (by decide) mfl_TaleMachine_71 rfl rfl (kdec dk_cX9_layOnTape 5 rfl) e6 ?_
        refine kv_aload_n C 12 rfl 0 (kdec dk_cX9_layOnTape 6 rfl) rfl rfl ?_
        refine kv_getr C 15 rfl 0 0 rfl rfl inX9 (by decide) mfl_TaleMachine_9 rfl rfl (kdec dk_cX9_layOnTape 7 rfl) ?_
        refine kv_alen C 16 rfl 1 1024 rfl (by decide) rfl (kdec dk_cX9_layOnTape 8 rfl) ?_
        refine kv_icmp_ge C 19 rfl 45 (kdec dk_cX9_layOnTape 9 rfl) (by decide) (fun d9 => ?_) (fun d9 => ?_)
        · exfalso; omega
        · skip
          refine kv_aload_n C 20 rfl 0 (kdec dk_cX9_layOnTape 10 rfl) rfl rfl ?_
          refine kv_getr C 23 rfl 0 0 rfl rfl inX9 (by decide) mfl_TaleMachine_9 rfl rfl (kdec dk_cX9_layOnTape 11 rfl) ?_
          refine kv_aload_n C 24 rfl 0 (kdec dk_cX9_layOnTape 12 rfl) rfl rfl ?_
          refine kv_get C 27 rfl 0 9 rfl rfl inX9 (by decide) mfl_TaleMachine_71 rfl rfl (kdec dk_cX9_layOnTape 13 rfl) e6 ?_
          refine kv_iload_n C 28 rfl 1 (kdec dk_cX9_layOnTape 14 rfl) rfl rfl ?_
          refine kv_iload_n C 29 rfl 2 (kdec dk_cX9_layOnTape 15 rfl) rfl rfl ?_
          refine kv_iushr C 30 rfl (kdec dk_cX9_layOnTape 16 rfl) (fun x10 h11e h11l h11u => ?_)
          refine kv_sipush C 33 rfl 255 (kdec dk_cX9_layOnTape 17 rfl) rfl ?_
          refine kv_iand C 34 rfl (kdec dk_cX9_layOnTape 18 rfl) (fun x12 h13e h13l h13u => ?_)
          have g14 := kf_and255 h13e
          refine kv_iast C 35 rfl 1 rfl (by omega) (by omega) (kdec dk_cX9_layOnTape 19 rfl) (fun w15 u16 => ?_)
          have I17 : kI false w15 := kI_put u16 I_3 (show (0 : Int) ≤ (x12 : Int32).toInt by omega) (show (x12 : Int32).toInt ≤ 255 by omega)
          have F18 : kF [(0, some 9), (1, none)] w w15 := kF_put u16 F_3 rfl
          refine kv_aload_n C 36 rfl 0 (kdec dk_cX9_layOnTape 20 rfl) rfl rfl ?_
          refine kv_dup C 37 rfl (kdec dk_cX9_layOnTape 21 rfl) rfl ?_
          have e19 : w15 0 9 = x5 := ((kup_ne u16 rfl : w15 0 9 = w_3 0 9).trans e6)
          refine kv_get C 40 rfl 0 9 rfl rfl inX9 (by decide) mfl_TaleMachine_71 rfl rfl (kdec dk_cX9_layOnTape 22 rfl) e19 ?_
          refine kv_iconst C 41 rfl 1 (kdec dk_cX9_layOnTape 23 rfl) rfl ?_
          refine kv_iadd C 42 rfl (kdec dk_cX9_layOnTape 24 rfl) (fun x20 q22 h21e h21 h21l h21u => ?_)
          try have h21n : x20.toInt = x5.toInt + (1 : Int32).toInt := by omega
          clear h21 q22
          refine kv_put C 45 rfl 0 9 rfl rfl inX9 (by decide) mfl_TaleMachine_71 rfl tyX9 tyX9_ok nmX9 rfl rfl (kdec dk_cX9_layOnTape 25 rfl) rfl rfl (fun w23 u24 => ?_)
          have I25 : kI false w23 := kI_put u24 I17 (show (0 : Int) ≤ (x20 : Int32).toInt by omega) (show (x20 : Int32).toInt ≤ 1024 by omega)
          have F26 : kF [(0, some 9), (1, none)] w w23 := kF_put u24 F18 rfl
          refine kv_iinc C 48 rfl 2 2 [1, 2, 0] (fun v9 => [(0, .ref (ρ 0)), (1, .int l1_3), (2, .int v9)]) (kdec dk_cX9_layOnTape 26 rfl) rfl (by decide) (fun _ => rfl) (-8) rfl (fun x27 q28 h29e h29 h29l h29u => ?_)
          try have h29n : x27.toInt = l2_3.toInt + (-8) := by omega
          clear h29 q28
          refine kv_goto C 3 (kdec dk_cX9_layOnTape 27 rfl) (by decide) ?_
          exact ih3 w23 l1_3 x27 I25 F26 (by omega) (by rw [e2, (kup_eq u24)]; try omega) (by omega)
  refine kv_bipush C 2 rfl 24 (kdec dk_cX9_layOnTape 0 rfl) rfl ?_
  refine kv_istore_n C 3 rfl 2 [1, 2, 0] [(0, .ref (ρ 0)), (1, .int a1), (2, .int 24)] (kdec dk_cX9_layOnTape 1 rfl) rfl (by decide) rfl ?_
  exact cut3 (((((24 : Int32).toInt + 8)) : Int).toNat + 1) w a1 24 hI hF0 (by omega) (by rw [e2]; try omega) (by omega)

set_option maxHeartbeats 4000000 in
set_option maxRecDepth 100000 in
theorem k_q_take (l : Launch) (D : va_G) (τ : Nat → ClassId) (ρ σ : Nat → Nat) (w : kw)  (hI : kI false w)  :
    kM l D τ ρ σ yX6_take cX6_take 3 (some .int) { frames := 2, cells := 0, slots := 0, locals := 72 } [.ref (ρ 2), .ref (ρ 1), .int 0] w
      (fun o w' => ∃ r : Int32, o = some (.int r) ∧ kI false w' ∧ kF [(2, some 2), (2, some 9), (4, none)] w w' ∧ (r.toInt = 1)) := by
  refine kM_of (own := "TaleMachine$Store") rfl (by decide) (Nat.le_of_ble_eq_true rfl) ?_
  intro p e s m args below meth c C hr hlk
  have hF0 : kF [(2, some 2), (2, some 9), (4, none)] w w := kF.rf
  have c_0 : (0 : Int32).toInt = 0 := by decide
  have c_1 : (1 : Int32).toInt = 1 := by decide
  have c_64 : (64 : Int32).toInt = 64 := by decide
  have c_1024 : (1024 : Int32).toInt = 1024 := by decide
  refine kV.L (L' := [(0, .ref (ρ 2)), (1, .ref (ρ 1)), (2, .int 0)]) rfl ?_
  refine kv_aload_n C 1 rfl 0 (kdec dk_cX6_take 0 rfl) rfl rfl ?_
  refine kv_iconst C 2 rfl 0 (kdec dk_cX6_take 1 rfl) rfl ?_
  refine kv_iload_n C 3 rfl 2 (kdec dk_cX6_take 2 rfl) rfl rfl ?_
  refine kv_aload_n C 4 rfl 1 (kdec dk_cX6_take 3 rfl) rfl rfl ?_
  refine kv_alen C 5 rfl 1 1024 rfl (by decide) rfl (kdec dk_cX6_take 4 rfl) ?_
  refine kv_sipush C 8 rfl 1024 (kdec dk_cX6_take 5 rfl) rfl ?_
  refine kv_min C 11 rfl mml_TaleMachine_Store_18 jm_min_s jm_init jm_min_c (by decide) (Nat.le_of_ble_eq_true rfl) (kdec dk_cX6_take 6 rfl) (fun x1 h2 => ?_)
  have g3 := kf_rng x1
  refine kv_min C 14 rfl mml_TaleMachine_Store_18 jm_min_s jm_init jm_min_c (by decide) (Nat.le_of_ble_eq_true rfl) (kdec dk_cX6_take 7 rfl) (fun x4 h5 => ?_)
  have g6 := kf_rng x4
  refine kv_max C 17 rfl mml_TaleMachine_Store_24 jm_max_s jm_init jm_max_c (by decide) (Nat.le_of_ble_eq_true rfl) (kdec dk_cX6_take 8 rfl) (fun x7 h8 => ?_)
  have g9 := kf_rng x7
  refine kv_put C 20 rfl 2 2 rfl rfl inX6 (by decide) mfl_TaleMachine_Store_27 rfl tyX6 tyX6_ok nmX6 rfl rfl (kdec dk_cX6_take 9 rfl) rfl rfl (fun w10 u11 => ?_)
  have I12 : kI false w10 := kI_put u11 hI (show (0 : Int) ≤ (x7 : Int32).toInt by omega) (show (x7 : Int32).toInt ≤ 1024 by omega)
  have F13 : kF [(2, some 2), (2, some 9), (4, none)] w w10 := kF_put u11 hF0 rfl
  refine kv_aload_n C 21 rfl 1 (kdec dk_cX6_take 10 rfl) rfl rfl ?_
  refine kv_iconst C 22 rfl 0 (kdec dk_cX6_take 11 rfl) rfl ?_
  refine kv_aload_n C 23 rfl 0 (kdec dk_cX6_take 12 rfl) rfl rfl ?_
  refine kv_getr C 26 rfl 2 1 rfl rfl inX6 (by decide) mfl_TaleMachine_Store_15 rfl rfl (kdec dk_cX6_take 13 rfl) ?_
  refine kv_iconst C 27 rfl 0 (kdec dk_cX6_take 14 rfl) rfl ?_
  refine kv_aload_n C 28 rfl 0 (kdec dk_cX6_take 15 rfl) rfl rfl ?_
  refine kv_get C 31 rfl 2 2 rfl rfl inX6 (by decide) mfl_TaleMachine_Store_27 rfl rfl (kdec dk_cX6_take 16 rfl) (kup_eq u11) ?_
  refine kv_copy C 34 rfl 1 4 rfl rfl mml_TaleMachine_Store_31 jc_n jc_s jc_i (by omega) (by omega) (by omega) (by omega) (by omega) (by decide) (Nat.le_of_ble_eq_true rfl) (kdec dk_cX6_take 17 rfl) (fun w14 u15 => ?_)
  have I16 : kI false w14 := kI_cpy u15 I12 (fun _ => rfl) (fun _ _ => rfl)
  have F17 : kF [(2, some 2), (2, some 9), (4, none)] w w14 := kF_row u15 F13 (fun _ => rfl)
  refine kv_aload_n C 35 rfl 0 (kdec dk_cX6_take 18 rfl) rfl rfl ?_
  refine kv_iconst C 36 rfl 0 (kdec dk_cX6_take 19 rfl) rfl ?_
  refine kv_put C 39 rfl 2 9 rfl rfl inX6 (by decide) mfl_TaleMachine_Store_37 rfl tyX6 tyX6_ok nmX6 rfl rfl (kdec dk_cX6_take 20 rfl) rfl rfl (fun w18 u19 => ?_)
  have I20 : kI false w18 := kI_put u19 I16 (show (0 : Int) ≤ (0 : Int32).toInt by omega) (show (0 : Int32).toInt ≤ 13 by omega)
  have F21 : kF [(2, some 2), (2, some 9), (4, none)] w w18 := kF_put u19 F17 rfl
  refine kv_aload_n C 40 rfl 0 (kdec dk_cX6_take 21 rfl) rfl rfl ?_
  have e22 : w18 2 2 = x7 := ((kup_ne u19 rfl : w18 2 2 = w14 2 2).trans ((kur_ne u15 rfl : w14 2 2 = w10 2 2).trans (kup_eq u11)))
  refine kv_get C 43 rfl 2 2 rfl rfl inX6 (by decide) mfl_TaleMachine_Store_27 rfl rfl (kdec dk_cX6_take 22 rfl) e22 ?_
  refine kv_bipush C 45 rfl 64 (kdec dk_cX6_take 23 rfl) rfl ?_
  refine kv_icmp_ge C 48 rfl 50 (kdec dk_cX6_take 24 rfl) (by decide) (fun d23 => ?_) (fun d23 => ?_)
  · exfalso; omega
  · skip
    refine kv_iconst C 49 rfl 1 (kdec dk_cX6_take 25 rfl) rfl ?_
    exact kv_iret C hr hlk (kdec dk_cX6_take 26 rfl) ⟨_, rfl, I20, F21, (by omega)⟩

set_option maxHeartbeats 4000000 in
set_option maxRecDepth 100000 in
theorem k_q_feed (l : Launch) (D : va_G) (τ : Nat → ClassId) (ρ σ : Nat → Nat) (w : kw) (a1 : Int32) (a2 : Int32) (a3 : Int32) (a4 : Int32) (a5 : Int32) (a6 : Int32) (a7 : Int32) (a8 : Int32) (hI : kI false w) (hx_0_9 : w 0 9 = 0) :
    kM l D τ ρ σ yX9_feed cX9_feed 9 (some .int) { frames := 1, cells := 0, slots := 0, locals := 36 } [.ref (ρ 0), .int a1, .int a2, .int a3, .int a4, .int a5, .int a6, .int a7, .int a8] w
      (fun o w' => ∃ r : Int32, o = some (.int r) ∧ kI false w' ∧ kF [(0, some 9), (1, none)] w w' ∧ (r.toInt = 32)) := by
  refine kM_of (own := "TaleMachine") rfl (by decide) (Nat.le_of_ble_eq_true rfl) ?_
  intro p e s m args below meth c C hr hlk
  have hF0 : kF [(0, some 9), (1, none)] w w := kF.rf
  have c_m3 : (-3 : Int32).toInt = -3 := by decide
  have c_0 : (0 : Int32).toInt = 0 := by decide
  have c_32 : (32 : Int32).toInt = 32 := by decide
  have c_1024 : (1024 : Int32).toInt = 1024 := by decide
  refine kV.L (L' := [(0, .ref (ρ 0)), (1, .int a1), (2, .int a2), (3, .int a3), (4, .int a4), (5, .int a5), (6, .int a6), (7, .int a7), (8, .int a8)]) rfl ?_
  have g1 := kf_rng a1
  have g2 := kf_rng a2
  have g3 := kf_rng a3
  have g4 := kf_rng a4
  have g5 := kf_rng a5
  have g6 := kf_rng a6
  have g7 := kf_rng a7
  have g8 := kf_rng a8
  refine kv_aload_n C 1 rfl 0 (kdec dk_cX9_feed 0 rfl) rfl rfl ?_
  refine kv_get C 4 rfl 0 9 rfl rfl inX9 (by decide) mfl_TaleMachine_71 rfl rfl (kdec dk_cX9_feed 1 rfl) hx_0_9 ?_
  refine kv_bipush C 6 rfl 32 (kdec dk_cX9_feed 2 rfl) rfl ?_
  refine kv_iadd C 7 rfl (kdec dk_cX9_feed 3 rfl) (fun x9 q11 h10e h10 h10l h10u => ?_)
  try have h10n : x9.toInt = (0 : Int32).toInt + (32 : Int32).toInt := by omega
  clear h10 q11
  refine kv_sipush C 10 rfl 1024 (kdec dk_cX9_feed 4 rfl) rfl ?_
  refine kv_icmp_le C 13 rfl 16 (kdec dk_cX9_feed 5 rfl) (by decide) (fun d12 => ?_) (fun d12 => ?_)
  · skip
    refine kv_aload_n C 17 rfl 0 (kdec dk_cX9_feed 8 rfl) rfl rfl ?_
    refine kv_iload_n C 18 rfl 1 (kdec dk_cX9_feed 9 rfl) rfl rfl ?_
    refine kv_callVv (As := [.int a1]) (rest := []) C 21 rfl 0 (k_q_layOnTape l D τ ρ σ w a1 hI (by rw [hx_0_9]; try omega)) rfl rfl mml_TaleMachine_75 mim_yX9_layOnTape mse_yX9_layOnTape mcd_yX9_layOnTape min_yX9_layOnTape hd_yX9_layOnTape rfl rfl rfl (by decide) rfl (Nat.le_of_ble_eq_true rfl) (kdec dk_cX9_feed 10 rfl) (fun w13 h14 => ?_)
    obtain ⟨I15, f16, p18⟩ := h14
    have F19 : kF [(0, some 9), (1, none)] w w13 := kF_call hF0 f16 (by decide)
    obtain ⟨x20, e21⟩ : ∃ z : Int32, w13 0 9 = z := ⟨_, rfl⟩
    have b22 : (0 : Int) ≤ x20.toInt ∧ x20.toInt ≤ 1024 := by rw [← e21]; exact I15 0 9
    rw [hx_0_9, e21] at p18
    refine kv_aload_n C 22 rfl 0 (kdec dk_cX9_feed 11 rfl) rfl rfl ?_
    refine kv_iload_n C 23 rfl 2 (kdec dk_cX9_feed 12 rfl) rfl rfl ?_
    refine kv_callVv (As := [.int a2]) (rest := []) C 26 rfl 0 (k_q_layOnTape l D τ ρ σ w13 a2 I15 (by rw [e21]; try omega)) rfl rfl mml_TaleMachine_75 mim_yX9_layOnTape mse_yX9_layOnTape mcd_yX9_layOnTape min_yX9_layOnTape hd_yX9_layOnTape rfl rfl rfl (by decide) rfl (Nat.le_of_ble_eq_true rfl) (kdec dk_cX9_feed 13 rfl) (fun w23 h24 => ?_)
    obtain ⟨I25, f26, p28⟩ := h24
    have F29 : kF [(0, some 9), (1, none)] w w23 := kF_call F19 f26 (by decide)
    obtain ⟨x30, e31⟩ : ∃ z : Int32, w23 0 9 = z := ⟨_, rfl⟩
    have b32 : (0 : Int) ≤ x30.toInt ∧ x30.toInt ≤ 1024 := by rw [← e31]; exact I25 0 9
    rw [e21, e31] at p28
    refine kv_aload_n C 27 rfl 0 (kdec dk_cX9_feed 14 rfl) rfl rfl ?_
    refine kv_iload_n C 28 rfl 3 (kdec dk_cX9_feed 15 rfl) rfl rfl ?_
    refine kv_callVv (As := [.int a3]) (rest := []) C 31 rfl 0 (k_q_layOnTape l D τ ρ σ w23 a3 I25 (by rw [e31]; try omega)) rfl rfl mml_TaleMachine_75 mim_yX9_layOnTape mse_yX9_layOnTape mcd_yX9_layOnTape min_yX9_layOnTape hd_yX9_layOnTape rfl rfl rfl (by decide) rfl (Nat.le_of_ble_eq_true rfl) (kdec dk_cX9_feed 16 rfl) (fun w33 h34 => ?_)
    obtain ⟨I35, f36, p38⟩ := h34
    have F39 : kF [(0, some 9), (1, none)] w w33 := kF_call F29 f36 (by decide)
    obtain ⟨x40, e41⟩ : ∃ z : Int32, w33 0 9 = z := ⟨_, rfl⟩
    have b42 : (0 : Int) ≤ x40.toInt ∧ x40.toInt ≤ 1024 := by rw [← e41]; exact I35 0 9
    rw [e31, e41] at p38
    refine kv_aload_n C 32 rfl 0 (kdec dk_cX9_feed 17 rfl) rfl rfl ?_
    refine kv_iload C 34 rfl 4 (kdec dk_cX9_feed 18 rfl) rfl ?_
    refine kv_callVv (As := [.int a4]) (rest := []) C 37 rfl 0 (k_q_layOnTape l D τ ρ σ w33 a4 I35 (by rw [e41]; try omega)) rfl rfl mml_TaleMachine_75 mim_yX9_layOnTape mse_yX9_layOnTape mcd_yX9_layOnTape min_yX9_layOnTape hd_yX9_layOnTape rfl rfl rfl (by decide) rfl (Nat.le_of_ble_eq_true rfl) (kdec dk_cX9_feed 19 rfl) (fun w43 h44 => ?_)
    obtain ⟨I45, f46, p48⟩ := h44
    have F49 : kF [(0, some 9), (1, none)] w w43 := kF_call F39 f46 (by decide)
    obtain ⟨x50, e51⟩ : ∃ z : Int32, w43 0 9 = z := ⟨_, rfl⟩
    have b52 : (0 : Int) ≤ x50.toInt ∧ x50.toInt ≤ 1024 := by rw [← e51]; exact I45 0 9
    rw [e41, e51] at p48
    refine kv_aload_n C 38 rfl 0 (kdec dk_cX9_feed 20 rfl) rfl rfl ?_
    refine kv_iload C 40 rfl 5 (kdec dk_cX9_feed 21 rfl) rfl ?_
    refine kv_callVv (As := [.int a5]) (rest := []) C 43 rfl 0 (k_q_layOnTape l D τ ρ σ w43 a5 I45 (by rw [e51]; try omega)) rfl rfl mml_TaleMachine_75 mim_yX9_layOnTape mse_yX9_layOnTape mcd_yX9_layOnTape min_yX9_layOnTape hd_yX9_layOnTape rfl rfl rfl (by decide) rfl (Nat.le_of_ble_eq_true rfl) (kdec dk_cX9_feed 22 rfl) (fun w53 h54 => ?_)
    obtain ⟨I55, f56, p58⟩ := h54
    have F59 : kF [(0, some 9), (1, none)] w w53 := kF_call F49 f56 (by decide)
    obtain ⟨x60, e61⟩ : ∃ z : Int32, w53 0 9 = z := ⟨_, rfl⟩
    have b62 : (0 : Int) ≤ x60.toInt ∧ x60.toInt ≤ 1024 := by rw [← e61]; exact I55 0 9
    rw [e51, e61] at p58
    refine kv_aload_n C 44 rfl 0 (kdec dk_cX9_feed 23 rfl) rfl rfl ?_
    refine kv_iload C 46 rfl 6 (kdec dk_cX9_feed 24 rfl) rfl ?_
    refine kv_callVv (As := [.int a6]) (rest := []) C 49 rfl 0 (k_q_layOnTape l D τ ρ σ w53 a6 I55 (by rw [e61]; try omega)) rfl rfl mml_TaleMachine_75 mim_yX9_layOnTape mse_yX9_layOnTape mcd_yX9_layOnTape min_yX9_layOnTape hd_yX9_layOnTape rfl rfl rfl (by decide) rfl (Nat.le_of_ble_eq_true rfl) (kdec dk_cX9_feed 25 rfl) (fun w63 h64 => ?_)
    obtain ⟨I65, f66, p68⟩ := h64
    have F69 : kF [(0, some 9), (1, none)] w w63 := kF_call F59 f66 (by decide)
    obtain ⟨x70, e71⟩ : ∃ z : Int32, w63 0 9 = z := ⟨_, rfl⟩
    have b72 : (0 : Int) ≤ x70.toInt ∧ x70.toInt ≤ 1024 := by rw [← e71]; exact I65 0 9
    rw [e61, e71] at p68
    refine kv_aload_n C 50 rfl 0 (kdec dk_cX9_feed 26 rfl) rfl rfl ?_
    refine kv_iload C 52 rfl 7 (kdec dk_cX9_feed 27 rfl) rfl ?_
    refine kv_callVv (As := [.int a7]) (rest := []) C 55 rfl 0 (k_q_layOnTape l D τ ρ σ w63 a7 I65 (by rw [e71]; try omega)) rfl rfl mml_TaleMachine_75 mim_yX9_layOnTape mse_yX9_layOnTape mcd_yX9_layOnTape min_yX9_layOnTape hd_yX9_layOnTape rfl rfl rfl (by decide) rfl (Nat.le_of_ble_eq_true rfl) (kdec dk_cX9_feed 28 rfl) (fun w73 h74 => ?_)
    obtain ⟨I75, f76, p78⟩ := h74
    have F79 : kF [(0, some 9), (1, none)] w w73 := kF_call F69 f76 (by decide)
    obtain ⟨x80, e81⟩ : ∃ z : Int32, w73 0 9 = z := ⟨_, rfl⟩
    have b82 : (0 : Int) ≤ x80.toInt ∧ x80.toInt ≤ 1024 := by rw [← e81]; exact I75 0 9
    rw [e71, e81] at p78
    refine kv_aload_n C 56 rfl 0 (kdec dk_cX9_feed 29 rfl) rfl rfl ?_
    refine kv_iload C 58 rfl 8 (kdec dk_cX9_feed 30 rfl) rfl ?_
    refine kv_callVv (As := [.int a8]) (rest := []) C 61 rfl 0 (k_q_layOnTape l D τ ρ σ w73 a8 I75 (by rw [e81]; try omega)) rfl rfl mml_TaleMachine_75 mim_yX9_layOnTape mse_yX9_layOnTape mcd_yX9_layOnTape min_yX9_layOnTape hd_yX9_layOnTape rfl rfl rfl (by decide) rfl (Nat.le_of_ble_eq_true rfl) (kdec dk_cX9_feed 31 rfl) (fun w83 h84 => ?_)
    obtain ⟨I85, f86, p88⟩ := h84
    have F89 : kF [(0, some 9), (1, none)] w w83 := kF_call F79 f86 (by decide)
    obtain ⟨x90, e91⟩ : ∃ z : Int32, w83 0 9 = z := ⟨_, rfl⟩
    have b92 : (0 : Int) ≤ x90.toInt ∧ x90.toInt ≤ 1024 := by rw [← e91]; exact I85 0 9
    rw [e81, e91] at p88
    refine kv_aload_n C 62 rfl 0 (kdec dk_cX9_feed 32 rfl) rfl rfl ?_
    refine kv_get C 65 rfl 0 9 rfl rfl inX9 (by decide) mfl_TaleMachine_71 rfl rfl (kdec dk_cX9_feed 33 rfl) e91 ?_
    exact kv_iret C hr hlk (kdec dk_cX9_feed 34 rfl) ⟨_, rfl, I85, F89, (by omega)⟩
  · skip
    refine kv_bipush C 15 rfl (-3) (kdec dk_cX9_feed 6 rfl) rfl ?_
    exact kv_iret C hr hlk (kdec dk_cX9_feed 7 rfl) ⟨_, rfl, hI, hF0, (by omega)⟩

set_option maxHeartbeats 4000000 in
set_option maxRecDepth 100000 in
theorem k_q_end (l : Launch) (D : va_G) (τ : Nat → ClassId) (ρ σ : Nat → Nat) (w : kw) (a1 : Int32) (hI : kI false w) (hx_0_9 : w 0 9 = 0) :
    kM l D τ ρ σ yX9_end cX9_end 3 (some .int) { frames := 0, cells := 0, slots := 0, locals := 0 } [.ref (ρ 0), .int a1] w
      (fun o w' => ∃ r : Int32, o = some (.int r) ∧ kI false w' ∧ kF [(0, some 9)] w w' ∧ (a1.toInt = 0 ∧ r.toInt = 0 ∨ ¬ a1.toInt = 0 ∧ r.toInt = -1)) := by
  refine kM_of (own := "TaleMachine") rfl (by decide) (Nat.le_of_ble_eq_true rfl) ?_
  intro p e s m args below meth c C hr hlk
  have hF0 : kF [(0, some 9)] w w := kF.rf
  have c_m1 : (-1 : Int32).toInt = -1 := by decide
  have c_0 : (0 : Int32).toInt = 0 := by decide
  refine kV.L (L' := [(0, .ref (ρ 0)), (1, .int a1)]) rfl ?_
  have g1 := kf_rng a1
  refine kv_iload_n C 1 rfl 1 (kdec dk_cX9_end 0 rfl) rfl rfl ?_
  refine kv_if_lt C 4 rfl 12 (kdec dk_cX9_end 1 rfl) (by decide) (fun d2 => ?_) (fun d2 => ?_)
  · skip
    refine kv_iconst C 13 rfl (-1) (kdec dk_cX9_end 6 rfl) rfl ?_
    exact kv_iret C hr hlk (kdec dk_cX9_end 7 rfl) ⟨_, rfl, hI, hF0, (by omega)⟩
  · skip
    refine kv_iload_n C 5 rfl 1 (kdec dk_cX9_end 2 rfl) rfl rfl ?_
    refine kv_aload_n C 6 rfl 0 (kdec dk_cX9_end 3 rfl) rfl rfl ?_
    refine kv_get C 9 rfl 0 9 rfl rfl inX9 (by decide) mfl_TaleMachine_71 rfl rfl (kdec dk_cX9_end 4 rfl) hx_0_9 ?_
    refine kv_icmp_le C 12 rfl 14 (kdec dk_cX9_end 5 rfl) (by decide) (fun d3 => ?_) (fun d3 => ?_)
    · skip
      refine kv_aload_n C 15 rfl 0 (kdec dk_cX9_end 8 rfl) rfl rfl ?_
      refine kv_get C 18 rfl 0 9 rfl rfl inX9 (by decide) mfl_TaleMachine_71 rfl rfl (kdec dk_cX9_end 9 rfl) hx_0_9 ?_
      refine kv_istore_n C 19 rfl 2 [1, 2, 0] [(0, .ref (ρ 0)), (1, .int a1), (2, .int 0)] (kdec dk_cX9_end 10 rfl) rfl (by decide) rfl ?_
      refine kv_aload_n C 20 rfl 0 (kdec dk_cX9_end 11 rfl) rfl rfl ?_
      refine kv_iload_n C 21 rfl 1 (kdec dk_cX9_end 12 rfl) rfl rfl ?_
      refine kv_put C 24 rfl 0 9 rfl rfl inX9 (by decide) mfl_TaleMachine_71 rfl tyX9 tyX9_ok nmX9 rfl rfl (kdec dk_cX9_end 13 rfl) rfl rfl (fun w4 u5 => ?_)
      have I6 : kI false w4 := kI_put u5 hI (show (0 : Int) ≤ (a1 : Int32).toInt by omega) (show (a1 : Int32).toInt ≤ 1024 by omega)
      have F7 : kF [(0, some 9)] w w4 := kF_put u5 hF0 rfl
      refine kv_iload_n C 25 rfl 2 (kdec dk_cX9_end 14 rfl) rfl rfl ?_
      exact kv_iret C hr hlk (kdec dk_cX9_end 15 rfl) ⟨_, rfl, I6, F7, (by omega)⟩
    · skip
      refine kv_iconst C 13 rfl (-1) (kdec dk_cX9_end 6 rfl) rfl ?_
      exact kv_iret C hr hlk (kdec dk_cX9_end 7 rfl) ⟨_, rfl, hI, hF0, (by omega)⟩

set_option maxHeartbeats 4000000 in
set_option maxRecDepth 100000 in
theorem k_q_load (l : Launch) (D : va_G) (τ : Nat → ClassId) (ρ σ : Nat → Nat) (w : kw)  (hI : kI false w) (hx_0_9 : w 0 9 = 0) :
    kM l D τ ρ σ yX9_load cX9_load 3 (some .int) { frames := 3, cells := 0, slots := 0, locals := 108 } [.ref (ρ 0)] w
      (fun o w' => ∃ r : Int32, o = some (.int r) ∧ kI false w' ∧ kF [(0, some 9), (2, some 2), (2, some 9), (4, none), (20, some 10), (25, some 2), (34, some 2), (43, some 2), (52, some 2)] w w' ∧ (r.toInt = -11)) := by
  refine kM_of (own := "TaleMachine") rfl (by decide) (Nat.le_of_ble_eq_true rfl) ?_
  intro p e s m args below meth c C hr hlk
  have hF0 : kF [(0, some 9), (2, some 2), (2, some 9), (4, none), (20, some 10), (25, some 2), (34, some 2), (43, some 2), (52, some 2)] w w := kF.rf
  have c_m10 : (-10 : Int32).toInt = -10 := by decide
  have c_0 : (0 : Int32).toInt = 0 := by decide
  have c_4 : (4 : Int32).toInt = 4 := by decide
  refine kV.L (L' := [(0, .ref (ρ 0))]) rfl ?_
  have cut23 : ∀ (n_23 : Nat) (w_23 : kw) (l1_23 l2_23 : Int32), kI false w_23 → kF [(0, some 9), (2, some 2), (2, some 9), (4, none), (20, some 10), (25, some 2), (34, some 2), (43, some 2), (52, some 2)] w w_23 → (0 ≤ l2_23.toInt ∧ l2_23.toInt ≤ 4) → (l1_23.toInt = 1) → ((5 - l2_23.toInt) : Int) < (n_23 : Int) → kV p l e { frames := 3, cells := 0, slots := 0, locals := 108 } s m args below meth c (kQ below args s D τ ρ (fun o w' => ∃ r : Int32, o = some (.int r) ∧ kI false w' ∧ kF [(0, some 9), (2, some 2), (2, some 9), (4, none), (20, some 10), (25, some 2), (34, some 2), (43, some 2), (52, some 2)] w w' ∧ (r.toInt = -11))) 3 D τ ρ 23 [(0, .ref (ρ 0)), (1, .int l1_23), (2, .int l2_23)] [] w_23 := by
    intro n_23
    induction n_23 with
    | zero => intro w_23 l1_23 l2_23 I_23 F_23 k23_0 k23_1 hmz; exfalso; omega
    | succ n_23 ih23 =>
      intro w_23 l1_23 l2_23 I_23 F_23 k23_0 k23_1 hm23
      have gl1_23 := kf_rng l1_23
      have gl2_23 := kf_rng l2_23
      refine kv_iload_n C 24 rfl 2 (kdec dk_cX9_load 13 rfl) rfl rfl ?_
      refine kv_aload_n C 25 rfl 0 (kdec dk_cX9_load 14 rfl) rfl rfl ?_
      refine kv_getr C 28 rfl 0 8 rfl rfl inX9 (by decide) mfl_TaleMachine_66 rfl rfl (kdec dk_cX9_load 15 rfl) ?_
      refine kv_alenq C 29 rfl 24 4 rfl rfl (kdec dk_cX9_load 16 rfl) ?_
      refine kv_icmp_ge C 32 rfl 48 (kdec dk_cX9_load 17 rfl) (by decide) (fun d1 => ?_) (fun d1 => ?_)
      · skip
        refine kv_iload_n C 49 rfl 1 (kdec dk_cX9_load 26 rfl) rfl rfl ?_
        refine kv_if_eq C 52 rfl 65 (kdec dk_cX9_load 27 rfl) (by decide) (fun d2 => ?_) (fun d2 => ?_)
        · exfalso; omega
        · skip
          refine kv_aload_n C 53 rfl 0 (kdec dk_cX9_load 28 rfl) rfl rfl ?_
          refine kv_getr C 56 rfl 0 7 rfl rfl inX9 (by decide) mfl_TaleMachine_60 rfl rfl (kdec dk_cX9_load 29 rfl) ?_
          refine kv_iconst C 57 rfl 0 (kdec dk_cX9_load 30 rfl) rfl ?_
          refine kv_putN C 60 rfl 20 10 rfl rfl inX1 (by decide) mfn_TaleMachine_86 rfl tyX1 tyX1_ok nmX1 rfl rfl (kdec dk_cX9_load 31 rfl) rfl rfl (fun w3 u4 => ?_)
          have I5 : kI false w3 := kI_put u4 I_23 (show (0 : Int) ≤ (0 : Int32).toInt by omega) (show (0 : Int32).toInt ≤ 4 by omega)
          have F6 : kF [(0, some 9), (2, some 2), (2, some 9), (4, none), (20, some 10), (25, some 2), (34, some 2), (43, some 2), (52, some 2)] w w3 := kF_put u4 F_23 rfl
          refine kv_bipush C 62 rfl (-10) (kdec dk_cX9_load 32 rfl) rfl ?_
          refine kv_iload_n C 63 rfl 1 (kdec dk_cX9_load 33 rfl) rfl rfl ?_
          refine kv_isub C 64 rfl (kdec dk_cX9_load 34 rfl) (fun x7 q9 h8e h8 h8l h8u => ?_)
          try have h8n : x7.toInt = ((-10) : Int32).toInt - l1_23.toInt := by omega
          clear h8 q9
          exact kv_iret C hr hlk (kdec dk_cX9_load 35 rfl) ⟨_, rfl, I5, F6, (by omega)⟩
      · skip
        refine kv_aload_n C 33 rfl 0 (kdec dk_cX9_load 18 rfl) rfl rfl ?_
        refine kv_getr C 36 rfl 0 8 rfl rfl inX9 (by decide) mfl_TaleMachine_66 rfl rfl (kdec dk_cX9_load 19 rfl) ?_
        refine kv_iload_n C 37 rfl 2 (kdec dk_cX9_load 20 rfl) rfl rfl ?_
        have d10 : (l2_23 : Int32).toInt = 0 ∨ (l2_23 : Int32).toInt = 1 ∨ (l2_23 : Int32).toInt = 2 ∨ (l2_23 : Int32).toInt = 3 := by omega
        rcases d10 with d10 | d10 | d10 | d10
        · skip
          refine kv_aldq C 38 rfl 24 0 rfl d10 rfl (by decide) (kdec dk_cX9_load 21 rfl) ?_
          refine kv_iconst C 39 rfl 0 (kdec dk_cX9_load 22 rfl) rfl ?_
          refine kv_putN C 42 rfl 25 2 rfl rfl inX5 (by decide) mfn_TaleMachine_82 rfl tyX5 tyX5_ok nmX5 rfl rfl (kdec dk_cX9_load 23 rfl) (kf_bool (by decide)) rfl (fun w11 u12 => ?_)
          have I13 : kI false w11 := kI_put u12 I_23 (show (0 : Int) ≤ (0 : Int32).toInt by omega) (show (0 : Int32).toInt ≤ 1 by omega)
          have F14 : kF [(0, some 9), (2, some 2), (2, some 9), (4, none), (20, some 10), (25, some 2), (34, some 2), (43, some 2), (52, some 2)] w w11 := kF_put u12 F_23 rfl
          refine kv_iinc C 45 rfl 2 2 [1, 2, 0] (fun v9 => [(0, .ref (ρ 0)), (1, .int l1_23), (2, .int v9)]) (kdec dk_cX9_load 24 rfl) rfl (by decide) (fun _ => rfl) 1 rfl (fun x15 q16 h17e h17 h17l h17u => ?_)
          try have h17n : x15.toInt = l2_23.toInt + 1 := by omega
          clear h17 q16
          refine kv_goto C 23 (kdec dk_cX9_load 25 rfl) (by decide) ?_
          exact ih23 w11 l1_23 x15 I13 F14 (by omega) (by omega) (by omega)
        · skip
          refine kv_aldq C 38 rfl 24 1 rfl d10 rfl (by decide) (kdec dk_cX9_load 21 rfl) ?_
          refine kv_iconst C 39 rfl 0 (kdec dk_cX9_load 22 rfl) rfl ?_
          refine kv_putN C 42 rfl 34 2 rfl rfl inX5 (by decide) mfn_TaleMachine_82 rfl tyX5 tyX5_ok nmX5 rfl rfl (kdec dk_cX9_load 23 rfl) (kf_bool (by decide)) rfl (fun w18 u19 => ?_)
          have I20 : kI false w18 := kI_put u19 I_23 (show (0 : Int) ≤ (0 : Int32).toInt by omega) (show (0 : Int32).toInt ≤ 1 by omega)
          have F21 : kF [(0, some 9), (2, some 2), (2, some 9), (4, none), (20, some 10), (25, some 2), (34, some 2), (43, some 2), (52, some 2)] w w18 := kF_put u19 F_23 rfl
          refine kv_iinc C 45 rfl 2 2 [1, 2, 0] (fun v9 => [(0, .ref (ρ 0)), (1, .int l1_23), (2, .int v9)]) (kdec dk_cX9_load 24 rfl) rfl (by decide) (fun _ => rfl) 1 rfl (fun x22 q23 h24e h24 h24l h24u => ?_)
          try have h24n : x22.toInt = l2_23.toInt + 1 := by omega
          clear h24 q23
          refine kv_goto C 23 (kdec dk_cX9_load 25 rfl) (by decide) ?_
          exact ih23 w18 l1_23 x22 I20 F21 (by omega) (by omega) (by omega)
        · skip
          refine kv_aldq C 38 rfl 24 2 rfl d10 rfl (by decide) (kdec dk_cX9_load 21 rfl) ?_
          refine kv_iconst C 39 rfl 0 (kdec dk_cX9_load 22 rfl) rfl ?_
          refine kv_putN C 42 rfl 43 2 rfl rfl inX5 (by decide) mfn_TaleMachine_82 rfl tyX5 tyX5_ok nmX5 rfl rfl (kdec dk_cX9_load 23 rfl) (kf_bool (by decide)) rfl (fun w25 u26 => ?_)
          have I27 : kI false w25 := kI_put u26 I_23 (show (0 : Int) ≤ (0 : Int32).toInt by omega) (show (0 : Int32).toInt ≤ 1 by omega)
          have F28 : kF [(0, some 9), (2, some 2), (2, some 9), (4, none), (20, some 10), (25, some 2), (34, some 2), (43, some 2), (52, some 2)] w w25 := kF_put u26 F_23 rfl
          refine kv_iinc C 45 rfl 2 2 [1, 2, 0] (fun v9 => [(0, .ref (ρ 0)), (1, .int l1_23), (2, .int v9)]) (kdec dk_cX9_load 24 rfl) rfl (by decide) (fun _ => rfl) 1 rfl (fun x29 q30 h31e h31 h31l h31u => ?_)
          try have h31n : x29.toInt = l2_23.toInt + 1 := by omega
          clear h31 q30
          refine kv_goto C 23 (kdec dk_cX9_load 25 rfl) (by decide) ?_
          exact ih23 w25 l1_23 x29 I27 F28 (by omega) (by omega) (by omega)
        · skip
          refine kv_aldq C 38 rfl 24 3 rfl d10 rfl (by decide) (kdec dk_cX9_load 21 rfl) ?_
          refine kv_iconst C 39 rfl 0 (kdec dk_cX9_load 22 rfl) rfl ?_
          refine kv_putN C 42 rfl 52 2 rfl rfl inX5 (by decide) mfn_TaleMachine_82 rfl tyX5 tyX5_ok nmX5 rfl rfl (kdec dk_cX9_load 23 rfl) (kf_bool (by decide)) rfl (fun w32 u33 => ?_)
          have I34 : kI false w32 := kI_put u33 I_23 (show (0 : Int) ≤ (0 : Int32).toInt by omega) (show (0 : Int32).toInt ≤ 1 by omega)
          have F35 : kF [(0, some 9), (2, some 2), (2, some 9), (4, none), (20, some 10), (25, some 2), (34, some 2), (43, some 2), (52, some 2)] w w32 := kF_put u33 F_23 rfl
          refine kv_iinc C 45 rfl 2 2 [1, 2, 0] (fun v9 => [(0, .ref (ρ 0)), (1, .int l1_23), (2, .int v9)]) (kdec dk_cX9_load 24 rfl) rfl (by decide) (fun _ => rfl) 1 rfl (fun x36 q37 h38e h38 h38l h38u => ?_)
          try have h38n : x36.toInt = l2_23.toInt + 1 := by omega
          clear h38 q37
          refine kv_goto C 23 (kdec dk_cX9_load 25 rfl) (by decide) ?_
          exact ih23 w32 l1_23 x36 I34 F35 (by omega) (by omega) (by omega)
  refine kv_aload_n C 1 rfl 0 (kdec dk_cX9_load 0 rfl) rfl rfl ?_
  refine kv_getr C 4 rfl 0 1 rfl rfl inX9 (by decide) mfl_TaleMachine_16 rfl rfl (kdec dk_cX9_load 1 rfl) ?_
  refine kv_aload_n C 5 rfl 0 (kdec dk_cX9_load 2 rfl) rfl rfl ?_
  refine kv_getr C 8 rfl 0 0 rfl rfl inX9 (by decide) mfl_TaleMachine_9 rfl rfl (kdec dk_cX9_load 3 rfl) ?_
  refine kv_aload_n C 9 rfl 0 (kdec dk_cX9_load 4 rfl) rfl rfl ?_
  refine kv_get C 12 rfl 0 9 rfl rfl inX9 (by decide) mfl_TaleMachine_71 rfl rfl (kdec dk_cX9_load 5 rfl) hx_0_9 ?_
  refine kv_callVNi (As := [.ref (ρ 1), .int 0]) (rest := []) C 15 rfl 2 (k_q_take l D τ ρ σ w  hI ) rfl rfl mmn_TaleMachine_78 mim_yX6_take mse_yX6_take mcd_yX6_take min_yX6_take hd_yX6_take rfl rfl rfl (by decide) rfl (Nat.le_of_ble_eq_true rfl) (kdec dk_cX9_load 6 rfl) (fun x43 w39 h40 => ?_)
  obtain ⟨I41, f42, p44⟩ := h40
  have F45 : kF [(0, some 9), (2, some 2), (2, some 9), (4, none), (20, some 10), (25, some 2), (34, some 2), (43, some 2), (52, some 2)] w w39 := kF_call hF0 f42 (by decide)
  have g46 := kf_rng x43
  refine kv_istore_n C 16 rfl 1 [1, 0] [(0, .ref (ρ 0)), (1, .int x43)] (kdec dk_cX9_load 7 rfl) rfl (by decide) rfl ?_
  refine kv_aload_n C 17 rfl 0 (kdec dk_cX9_load 8 rfl) rfl rfl ?_
  refine kv_iconst C 18 rfl 0 (kdec dk_cX9_load 9 rfl) rfl ?_
  refine kv_put C 21 rfl 0 9 rfl rfl inX9 (by decide) mfl_TaleMachine_71 rfl tyX9 tyX9_ok nmX9 rfl rfl (kdec dk_cX9_load 10 rfl) rfl rfl (fun w47 u48 => ?_)
  have I49 : kI false w47 := kI_put u48 I41 (show (0 : Int) ≤ (0 : Int32).toInt by omega) (show (0 : Int32).toInt ≤ 1024 by omega)
  have F50 : kF [(0, some 9), (2, some 2), (2, some 9), (4, none), (20, some 10), (25, some 2), (34, some 2), (43, some 2), (52, some 2)] w w47 := kF_put u48 F45 rfl
  refine kv_iconst C 22 rfl 0 (kdec dk_cX9_load 11 rfl) rfl ?_
  refine kv_istore_n C 23 rfl 2 [1, 2, 0] [(0, .ref (ρ 0)), (1, .int x43), (2, .int 0)] (kdec dk_cX9_load 12 rfl) rfl (by decide) rfl ?_
  exact cut23 ((((5 - (0 : Int32).toInt)) : Int).toNat + 1) w47 x43 0 I49 F50 (by omega) (by omega) (by omega)

set_option maxHeartbeats 4000000 in
set_option maxRecDepth 100000 in
theorem k_q_run (l : Launch) (D : va_G) (τ : Nat → ClassId) (ρ σ : Nat → Nat) (w : kw) (a1 : Int32) (hI : kI false w) (hx_20_10 : w 20 10 = 0) :
    kM l D τ ρ σ yX9_run cX9_run 3 (some .int) { frames := 0, cells := 0, slots := 0, locals := 0 } [.ref (ρ 0), .int a1] w
      (fun o w' => ∃ r : Int32, o = some (.int r) ∧ kI false w' ∧ kF [] w w' ∧ ((a1.toInt < 0 ∨ 300 < a1.toInt) ∧ r.toInt = -1 ∨ 0 ≤ a1.toInt ∧ a1.toInt ≤ 300 ∧ r.toInt = -2)) := by
  refine kM_of (own := "TaleMachine") rfl (by decide) (Nat.le_of_ble_eq_true rfl) ?_
  intro p e s m args below meth c C hr hlk
  have hF0 : kF [] w w := kF.rf
  have c_m2 : (-2 : Int32).toInt = -2 := by decide
  have c_m1 : (-1 : Int32).toInt = -1 := by decide
  have c_0 : (0 : Int32).toInt = 0 := by decide
  have c_1 : (1 : Int32).toInt = 1 := by decide
  have c_300 : (300 : Int32).toInt = 300 := by decide
  refine kV.L (L' := [(0, .ref (ρ 0)), (1, .int a1)]) rfl ?_
  have g1 := kf_rng a1
  refine kv_iload_n C 1 rfl 1 (kdec dk_cX9_run 0 rfl) rfl rfl ?_
  refine kv_if_lt C 4 rfl 11 (kdec dk_cX9_run 1 rfl) (by decide) (fun d2 => ?_) (fun d2 => ?_)
  · skip
    refine kv_iconst C 12 rfl (-1) (kdec dk_cX9_run 5 rfl) rfl ?_
    exact kv_iret C hr hlk (kdec dk_cX9_run 6 rfl) ⟨_, rfl, hI, hF0, (by omega)⟩
  · skip
    refine kv_iload_n C 5 rfl 1 (kdec dk_cX9_run 2 rfl) rfl rfl ?_
    refine kv_sipush C 8 rfl 300 (kdec dk_cX9_run 3 rfl) rfl ?_
    refine kv_icmp_le C 11 rfl 13 (kdec dk_cX9_run 4 rfl) (by decide) (fun d3 => ?_) (fun d3 => ?_)
    · skip
      refine kv_aload_n C 14 rfl 0 (kdec dk_cX9_run 7 rfl) rfl rfl ?_
      refine kv_getr C 17 rfl 0 7 rfl rfl inX9 (by decide) mfl_TaleMachine_60 rfl rfl (kdec dk_cX9_run 8 rfl) ?_
      refine kv_getN C 20 rfl 20 10 rfl rfl inX1 (by decide) mfn_TaleMachine_86 rfl rfl (kdec dk_cX9_run 9 rfl) hx_20_10 ?_
      refine kv_iconst C 21 rfl 1 (kdec dk_cX9_run 10 rfl) rfl ?_
      refine kv_icmp_eq C 24 rfl 27 (kdec dk_cX9_run 11 rfl) (by decide) (fun d4 => ?_) (fun d4 => ?_)
      · exfalso; omega
      · skip
        refine kv_bipush C 26 rfl (-2) (kdec dk_cX9_run 12 rfl) rfl ?_
        exact kv_iret C hr hlk (kdec dk_cX9_run 13 rfl) ⟨_, rfl, hI, hF0, (by omega)⟩
    · skip
      refine kv_iconst C 12 rfl (-1) (kdec dk_cX9_run 5 rfl) rfl ?_
      exact kv_iret C hr hlk (kdec dk_cX9_run 6 rfl) ⟨_, rfl, hI, hF0, (by omega)⟩

set_option maxHeartbeats 4000000 in
set_option maxRecDepth 100000 in
theorem k_q_state (l : Launch) (D : va_G) (τ : Nat → ClassId) (ρ σ : Nat → Nat) (w : kw)  (hI : kI false w) (hx_20_10 : w 20 10 = 0) :
    kM l D τ ρ σ yX9_state cX9_state 1 (some .int) { frames := 0, cells := 0, slots := 0, locals := 0 } [.ref (ρ 0)] w
      (fun o w' => ∃ r : Int32, o = some (.int r) ∧ kI false w' ∧ kF [] w w' ∧ (r.toInt = 0)) := by
  refine kM_of (own := "TaleMachine") rfl (by decide) (Nat.le_of_ble_eq_true rfl) ?_
  intro p e s m args below meth c C hr hlk
  have hF0 : kF [] w w := kF.rf
  have c_0 : (0 : Int32).toInt = 0 := by decide
  refine kV.L (L' := [(0, .ref (ρ 0))]) rfl ?_
  refine kv_aload_n C 1 rfl 0 (kdec dk_cX9_state 0 rfl) rfl rfl ?_
  refine kv_getr C 4 rfl 0 7 rfl rfl inX9 (by decide) mfl_TaleMachine_60 rfl rfl (kdec dk_cX9_state 1 rfl) ?_
  refine kv_getN C 7 rfl 20 10 rfl rfl inX1 (by decide) mfn_TaleMachine_86 rfl rfl (kdec dk_cX9_state 2 rfl) hx_20_10 ?_
  exact kv_iret C hr hlk (kdec dk_cX9_state 3 rfl) ⟨_, rfl, hI, hF0, (by omega)⟩

set_option maxHeartbeats 4000000 in
set_option maxRecDepth 100000 in
theorem k_q_line (l : Launch) (D : va_G) (τ : Nat → ClassId) (ρ σ : Nat → Nat) (w : kw) (a1 : Int32) (a2 : Int32) (hI : kI false w) (hx_20_10 : w 20 10 = 0) :
    kM l D τ ρ σ yX9_line cX9_line 4 (some .int) { frames := 0, cells := 0, slots := 0, locals := 0 } [.ref (ρ 0), .int a1, .int a2] w
      (fun o w' => ∃ r : Int32, o = some (.int r) ∧ kI false w' ∧ kF [] w w' ∧ (r.toInt = -2)) := by
  refine kM_of (own := "TaleMachine") rfl (by decide) (Nat.le_of_ble_eq_true rfl) ?_
  intro p e s m args below meth c C hr hlk
  have hF0 : kF [] w w := kF.rf
  have c_m2 : (-2 : Int32).toInt = -2 := by decide
  have c_0 : (0 : Int32).toInt = 0 := by decide
  have c_3 : (3 : Int32).toInt = 3 := by decide
  refine kV.L (L' := [(0, .ref (ρ 0)), (1, .int a1), (2, .int a2)]) rfl ?_
  have g1 := kf_rng a1
  have g2 := kf_rng a2
  refine kv_aload_n C 1 rfl 0 (kdec dk_cX9_line 0 rfl) rfl rfl ?_
  refine kv_getr C 4 rfl 0 7 rfl rfl inX9 (by decide) mfl_TaleMachine_60 rfl rfl (kdec dk_cX9_line 1 rfl) ?_
  refine kv_getN C 7 rfl 20 10 rfl rfl inX1 (by decide) mfn_TaleMachine_86 rfl rfl (kdec dk_cX9_line 2 rfl) hx_20_10 ?_
  refine kv_iconst C 8 rfl 3 (kdec dk_cX9_line 3 rfl) rfl ?_
  refine kv_icmp_eq C 11 rfl 14 (kdec dk_cX9_line 4 rfl) (by decide) (fun d3 => ?_) (fun d3 => ?_)
  · exfalso; omega
  · skip
    refine kv_bipush C 13 rfl (-2) (kdec dk_cX9_line 5 rfl) rfl ?_
    exact kv_iret C hr hlk (kdec dk_cX9_line 6 rfl) ⟨_, rfl, hI, hF0, (by omega)⟩

set_option maxHeartbeats 4000000 in
set_option maxRecDepth 100000 in
theorem k_q_start (l : Launch) (D : va_G) (τ : Nat → ClassId) (ρ σ : Nat → Nat) (w : kw)  (hI : kI false w) (hx_20_10 : w 20 10 = 0) :
    kM l D τ ρ σ yX9_start cX9_start 1 (some .int) { frames := 0, cells := 0, slots := 0, locals := 0 } [.ref (ρ 0)] w
      (fun o w' => ∃ r : Int32, o = some (.int r) ∧ kI false w' ∧ kF [] w w' ∧ (r.toInt = -2)) := by
  refine kM_of (own := "TaleMachine") rfl (by decide) (Nat.le_of_ble_eq_true rfl) ?_
  intro p e s m args below meth c C hr hlk
  have hF0 : kF [] w w := kF.rf
  have c_m2 : (-2 : Int32).toInt = -2 := by decide
  have c_0 : (0 : Int32).toInt = 0 := by decide
  refine kV.L (L' := [(0, .ref (ρ 0))]) rfl ?_
  refine kv_aload_n C 1 rfl 0 (kdec dk_cX9_start 0 rfl) rfl rfl ?_
  refine kv_getr C 4 rfl 0 7 rfl rfl inX9 (by decide) mfl_TaleMachine_60 rfl rfl (kdec dk_cX9_start 1 rfl) ?_
  refine kv_getN C 7 rfl 20 10 rfl rfl inX1 (by decide) mfn_TaleMachine_86 rfl rfl (kdec dk_cX9_start 2 rfl) hx_20_10 ?_
  refine kv_if_ne C 10 rfl 13 (kdec dk_cX9_start 3 rfl) (by decide) (fun d1 => ?_) (fun d1 => ?_)
  · exfalso; omega
  · skip
    refine kv_bipush C 12 rfl (-2) (kdec dk_cX9_start 4 rfl) rfl ?_
    exact kv_iret C hr hlk (kdec dk_cX9_start 5 rfl) ⟨_, rfl, hI, hF0, (by omega)⟩

set_option maxHeartbeats 4000000 in
set_option maxRecDepth 100000 in
theorem k_q_out (l : Launch) (D : va_G) (τ : Nat → ClassId) (ρ σ : Nat → Nat) (w : kw) (a1 : Int32) (hI : kI false w) (hx_20_10 : w 20 10 = 0) :
    kM l D τ ρ σ yX9_out cX9_out 2 (some .int) { frames := 0, cells := 0, slots := 0, locals := 0 } [.ref (ρ 0), .int a1] w
      (fun o w' => ∃ r : Int32, o = some (.int r) ∧ kI false w' ∧ kF [] w w' ∧ (r.toInt = -1)) := by
  refine kM_of (own := "TaleMachine") rfl (by decide) (Nat.le_of_ble_eq_true rfl) ?_
  intro p e s m args below meth c C hr hlk
  have hF0 : kF [] w w := kF.rf
  have c_m1 : (-1 : Int32).toInt = -1 := by decide
  have c_0 : (0 : Int32).toInt = 0 := by decide
  refine kV.L (L' := [(0, .ref (ρ 0)), (1, .int a1)]) rfl ?_
  have g1 := kf_rng a1
  refine kv_aload_n C 1 rfl 0 (kdec dk_cX9_out 0 rfl) rfl rfl ?_
  refine kv_getr C 4 rfl 0 7 rfl rfl inX9 (by decide) mfl_TaleMachine_60 rfl rfl (kdec dk_cX9_out 1 rfl) ?_
  refine kv_getN C 7 rfl 20 10 rfl rfl inX1 (by decide) mfn_TaleMachine_86 rfl rfl (kdec dk_cX9_out 2 rfl) hx_20_10 ?_
  refine kv_if_ne C 10 rfl 12 (kdec dk_cX9_out 3 rfl) (by decide) (fun d2 => ?_) (fun d2 => ?_)
  · exfalso; omega
  · skip
    refine kv_iconst C 11 rfl (-1) (kdec dk_cX9_out 4 rfl) rfl ?_
    exact kv_iret C hr hlk (kdec dk_cX9_out 5 rfl) ⟨_, rfl, hI, hF0, (by omega)⟩

set_option maxHeartbeats 4000000 in
set_option maxRecDepth 100000 in
theorem k_q_count (l : Launch) (D : va_G) (τ : Nat → ClassId) (ρ σ : Nat → Nat) (w : kw) (a1 : Int32) (hI : kI false w) (hx_0_9 : w 0 9 = 0) (hx_20_10 : w 20 10 = 0) :
    kM l D τ ρ σ yX9_count cX9_count 2 (some .int) { frames := 0, cells := 0, slots := 0, locals := 0 } [.ref (ρ 0), .int a1] w
      (fun o w' => ∃ r : Int32, o = some (.int r) ∧ kI false w' ∧ kF [] w w' ∧ ((a1.toInt < 0 ∨ 9 < a1.toInt) ∧ r.toInt = -1 ∨ a1.toInt = 9 ∧ r.toInt = 0 ∨ 0 ≤ a1.toInt ∧ a1.toInt ≤ 8 ∧ r.toInt = -2)) := by
  refine kM_of (own := "TaleMachine") rfl (by decide) (Nat.le_of_ble_eq_true rfl) ?_
  intro p e s m args below meth c C hr hlk
  have hF0 : kF [] w w := kF.rf
  have c_m2 : (-2 : Int32).toInt = -2 := by decide
  have c_m1 : (-1 : Int32).toInt = -1 := by decide
  have c_0 : (0 : Int32).toInt = 0 := by decide
  have c_9 : (9 : Int32).toInt = 9 := by decide
  refine kV.L (L' := [(0, .ref (ρ 0)), (1, .int a1)]) rfl ?_
  have g1 := kf_rng a1
  refine kv_iload_n C 1 rfl 1 (kdec dk_cX9_count 0 rfl) rfl rfl ?_
  refine kv_if_lt C 4 rfl 10 (kdec dk_cX9_count 1 rfl) (by decide) (fun d2 => ?_) (fun d2 => ?_)
  · skip
    refine kv_iconst C 11 rfl (-1) (kdec dk_cX9_count 5 rfl) rfl ?_
    exact kv_iret C hr hlk (kdec dk_cX9_count 6 rfl) ⟨_, rfl, hI, hF0, (by omega)⟩
  · skip
    refine kv_iload_n C 5 rfl 1 (kdec dk_cX9_count 2 rfl) rfl rfl ?_
    refine kv_bipush C 7 rfl 9 (kdec dk_cX9_count 3 rfl) rfl ?_
    refine kv_icmp_le C 10 rfl 12 (kdec dk_cX9_count 4 rfl) (by decide) (fun d3 => ?_) (fun d3 => ?_)
    · skip
      refine kv_iload_n C 13 rfl 1 (kdec dk_cX9_count 7 rfl) rfl rfl ?_
      refine kv_bipush C 15 rfl 9 (kdec dk_cX9_count 8 rfl) rfl ?_
      refine kv_icmp_ne C 18 rfl 23 (kdec dk_cX9_count 9 rfl) (by decide) (fun d4 => ?_) (fun d4 => ?_)
      · skip
        refine kv_aload_n C 24 rfl 0 (kdec dk_cX9_count 13 rfl) rfl rfl ?_
        refine kv_getr C 27 rfl 0 7 rfl rfl inX9 (by decide) mfl_TaleMachine_60 rfl rfl (kdec dk_cX9_count 14 rfl) ?_
        refine kv_getN C 30 rfl 20 10 rfl rfl inX1 (by decide) mfn_TaleMachine_86 rfl rfl (kdec dk_cX9_count 15 rfl) hx_20_10 ?_
        refine kv_if_ne C 33 rfl 36 (kdec dk_cX9_count 16 rfl) (by decide) (fun d5 => ?_) (fun d5 => ?_)
        · exfalso; omega
        · skip
          refine kv_bipush C 35 rfl (-2) (kdec dk_cX9_count 17 rfl) rfl ?_
          exact kv_iret C hr hlk (kdec dk_cX9_count 18 rfl) ⟨_, rfl, hI, hF0, (by omega)⟩
      · skip
        refine kv_aload_n C 19 rfl 0 (kdec dk_cX9_count 10 rfl) rfl rfl ?_
        refine kv_get C 22 rfl 0 9 rfl rfl inX9 (by decide) mfl_TaleMachine_71 rfl rfl (kdec dk_cX9_count 11 rfl) hx_0_9 ?_
        exact kv_iret C hr hlk (kdec dk_cX9_count 12 rfl) ⟨_, rfl, hI, hF0, (by omega)⟩
    · skip
      refine kv_iconst C 11 rfl (-1) (kdec dk_cX9_count 5 rfl) rfl ?_
      exact kv_iret C hr hlk (kdec dk_cX9_count 6 rfl) ⟨_, rfl, hI, hF0, (by omega)⟩

set_option maxHeartbeats 4000000 in
set_option maxRecDepth 100000 in
theorem k_q_peek (l : Launch) (D : va_G) (τ : Nat → ClassId) (ρ σ : Nat → Nat) (w : kw) (a1 : Int32) (hI : kI false w) (hx_20_10 : w 20 10 = 0) :
    kM l D τ ρ σ yX9_peek cX9_peek 2 (some .int) { frames := 0, cells := 0, slots := 0, locals := 0 } [.ref (ρ 0), .int a1] w
      (fun o w' => ∃ r : Int32, o = some (.int r) ∧ kI false w' ∧ kF [] w w' ∧ (r.toInt = -1)) := by
  refine kM_of (own := "TaleMachine") rfl (by decide) (Nat.le_of_ble_eq_true rfl) ?_
  intro p e s m args below meth c C hr hlk
  have hF0 : kF [] w w := kF.rf
  have c_m1 : (-1 : Int32).toInt = -1 := by decide
  have c_0 : (0 : Int32).toInt = 0 := by decide
  refine kV.L (L' := [(0, .ref (ρ 0)), (1, .int a1)]) rfl ?_
  have g1 := kf_rng a1
  refine kv_aload_n C 1 rfl 0 (kdec dk_cX9_peek 0 rfl) rfl rfl ?_
  refine kv_getr C 4 rfl 0 7 rfl rfl inX9 (by decide) mfl_TaleMachine_60 rfl rfl (kdec dk_cX9_peek 1 rfl) ?_
  refine kv_getN C 7 rfl 20 10 rfl rfl inX1 (by decide) mfn_TaleMachine_86 rfl rfl (kdec dk_cX9_peek 2 rfl) hx_20_10 ?_
  refine kv_if_eq C 10 rfl 25 (kdec dk_cX9_peek 3 rfl) (by decide) (fun d2 => ?_) (fun d2 => ?_)
  · skip
    refine kv_iconst C 26 rfl (-1) (kdec dk_cX9_peek 11 rfl) rfl ?_
    exact kv_iret C hr hlk (kdec dk_cX9_peek 12 rfl) ⟨_, rfl, hI, hF0, (by omega)⟩
  · exfalso; omega

set_option maxHeartbeats 4000000 in
set_option maxRecDepth 100000 in
theorem k_q_word (l : Launch) (D : va_G) (τ : Nat → ClassId) (ρ σ : Nat → Nat) (w : kw) (a1 : Int32) (a2 : Int32) (hI : kI false w) (hx_20_10 : w 20 10 = 0) :
    kM l D τ ρ σ yX9_word cX9_word 3 (some .int) { frames := 0, cells := 0, slots := 0, locals := 0 } [.ref (ρ 0), .int a1, .int a2] w
      (fun o w' => ∃ r : Int32, o = some (.int r) ∧ kI false w' ∧ kF [] w w' ∧ (r.toInt = -1)) := by
  refine kM_of (own := "TaleMachine") rfl (by decide) (Nat.le_of_ble_eq_true rfl) ?_
  intro p e s m args below meth c C hr hlk
  have hF0 : kF [] w w := kF.rf
  have c_m1 : (-1 : Int32).toInt = -1 := by decide
  have c_0 : (0 : Int32).toInt = 0 := by decide
  refine kV.L (L' := [(0, .ref (ρ 0)), (1, .int a1), (2, .int a2)]) rfl ?_
  have g1 := kf_rng a1
  have g2 := kf_rng a2
  refine kv_aload_n C 1 rfl 0 (kdec dk_cX9_word 0 rfl) rfl rfl ?_
  refine kv_getr C 4 rfl 0 7 rfl rfl inX9 (by decide) mfl_TaleMachine_60 rfl rfl (kdec dk_cX9_word 1 rfl) ?_
  refine kv_getN C 7 rfl 20 10 rfl rfl inX1 (by decide) mfn_TaleMachine_86 rfl rfl (kdec dk_cX9_word 2 rfl) hx_20_10 ?_
  refine kv_if_ne C 10 rfl 12 (kdec dk_cX9_word 3 rfl) (by decide) (fun d3 => ?_) (fun d3 => ?_)
  · exfalso; omega
  · skip
    refine kv_iconst C 11 rfl (-1) (kdec dk_cX9_word 4 rfl) rfl ?_
    exact kv_iret C hr hlk (kdec dk_cX9_word 5 rfl) ⟨_, rfl, hI, hF0, (by omega)⟩

set_option maxHeartbeats 4000000 in
set_option maxRecDepth 100000 in
theorem k_q_text (l : Launch) (D : va_G) (τ : Nat → ClassId) (ρ σ : Nat → Nat) (w : kw) (a1 : Int32) (a2 : Int32) (hI : kI false w) (hx_20_10 : w 20 10 = 0) :
    kM l D τ ρ σ yX9_text cX9_text 5 (some .int) { frames := 0, cells := 0, slots := 0, locals := 0 } [.ref (ρ 0), .int a1, .int a2] w
      (fun o w' => ∃ r : Int32, o = some (.int r) ∧ kI false w' ∧ kF [] w w' ∧ (r.toInt = -1)) := by
  refine kM_of (own := "TaleMachine") rfl (by decide) (Nat.le_of_ble_eq_true rfl) ?_
  intro p e s m args below meth c C hr hlk
  have hF0 : kF [] w w := kF.rf
  have c_m1 : (-1 : Int32).toInt = -1 := by decide
  have c_0 : (0 : Int32).toInt = 0 := by decide
  refine kV.L (L' := [(0, .ref (ρ 0)), (1, .int a1), (2, .int a2)]) rfl ?_
  have g1 := kf_rng a1
  have g2 := kf_rng a2
  refine kv_aload_n C 1 rfl 0 (kdec dk_cX9_text 0 rfl) rfl rfl ?_
  refine kv_getr C 4 rfl 0 7 rfl rfl inX9 (by decide) mfl_TaleMachine_60 rfl rfl (kdec dk_cX9_text 1 rfl) ?_
  refine kv_getN C 7 rfl 20 10 rfl rfl inX1 (by decide) mfn_TaleMachine_86 rfl rfl (kdec dk_cX9_text 2 rfl) hx_20_10 ?_
  refine kv_if_eq C 10 rfl 20 (kdec dk_cX9_text 3 rfl) (by decide) (fun d3 => ?_) (fun d3 => ?_)
  · skip
    refine kv_iconst C 21 rfl (-1) (kdec dk_cX9_text 9 rfl) rfl ?_
    exact kv_iret C hr hlk (kdec dk_cX9_text 10 rfl) ⟨_, rfl, hI, hF0, (by omega)⟩
  · exfalso; omega

set_option maxHeartbeats 4000000 in
set_option maxRecDepth 100000 in
theorem k_q_save (l : Launch) (D : va_G) (τ : Nat → ClassId) (ρ σ : Nat → Nat) (w : kw) (a1 : Int32) (hI : kI false w) (hx_20_10 : w 20 10 = 0) :
    kM l D τ ρ σ yX9_save cX9_save 2 (some .int) { frames := 0, cells := 0, slots := 0, locals := 0 } [.ref (ρ 0), .int a1] w
      (fun o w' => ∃ r : Int32, o = some (.int r) ∧ kI false w' ∧ kF [] w w' ∧ ((a1.toInt < 0 ∨ 3 < a1.toInt) ∧ r.toInt = -1 ∨ 0 ≤ a1.toInt ∧ a1.toInt ≤ 3 ∧ r.toInt = -2)) := by
  refine kM_of (own := "TaleMachine") rfl (by decide) (Nat.le_of_ble_eq_true rfl) ?_
  intro p e s m args below meth c C hr hlk
  have hF0 : kF [] w w := kF.rf
  have c_m2 : (-2 : Int32).toInt = -2 := by decide
  have c_m1 : (-1 : Int32).toInt = -1 := by decide
  have c_0 : (0 : Int32).toInt = 0 := by decide
  have c_1 : (1 : Int32).toInt = 1 := by decide
  have c_3 : (3 : Int32).toInt = 3 := by decide
  have c_4 : (4 : Int32).toInt = 4 := by decide
  refine kV.L (L' := [(0, .ref (ρ 0)), (1, .int a1)]) rfl ?_
  have g1 := kf_rng a1
  refine kv_iload_n C 1 rfl 1 (kdec dk_cX9_save 0 rfl) rfl rfl ?_
  refine kv_if_lt C 4 rfl 13 (kdec dk_cX9_save 1 rfl) (by decide) (fun d2 => ?_) (fun d2 => ?_)
  · skip
    refine kv_iconst C 14 rfl (-1) (kdec dk_cX9_save 7 rfl) rfl ?_
    exact kv_iret C hr hlk (kdec dk_cX9_save 8 rfl) ⟨_, rfl, hI, hF0, (by omega)⟩
  · skip
    refine kv_iload_n C 5 rfl 1 (kdec dk_cX9_save 2 rfl) rfl rfl ?_
    refine kv_aload_n C 6 rfl 0 (kdec dk_cX9_save 3 rfl) rfl rfl ?_
    refine kv_getr C 9 rfl 0 8 rfl rfl inX9 (by decide) mfl_TaleMachine_66 rfl rfl (kdec dk_cX9_save 4 rfl) ?_
    refine kv_alenq C 10 rfl 24 4 rfl rfl (kdec dk_cX9_save 5 rfl) ?_
    refine kv_icmp_lt C 13 rfl 15 (kdec dk_cX9_save 6 rfl) (by decide) (fun d3 => ?_) (fun d3 => ?_)
    · skip
      refine kv_aload_n C 16 rfl 0 (kdec dk_cX9_save 9 rfl) rfl rfl ?_
      refine kv_getr C 19 rfl 0 7 rfl rfl inX9 (by decide) mfl_TaleMachine_60 rfl rfl (kdec dk_cX9_save 10 rfl) ?_
      refine kv_getN C 22 rfl 20 10 rfl rfl inX1 (by decide) mfn_TaleMachine_86 rfl rfl (kdec dk_cX9_save 11 rfl) hx_20_10 ?_
      refine kv_iconst C 23 rfl 1 (kdec dk_cX9_save 12 rfl) rfl ?_
      refine kv_icmp_eq C 26 rfl 40 (kdec dk_cX9_save 13 rfl) (by decide) (fun d4 => ?_) (fun d4 => ?_)
      · exfalso; omega
      · skip
        refine kv_aload_n C 27 rfl 0 (kdec dk_cX9_save 14 rfl) rfl rfl ?_
        refine kv_getr C 30 rfl 0 7 rfl rfl inX9 (by decide) mfl_TaleMachine_60 rfl rfl (kdec dk_cX9_save 15 rfl) ?_
        refine kv_getN C 33 rfl 20 10 rfl rfl inX1 (by decide) mfn_TaleMachine_86 rfl rfl (kdec dk_cX9_save 16 rfl) hx_20_10 ?_
        refine kv_iconst C 34 rfl 3 (kdec dk_cX9_save 17 rfl) rfl ?_
        refine kv_icmp_eq C 37 rfl 40 (kdec dk_cX9_save 18 rfl) (by decide) (fun d5 => ?_) (fun d5 => ?_)
        · exfalso; omega
        · skip
          refine kv_bipush C 39 rfl (-2) (kdec dk_cX9_save 19 rfl) rfl ?_
          exact kv_iret C hr hlk (kdec dk_cX9_save 20 rfl) ⟨_, rfl, hI, hF0, (by omega)⟩
    · skip
      refine kv_iconst C 14 rfl (-1) (kdec dk_cX9_save 7 rfl) rfl ?_
      exact kv_iret C hr hlk (kdec dk_cX9_save 8 rfl) ⟨_, rfl, hI, hF0, (by omega)⟩

set_option maxHeartbeats 4000000 in
set_option maxRecDepth 100000 in
theorem k_q_restore (l : Launch) (D : va_G) (τ : Nat → ClassId) (ρ σ : Nat → Nat) (w : kw) (a1 : Int32) (hI : kI false w) (hx_20_10 : w 20 10 = 0) :
    kM l D τ ρ σ yX9_restore cX9_restore 2 (some .int) { frames := 0, cells := 0, slots := 0, locals := 0 } [.ref (ρ 0), .int a1] w
      (fun o w' => ∃ r : Int32, o = some (.int r) ∧ kI false w' ∧ kF [] w w' ∧ ((a1.toInt < 0 ∨ 3 < a1.toInt) ∧ r.toInt = -1 ∨ 0 ≤ a1.toInt ∧ a1.toInt ≤ 3 ∧ r.toInt = -2)) := by
  refine kM_of (own := "TaleMachine") rfl (by decide) (Nat.le_of_ble_eq_true rfl) ?_
  intro p e s m args below meth c C hr hlk
  have hF0 : kF [] w w := kF.rf
  have c_m2 : (-2 : Int32).toInt = -2 := by decide
  have c_m1 : (-1 : Int32).toInt = -1 := by decide
  have c_0 : (0 : Int32).toInt = 0 := by decide
  have c_4 : (4 : Int32).toInt = 4 := by decide
  refine kV.L (L' := [(0, .ref (ρ 0)), (1, .int a1)]) rfl ?_
  have g1 := kf_rng a1
  refine kv_iload_n C 1 rfl 1 (kdec dk_cX9_restore 0 rfl) rfl rfl ?_
  refine kv_if_lt C 4 rfl 13 (kdec dk_cX9_restore 1 rfl) (by decide) (fun d2 => ?_) (fun d2 => ?_)
  · skip
    refine kv_iconst C 14 rfl (-1) (kdec dk_cX9_restore 7 rfl) rfl ?_
    exact kv_iret C hr hlk (kdec dk_cX9_restore 8 rfl) ⟨_, rfl, hI, hF0, (by omega)⟩
  · skip
    refine kv_iload_n C 5 rfl 1 (kdec dk_cX9_restore 2 rfl) rfl rfl ?_
    refine kv_aload_n C 6 rfl 0 (kdec dk_cX9_restore 3 rfl) rfl rfl ?_
    refine kv_getr C 9 rfl 0 8 rfl rfl inX9 (by decide) mfl_TaleMachine_66 rfl rfl (kdec dk_cX9_restore 4 rfl) ?_
    refine kv_alenq C 10 rfl 24 4 rfl rfl (kdec dk_cX9_restore 5 rfl) ?_
    refine kv_icmp_lt C 13 rfl 15 (kdec dk_cX9_restore 6 rfl) (by decide) (fun d3 => ?_) (fun d3 => ?_)
    · skip
      refine kv_aload_n C 16 rfl 0 (kdec dk_cX9_restore 9 rfl) rfl rfl ?_
      refine kv_getr C 19 rfl 0 7 rfl rfl inX9 (by decide) mfl_TaleMachine_60 rfl rfl (kdec dk_cX9_restore 10 rfl) ?_
      refine kv_getN C 22 rfl 20 10 rfl rfl inX1 (by decide) mfn_TaleMachine_86 rfl rfl (kdec dk_cX9_restore 11 rfl) hx_20_10 ?_
      refine kv_if_eq C 25 rfl 37 (kdec dk_cX9_restore 12 rfl) (by decide) (fun d4 => ?_) (fun d4 => ?_)
      · skip
        refine kv_bipush C 39 rfl (-2) (kdec dk_cX9_restore 19 rfl) rfl ?_
        exact kv_iret C hr hlk (kdec dk_cX9_restore 20 rfl) ⟨_, rfl, hI, hF0, (by omega)⟩
      · exfalso; omega
    · skip
      refine kv_iconst C 14 rfl (-1) (kdec dk_cX9_restore 7 rfl) rfl ?_
      exact kv_iret C hr hlk (kdec dk_cX9_restore 8 rfl) ⟨_, rfl, hI, hF0, (by omega)⟩

set_option maxHeartbeats 4000000 in
set_option maxRecDepth 100000 in
theorem k_q_squeezed (l : Launch) (D : va_G) (τ : Nat → ClassId) (ρ σ : Nat → Nat) (w : kw) (a1 : Int32) (a2 : Int32) (hI : kI false w) (hx_25_2 : w 25 2 = 0) (hx_34_2 : w 34 2 = 0) (hx_43_2 : w 43 2 = 0) (hx_52_2 : w 52 2 = 0) :
    kM l D τ ρ σ yX9_squeezed cX9_squeezed 3 (some .int) { frames := 0, cells := 0, slots := 0, locals := 0 } [.ref (ρ 0), .int a1, .int a2] w
      (fun o w' => ∃ r : Int32, o = some (.int r) ∧ kI false w' ∧ kF [] w w' ∧ (r.toInt = -1)) := by
  refine kM_of (own := "TaleMachine") rfl (by decide) (Nat.le_of_ble_eq_true rfl) ?_
  intro p e s m args below meth c C hr hlk
  have hF0 : kF [] w w := kF.rf
  have c_m1 : (-1 : Int32).toInt = -1 := by decide
  have c_0 : (0 : Int32).toInt = 0 := by decide
  have c_4 : (4 : Int32).toInt = 4 := by decide
  refine kV.L (L' := [(0, .ref (ρ 0)), (1, .int a1), (2, .int a2)]) rfl ?_
  have g1 := kf_rng a1
  have g2 := kf_rng a2
  refine kv_iload_n C 1 rfl 1 (kdec dk_cX9_squeezed 0 rfl) rfl rfl ?_
  refine kv_if_lt C 4 rfl 25 (kdec dk_cX9_squeezed 1 rfl) (by decide) (fun d3 => ?_) (fun d3 => ?_)
  · skip
    refine kv_iconst C 26 rfl (-1) (kdec dk_cX9_squeezed 13 rfl) rfl ?_
    exact kv_iret C hr hlk (kdec dk_cX9_squeezed 14 rfl) ⟨_, rfl, hI, hF0, (by omega)⟩
  · skip
    refine kv_iload_n C 5 rfl 1 (kdec dk_cX9_squeezed 2 rfl) rfl rfl ?_
    refine kv_aload_n C 6 rfl 0 (kdec dk_cX9_squeezed 3 rfl) rfl rfl ?_
    refine kv_getr C 9 rfl 0 8 rfl rfl inX9 (by decide) mfl_TaleMachine_66 rfl rfl (kdec dk_cX9_squeezed 4 rfl) ?_
    refine kv_alenq C 10 rfl 24 4 rfl rfl (kdec dk_cX9_squeezed 5 rfl) ?_
    refine kv_icmp_ge C 13 rfl 25 (kdec dk_cX9_squeezed 6 rfl) (by decide) (fun d4 => ?_) (fun d4 => ?_)
    · skip
      refine kv_iconst C 26 rfl (-1) (kdec dk_cX9_squeezed 13 rfl) rfl ?_
      exact kv_iret C hr hlk (kdec dk_cX9_squeezed 14 rfl) ⟨_, rfl, hI, hF0, (by omega)⟩
    · skip
      refine kv_aload_n C 14 rfl 0 (kdec dk_cX9_squeezed 7 rfl) rfl rfl ?_
      refine kv_getr C 17 rfl 0 8 rfl rfl inX9 (by decide) mfl_TaleMachine_66 rfl rfl (kdec dk_cX9_squeezed 8 rfl) ?_
      refine kv_iload_n C 18 rfl 1 (kdec dk_cX9_squeezed 9 rfl) rfl rfl ?_
      have d5 : (a1 : Int32).toInt = 0 ∨ (a1 : Int32).toInt = 1 ∨ (a1 : Int32).toInt = 2 ∨ (a1 : Int32).toInt = 3 := by omega
      rcases d5 with d5 | d5 | d5 | d5
      · skip
        refine kv_aldq C 19 rfl 24 0 rfl d5 rfl (by decide) (kdec dk_cX9_squeezed 10 rfl) ?_
        refine kv_getN C 22 rfl 25 2 rfl rfl inX5 (by decide) mfn_TaleMachine_82 rfl rfl (kdec dk_cX9_squeezed 11 rfl) hx_25_2 ?_
        refine kv_if_ne C 25 rfl 27 (kdec dk_cX9_squeezed 12 rfl) (by decide) (fun d6 => ?_) (fun d6 => ?_)
        · exfalso; omega
        · skip
          refine kv_iconst C 26 rfl (-1) (kdec dk_cX9_squeezed 13 rfl) rfl ?_
          exact kv_iret C hr hlk (kdec dk_cX9_squeezed 14 rfl) ⟨_, rfl, hI, hF0, (by omega)⟩
      · skip
        refine kv_aldq C 19 rfl 24 1 rfl d5 rfl (by decide) (kdec dk_cX9_squeezed 10 rfl) ?_
        refine kv_getN C 22 rfl 34 2 rfl rfl inX5 (by decide) mfn_TaleMachine_82 rfl rfl (kdec dk_cX9_squeezed 11 rfl) hx_34_2 ?_
        refine kv_if_ne C 25 rfl 27 (kdec dk_cX9_squeezed 12 rfl) (by decide) (fun d7 => ?_) (fun d7 => ?_)
        · exfalso; omega
        · skip
          refine kv_iconst C 26 rfl (-1) (kdec dk_cX9_squeezed 13 rfl) rfl ?_
          exact kv_iret C hr hlk (kdec dk_cX9_squeezed 14 rfl) ⟨_, rfl, hI, hF0, (by omega)⟩
      · skip
        refine kv_aldq C 19 rfl 24 2 rfl d5 rfl (by decide) (kdec dk_cX9_squeezed 10 rfl) ?_
        refine kv_getN C 22 rfl 43 2 rfl rfl inX5 (by decide) mfn_TaleMachine_82 rfl rfl (kdec dk_cX9_squeezed 11 rfl) hx_43_2 ?_
        refine kv_if_ne C 25 rfl 27 (kdec dk_cX9_squeezed 12 rfl) (by decide) (fun d8 => ?_) (fun d8 => ?_)
        · exfalso; omega
        · skip
          refine kv_iconst C 26 rfl (-1) (kdec dk_cX9_squeezed 13 rfl) rfl ?_
          exact kv_iret C hr hlk (kdec dk_cX9_squeezed 14 rfl) ⟨_, rfl, hI, hF0, (by omega)⟩
      · skip
        refine kv_aldq C 19 rfl 24 3 rfl d5 rfl (by decide) (kdec dk_cX9_squeezed 10 rfl) ?_
        refine kv_getN C 22 rfl 52 2 rfl rfl inX5 (by decide) mfn_TaleMachine_82 rfl rfl (kdec dk_cX9_squeezed 11 rfl) hx_52_2 ?_
        refine kv_if_ne C 25 rfl 27 (kdec dk_cX9_squeezed 12 rfl) (by decide) (fun d9 => ?_) (fun d9 => ?_)
        · exfalso; omega
        · skip
          refine kv_iconst C 26 rfl (-1) (kdec dk_cX9_squeezed 13 rfl) rfl ?_
          exact kv_iret C hr hlk (kdec dk_cX9_squeezed 14 rfl) ⟨_, rfl, hI, hF0, (by omega)⟩
