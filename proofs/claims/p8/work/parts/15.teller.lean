set_option maxHeartbeats 4000000 in
set_option maxRecDepth 100000 in
theorem k_t_open (l : Launch) (D : va_G) (τ : Nat → ClassId) (ρ σ : Nat → Nat) (w : kw) (a1 : Int32) (hI : kI true w)  :
    kM l D τ ρ σ yX7_open cX7_open 2 none { frames := 0, cells := 0, slots := 0, locals := 0 } [.ref (ρ 16), .int a1] w
      (fun o w' => o = none ∧ kI true w' ∧ kF [(16, some 4), (16, some 5), (16, some 6), (16, some 11), (16, some 12)] w w') := by
  refine kM_of (own := "TaleMachine$Teller") rfl (by decide) (Nat.le_of_ble_eq_true rfl) ?_
  intro p e s m args below meth c C hr hlk
  have hF0 : kF [(16, some 4), (16, some 5), (16, some 6), (16, some 11), (16, some 12)] w w := kF.rf
  have c_0 : (0 : Int32).toInt = 0 := by decide
  refine kV.L (L' := [(0, .ref (ρ 16)), (1, .int a1)]) rfl ?_
  have g1 := kf_rng a1
  refine kv_aload_n C 1 rfl 0 (kdec dk_cX7_open 0 rfl) rfl rfl ?_
  refine kv_iload_n C 2 rfl 1 (kdec dk_cX7_open 1 rfl) rfl rfl ?_
  refine kv_put C 5 rfl 16 4 rfl rfl inX7 (by decide) mfl_TaleMachine_Teller_55 rfl tyX7 tyX7_ok nmX7 rfl rfl (kdec dk_cX7_open 2 rfl) rfl rfl (fun w2 u3 => ?_)
  have I4 : kI true w2 := kI_put u3 hI (kf_rng _).1 (kf_rng _).2
  have F5 : kF [(16, some 4), (16, some 5), (16, some 6), (16, some 11), (16, some 12)] w w2 := kF_put u3 hF0 rfl
  refine kv_aload_n C 6 rfl 0 (kdec dk_cX7_open 3 rfl) rfl rfl ?_
  refine kv_iconst C 7 rfl 0 (kdec dk_cX7_open 4 rfl) rfl ?_
  refine kv_put C 10 rfl 16 5 rfl rfl inX7 (by decide) mfl_TaleMachine_Teller_45 rfl tyX7 tyX7_ok nmX7 rfl rfl (kdec dk_cX7_open 5 rfl) rfl rfl (fun w6 u7 => ?_)
  have I8 : kI true w6 := kI_put u7 I4 (kf_rng _).1 (kf_rng _).2
  have F9 : kF [(16, some 4), (16, some 5), (16, some 6), (16, some 11), (16, some 12)] w w6 := kF_put u7 F5 rfl
  refine kv_aload_n C 11 rfl 0 (kdec dk_cX7_open 6 rfl) rfl rfl ?_
  refine kv_iconst C 12 rfl 0 (kdec dk_cX7_open 7 rfl) rfl ?_
  refine kv_put C 15 rfl 16 6 rfl rfl inX7 (by decide) mfl_TaleMachine_Teller_39 rfl tyX7 tyX7_ok nmX7 rfl rfl (kdec dk_cX7_open 8 rfl) rfl rfl (fun w10 u11 => ?_)
  have I12 : kI true w10 := kI_put u11 I8 (show (0 : Int) ≤ (0 : Int32).toInt by omega) (show (0 : Int32).toInt ≤ 3 by omega)
  have F13 : kF [(16, some 4), (16, some 5), (16, some 6), (16, some 11), (16, some 12)] w w10 := kF_put u11 F9 rfl
  refine kv_aload_n C 16 rfl 0 (kdec dk_cX7_open 9 rfl) rfl rfl ?_
  refine kv_iconst C 17 rfl 0 (kdec dk_cX7_open 10 rfl) rfl ?_
  refine kv_put C 20 rfl 16 11 rfl rfl inX7 (by decide) mfl_TaleMachine_Teller_59 rfl tyX7 tyX7_ok nmX7 rfl rfl (kdec dk_cX7_open 11 rfl) rfl rfl (fun w14 u15 => ?_)
  have I16 : kI true w14 := kI_put u15 I12 (kf_rng _).1 (kf_rng _).2
  have F17 : kF [(16, some 4), (16, some 5), (16, some 6), (16, some 11), (16, some 12)] w w14 := kF_put u15 F13 rfl
  refine kv_aload_n C 21 rfl 0 (kdec dk_cX7_open 12 rfl) rfl rfl ?_
  refine kv_iconst C 22 rfl 0 (kdec dk_cX7_open 13 rfl) rfl ?_
  refine kv_put C 25 rfl 16 12 rfl rfl inX7 (by decide) mfl_TaleMachine_Teller_62 rfl tyX7 tyX7_ok nmX7 rfl rfl (kdec dk_cX7_open 14 rfl) rfl rfl (fun w18 u19 => ?_)
  have I20 : kI true w18 := kI_put u19 I16 (kf_rng _).1 (kf_rng _).2
  have F21 : kF [(16, some 4), (16, some 5), (16, some 6), (16, some 11), (16, some 12)] w w18 := kF_put u19 F17 rfl
  exact kv_vret C hr hlk (kdec dk_cX7_open 15 rfl) ⟨rfl, I20, F21⟩

set_option maxHeartbeats 4000000 in
set_option maxRecDepth 100000 in
theorem k_t_nextWord (l : Launch) (D : va_G) (τ : Nat → ClassId) (ρ σ : Nat → Nat) (w : kw)  (hI : kI true w)  :
    kM l D τ ρ σ yX7_nextWord cX7_nextWord 1 none { frames := 2, cells := 0, slots := 0, locals := 72 } [.ref (ρ 16)] w
      (fun o w' => o = none ∧ kI true w' ∧ kF [(2, some 9), (16, some 4), (16, some 5), (16, some 6)] w w') := by
  refine kM_of (own := "TaleMachine$Teller") rfl (by decide) (Nat.le_of_ble_eq_true rfl) ?_
  intro p e s m args below meth c C hr hlk
  have hF0 : kF [(2, some 9), (16, some 4), (16, some 5), (16, some 6)] w w := kF.rf
  have c_2 : (2 : Int32).toInt = 2 := by decide
  have c_3 : (3 : Int32).toInt = 3 := by decide
  refine kV.L (L' := [(0, .ref (ρ 16))]) rfl ?_
  refine kv_aload_n C 1 rfl 0 (kdec dk_cX7_nextWord 0 rfl) rfl rfl ?_
  refine kv_aload_n C 2 rfl 0 (kdec dk_cX7_nextWord 1 rfl) rfl rfl ?_
  refine kv_getr C 5 rfl 16 0 rfl rfl inX7 (by decide) mfl_TaleMachine_Teller_11 rfl rfl (kdec dk_cX7_nextWord 2 rfl) ?_
  refine kv_aload_n C 6 rfl 0 (kdec dk_cX7_nextWord 3 rfl) rfl rfl ?_
  obtain ⟨x1, e2⟩ : ∃ z : Int32, w 16 4 = z := ⟨_, rfl⟩
  have b3 : (-2147483648 : Int) ≤ x1.toInt ∧ x1.toInt ≤ 2147483647 := by rw [← e2]; exact hI 16 4
  refine kv_get C 9 rfl 16 4 rfl rfl inX7 (by decide) mfl_TaleMachine_Teller_55 rfl rfl (kdec dk_cX7_nextWord 4 rfl) e2 ?_
  refine kv_callVNi (As := [.int x1]) (rest := [.ref (ρ 16)]) C 12 rfl 2 (k_wordAt l D τ ρ σ w x1 hI ) rfl rfl mmn_TaleMachine_Teller_65 mim_yX6_wordAt mse_yX6_wordAt mcd_yX6_wordAt min_yX6_wordAt hd_yX6_wordAt rfl rfl rfl (by decide) rfl (Nat.le_of_ble_eq_true rfl) (kdec dk_cX7_nextWord 5 rfl) (fun x8 w4 h5 => ?_)
  obtain ⟨I6, f7, p9, p10⟩ := h5
  have F11 : kF [(2, some 9), (16, some 4), (16, some 5), (16, some 6)] w w4 := kF_call hF0 f7 (by decide)
  have g12 := kf_rng x8
  obtain ⟨x13, e14⟩ : ∃ z : Int32, w 2 9 = z := ⟨_, rfl⟩
  have b15 : (0 : Int) ≤ x13.toInt ∧ x13.toInt ≤ 13 := by rw [← e14]; exact hI 2 9
  obtain ⟨x16, e17⟩ : ∃ z : Int32, w4 2 9 = z := ⟨_, rfl⟩
  have b18 : (0 : Int) ≤ x16.toInt ∧ x16.toInt ≤ 13 := by rw [← e17]; exact I6 2 9
  rw [e14, e17] at p10
  refine kv_put C 15 rfl 16 5 rfl rfl inX7 (by decide) mfl_TaleMachine_Teller_45 rfl tyX7 tyX7_ok nmX7 rfl rfl (kdec dk_cX7_nextWord 6 rfl) rfl rfl (fun w19 u20 => ?_)
  have I21 : kI true w19 := kI_put u20 I6 (kf_rng _).1 (kf_rng _).2
  have F22 : kF [(2, some 9), (16, some 4), (16, some 5), (16, some 6)] w w19 := kF_put u20 F11 rfl
  refine kv_aload_n C 16 rfl 0 (kdec dk_cX7_nextWord 7 rfl) rfl rfl ?_
  refine kv_dup C 17 rfl (kdec dk_cX7_nextWord 8 rfl) rfl ?_
  have e23 : w19 16 4 = x1 := ((kup_ne u20 rfl : w19 16 4 = w4 16 4).trans ((f7 16 4 rfl : w4 16 4 = w 16 4).trans e2))
  refine kv_get C 20 rfl 16 4 rfl rfl inX7 (by decide) mfl_TaleMachine_Teller_55 rfl rfl (kdec dk_cX7_nextWord 9 rfl) e23 ?_
  refine kv_iconst C 21 rfl 2 (kdec dk_cX7_nextWord 10 rfl) rfl ?_
  refine kv_iadd C 22 rfl (kdec dk_cX7_nextWord 11 rfl) (fun x24 q26 h25e h25 h25l h25u => ?_)
  try have h25n : x24.toInt = x1.toInt + (2 : Int32).toInt := by omega
  clear h25 q26
  refine kv_put C 25 rfl 16 4 rfl rfl inX7 (by decide) mfl_TaleMachine_Teller_55 rfl tyX7 tyX7_ok nmX7 rfl rfl (kdec dk_cX7_nextWord 12 rfl) rfl rfl (fun w27 u28 => ?_)
  have I29 : kI true w27 := kI_put u28 I21 (kf_rng _).1 (kf_rng _).2
  have F30 : kF [(2, some 9), (16, some 4), (16, some 5), (16, some 6)] w w27 := kF_put u28 F22 rfl
  refine kv_aload_n C 26 rfl 0 (kdec dk_cX7_nextWord 13 rfl) rfl rfl ?_
  refine kv_iconst C 27 rfl 3 (kdec dk_cX7_nextWord 14 rfl) rfl ?_
  refine kv_put C 30 rfl 16 6 rfl rfl inX7 (by decide) mfl_TaleMachine_Teller_39 rfl tyX7 tyX7_ok nmX7 rfl rfl (kdec dk_cX7_nextWord 15 rfl) rfl rfl (fun w31 u32 => ?_)
  have I33 : kI true w31 := kI_put u32 I29 (show (0 : Int) ≤ (3 : Int32).toInt by omega) (show (3 : Int32).toInt ≤ 3 by omega)
  have F34 : kF [(2, some 9), (16, some 4), (16, some 5), (16, some 6)] w w31 := kF_put u32 F30 rfl
  exact kv_vret C hr hlk (kdec dk_cX7_nextWord 16 rfl) ⟨rfl, I33, F34⟩

set_option maxHeartbeats 4000000 in
set_option maxRecDepth 100000 in
theorem k_t_goOnOutside (l : Launch) (D : va_G) (τ : Nat → ClassId) (ρ σ : Nat → Nat) (w : kw)  (hI : kI true w)  :
    kM l D τ ρ σ yX7_goOnOutside cX7_goOnOutside 1 none { frames := 1, cells := 0, slots := 0, locals := 36 } [.ref (ρ 16)] w
      (fun o w' => o = none ∧ kI true w' ∧ kF [(16, some 4), (16, some 5), (16, some 6), (16, some 7), (16, some 11), (16, some 12)] w w') := by
  refine kM_of (own := "TaleMachine$Teller") rfl (by decide) (Nat.le_of_ble_eq_true rfl) ?_
  intro p e s m args below meth c C hr hlk
  have hF0 : kF [(16, some 4), (16, some 5), (16, some 6), (16, some 7), (16, some 11), (16, some 12)] w w := kF.rf
  have c_0 : (0 : Int32).toInt = 0 := by decide
  refine kV.L (L' := [(0, .ref (ρ 16))]) rfl ?_
  refine kv_aload_n C 1 rfl 0 (kdec dk_cX7_goOnOutside 0 rfl) rfl rfl ?_
  refine kv_aload_n C 2 rfl 0 (kdec dk_cX7_goOnOutside 1 rfl) rfl rfl ?_
  obtain ⟨x1, e2⟩ : ∃ z : Int32, w 16 8 = z := ⟨_, rfl⟩
  have b3 : (-2147483648 : Int) ≤ x1.toInt ∧ x1.toInt ≤ 2147483647 := by rw [← e2]; exact hI 16 8
  refine kv_get C 5 rfl 16 8 rfl rfl inX7 (by decide) mfl_TaleMachine_Teller_69 rfl rfl (kdec dk_cX7_goOnOutside 2 rfl) e2 ?_
  refine kv_callVv (As := [.int x1]) (rest := []) C 8 rfl 16 (k_t_open l D τ ρ σ w x1 hI ) rfl rfl mml_TaleMachine_Teller_30 mim_yX7_open mse_yX7_open mcd_yX7_open min_yX7_open hd_yX7_open rfl rfl rfl (by decide) rfl (Nat.le_of_ble_eq_true rfl) (kdec dk_cX7_goOnOutside 3 rfl) (fun w4 h5 => ?_)
  obtain ⟨I6, f7⟩ := h5
  have F9 : kF [(16, some 4), (16, some 5), (16, some 6), (16, some 7), (16, some 11), (16, some 12)] w w4 := kF_call hF0 f7 (by decide)
  refine kv_aload_n C 9 rfl 0 (kdec dk_cX7_goOnOutside 4 rfl) rfl rfl ?_
  refine kv_aload_n C 10 rfl 0 (kdec dk_cX7_goOnOutside 5 rfl) rfl rfl ?_
  obtain ⟨x10, e11⟩ : ∃ z : Int32, w 16 9 = z := ⟨_, rfl⟩
  have b12 : (-2147483648 : Int) ≤ x10.toInt ∧ x10.toInt ≤ 2147483647 := by rw [← e11]; exact hI 16 9
  have e13 : w4 16 9 = x10 := ((f7 16 9 rfl : w4 16 9 = w 16 9).trans e11)
  refine kv_get C 13 rfl 16 9 rfl rfl inX7 (by decide) mfl_TaleMachine_Teller_72 rfl rfl (kdec dk_cX7_goOnOutside 6 rfl) e13 ?_
  refine kv_put C 16 rfl 16 5 rfl rfl inX7 (by decide) mfl_TaleMachine_Teller_45 rfl tyX7 tyX7_ok nmX7 rfl rfl (kdec dk_cX7_goOnOutside 7 rfl) rfl rfl (fun w14 u15 => ?_)
  have I16 : kI true w14 := kI_put u15 I6 (kf_rng _).1 (kf_rng _).2
  have F17 : kF [(16, some 4), (16, some 5), (16, some 6), (16, some 7), (16, some 11), (16, some 12)] w w14 := kF_put u15 F9 rfl
  refine kv_aload_n C 17 rfl 0 (kdec dk_cX7_goOnOutside 8 rfl) rfl rfl ?_
  refine kv_aload_n C 18 rfl 0 (kdec dk_cX7_goOnOutside 9 rfl) rfl rfl ?_
  obtain ⟨x18, e19⟩ : ∃ z : Int32, w 16 10 = z := ⟨_, rfl⟩
  have b20 : (0 : Int) ≤ x18.toInt ∧ x18.toInt ≤ 3 := by rw [← e19]; exact hI 16 10
  have e21 : w14 16 10 = x18 := ((kup_ne u15 rfl : w14 16 10 = w4 16 10).trans ((f7 16 10 rfl : w4 16 10 = w 16 10).trans e19))
  refine kv_get C 21 rfl 16 10 rfl rfl inX7 (by decide) mfl_TaleMachine_Teller_75 rfl rfl (kdec dk_cX7_goOnOutside 10 rfl) e21 ?_
  refine kv_put C 24 rfl 16 6 rfl rfl inX7 (by decide) mfl_TaleMachine_Teller_39 rfl tyX7 tyX7_ok nmX7 rfl rfl (kdec dk_cX7_goOnOutside 11 rfl) rfl rfl (fun w22 u23 => ?_)
  have I24 : kI true w22 := kI_put u23 I16 (show (0 : Int) ≤ (x18 : Int32).toInt by omega) (show (x18 : Int32).toInt ≤ 3 by omega)
  have F25 : kF [(16, some 4), (16, some 5), (16, some 6), (16, some 7), (16, some 11), (16, some 12)] w w22 := kF_put u23 F17 rfl
  refine kv_aload_n C 25 rfl 0 (kdec dk_cX7_goOnOutside 12 rfl) rfl rfl ?_
  refine kv_iconst C 26 rfl 0 (kdec dk_cX7_goOnOutside 13 rfl) rfl ?_
  refine kv_put C 29 rfl 16 7 rfl rfl inX7 (by decide) mfl_TaleMachine_Teller_26 rfl tyX7 tyX7_ok nmX7 rfl rfl (kdec dk_cX7_goOnOutside 14 rfl) (kf_bool (by decide)) rfl (fun w26 u27 => ?_)
  have I28 : kI true w26 := kI_put u27 I24 (show (0 : Int) ≤ (0 : Int32).toInt by omega) (show (0 : Int32).toInt ≤ 1 by omega)
  have F29 : kF [(16, some 4), (16, some 5), (16, some 6), (16, some 7), (16, some 11), (16, some 12)] w w26 := kF_put u27 F25 rfl
  exact kv_vret C hr hlk (kdec dk_cX7_goOnOutside 15 rfl) ⟨rfl, I28, F29⟩

set_option maxHeartbeats 4000000 in
set_option maxRecDepth 100000 in
theorem k_t_await (l : Launch) (D : va_G) (τ : Nat → ClassId) (ρ σ : Nat → Nat) (w : kw) (a1 : Int32) (hI : kI true w)  :
    kM l D τ ρ σ yX7_await cX7_await 2 none { frames := 1, cells := 0, slots := 0, locals := 36 } [.ref (ρ 16), .int a1] w
      (fun o w' => o = none ∧ kI true w' ∧ kF [(2, some 9), (16, some 12)] w w') := by
  refine kM_of (own := "TaleMachine$Teller") rfl (by decide) (Nat.le_of_ble_eq_true rfl) ?_
  intro p e s m args below meth c C hr hlk
  have hF0 : kF [(2, some 9), (16, some 12)] w w := kF.rf
  have c_12 : (12 : Int32).toInt = 12 := by decide
  refine kV.L (L' := [(0, .ref (ρ 16)), (1, .int a1)]) rfl ?_
  have g1 := kf_rng a1
  refine kv_aload_n C 1 rfl 0 (kdec dk_cX7_await 0 rfl) rfl rfl ?_
  obtain ⟨x2, e3⟩ : ∃ z : Int32, w 16 7 = z := ⟨_, rfl⟩
  have b4 : (0 : Int) ≤ x2.toInt ∧ x2.toInt ≤ 1 := by rw [← e3]; exact hI 16 7
  refine kv_get C 4 rfl 16 7 rfl rfl inX7 (by decide) mfl_TaleMachine_Teller_26 rfl rfl (kdec dk_cX7_await 1 rfl) e3 ?_
  refine kv_if_eq C 7 rfl 19 (kdec dk_cX7_await 2 rfl) (by decide) (fun d5 => ?_) (fun d5 => ?_)
  · skip
    refine kv_aload_n C 20 rfl 0 (kdec dk_cX7_await 8 rfl) rfl rfl ?_
    refine kv_iload_n C 21 rfl 1 (kdec dk_cX7_await 9 rfl) rfl rfl ?_
    refine kv_put C 24 rfl 16 12 rfl rfl inX7 (by decide) mfl_TaleMachine_Teller_62 rfl tyX7 tyX7_ok nmX7 rfl rfl (kdec dk_cX7_await 10 rfl) rfl rfl (fun w6 u7 => ?_)
    have I8 : kI true w6 := kI_put u7 hI (kf_rng _).1 (kf_rng _).2
    have F9 : kF [(2, some 9), (16, some 12)] w w6 := kF_put u7 hF0 rfl
    exact kv_vret C hr hlk (kdec dk_cX7_await 11 rfl) ⟨rfl, I8, F9⟩
  · skip
    refine kv_aload_n C 8 rfl 0 (kdec dk_cX7_await 3 rfl) rfl rfl ?_
    refine kv_getr C 11 rfl 16 0 rfl rfl inX7 (by decide) mfl_TaleMachine_Teller_11 rfl rfl (kdec dk_cX7_await 4 rfl) ?_
    refine kv_bipush C 13 rfl 12 (kdec dk_cX7_await 5 rfl) rfl ?_
    refine kv_callVNv (As := [.int 12]) (rest := []) C 16 rfl 2 (k_raise l D τ ρ σ w 12 hI (by omega)) rfl rfl mmn_TaleMachine_Teller_78 mim_yX6_raise mse_yX6_raise mcd_yX6_raise min_yX6_raise hd_yX6_raise rfl rfl rfl (by decide) rfl (Nat.le_of_ble_eq_true rfl) (kdec dk_cX7_await 6 rfl) (fun w10 h11 => ?_)
    obtain ⟨I12, f13, p15⟩ := h11
    have F16 : kF [(2, some 9), (16, some 12)] w w10 := kF_call hF0 f13 (by decide)
    obtain ⟨x17, e18⟩ : ∃ z : Int32, w 2 9 = z := ⟨_, rfl⟩
    have b19 : (0 : Int) ≤ x17.toInt ∧ x17.toInt ≤ 13 := by rw [← e18]; exact hI 2 9
    obtain ⟨x20, e21⟩ : ∃ z : Int32, w10 2 9 = z := ⟨_, rfl⟩
    have b22 : (0 : Int) ≤ x20.toInt ∧ x20.toInt ≤ 13 := by rw [← e21]; exact I12 2 9
    rw [e18, e21] at p15
    refine kv_goto C 24 (kdec dk_cX7_await 7 rfl) (by decide) ?_
    exact kv_vret C hr hlk (kdec dk_cX7_await 11 rfl) ⟨rfl, I12, F16⟩

set_option maxHeartbeats 4000000 in
set_option maxRecDepth 100000 in
theorem k_t_thirdRowLetter (l : Launch) (D : va_G) (τ : Nat → ClassId) (ρ σ : Nat → Nat) (w : kw) (a1 : Int32) (hI : kI true w)  :
    kM l D τ ρ σ yX7_thirdRowLetter cX7_thirdRowLetter 3 (some .int) { frames := 4, cells := 0, slots := 0, locals := 144 } [.ref (ρ 16), .int a1] w
      (fun o w' => ∃ r : Int32, o = some (.int r) ∧ kI true w' ∧ kF [(16, some 12)] w w') := by
  refine kM_of (own := "TaleMachine$Teller") rfl (by decide) (Nat.le_of_ble_eq_true rfl) ?_
  intro p e s m args below meth c C hr hlk
  have hF0 : kF [(16, some 12)] w w := kF.rf
  have c_0 : (0 : Int32).toInt = 0 := by decide
  have c_4 : (4 : Int32).toInt = 4 := by decide
  have c_6 : (6 : Int32).toInt = 6 := by decide
  have c_7 : (7 : Int32).toInt = 7 := by decide
  have c_8 : (8 : Int32).toInt = 8 := by decide
  have c_13 : (13 : Int32).toInt = 13 := by decide
  refine kV.L (L' := [(0, .ref (ρ 16)), (1, .int a1)]) rfl ?_
  have g1 := kf_rng a1
  refine kv_iload_n C 1 rfl 1 (kdec dk_cX7_thirdRowLetter 0 rfl) rfl rfl ?_
  refine kv_bipush C 3 rfl 6 (kdec dk_cX7_thirdRowLetter 1 rfl) rfl ?_
  refine kv_icmp_ne C 6 rfl 13 (kdec dk_cX7_thirdRowLetter 2 rfl) (by decide) (fun d2 => ?_) (fun d2 => ?_)
  · skip
    refine kv_iload_n C 14 rfl 1 (kdec dk_cX7_thirdRowLetter 8 rfl) rfl rfl ?_
    refine kv_bipush C 16 rfl 7 (kdec dk_cX7_thirdRowLetter 9 rfl) rfl ?_
    refine kv_icmp_ne C 19 rfl 22 (kdec dk_cX7_thirdRowLetter 10 rfl) (by decide) (fun d3 => ?_) (fun d3 => ?_)
    · skip
      refine kv_iload_n C 23 rfl 1 (kdec dk_cX7_thirdRowLetter 13 rfl) rfl rfl ?_
      refine kv_bipush C 25 rfl 8 (kdec dk_cX7_thirdRowLetter 14 rfl) rfl ?_
      refine kv_isub C 26 rfl (kdec dk_cX7_thirdRowLetter 15 rfl) (fun x4 q6 h5e h5 h5l h5u => ?_)
      try have h5n : x4.toInt = a1.toInt - (8 : Int32).toInt := by omega
      clear h5 q6
      refine kv_istore_n C 27 rfl 2 [1, 2, 0] [(0, .ref (ρ 16)), (1, .int a1), (2, .int x4)] (kdec dk_cX7_thirdRowLetter 16 rfl) rfl (by decide) rfl ?_
      refine kv_iload_n C 28 rfl 2 (kdec dk_cX7_thirdRowLetter 17 rfl) rfl rfl ?_
      refine kv_if_lt C 31 rfl 49 (kdec dk_cX7_thirdRowLetter 18 rfl) (by decide) (fun d7 => ?_) (fun d7 => ?_)
      · skip
        refine kv_iconst C 50 rfl 0 (kdec dk_cX7_thirdRowLetter 27 rfl) rfl ?_
        exact kv_iret C hr hlk (kdec dk_cX7_thirdRowLetter 28 rfl) ⟨_, rfl, hI, hF0⟩
      · skip
        refine kv_iload_n C 32 rfl 2 (kdec dk_cX7_thirdRowLetter 19 rfl) rfl rfl ?_
        refine kv_ldcT C 34 rfl (kdec dk_cX7_thirdRowLetter 20 rfl) ?_
        refine kv_callStri (As := []) (rest := [.int x4]) C 37 rfl (k_j_length l D τ ρ σ w  hI ) mml_TaleMachine_Teller_103 mim_yJ0_length_8abf5 mse_yJ0_length_8abf5 mcd_yJ0_length_8abf5 min_yJ0_length_8abf5 hd_yJ0_length_8abf5 rfl rfl rfl (by decide) rfl (Nat.le_of_ble_eq_true rfl) (kdec dk_cX7_thirdRowLetter 21 rfl) (fun x12 w8 h9 => ?_)
        obtain ⟨I10, f11, p13⟩ := h9
        have F14 : kF [(16, some 12)] w w8 := kF_call hF0 f11 (by decide)
        have g15 := kf_rng x12
        refine kv_icmp_ge C 40 rfl 49 (kdec dk_cX7_thirdRowLetter 22 rfl) (by decide) (fun d16 => ?_) (fun d16 => ?_)
        · skip
          refine kv_iconst C 50 rfl 0 (kdec dk_cX7_thirdRowLetter 27 rfl) rfl ?_
          exact kv_iret C hr hlk (kdec dk_cX7_thirdRowLetter 28 rfl) ⟨_, rfl, I10, F14⟩
        · skip
          refine kv_ldcT C 42 rfl (kdec dk_cX7_thirdRowLetter 23 rfl) ?_
          refine kv_iload_n C 43 rfl 2 (kdec dk_cX7_thirdRowLetter 24 rfl) rfl rfl ?_
          refine kv_callStri (As := [.int x4]) (rest := []) C 46 rfl (k_j_charAt l D τ ρ σ w8 x4 I10 (by omega)) mml_TaleMachine_Teller_109 mim_yJ0_charAt_5068e mse_yJ0_charAt_5068e mcd_yJ0_charAt_5068e min_yJ0_charAt_5068e hd_yJ0_charAt_5068e rfl rfl rfl (by decide) rfl (Nat.le_of_ble_eq_true rfl) (kdec dk_cX7_thirdRowLetter 25 rfl) (fun x21 w17 h18 => ?_)
          obtain ⟨I19, f20, p22⟩ := h18
          have F23 : kF [(16, some 12)] w w17 := kF_call F14 f20 (by decide)
          have g24 := kf_rng x21
          refine kv_goto C 50 (kdec dk_cX7_thirdRowLetter 26 rfl) (by decide) ?_
          exact kv_iret C hr hlk (kdec dk_cX7_thirdRowLetter 28 rfl) ⟨_, rfl, I19, F23⟩
    · skip
      refine kv_bipush C 21 rfl 13 (kdec dk_cX7_thirdRowLetter 11 rfl) rfl ?_
      exact kv_iret C hr hlk (kdec dk_cX7_thirdRowLetter 12 rfl) ⟨_, rfl, hI, hF0⟩
  · skip
    refine kv_aload_n C 7 rfl 0 (kdec dk_cX7_thirdRowLetter 3 rfl) rfl rfl ?_
    refine kv_iconst C 8 rfl 4 (kdec dk_cX7_thirdRowLetter 4 rfl) rfl ?_
    refine kv_put C 11 rfl 16 12 rfl rfl inX7 (by decide) mfl_TaleMachine_Teller_62 rfl tyX7 tyX7_ok nmX7 rfl rfl (kdec dk_cX7_thirdRowLetter 5 rfl) rfl rfl (fun w25 u26 => ?_)
    have I27 : kI true w25 := kI_put u26 hI (kf_rng _).1 (kf_rng _).2
    have F28 : kF [(16, some 12)] w w25 := kF_put u26 hF0 rfl
    refine kv_iconst C 12 rfl 0 (kdec dk_cX7_thirdRowLetter 6 rfl) rfl ?_
    exact kv_iret C hr hlk (kdec dk_cX7_thirdRowLetter 7 rfl) ⟨_, rfl, I27, F28⟩

set_option maxHeartbeats 4000000 in
set_option maxRecDepth 100000 in
theorem k_t_plainLetter (l : Launch) (D : va_G) (τ : Nat → ClassId) (ρ σ : Nat → Nat) (w : kw) (a1 : Int32) (hI : kI true w)  :
    kM l D τ ρ σ yX7_plainLetter cX7_plainLetter 3 (some .int) { frames := 5, cells := 0, slots := 0, locals := 180 } [.ref (ρ 16), .int a1] w
      (fun o w' => ∃ r : Int32, o = some (.int r) ∧ kI true w' ∧ kF [(2, some 9), (16, some 11), (16, some 12)] w w') := by
  refine kM_of (own := "TaleMachine$Teller") rfl (by decide) (Nat.le_of_ble_eq_true rfl) ?_
  intro p e s m args below meth c C hr hlk
  have hF0 : kF [(2, some 9), (16, some 11), (16, some 12)] w w := kF.rf
  have c_0 : (0 : Int32).toInt = 0 := by decide
  have c_1 : (1 : Int32).toInt = 1 := by decide
  have c_2 : (2 : Int32).toInt = 2 := by decide
  have c_3 : (3 : Int32).toInt = 3 := by decide
  have c_5 : (5 : Int32).toInt = 5 := by decide
  have c_6 : (6 : Int32).toInt = 6 := by decide
  have c_32 : (32 : Int32).toInt = 32 := by decide
  have c_65 : (65 : Int32).toInt = 65 := by decide
  have c_97 : (97 : Int32).toInt = 97 := by decide
  refine kV.L (L' := [(0, .ref (ρ 16)), (1, .int a1)]) rfl ?_
  have g1 := kf_rng a1
  refine kv_aload_n C 1 rfl 0 (kdec dk_cX7_plainLetter 0 rfl) rfl rfl ?_
  obtain ⟨x2, e3⟩ : ∃ z : Int32, w 16 11 = z := ⟨_, rfl⟩
  have b4 : (-2147483648 : Int) ≤ x2.toInt ∧ x2.toInt ≤ 2147483647 := by rw [← e3]; exact hI 16 11
  refine kv_get C 4 rfl 16 11 rfl rfl inX7 (by decide) mfl_TaleMachine_Teller_59 rfl rfl (kdec dk_cX7_plainLetter 1 rfl) e3 ?_
  refine kv_istore_n C 5 rfl 2 [1, 2, 0] [(0, .ref (ρ 16)), (1, .int a1), (2, .int x2)] (kdec dk_cX7_plainLetter 2 rfl) rfl (by decide) rfl ?_
  refine kv_aload_n C 6 rfl 0 (kdec dk_cX7_plainLetter 3 rfl) rfl rfl ?_
  refine kv_iconst C 7 rfl 0 (kdec dk_cX7_plainLetter 4 rfl) rfl ?_
  refine kv_put C 10 rfl 16 11 rfl rfl inX7 (by decide) mfl_TaleMachine_Teller_59 rfl tyX7 tyX7_ok nmX7 rfl rfl (kdec dk_cX7_plainLetter 5 rfl) rfl rfl (fun w5 u6 => ?_)
  have I7 : kI true w5 := kI_put u6 hI (kf_rng _).1 (kf_rng _).2
  have F8 : kF [(2, some 9), (16, some 11), (16, some 12)] w w5 := kF_put u6 hF0 rfl
  refine kv_iload_n C 11 rfl 1 (kdec dk_cX7_plainLetter 6 rfl) rfl rfl ?_
  refine kv_if_ne C 14 rfl 17 (kdec dk_cX7_plainLetter 7 rfl) (by decide) (fun d9 => ?_) (fun d9 => ?_)
  · skip
    refine kv_iload_n C 18 rfl 1 (kdec dk_cX7_plainLetter 10 rfl) rfl rfl ?_
    refine kv_iconst C 19 rfl 3 (kdec dk_cX7_plainLetter 11 rfl) rfl ?_
    refine kv_icmp_gt C 22 rfl 29 (kdec dk_cX7_plainLetter 12 rfl) (by decide) (fun d10 => ?_) (fun d10 => ?_)
    · skip
      refine kv_iload_n C 30 rfl 1 (kdec dk_cX7_plainLetter 18 rfl) rfl rfl ?_
      refine kv_iconst C 31 rfl 5 (kdec dk_cX7_plainLetter 19 rfl) rfl ?_
      refine kv_icmp_gt C 34 rfl 43 (kdec dk_cX7_plainLetter 20 rfl) (by decide) (fun d11 => ?_) (fun d11 => ?_)
      · skip
        refine kv_iload_n C 44 rfl 2 (kdec dk_cX7_plainLetter 28 rfl) rfl rfl ?_
        refine kv_iconst C 45 rfl 2 (kdec dk_cX7_plainLetter 29 rfl) rfl ?_
        refine kv_icmp_ne C 48 rfl 54 (kdec dk_cX7_plainLetter 30 rfl) (by decide) (fun d12 => ?_) (fun d12 => ?_)
        · skip
          refine kv_iload_n C 55 rfl 2 (kdec dk_cX7_plainLetter 35 rfl) rfl rfl ?_
          refine kv_iconst C 56 rfl 1 (kdec dk_cX7_plainLetter 36 rfl) rfl ?_
          refine kv_icmp_ne C 59 rfl 64 (kdec dk_cX7_plainLetter 37 rfl) (by decide) (fun d13 => ?_) (fun d13 => ?_)
          · skip
            refine kv_bipush C 66 rfl 97 (kdec dk_cX7_plainLetter 40 rfl) rfl ?_
            refine kv_iload_n C 67 rfl 1 (kdec dk_cX7_plainLetter 41 rfl) rfl rfl ?_
            refine kv_iadd C 68 rfl (kdec dk_cX7_plainLetter 42 rfl) (fun x14 q16 h15e h15 h15l h15u => ?_)
            try have h15n : x14.toInt = (97 : Int32).toInt + a1.toInt := by omega
            clear h15 q16
            refine kv_bipush C 70 rfl 6 (kdec dk_cX7_plainLetter 43 rfl) rfl ?_
            refine kv_isub C 71 rfl (kdec dk_cX7_plainLetter 44 rfl) (fun x17 q19 h18e h18 h18l h18u => ?_)
            try have h18n : x17.toInt = x14.toInt - (6 : Int32).toInt := by omega
            clear h18 q19
            exact kv_iret C hr hlk (kdec dk_cX7_plainLetter 45 rfl) ⟨_, rfl, I7, F8⟩
          · skip
            refine kv_bipush C 61 rfl 65 (kdec dk_cX7_plainLetter 38 rfl) rfl ?_
            refine kv_goto C 66 (kdec dk_cX7_plainLetter 39 rfl) (by decide) ?_
            refine kv_iload_n C 67 rfl 1 (kdec dk_cX7_plainLetter 41 rfl) rfl rfl ?_
            refine kv_iadd C 68 rfl (kdec dk_cX7_plainLetter 42 rfl) (fun x20 q22 h21e h21 h21l h21u => ?_)
            try have h21n : x20.toInt = (65 : Int32).toInt + a1.toInt := by omega
            clear h21 q22
            refine kv_bipush C 70 rfl 6 (kdec dk_cX7_plainLetter 43 rfl) rfl ?_
            refine kv_isub C 71 rfl (kdec dk_cX7_plainLetter 44 rfl) (fun x23 q25 h24e h24 h24l h24u => ?_)
            try have h24n : x23.toInt = x20.toInt - (6 : Int32).toInt := by omega
            clear h24 q25
            exact kv_iret C hr hlk (kdec dk_cX7_plainLetter 45 rfl) ⟨_, rfl, I7, F8⟩
        · skip
          refine kv_aload_n C 49 rfl 0 (kdec dk_cX7_plainLetter 31 rfl) rfl rfl ?_
          refine kv_iload_n C 50 rfl 1 (kdec dk_cX7_plainLetter 32 rfl) rfl rfl ?_
          refine kv_callVi (As := [.int a1]) (rest := []) C 53 rfl 16 (k_t_thirdRowLetter l D τ ρ σ w5 a1 I7 ) rfl rfl mml_TaleMachine_Teller_96 mim_yX7_thirdRowLetter mse_yX7_thirdRowLetter mcd_yX7_thirdRowLetter min_yX7_thirdRowLetter hd_yX7_thirdRowLetter rfl rfl rfl (by decide) rfl (Nat.le_of_ble_eq_true rfl) (kdec dk_cX7_plainLetter 33 rfl) (fun x30 w26 h27 => ?_)
          obtain ⟨I28, f29⟩ := h27
          have F31 : kF [(2, some 9), (16, some 11), (16, some 12)] w w26 := kF_call F8 f29 (by decide)
          have g32 := kf_rng x30
          exact kv_iret C hr hlk (kdec dk_cX7_plainLetter 34 rfl) ⟨_, rfl, I28, F31⟩
      · skip
        refine kv_aload_n C 35 rfl 0 (kdec dk_cX7_plainLetter 21 rfl) rfl rfl ?_
        refine kv_iload_n C 36 rfl 1 (kdec dk_cX7_plainLetter 22 rfl) rfl rfl ?_
        refine kv_iconst C 37 rfl 3 (kdec dk_cX7_plainLetter 23 rfl) rfl ?_
        refine kv_isub C 38 rfl (kdec dk_cX7_plainLetter 24 rfl) (fun x33 q35 h34e h34 h34l h34u => ?_)
        try have h34n : x33.toInt = a1.toInt - (3 : Int32).toInt := by omega
        clear h34 q35
        refine kv_put C 41 rfl 16 11 rfl rfl inX7 (by decide) mfl_TaleMachine_Teller_59 rfl tyX7 tyX7_ok nmX7 rfl rfl (kdec dk_cX7_plainLetter 25 rfl) rfl rfl (fun w36 u37 => ?_)
        have I38 : kI true w36 := kI_put u37 I7 (kf_rng _).1 (kf_rng _).2
        have F39 : kF [(2, some 9), (16, some 11), (16, some 12)] w w36 := kF_put u37 F8 rfl
        refine kv_iconst C 42 rfl 0 (kdec dk_cX7_plainLetter 26 rfl) rfl ?_
        exact kv_iret C hr hlk (kdec dk_cX7_plainLetter 27 rfl) ⟨_, rfl, I38, F39⟩
    · skip
      refine kv_aload_n C 23 rfl 0 (kdec dk_cX7_plainLetter 13 rfl) rfl rfl ?_
      refine kv_iload_n C 24 rfl 1 (kdec dk_cX7_plainLetter 14 rfl) rfl rfl ?_
      refine kv_callVv (As := [.int a1]) (rest := []) C 27 rfl 16 (k_t_await l D τ ρ σ w5 a1 I7 ) rfl rfl mml_TaleMachine_Teller_93 mim_yX7_await mse_yX7_await mcd_yX7_await min_yX7_await hd_yX7_await rfl rfl rfl (by decide) rfl (Nat.le_of_ble_eq_true rfl) (kdec dk_cX7_plainLetter 15 rfl) (fun w40 h41 => ?_)
      obtain ⟨I42, f43⟩ := h41
      have F45 : kF [(2, some 9), (16, some 11), (16, some 12)] w w40 := kF_call F8 f43 (by decide)
      refine kv_iconst C 28 rfl 0 (kdec dk_cX7_plainLetter 16 rfl) rfl ?_
      exact kv_iret C hr hlk (kdec dk_cX7_plainLetter 17 rfl) ⟨_, rfl, I42, F45⟩
  · skip
    refine kv_bipush C 16 rfl 32 (kdec dk_cX7_plainLetter 8 rfl) rfl ?_
    exact kv_iret C hr hlk (kdec dk_cX7_plainLetter 9 rfl) ⟨_, rfl, I7, F8⟩

set_option maxHeartbeats 4000000 in
set_option maxRecDepth 100000 in
theorem k_t_abbreviation (l : Launch) (D : va_G) (τ : Nat → ClassId) (ρ σ : Nat → Nat) (w : kw) (a1 : Int32) (hI : kI true w)  :
    kM l D τ ρ σ yX7_abbreviation cX7_abbreviation 3 none { frames := 2, cells := 0, slots := 0, locals := 72 } [.ref (ρ 16), .int a1] w
      (fun o w' => o = none ∧ kI true w' ∧ kF [(2, some 9), (16, some 4), (16, some 5), (16, some 6), (16, some 7), (16, some 8), (16, some 9), (16, some 10), (16, some 11), (16, some 12)] w w') := by
  refine kM_of (own := "TaleMachine$Teller") rfl (by decide) (Nat.le_of_ble_eq_true rfl) ?_
  intro p e s m args below meth c C hr hlk
  have hF0 : kF [(2, some 9), (16, some 4), (16, some 5), (16, some 6), (16, some 7), (16, some 8), (16, some 9), (16, some 10), (16, some 11), (16, some 12)] w w := kF.rf
  have c_1 : (1 : Int32).toInt = 1 := by decide
  have c_2 : (2 : Int32).toInt = 2 := by decide
  refine kV.L (L' := [(0, .ref (ρ 16)), (1, .int a1)]) rfl ?_
  have g1 := kf_rng a1
  refine kv_iconst C 1 rfl 2 (kdec dk_cX7_abbreviation 0 rfl) rfl ?_
  refine kv_aload_n C 2 rfl 0 (kdec dk_cX7_abbreviation 1 rfl) rfl rfl ?_
  refine kv_getr C 5 rfl 16 0 rfl rfl inX7 (by decide) mfl_TaleMachine_Teller_11 rfl rfl (kdec dk_cX7_abbreviation 2 rfl) ?_
  refine kv_aload_n C 6 rfl 0 (kdec dk_cX7_abbreviation 3 rfl) rfl rfl ?_
  refine kv_getr C 9 rfl 16 0 rfl rfl inX7 (by decide) mfl_TaleMachine_Teller_11 rfl rfl (kdec dk_cX7_abbreviation 4 rfl) ?_
  obtain ⟨x2, e3⟩ : ∃ z : Int32, w 2 8 = z := ⟨_, rfl⟩
  have b4 : (0 : Int) ≤ x2.toInt ∧ x2.toInt ≤ 65535 := by rw [← e3]; exact hI 2 8
  refine kv_getN C 12 rfl 2 8 rfl rfl inX6 (by decide) mfn_TaleMachine_Teller_113 rfl rfl (kdec dk_cX7_abbreviation 5 rfl) e3 ?_
  refine kv_iconst C 13 rfl 2 (kdec dk_cX7_abbreviation 6 rfl) rfl ?_
  refine kv_iload_n C 14 rfl 1 (kdec dk_cX7_abbreviation 7 rfl) rfl rfl ?_
  refine kv_imul C 15 rfl (kdec dk_cX7_abbreviation 8 rfl) (fun x5 h6e h6l h6u => ?_)
  obtain ⟨q7, g8⟩ := kf_mul 2 a1
  rw [← h6e, c_2] at g8
  try have h6n : x5.toInt = 2 * a1.toInt := by omega
  clear g8 q7
  refine kv_iadd C 16 rfl (kdec dk_cX7_abbreviation 9 rfl) (fun x9 q11 h10e h10 h10l h10u => ?_)
  try have h10n : x9.toInt = x2.toInt + x5.toInt := by omega
  clear h10 q11
  refine kv_callVNi (As := [.int x9]) (rest := [.int 2]) C 19 rfl 2 (k_wordAt l D τ ρ σ w x9 hI ) rfl rfl mmn_TaleMachine_Teller_65 mim_yX6_wordAt mse_yX6_wordAt mcd_yX6_wordAt min_yX6_wordAt hd_yX6_wordAt rfl rfl rfl (by decide) rfl (Nat.le_of_ble_eq_true rfl) (kdec dk_cX7_abbreviation 10 rfl) (fun x16 w12 h13 => ?_)
  obtain ⟨I14, f15, p17, p18⟩ := h13
  have F19 : kF [(2, some 9), (16, some 4), (16, some 5), (16, some 6), (16, some 7), (16, some 8), (16, some 9), (16, some 10), (16, some 11), (16, some 12)] w w12 := kF_call hF0 f15 (by decide)
  have g20 := kf_rng x16
  obtain ⟨x21, e22⟩ : ∃ z : Int32, w 2 9 = z := ⟨_, rfl⟩
  have b23 : (0 : Int) ≤ x21.toInt ∧ x21.toInt ≤ 13 := by rw [← e22]; exact hI 2 9
  obtain ⟨x24, e25⟩ : ∃ z : Int32, w12 2 9 = z := ⟨_, rfl⟩
  have b26 : (0 : Int) ≤ x24.toInt ∧ x24.toInt ≤ 13 := by rw [← e25]; exact I14 2 9
  rw [e22, e25] at p18
  refine kv_imul C 20 rfl (kdec dk_cX7_abbreviation 11 rfl) (fun x27 h28e h28l h28u => ?_)
  obtain ⟨q29, g30⟩ := kf_mul 2 x16
  rw [← h28e, c_2] at g30
  try have h28n : x27.toInt = 2 * x16.toInt := by omega
  clear g30 q29
  refine kv_istore_n C 21 rfl 2 [1, 2, 0] [(0, .ref (ρ 16)), (1, .int a1), (2, .int x27)] (kdec dk_cX7_abbreviation 12 rfl) rfl (by decide) rfl ?_
  refine kv_aload_n C 22 rfl 0 (kdec dk_cX7_abbreviation 13 rfl) rfl rfl ?_
  refine kv_aload_n C 23 rfl 0 (kdec dk_cX7_abbreviation 14 rfl) rfl rfl ?_
  obtain ⟨x31, e32⟩ : ∃ z : Int32, w 16 4 = z := ⟨_, rfl⟩
  have b33 : (-2147483648 : Int) ≤ x31.toInt ∧ x31.toInt ≤ 2147483647 := by rw [← e32]; exact hI 16 4
  have e34 : w12 16 4 = x31 := ((f15 16 4 rfl : w12 16 4 = w 16 4).trans e32)
  refine kv_get C 26 rfl 16 4 rfl rfl inX7 (by decide) mfl_TaleMachine_Teller_55 rfl rfl (kdec dk_cX7_abbreviation 15 rfl) e34 ?_
  refine kv_put C 29 rfl 16 8 rfl rfl inX7 (by decide) mfl_TaleMachine_Teller_69 rfl tyX7 tyX7_ok nmX7 rfl rfl (kdec dk_cX7_abbreviation 16 rfl) rfl rfl (fun w35 u36 => ?_)
  have I37 : kI true w35 := kI_put u36 I14 (kf_rng _).1 (kf_rng _).2
  have F38 : kF [(2, some 9), (16, some 4), (16, some 5), (16, some 6), (16, some 7), (16, some 8), (16, some 9), (16, some 10), (16, some 11), (16, some 12)] w w35 := kF_put u36 F19 rfl
  refine kv_aload_n C 30 rfl 0 (kdec dk_cX7_abbreviation 17 rfl) rfl rfl ?_
  refine kv_aload_n C 31 rfl 0 (kdec dk_cX7_abbreviation 18 rfl) rfl rfl ?_
  obtain ⟨x39, e40⟩ : ∃ z : Int32, w 16 5 = z := ⟨_, rfl⟩
  have b41 : (-2147483648 : Int) ≤ x39.toInt ∧ x39.toInt ≤ 2147483647 := by rw [← e40]; exact hI 16 5
  have e42 : w35 16 5 = x39 := ((kup_ne u36 rfl : w35 16 5 = w12 16 5).trans ((f15 16 5 rfl : w12 16 5 = w 16 5).trans e40))
  refine kv_get C 34 rfl 16 5 rfl rfl inX7 (by decide) mfl_TaleMachine_Teller_45 rfl rfl (kdec dk_cX7_abbreviation 19 rfl) e42 ?_
  refine kv_put C 37 rfl 16 9 rfl rfl inX7 (by decide) mfl_TaleMachine_Teller_72 rfl tyX7 tyX7_ok nmX7 rfl rfl (kdec dk_cX7_abbreviation 20 rfl) rfl rfl (fun w43 u44 => ?_)
  have I45 : kI true w43 := kI_put u44 I37 (kf_rng _).1 (kf_rng _).2
  have F46 : kF [(2, some 9), (16, some 4), (16, some 5), (16, some 6), (16, some 7), (16, some 8), (16, some 9), (16, some 10), (16, some 11), (16, some 12)] w w43 := kF_put u44 F38 rfl
  refine kv_aload_n C 38 rfl 0 (kdec dk_cX7_abbreviation 21 rfl) rfl rfl ?_
  refine kv_aload_n C 39 rfl 0 (kdec dk_cX7_abbreviation 22 rfl) rfl rfl ?_
  obtain ⟨x47, e48⟩ : ∃ z : Int32, w 16 6 = z := ⟨_, rfl⟩
  have b49 : (0 : Int) ≤ x47.toInt ∧ x47.toInt ≤ 3 := by rw [← e48]; exact hI 16 6
  have e50 : w43 16 6 = x47 := ((kup_ne u44 rfl : w43 16 6 = w35 16 6).trans ((kup_ne u36 rfl : w35 16 6 = w12 16 6).trans ((f15 16 6 rfl : w12 16 6 = w 16 6).trans e48)))
  refine kv_get C 42 rfl 16 6 rfl rfl inX7 (by decide) mfl_TaleMachine_Teller_39 rfl rfl (kdec dk_cX7_abbreviation 23 rfl) e50 ?_
  refine kv_put C 45 rfl 16 10 rfl rfl inX7 (by decide) mfl_TaleMachine_Teller_75 rfl tyX7 tyX7_ok nmX7 rfl rfl (kdec dk_cX7_abbreviation 24 rfl) rfl rfl (fun w51 u52 => ?_)
  have I53 : kI true w51 := kI_put u52 I45 (show (0 : Int) ≤ (x47 : Int32).toInt by omega) (show (x47 : Int32).toInt ≤ 3 by omega)
  have F54 : kF [(2, some 9), (16, some 4), (16, some 5), (16, some 6), (16, some 7), (16, some 8), (16, some 9), (16, some 10), (16, some 11), (16, some 12)] w w51 := kF_put u52 F46 rfl
  refine kv_aload_n C 46 rfl 0 (kdec dk_cX7_abbreviation 25 rfl) rfl rfl ?_
  refine kv_iconst C 47 rfl 1 (kdec dk_cX7_abbreviation 26 rfl) rfl ?_
  refine kv_put C 50 rfl 16 7 rfl rfl inX7 (by decide) mfl_TaleMachine_Teller_26 rfl tyX7 tyX7_ok nmX7 rfl rfl (kdec dk_cX7_abbreviation 27 rfl) (kf_bool (by decide)) rfl (fun w55 u56 => ?_)
  have I57 : kI true w55 := kI_put u56 I53 (show (0 : Int) ≤ (1 : Int32).toInt by omega) (show (1 : Int32).toInt ≤ 1 by omega)
  have F58 : kF [(2, some 9), (16, some 4), (16, some 5), (16, some 6), (16, some 7), (16, some 8), (16, some 9), (16, some 10), (16, some 11), (16, some 12)] w w55 := kF_put u56 F54 rfl
  refine kv_aload_n C 51 rfl 0 (kdec dk_cX7_abbreviation 28 rfl) rfl rfl ?_
  refine kv_iload_n C 52 rfl 2 (kdec dk_cX7_abbreviation 29 rfl) rfl rfl ?_
  refine kv_callVv (As := [.int x27]) (rest := []) C 55 rfl 16 (k_t_open l D τ ρ σ w55 x27 I57 ) rfl rfl mml_TaleMachine_Teller_30 mim_yX7_open mse_yX7_open mcd_yX7_open min_yX7_open hd_yX7_open rfl rfl rfl (by decide) rfl (Nat.le_of_ble_eq_true rfl) (kdec dk_cX7_abbreviation 30 rfl) (fun w59 h60 => ?_)
  obtain ⟨I61, f62⟩ := h60
  have F64 : kF [(2, some 9), (16, some 4), (16, some 5), (16, some 6), (16, some 7), (16, some 8), (16, some 9), (16, some 10), (16, some 11), (16, some 12)] w w59 := kF_call F58 f62 (by decide)
  exact kv_vret C hr hlk (kdec dk_cX7_abbreviation 31 rfl) ⟨rfl, I61, F64⟩

set_option maxHeartbeats 4000000 in
set_option maxRecDepth 100000 in
theorem k_t_emit (l : Launch) (D : va_G) (τ : Nat → ClassId) (ρ σ : Nat → Nat) (w : kw) (a1 : Int32) (hI : kI true w) (hp0 : (w 16 1).toInt = 12 ∨ (w 16 1).toInt = 14) (hp1 : (w 12 1).toInt ≤ 2147483000 ∧ (w 14 1).toInt ≤ 2147483000) :
    kM l D τ ρ σ yX7_emit cX7_emit 2 none { frames := 1, cells := 0, slots := 0, locals := 36 } [.ref (ρ 16), .int a1] w
      (fun o w' => o = none ∧ kI true w' ∧ kF [(2, some 9), (12, some 1), (13, none), (14, some 1), (15, none), (16, some 2)] w w' ∧ ((w 16 2).toInt ≤ (w' 16 2).toInt ∧ (w' 12 1).toInt + (w 16 2).toInt ≤ (w 12 1).toInt + (w' 16 2).toInt ∧ (w' 14 1).toInt + (w 16 2).toInt ≤ (w 14 1).toInt + (w' 16 2).toInt)) := by
  refine kM_of (own := "TaleMachine$Teller") rfl (by decide) (Nat.le_of_ble_eq_true rfl) ?_
  intro p e s m args below meth c C hr hlk
  have hF0 : kF [(2, some 9), (12, some 1), (13, none), (14, some 1), (15, none), (16, some 2)] w w := kF.rf
  have c_1 : (1 : Int32).toInt = 1 := by decide
  have c_13 : (13 : Int32).toInt = 13 := by decide
  have c_500 : (500 : Int32).toInt = 500 := by decide
  refine kV.L (L' := [(0, .ref (ρ 16)), (1, .int a1)]) rfl ?_
  obtain ⟨x1, e2⟩ : ∃ z : Int32, w 16 1 = z := ⟨_, rfl⟩
  have b3 : (0 : Int) ≤ x1.toInt ∧ x1.toInt ≤ 14 := by rw [← e2]; exact hI 16 1
  rw [e2] at hp0
  obtain ⟨x4, e5⟩ : ∃ z : Int32, w 12 1 = z := ⟨_, rfl⟩
  have b6 : (0 : Int) ≤ x4.toInt ∧ x4.toInt ≤ 2147483647 := by rw [← e5]; exact hI 12 1
  obtain ⟨x7, e8⟩ : ∃ z : Int32, w 14 1 = z := ⟨_, rfl⟩
  have b9 : (0 : Int) ≤ x7.toInt ∧ x7.toInt ≤ 2147483647 := by rw [← e8]; exact hI 14 1
  rw [e5, e8] at hp1
  have g10 := kf_rng a1
  refine kv_iload_n C 1 rfl 1 (kdec dk_cX7_emit 0 rfl) rfl rfl ?_
  refine kv_if_ne C 4 rfl 5 (kdec dk_cX7_emit 1 rfl) (by decide) (fun d11 => ?_) (fun d11 => ?_)
  · skip
    refine kv_aload_n C 6 rfl 0 (kdec dk_cX7_emit 3 rfl) rfl rfl ?_
    obtain ⟨x12, e13⟩ : ∃ z : Int32, w 16 2 = z := ⟨_, rfl⟩
    have b14 : (0 : Int) ≤ x12.toInt ∧ x12.toInt ≤ 500 := by rw [← e13]; exact hI 16 2
    refine kv_get C 9 rfl 16 2 rfl rfl inX7 (by decide) mfl_TaleMachine_Teller_19 rfl rfl (kdec dk_cX7_emit 4 rfl) e13 ?_
    refine kv_sipush C 12 rfl 500 (kdec dk_cX7_emit 5 rfl) rfl ?_
    refine kv_icmp_lt C 15 rfl 25 (kdec dk_cX7_emit 6 rfl) (by decide) (fun d15 => ?_) (fun d15 => ?_)
    · skip
      refine kv_aload_n C 26 rfl 0 (kdec dk_cX7_emit 12 rfl) rfl rfl ?_
      refine kv_dup C 27 rfl (kdec dk_cX7_emit 13 rfl) rfl ?_
      refine kv_get C 30 rfl 16 2 rfl rfl inX7 (by decide) mfl_TaleMachine_Teller_19 rfl rfl (kdec dk_cX7_emit 14 rfl) e13 ?_
      refine kv_iconst C 31 rfl 1 (kdec dk_cX7_emit 15 rfl) rfl ?_
      refine kv_iadd C 32 rfl (kdec dk_cX7_emit 16 rfl) (fun x16 q18 h17e h17 h17l h17u => ?_)
      try have h17n : x16.toInt = x12.toInt + (1 : Int32).toInt := by omega
      clear h17 q18
      refine kv_put C 35 rfl 16 2 rfl rfl inX7 (by decide) mfl_TaleMachine_Teller_19 rfl tyX7 tyX7_ok nmX7 rfl rfl (kdec dk_cX7_emit 17 rfl) rfl rfl (fun w19 u20 => ?_)
      have I21 : kI true w19 := kI_put u20 hI (show (0 : Int) ≤ (x16 : Int32).toInt by omega) (show (x16 : Int32).toInt ≤ 500 by omega)
      have F22 : kF [(2, some 9), (12, some 1), (13, none), (14, some 1), (15, none), (16, some 2)] w w19 := kF_put u20 hF0 rfl
      refine kv_aload_n C 36 rfl 0 (kdec dk_cX7_emit 18 rfl) rfl rfl ?_
      have e23 : w19 16 1 = x1 := ((kup_ne u20 rfl : w19 16 1 = w 16 1).trans e2)
      have d24 : x1.toInt = 12 ∨ x1.toInt = 14 := by omega
      rcases d24 with d24 | d24
      · skip
        refine kv_getm C 39 rfl 16 1 rfl rfl inX7 (by decide) mfl_TaleMachine_Teller_15 rfl 12 rfl rfl (kdec dk_cX7_emit 19 rfl) (by rw [e23]; exact kf_cl d24) ?_
        refine kv_iload_n C 40 rfl 1 (kdec dk_cX7_emit 20 rfl) rfl rfl ?_
        have e25 : w19 12 1 = x4 := ((kup_ne u20 rfl : w19 12 1 = w 12 1).trans e5)
        refine kv_callVNv (As := [.int a1]) (rest := []) C 43 rfl 12 (k_addO l D τ ρ σ w19 a1 I21 (by rw [e25]; try omega)) rfl rfl mmn_TaleMachine_Teller_116 mim_yX0_add mse_yX0_add mcd_yX0_add min_yX0_add hd_yX0_add rfl rfl rfl (by decide) rfl (Nat.le_of_ble_eq_true rfl) (kdec dk_cX7_emit 21 rfl) (fun w26 h27 => ?_)
        obtain ⟨I28, f29, p31⟩ := h27
        have F32 : kF [(2, some 9), (12, some 1), (13, none), (14, some 1), (15, none), (16, some 2)] w w26 := kF_call F22 f29 (by decide)
        obtain ⟨x33, e34⟩ : ∃ z : Int32, w26 12 1 = z := ⟨_, rfl⟩
        have b35 : (0 : Int) ≤ x33.toInt ∧ x33.toInt ≤ 2147483647 := by rw [← e34]; exact I28 12 1
        rw [e25, e34] at p31
        have e36 : w26 16 2 = x16 := ((f29 16 2 rfl : w26 16 2 = w19 16 2).trans (kup_eq u20))
        have e37 : w26 14 1 = x7 := ((f29 14 1 rfl : w26 14 1 = w19 14 1).trans ((kup_ne u20 rfl : w19 14 1 = w 14 1).trans e8))
        exact kv_vret C hr hlk (kdec dk_cX7_emit 22 rfl) ⟨rfl, I28, F32, (by rw [e13, e5, e8, e36, e34, e37]; try omega)⟩
      · skip
        refine kv_getm C 39 rfl 16 1 rfl rfl inX7 (by decide) mfl_TaleMachine_Teller_15 rfl 14 rfl rfl (kdec dk_cX7_emit 19 rfl) (by rw [e23]; exact kf_cl d24) ?_
        refine kv_iload_n C 40 rfl 1 (kdec dk_cX7_emit 20 rfl) rfl rfl ?_
        have e38 : w19 14 1 = x7 := ((kup_ne u20 rfl : w19 14 1 = w 14 1).trans e8)
        refine kv_callVNv (As := [.int a1]) (rest := []) C 43 rfl 14 (k_addS l D τ ρ σ w19 a1 I21 (by rw [e38]; try omega)) rfl rfl mmn_TaleMachine_Teller_116 mim_yX0_add mse_yX0_add mcd_yX0_add min_yX0_add hd_yX0_add rfl rfl rfl (by decide) rfl (Nat.le_of_ble_eq_true rfl) (kdec dk_cX7_emit 21 rfl) (fun w39 h40 => ?_)
        obtain ⟨I41, f42, p44⟩ := h40
        have F45 : kF [(2, some 9), (12, some 1), (13, none), (14, some 1), (15, none), (16, some 2)] w w39 := kF_call F22 f42 (by decide)
        obtain ⟨x46, e47⟩ : ∃ z : Int32, w39 14 1 = z := ⟨_, rfl⟩
        have b48 : (0 : Int) ≤ x46.toInt ∧ x46.toInt ≤ 2147483647 := by rw [← e47]; exact I41 14 1
        rw [e38, e47] at p44
        have e49 : w39 16 2 = x16 := ((f42 16 2 rfl : w39 16 2 = w19 16 2).trans (kup_eq u20))
        have e50 : w39 12 1 = x4 := ((f42 12 1 rfl : w39 12 1 = w19 12 1).trans ((kup_ne u20 rfl : w19 12 1 = w 12 1).trans e5))
        exact kv_vret C hr hlk (kdec dk_cX7_emit 22 rfl) ⟨rfl, I41, F45, (by rw [e13, e5, e8, e49, e50, e47]; try omega)⟩
    · skip
      refine kv_aload_n C 16 rfl 0 (kdec dk_cX7_emit 7 rfl) rfl rfl ?_
      refine kv_getr C 19 rfl 16 0 rfl rfl inX7 (by decide) mfl_TaleMachine_Teller_11 rfl rfl (kdec dk_cX7_emit 8 rfl) ?_
      refine kv_bipush C 21 rfl 13 (kdec dk_cX7_emit 9 rfl) rfl ?_
      refine kv_callVNv (As := [.int 13]) (rest := []) C 24 rfl 2 (k_raise l D τ ρ σ w 13 hI (by omega)) rfl rfl mmn_TaleMachine_Teller_78 mim_yX6_raise mse_yX6_raise mcd_yX6_raise min_yX6_raise hd_yX6_raise rfl rfl rfl (by decide) rfl (Nat.le_of_ble_eq_true rfl) (kdec dk_cX7_emit 10 rfl) (fun w51 h52 => ?_)
      obtain ⟨I53, f54, p56⟩ := h52
      have F57 : kF [(2, some 9), (12, some 1), (13, none), (14, some 1), (15, none), (16, some 2)] w w51 := kF_call hF0 f54 (by decide)
      obtain ⟨x58, e59⟩ : ∃ z : Int32, w 2 9 = z := ⟨_, rfl⟩
      have b60 : (0 : Int) ≤ x58.toInt ∧ x58.toInt ≤ 13 := by rw [← e59]; exact hI 2 9
      obtain ⟨x61, e62⟩ : ∃ z : Int32, w51 2 9 = z := ⟨_, rfl⟩
      have b63 : (0 : Int) ≤ x61.toInt ∧ x61.toInt ≤ 13 := by rw [← e62]; exact I53 2 9
      rw [e59, e62] at p56
      have e64 : w51 16 2 = x12 := ((f54 16 2 rfl : w51 16 2 = w 16 2).trans e13)
      have e65 : w51 12 1 = x4 := ((f54 12 1 rfl : w51 12 1 = w 12 1).trans e5)
      have e66 : w51 14 1 = x7 := ((f54 14 1 rfl : w51 14 1 = w 14 1).trans e8)
      exact kv_vret C hr hlk (kdec dk_cX7_emit 11 rfl) ⟨rfl, I53, F57, (by rw [e13, e5, e8, e64, e65, e66]; try omega)⟩
  · skip
    obtain ⟨x67, e68⟩ : ∃ z : Int32, w 16 2 = z := ⟨_, rfl⟩
    have b69 : (0 : Int) ≤ x67.toInt ∧ x67.toInt ≤ 500 := by rw [← e68]; exact hI 16 2
    exact kv_vret C hr hlk (kdec dk_cX7_emit 2 rfl) ⟨rfl, hI, hF0, (by rw [e68, e5, e8]; try omega)⟩

set_option maxHeartbeats 4000000 in
set_option maxRecDepth 100000 in
theorem k_t_nextLetter (l : Launch) (D : va_G) (τ : Nat → ClassId) (ρ σ : Nat → Nat) (w : kw)  (hI : kI true w) (hp0 : (w 16 1).toInt = 12 ∨ (w 16 1).toInt = 14) (hp1 : (w 12 1).toInt ≤ 2147483000 ∧ (w 14 1).toInt ≤ 2147483000) (hp2 : 1 ≤ (w 16 6).toInt) :
    kM l D τ ρ σ yX7_nextLetter cX7_nextLetter 2 none { frames := 6, cells := 0, slots := 0, locals := 216 } [.ref (ρ 16)] w
      (fun o w' => o = none ∧ kI true w' ∧ kF [(2, some 9), (12, some 1), (13, none), (14, some 1), (15, none), (16, some 2), (16, some 3), (16, some 4), (16, some 5), (16, some 6), (16, some 7), (16, some 8), (16, some 9), (16, some 10), (16, some 11), (16, some 12), (16, some 13)] w w' ∧ ((w 16 2).toInt ≤ (w' 16 2).toInt ∧ (w' 12 1).toInt + (w 16 2).toInt ≤ (w 12 1).toInt + (w' 16 2).toInt ∧ (w' 14 1).toInt + (w 16 2).toInt ≤ (w 14 1).toInt + (w' 16 2).toInt)) := by
  refine kM_of (own := "TaleMachine$Teller") rfl (by decide) (Nat.le_of_ble_eq_true rfl) ?_
  intro p e s m args below meth c C hr hlk
  have hF0 : kF [(2, some 9), (12, some 1), (13, none), (14, some 1), (15, none), (16, some 2), (16, some 3), (16, some 4), (16, some 5), (16, some 6), (16, some 7), (16, some 8), (16, some 9), (16, some 10), (16, some 11), (16, some 12), (16, some 13)] w w := kF.rf
  have c_0 : (0 : Int32).toInt = 0 := by decide
  have c_1 : (1 : Int32).toInt = 1 := by decide
  have c_4 : (4 : Int32).toInt = 4 := by decide
  have c_5 : (5 : Int32).toInt = 5 := by decide
  have c_13 : (13 : Int32).toInt = 13 := by decide
  have c_31 : (31 : Int32).toInt = 31 := by decide
  have c_32 : (32 : Int32).toInt = 32 := by decide
  have c_2000 : (2000 : Int32).toInt = 2000 := by decide
  refine kV.L (L' := [(0, .ref (ρ 16))]) rfl ?_
  obtain ⟨x1, e2⟩ : ∃ z : Int32, w 16 1 = z := ⟨_, rfl⟩
  have b3 : (0 : Int) ≤ x1.toInt ∧ x1.toInt ≤ 14 := by rw [← e2]; exact hI 16 1
  rw [e2] at hp0
  obtain ⟨x4, e5⟩ : ∃ z : Int32, w 12 1 = z := ⟨_, rfl⟩
  have b6 : (0 : Int) ≤ x4.toInt ∧ x4.toInt ≤ 2147483647 := by rw [← e5]; exact hI 12 1
  obtain ⟨x7, e8⟩ : ∃ z : Int32, w 14 1 = z := ⟨_, rfl⟩
  have b9 : (0 : Int) ≤ x7.toInt ∧ x7.toInt ≤ 2147483647 := by rw [← e8]; exact hI 14 1
  rw [e5, e8] at hp1
  obtain ⟨x10, e11⟩ : ∃ z : Int32, w 16 6 = z := ⟨_, rfl⟩
  have b12 : (0 : Int) ≤ x10.toInt ∧ x10.toInt ≤ 3 := by rw [← e11]; exact hI 16 6
  rw [e11] at hp2
  refine kv_aload_n C 1 rfl 0 (kdec dk_cX7_nextLetter 0 rfl) rfl rfl ?_
  obtain ⟨x13, e14⟩ : ∃ z : Int32, w 16 3 = z := ⟨_, rfl⟩
  have b15 : (0 : Int) ≤ x13.toInt ∧ x13.toInt ≤ 2000 := by rw [← e14]; exact hI 16 3
  refine kv_get C 4 rfl 16 3 rfl rfl inX7 (by decide) mfl_TaleMachine_Teller_23 rfl rfl (kdec dk_cX7_nextLetter 1 rfl) e14 ?_
  refine kv_sipush C 7 rfl 2000 (kdec dk_cX7_nextLetter 2 rfl) rfl ?_
  refine kv_icmp_lt C 10 rfl 20 (kdec dk_cX7_nextLetter 3 rfl) (by decide) (fun d16 => ?_) (fun d16 => ?_)
  · skip
    refine kv_aload_n C 21 rfl 0 (kdec dk_cX7_nextLetter 9 rfl) rfl rfl ?_
    refine kv_dup C 22 rfl (kdec dk_cX7_nextLetter 10 rfl) rfl ?_
    refine kv_get C 25 rfl 16 3 rfl rfl inX7 (by decide) mfl_TaleMachine_Teller_23 rfl rfl (kdec dk_cX7_nextLetter 11 rfl) e14 ?_
    refine kv_iconst C 26 rfl 1 (kdec dk_cX7_nextLetter 12 rfl) rfl ?_
    refine kv_iadd C 27 rfl (kdec dk_cX7_nextLetter 13 rfl) (fun x17 q19 h18e h18 h18l h18u => ?_)
    try have h18n : x17.toInt = x13.toInt + (1 : Int32).toInt := by omega
    clear h18 q19
    refine kv_put C 30 rfl 16 3 rfl rfl inX7 (by decide) mfl_TaleMachine_Teller_23 rfl tyX7 tyX7_ok nmX7 rfl rfl (kdec dk_cX7_nextLetter 14 rfl) rfl rfl (fun w20 u21 => ?_)
    have I22 : kI true w20 := kI_put u21 hI (show (0 : Int) ≤ (x17 : Int32).toInt by omega) (show (x17 : Int32).toInt ≤ 2000 by omega)
    have F23 : kF [(2, some 9), (12, some 1), (13, none), (14, some 1), (15, none), (16, some 2), (16, some 3), (16, some 4), (16, some 5), (16, some 6), (16, some 7), (16, some 8), (16, some 9), (16, some 10), (16, some 11), (16, some 12), (16, some 13)] w w20 := kF_put u21 hF0 rfl
    refine kv_aload_n C 31 rfl 0 (kdec dk_cX7_nextLetter 15 rfl) rfl rfl ?_
    refine kv_dup C 32 rfl (kdec dk_cX7_nextLetter 16 rfl) rfl ?_
    have e24 : w20 16 6 = x10 := ((kup_ne u21 rfl : w20 16 6 = w 16 6).trans e11)
    refine kv_get C 35 rfl 16 6 rfl rfl inX7 (by decide) mfl_TaleMachine_Teller_39 rfl rfl (kdec dk_cX7_nextLetter 17 rfl) e24 ?_
    refine kv_iconst C 36 rfl 1 (kdec dk_cX7_nextLetter 18 rfl) rfl ?_
    refine kv_isub C 37 rfl (kdec dk_cX7_nextLetter 19 rfl) (fun x25 q27 h26e h26 h26l h26u => ?_)
    try have h26n : x25.toInt = x10.toInt - (1 : Int32).toInt := by omega
    clear h26 q27
    refine kv_put C 40 rfl 16 6 rfl rfl inX7 (by decide) mfl_TaleMachine_Teller_39 rfl tyX7 tyX7_ok nmX7 rfl rfl (kdec dk_cX7_nextLetter 20 rfl) rfl rfl (fun w28 u29 => ?_)
    have I30 : kI true w28 := kI_put u29 I22 (show (0 : Int) ≤ (x25 : Int32).toInt by omega) (show (x25 : Int32).toInt ≤ 3 by omega)
    have F31 : kF [(2, some 9), (12, some 1), (13, none), (14, some 1), (15, none), (16, some 2), (16, some 3), (16, some 4), (16, some 5), (16, some 6), (16, some 7), (16, some 8), (16, some 9), (16, some 10), (16, some 11), (16, some 12), (16, some 13)] w w28 := kF_put u29 F23 rfl
    refine kv_aload_n C 41 rfl 0 (kdec dk_cX7_nextLetter 21 rfl) rfl rfl ?_
    obtain ⟨x32, e33⟩ : ∃ z : Int32, w 16 5 = z := ⟨_, rfl⟩
    have b34 : (-2147483648 : Int) ≤ x32.toInt ∧ x32.toInt ≤ 2147483647 := by rw [← e33]; exact hI 16 5
    have e35 : w28 16 5 = x32 := ((kup_ne u29 rfl : w28 16 5 = w20 16 5).trans ((kup_ne u21 rfl : w20 16 5 = w 16 5).trans e33))
    refine kv_get C 44 rfl 16 5 rfl rfl inX7 (by decide) mfl_TaleMachine_Teller_45 rfl rfl (kdec dk_cX7_nextLetter 22 rfl) e35 ?_
    refine kv_iconst C 45 rfl 5 (kdec dk_cX7_nextLetter 23 rfl) rfl ?_
    refine kv_aload_n C 46 rfl 0 (kdec dk_cX7_nextLetter 24 rfl) rfl rfl ?_
    refine kv_get C 49 rfl 16 6 rfl rfl inX7 (by decide) mfl_TaleMachine_Teller_39 rfl rfl (kdec dk_cX7_nextLetter 25 rfl) (kup_eq u29) ?_
    refine kv_imul C 50 rfl (kdec dk_cX7_nextLetter 26 rfl) (fun x36 h37e h37l h37u => ?_)
    obtain ⟨q38, g39⟩ := kf_mul 5 x25
    rw [← h37e, c_5] at g39
    try have h37n : x36.toInt = 5 * x25.toInt := by omega
    clear g39 q38
    refine kv_ishr C 51 rfl (kdec dk_cX7_nextLetter 27 rfl) (fun x40 h41e h41l h41u => ?_)
    refine kv_bipush C 53 rfl 31 (kdec dk_cX7_nextLetter 28 rfl) rfl ?_
    refine kv_iand C 54 rfl (kdec dk_cX7_nextLetter 29 rfl) (fun x42 h43e h43l h43u => ?_)
    have g44 := kf_and31 h43e
    refine kv_istore_n C 55 rfl 1 [1, 0] [(0, .ref (ρ 16)), (1, .int x42)] (kdec dk_cX7_nextLetter 30 rfl) rfl (by decide) rfl ?_
    refine kv_aload_n C 56 rfl 0 (kdec dk_cX7_nextLetter 31 rfl) rfl rfl ?_
    obtain ⟨x45, e46⟩ : ∃ z : Int32, w 16 12 = z := ⟨_, rfl⟩
    have b47 : (-2147483648 : Int) ≤ x45.toInt ∧ x45.toInt ≤ 2147483647 := by rw [← e46]; exact hI 16 12
    have e48 : w28 16 12 = x45 := ((kup_ne u29 rfl : w28 16 12 = w20 16 12).trans ((kup_ne u21 rfl : w20 16 12 = w 16 12).trans e46))
    refine kv_get C 59 rfl 16 12 rfl rfl inX7 (by decide) mfl_TaleMachine_Teller_62 rfl rfl (kdec dk_cX7_nextLetter 32 rfl) e48 ?_
    refine kv_if_ne C 62 rfl 74 (kdec dk_cX7_nextLetter 33 rfl) (by decide) (fun d49 => ?_) (fun d49 => ?_)
    · skip
      refine kv_aload_n C 75 rfl 0 (kdec dk_cX7_nextLetter 40 rfl) rfl rfl ?_
      refine kv_get C 78 rfl 16 12 rfl rfl inX7 (by decide) mfl_TaleMachine_Teller_62 rfl rfl (kdec dk_cX7_nextLetter 41 rfl) e48 ?_
      refine kv_iconst C 79 rfl 4 (kdec dk_cX7_nextLetter 42 rfl) rfl ?_
      refine kv_icmp_ne C 82 rfl 95 (kdec dk_cX7_nextLetter 43 rfl) (by decide) (fun d50 => ?_) (fun d50 => ?_)
      · skip
        refine kv_aload_n C 96 rfl 0 (kdec dk_cX7_nextLetter 51 rfl) rfl rfl ?_
        refine kv_get C 99 rfl 16 12 rfl rfl inX7 (by decide) mfl_TaleMachine_Teller_62 rfl rfl (kdec dk_cX7_nextLetter 52 rfl) e48 ?_
        refine kv_iconst C 100 rfl 5 (kdec dk_cX7_nextLetter 53 rfl) rfl ?_
        refine kv_icmp_ne C 103 rfl 124 (kdec dk_cX7_nextLetter 54 rfl) (by decide) (fun d51 => ?_) (fun d51 => ?_)
        · skip
          refine kv_aload_n C 125 rfl 0 (kdec dk_cX7_nextLetter 67 rfl) rfl rfl ?_
          refine kv_bipush C 127 rfl 32 (kdec dk_cX7_nextLetter 68 rfl) rfl ?_
          refine kv_aload_n C 128 rfl 0 (kdec dk_cX7_nextLetter 69 rfl) rfl rfl ?_
          refine kv_get C 131 rfl 16 12 rfl rfl inX7 (by decide) mfl_TaleMachine_Teller_62 rfl rfl (kdec dk_cX7_nextLetter 70 rfl) e48 ?_
          refine kv_iconst C 132 rfl 1 (kdec dk_cX7_nextLetter 71 rfl) rfl ?_
          refine kv_isub C 133 rfl (kdec dk_cX7_nextLetter 72 rfl) (fun x52 q54 h53e h53 h53l h53u => ?_)
          try have h53n : x52.toInt = x45.toInt - (1 : Int32).toInt := by omega
          clear h53 q54
          refine kv_imul C 134 rfl (kdec dk_cX7_nextLetter 73 rfl) (fun x55 h56e h56l h56u => ?_)
          obtain ⟨q57, g58⟩ := kf_mul 32 x52
          rw [← h56e, c_32] at g58
          try have h56n : x55.toInt = 32 * x52.toInt := by omega
          clear g58 q57
          refine kv_iload_n C 135 rfl 1 (kdec dk_cX7_nextLetter 74 rfl) rfl rfl ?_
          refine kv_iadd C 136 rfl (kdec dk_cX7_nextLetter 75 rfl) (fun x59 q61 h60e h60 h60l h60u => ?_)
          try have h60n : x59.toInt = x55.toInt + x42.toInt := by omega
          clear h60 q61
          refine kv_callVv (As := [.int x59]) (rest := []) C 139 rfl 16 (k_t_abbreviation l D τ ρ σ w28 x59 I30 ) rfl rfl mml_TaleMachine_Teller_90 mim_yX7_abbreviation mse_yX7_abbreviation mcd_yX7_abbreviation min_yX7_abbreviation hd_yX7_abbreviation rfl rfl rfl (by decide) rfl (Nat.le_of_ble_eq_true rfl) (kdec dk_cX7_nextLetter 76 rfl) (fun w62 h63 => ?_)
          obtain ⟨I64, f65⟩ := h63
          have F67 : kF [(2, some 9), (12, some 1), (13, none), (14, some 1), (15, none), (16, some 2), (16, some 3), (16, some 4), (16, some 5), (16, some 6), (16, some 7), (16, some 8), (16, some 9), (16, some 10), (16, some 11), (16, some 12), (16, some 13)] w w62 := kF_call F31 f65 (by decide)
          obtain ⟨x68, e69⟩ : ∃ z : Int32, w 16 2 = z := ⟨_, rfl⟩
          have b70 : (0 : Int) ≤ x68.toInt ∧ x68.toInt ≤ 500 := by rw [← e69]; exact hI 16 2
          have e71 : w62 16 2 = x68 := ((f65 16 2 rfl : w62 16 2 = w28 16 2).trans ((kup_ne u29 rfl : w28 16 2 = w20 16 2).trans ((kup_ne u21 rfl : w20 16 2 = w 16 2).trans e69)))
          have e72 : w62 12 1 = x4 := ((f65 12 1 rfl : w62 12 1 = w28 12 1).trans ((kup_ne u29 rfl : w28 12 1 = w20 12 1).trans ((kup_ne u21 rfl : w20 12 1 = w 12 1).trans e5)))
          have e73 : w62 14 1 = x7 := ((f65 14 1 rfl : w62 14 1 = w28 14 1).trans ((kup_ne u29 rfl : w28 14 1 = w20 14 1).trans ((kup_ne u21 rfl : w20 14 1 = w 14 1).trans e8)))
          exact kv_vret C hr hlk (kdec dk_cX7_nextLetter 77 rfl) ⟨rfl, I64, F67, (by rw [e69, e5, e8, e71, e72, e73]; try omega)⟩
        · skip
          refine kv_aload_n C 104 rfl 0 (kdec dk_cX7_nextLetter 55 rfl) rfl rfl ?_
          refine kv_iconst C 105 rfl 0 (kdec dk_cX7_nextLetter 56 rfl) rfl ?_
          refine kv_put C 108 rfl 16 12 rfl rfl inX7 (by decide) mfl_TaleMachine_Teller_62 rfl tyX7 tyX7_ok nmX7 rfl rfl (kdec dk_cX7_nextLetter 57 rfl) rfl rfl (fun w74 u75 => ?_)
          have I76 : kI true w74 := kI_put u75 I30 (kf_rng _).1 (kf_rng _).2
          have F77 : kF [(2, some 9), (12, some 1), (13, none), (14, some 1), (15, none), (16, some 2), (16, some 3), (16, some 4), (16, some 5), (16, some 6), (16, some 7), (16, some 8), (16, some 9), (16, some 10), (16, some 11), (16, some 12), (16, some 13)] w w74 := kF_put u75 F31 rfl
          refine kv_aload_n C 109 rfl 0 (kdec dk_cX7_nextLetter 58 rfl) rfl rfl ?_
          refine kv_bipush C 111 rfl 32 (kdec dk_cX7_nextLetter 59 rfl) rfl ?_
          refine kv_aload_n C 112 rfl 0 (kdec dk_cX7_nextLetter 60 rfl) rfl rfl ?_
          obtain ⟨x78, e79⟩ : ∃ z : Int32, w 16 13 = z := ⟨_, rfl⟩
          have b80 : (-2147483648 : Int) ≤ x78.toInt ∧ x78.toInt ≤ 2147483647 := by rw [← e79]; exact hI 16 13
          have e81 : w74 16 13 = x78 := ((kup_ne u75 rfl : w74 16 13 = w28 16 13).trans ((kup_ne u29 rfl : w28 16 13 = w20 16 13).trans ((kup_ne u21 rfl : w20 16 13 = w 16 13).trans e79)))
          refine kv_get C 115 rfl 16 13 rfl rfl inX7 (by decide) mfl_TaleMachine_Teller_87 rfl rfl (kdec dk_cX7_nextLetter 61 rfl) e81 ?_
          refine kv_imul C 116 rfl (kdec dk_cX7_nextLetter 62 rfl) (fun x82 h83e h83l h83u => ?_)
          obtain ⟨q84, g85⟩ := kf_mul 32 x78
          rw [← h83e, c_32] at g85
          try have h83n : x82.toInt = 32 * x78.toInt := by omega
          clear g85 q84
          refine kv_iload_n C 117 rfl 1 (kdec dk_cX7_nextLetter 63 rfl) rfl rfl ?_
          refine kv_iadd C 118 rfl (kdec dk_cX7_nextLetter 64 rfl) (fun x86 q88 h87e h87 h87l h87u => ?_)
          try have h87n : x86.toInt = x82.toInt + x42.toInt := by omega
          clear h87 q88
          have e89 : w74 16 1 = x1 := ((kup_ne u75 rfl : w74 16 1 = w28 16 1).trans ((kup_ne u29 rfl : w28 16 1 = w20 16 1).trans ((kup_ne u21 rfl : w20 16 1 = w 16 1).trans e2)))
          have e90 : w74 12 1 = x4 := ((kup_ne u75 rfl : w74 12 1 = w28 12 1).trans ((kup_ne u29 rfl : w28 12 1 = w20 12 1).trans ((kup_ne u21 rfl : w20 12 1 = w 12 1).trans e5)))
          have e91 : w74 14 1 = x7 := ((kup_ne u75 rfl : w74 14 1 = w28 14 1).trans ((kup_ne u29 rfl : w28 14 1 = w20 14 1).trans ((kup_ne u21 rfl : w20 14 1 = w 14 1).trans e8)))
          refine kv_callVv (As := [.int x86]) (rest := []) C 121 rfl 16 (k_t_emit l D τ ρ σ w74 x86 I76 (by rw [e89]; try omega) (by rw [e90, e91]; try omega)) rfl rfl mml_TaleMachine_Teller_84 mim_yX7_emit mse_yX7_emit mcd_yX7_emit min_yX7_emit hd_yX7_emit rfl rfl rfl (by decide) rfl (Nat.le_of_ble_eq_true rfl) (kdec dk_cX7_nextLetter 65 rfl) (fun w92 h93 => ?_)
          obtain ⟨I94, f95, p97⟩ := h93
          have F98 : kF [(2, some 9), (12, some 1), (13, none), (14, some 1), (15, none), (16, some 2), (16, some 3), (16, some 4), (16, some 5), (16, some 6), (16, some 7), (16, some 8), (16, some 9), (16, some 10), (16, some 11), (16, some 12), (16, some 13)] w w92 := kF_call F77 f95 (by decide)
          obtain ⟨x99, e100⟩ : ∃ z : Int32, w 16 2 = z := ⟨_, rfl⟩
          have b101 : (0 : Int) ≤ x99.toInt ∧ x99.toInt ≤ 500 := by rw [← e100]; exact hI 16 2
          have e102 : w74 16 2 = x99 := ((kup_ne u75 rfl : w74 16 2 = w28 16 2).trans ((kup_ne u29 rfl : w28 16 2 = w20 16 2).trans ((kup_ne u21 rfl : w20 16 2 = w 16 2).trans e100)))
          obtain ⟨x103, e104⟩ : ∃ z : Int32, w92 16 2 = z := ⟨_, rfl⟩
          have b105 : (0 : Int) ≤ x103.toInt ∧ x103.toInt ≤ 500 := by rw [← e104]; exact I94 16 2
          obtain ⟨x106, e107⟩ : ∃ z : Int32, w92 12 1 = z := ⟨_, rfl⟩
          have b108 : (0 : Int) ≤ x106.toInt ∧ x106.toInt ≤ 2147483647 := by rw [← e107]; exact I94 12 1
          obtain ⟨x109, e110⟩ : ∃ z : Int32, w92 14 1 = z := ⟨_, rfl⟩
          have b111 : (0 : Int) ≤ x109.toInt ∧ x109.toInt ≤ 2147483647 := by rw [← e110]; exact I94 14 1
          rw [e102, e90, e91, e104, e107, e110] at p97
          refine kv_goto C 139 (kdec dk_cX7_nextLetter 66 rfl) (by decide) ?_
          exact kv_vret C hr hlk (kdec dk_cX7_nextLetter 77 rfl) ⟨rfl, I94, F98, (by rw [e100, e5, e8, e104, e107, e110]; try omega)⟩
      · skip
        refine kv_aload_n C 83 rfl 0 (kdec dk_cX7_nextLetter 44 rfl) rfl rfl ?_
        refine kv_iload_n C 84 rfl 1 (kdec dk_cX7_nextLetter 45 rfl) rfl rfl ?_
        refine kv_put C 87 rfl 16 13 rfl rfl inX7 (by decide) mfl_TaleMachine_Teller_87 rfl tyX7 tyX7_ok nmX7 rfl rfl (kdec dk_cX7_nextLetter 46 rfl) rfl rfl (fun w112 u113 => ?_)
        have I114 : kI true w112 := kI_put u113 I30 (kf_rng _).1 (kf_rng _).2
        have F115 : kF [(2, some 9), (12, some 1), (13, none), (14, some 1), (15, none), (16, some 2), (16, some 3), (16, some 4), (16, some 5), (16, some 6), (16, some 7), (16, some 8), (16, some 9), (16, some 10), (16, some 11), (16, some 12), (16, some 13)] w w112 := kF_put u113 F31 rfl
        refine kv_aload_n C 88 rfl 0 (kdec dk_cX7_nextLetter 47 rfl) rfl rfl ?_
        refine kv_iconst C 89 rfl 5 (kdec dk_cX7_nextLetter 48 rfl) rfl ?_
        refine kv_put C 92 rfl 16 12 rfl rfl inX7 (by decide) mfl_TaleMachine_Teller_62 rfl tyX7 tyX7_ok nmX7 rfl rfl (kdec dk_cX7_nextLetter 49 rfl) rfl rfl (fun w116 u117 => ?_)
        have I118 : kI true w116 := kI_put u117 I114 (kf_rng _).1 (kf_rng _).2
        have F119 : kF [(2, some 9), (12, some 1), (13, none), (14, some 1), (15, none), (16, some 2), (16, some 3), (16, some 4), (16, some 5), (16, some 6), (16, some 7), (16, some 8), (16, some 9), (16, some 10), (16, some 11), (16, some 12), (16, some 13)] w w116 := kF_put u117 F115 rfl
        refine kv_goto C 139 (kdec dk_cX7_nextLetter 50 rfl) (by decide) ?_
        obtain ⟨x120, e121⟩ : ∃ z : Int32, w 16 2 = z := ⟨_, rfl⟩
        have b122 : (0 : Int) ≤ x120.toInt ∧ x120.toInt ≤ 500 := by rw [← e121]; exact hI 16 2
        have e123 : w116 16 2 = x120 := ((kup_ne u117 rfl : w116 16 2 = w112 16 2).trans ((kup_ne u113 rfl : w112 16 2 = w28 16 2).trans ((kup_ne u29 rfl : w28 16 2 = w20 16 2).trans ((kup_ne u21 rfl : w20 16 2 = w 16 2).trans e121))))
        have e124 : w116 12 1 = x4 := ((kup_ne u117 rfl : w116 12 1 = w112 12 1).trans ((kup_ne u113 rfl : w112 12 1 = w28 12 1).trans ((kup_ne u29 rfl : w28 12 1 = w20 12 1).trans ((kup_ne u21 rfl : w20 12 1 = w 12 1).trans e5))))
        have e125 : w116 14 1 = x7 := ((kup_ne u117 rfl : w116 14 1 = w112 14 1).trans ((kup_ne u113 rfl : w112 14 1 = w28 14 1).trans ((kup_ne u29 rfl : w28 14 1 = w20 14 1).trans ((kup_ne u21 rfl : w20 14 1 = w 14 1).trans e8))))
        exact kv_vret C hr hlk (kdec dk_cX7_nextLetter 77 rfl) ⟨rfl, I118, F119, (by rw [e121, e5, e8, e123, e124, e125]; try omega)⟩
    · skip
      refine kv_aload_n C 63 rfl 0 (kdec dk_cX7_nextLetter 34 rfl) rfl rfl ?_
      refine kv_aload_n C 64 rfl 0 (kdec dk_cX7_nextLetter 35 rfl) rfl rfl ?_
      refine kv_iload_n C 65 rfl 1 (kdec dk_cX7_nextLetter 36 rfl) rfl rfl ?_
      refine kv_callVi (As := [.int x42]) (rest := [.ref (ρ 16)]) C 68 rfl 16 (k_t_plainLetter l D τ ρ σ w28 x42 I30 ) rfl rfl mml_TaleMachine_Teller_81 mim_yX7_plainLetter mse_yX7_plainLetter mcd_yX7_plainLetter min_yX7_plainLetter hd_yX7_plainLetter rfl rfl rfl (by decide) rfl (Nat.le_of_ble_eq_true rfl) (kdec dk_cX7_nextLetter 37 rfl) (fun x130 w126 h127 => ?_)
      obtain ⟨I128, f129⟩ := h127
      have F131 : kF [(2, some 9), (12, some 1), (13, none), (14, some 1), (15, none), (16, some 2), (16, some 3), (16, some 4), (16, some 5), (16, some 6), (16, some 7), (16, some 8), (16, some 9), (16, some 10), (16, some 11), (16, some 12), (16, some 13)] w w126 := kF_call F31 f129 (by decide)
      have g132 := kf_rng x130
      have e133 : w126 16 1 = x1 := ((f129 16 1 rfl : w126 16 1 = w28 16 1).trans ((kup_ne u29 rfl : w28 16 1 = w20 16 1).trans ((kup_ne u21 rfl : w20 16 1 = w 16 1).trans e2)))
      have e134 : w126 12 1 = x4 := ((f129 12 1 rfl : w126 12 1 = w28 12 1).trans ((kup_ne u29 rfl : w28 12 1 = w20 12 1).trans ((kup_ne u21 rfl : w20 12 1 = w 12 1).trans e5)))
      have e135 : w126 14 1 = x7 := ((f129 14 1 rfl : w126 14 1 = w28 14 1).trans ((kup_ne u29 rfl : w28 14 1 = w20 14 1).trans ((kup_ne u21 rfl : w20 14 1 = w 14 1).trans e8)))
      refine kv_callVv (As := [.int x130]) (rest := []) C 71 rfl 16 (k_t_emit l D τ ρ σ w126 x130 I128 (by rw [e133]; try omega) (by rw [e134, e135]; try omega)) rfl rfl mml_TaleMachine_Teller_84 mim_yX7_emit mse_yX7_emit mcd_yX7_emit min_yX7_emit hd_yX7_emit rfl rfl rfl (by decide) rfl (Nat.le_of_ble_eq_true rfl) (kdec dk_cX7_nextLetter 38 rfl) (fun w136 h137 => ?_)
      obtain ⟨I138, f139, p141⟩ := h137
      have F142 : kF [(2, some 9), (12, some 1), (13, none), (14, some 1), (15, none), (16, some 2), (16, some 3), (16, some 4), (16, some 5), (16, some 6), (16, some 7), (16, some 8), (16, some 9), (16, some 10), (16, some 11), (16, some 12), (16, some 13)] w w136 := kF_call F131 f139 (by decide)
      obtain ⟨x143, e144⟩ : ∃ z : Int32, w 16 2 = z := ⟨_, rfl⟩
      have b145 : (0 : Int) ≤ x143.toInt ∧ x143.toInt ≤ 500 := by rw [← e144]; exact hI 16 2
      have e146 : w126 16 2 = x143 := ((f129 16 2 rfl : w126 16 2 = w28 16 2).trans ((kup_ne u29 rfl : w28 16 2 = w20 16 2).trans ((kup_ne u21 rfl : w20 16 2 = w 16 2).trans e144)))
      obtain ⟨x147, e148⟩ : ∃ z : Int32, w136 16 2 = z := ⟨_, rfl⟩
      have b149 : (0 : Int) ≤ x147.toInt ∧ x147.toInt ≤ 500 := by rw [← e148]; exact I138 16 2
      obtain ⟨x150, e151⟩ : ∃ z : Int32, w136 12 1 = z := ⟨_, rfl⟩
      have b152 : (0 : Int) ≤ x150.toInt ∧ x150.toInt ≤ 2147483647 := by rw [← e151]; exact I138 12 1
      obtain ⟨x153, e154⟩ : ∃ z : Int32, w136 14 1 = z := ⟨_, rfl⟩
      have b155 : (0 : Int) ≤ x153.toInt ∧ x153.toInt ≤ 2147483647 := by rw [← e154]; exact I138 14 1
      rw [e146, e134, e135, e148, e151, e154] at p141
      refine kv_goto C 139 (kdec dk_cX7_nextLetter 39 rfl) (by decide) ?_
      exact kv_vret C hr hlk (kdec dk_cX7_nextLetter 77 rfl) ⟨rfl, I138, F142, (by rw [e144, e5, e8, e148, e151, e154]; try omega)⟩
  · skip
    refine kv_aload_n C 11 rfl 0 (kdec dk_cX7_nextLetter 4 rfl) rfl rfl ?_
    refine kv_getr C 14 rfl 16 0 rfl rfl inX7 (by decide) mfl_TaleMachine_Teller_11 rfl rfl (kdec dk_cX7_nextLetter 5 rfl) ?_
    refine kv_bipush C 16 rfl 13 (kdec dk_cX7_nextLetter 6 rfl) rfl ?_
    refine kv_callVNv (As := [.int 13]) (rest := []) C 19 rfl 2 (k_raise l D τ ρ σ w 13 hI (by omega)) rfl rfl mmn_TaleMachine_Teller_78 mim_yX6_raise mse_yX6_raise mcd_yX6_raise min_yX6_raise hd_yX6_raise rfl rfl rfl (by decide) rfl (Nat.le_of_ble_eq_true rfl) (kdec dk_cX7_nextLetter 7 rfl) (fun w156 h157 => ?_)
    obtain ⟨I158, f159, p161⟩ := h157
    have F162 : kF [(2, some 9), (12, some 1), (13, none), (14, some 1), (15, none), (16, some 2), (16, some 3), (16, some 4), (16, some 5), (16, some 6), (16, some 7), (16, some 8), (16, some 9), (16, some 10), (16, some 11), (16, some 12), (16, some 13)] w w156 := kF_call hF0 f159 (by decide)
    obtain ⟨x163, e164⟩ : ∃ z : Int32, w 2 9 = z := ⟨_, rfl⟩
    have b165 : (0 : Int) ≤ x163.toInt ∧ x163.toInt ≤ 13 := by rw [← e164]; exact hI 2 9
    obtain ⟨x166, e167⟩ : ∃ z : Int32, w156 2 9 = z := ⟨_, rfl⟩
    have b168 : (0 : Int) ≤ x166.toInt ∧ x166.toInt ≤ 13 := by rw [← e167]; exact I158 2 9
    rw [e164, e167] at p161
    obtain ⟨x169, e170⟩ : ∃ z : Int32, w 16 2 = z := ⟨_, rfl⟩
    have b171 : (0 : Int) ≤ x169.toInt ∧ x169.toInt ≤ 500 := by rw [← e170]; exact hI 16 2
    have e172 : w156 16 2 = x169 := ((f159 16 2 rfl : w156 16 2 = w 16 2).trans e170)
    have e173 : w156 12 1 = x4 := ((f159 12 1 rfl : w156 12 1 = w 12 1).trans e5)
    have e174 : w156 14 1 = x7 := ((f159 14 1 rfl : w156 14 1 = w 14 1).trans e8)
    exact kv_vret C hr hlk (kdec dk_cX7_nextLetter 8 rfl) ⟨rfl, I158, F162, (by rw [e170, e5, e8, e172, e173, e174]; try omega)⟩

set_option maxHeartbeats 4000000 in
set_option maxRecDepth 100000 in
theorem k_tellO (l : Launch) (D : va_G) (τ : Nat → ClassId) (ρ σ : Nat → Nat) (w : kw) (a1 : Int32) (hI : kI true w) (hp0 : (w 12 1).toInt ≤ 2147482000 ∧ (w 14 1).toInt ≤ 2147482000) :
    kM l D τ ρ σ yX7_tell cX7_tell 4 (some .int) { frames := 7, cells := 0, slots := 0, locals := 252 } [.ref (ρ 16), .int a1, .ref (ρ 12)] w
      (fun o w' => ∃ r : Int32, o = some (.int r) ∧ kI true w' ∧ kF [(2, some 9), (12, some 1), (13, none), (14, some 1), (15, none), (16, some 1), (16, some 2), (16, some 3), (16, some 4), (16, some 5), (16, some 6), (16, some 7), (16, some 8), (16, some 9), (16, some 10), (16, some 11), (16, some 12), (16, some 13)] w w' ∧ ((w' 12 1).toInt ≤ (w 12 1).toInt + 500 ∧ (w' 14 1).toInt ≤ (w 14 1).toInt + 500)) := by
  refine kM_of (own := "TaleMachine$Teller") rfl (by decide) (Nat.le_of_ble_eq_true rfl) ?_
  intro p e s m args below meth c C hr hlk
  have hF0 : kF [(2, some 9), (12, some 1), (13, none), (14, some 1), (15, none), (16, some 1), (16, some 2), (16, some 3), (16, some 4), (16, some 5), (16, some 6), (16, some 7), (16, some 8), (16, some 9), (16, some 10), (16, some 11), (16, some 12), (16, some 13)] w w := kF.rf
  have c_0 : (0 : Int32).toInt = 0 := by decide
  have c_12 : (12 : Int32).toInt = 12 := by decide
  have c_6003 : (6003 : Int32).toInt = 6003 := by decide
  have c_32768 : (32768 : Int32).toInt = 32768 := by decide
  have c_65535 : (65535 : Int32).toInt = 65535 := by decide
  refine kV.L (L' := [(0, .ref (ρ 16)), (1, .int a1), (2, .ref (ρ 12))]) rfl ?_
  obtain ⟨x1, e2⟩ : ∃ z : Int32, w 12 1 = z := ⟨_, rfl⟩
  have b3 : (0 : Int) ≤ x1.toInt ∧ x1.toInt ≤ 2147483647 := by rw [← e2]; exact hI 12 1
  obtain ⟨x4, e5⟩ : ∃ z : Int32, w 14 1 = z := ⟨_, rfl⟩
  have b6 : (0 : Int) ≤ x4.toInt ∧ x4.toInt ≤ 2147483647 := by rw [← e5]; exact hI 14 1
  rw [e2, e5] at hp0
  have g7 := kf_rng a1
  have cut91 : ∀ (w_91 : kw), kI true w_91 → kF [(2, some 9), (12, some 1), (13, none), (14, some 1), (15, none), (16, some 1), (16, some 2), (16, some 3), (16, some 4), (16, some 5), (16, some 6), (16, some 7), (16, some 8), (16, some 9), (16, some 10), (16, some 11), (16, some 12), (16, some 13)] w w_91 → ((w_91 12 1).toInt ≤ (w 12 1).toInt + 500 ∧ (w_91 14 1).toInt ≤ (w 14 1).toInt + 500) → kV p l e { frames := 7, cells := 0, slots := 0, locals := 252 } s m args below meth c (kQ below args s D τ ρ (fun o w' => ∃ r : Int32, o = some (.int r) ∧ kI true w' ∧ kF [(2, some 9), (12, some 1), (13, none), (14, some 1), (15, none), (16, some 1), (16, some 2), (16, some 3), (16, some 4), (16, some 5), (16, some 6), (16, some 7), (16, some 8), (16, some 9), (16, some 10), (16, some 11), (16, some 12), (16, some 13)] w w' ∧ ((w' 12 1).toInt ≤ (w 12 1).toInt + 500 ∧ (w' 14 1).toInt ≤ (w 14 1).toInt + 500))) 4 D τ ρ 91 [(0, .ref (ρ 16))] [] w_91 := by
    intro w_91  I_91 F_91 k91_0
    obtain ⟨x8, e9⟩ : ∃ z : Int32, w_91 12 1 = z := ⟨_, rfl⟩
    have b10 : (0 : Int) ≤ x8.toInt ∧ x8.toInt ≤ 2147483647 := by rw [← e9]; exact I_91 12 1
    obtain ⟨x11, e12⟩ : ∃ z : Int32, w_91 14 1 = z := ⟨_, rfl⟩
    have b13 : (0 : Int) ≤ x11.toInt ∧ x11.toInt ≤ 2147483647 := by rw [← e12]; exact I_91 14 1
    rw [e2, e5, e9, e12] at k91_0
    refine kv_aload_n C 92 rfl 0 (kdec dk_cX7_tell 44 rfl) rfl rfl ?_
    obtain ⟨x14, e15⟩ : ∃ z : Int32, w_91 16 4 = z := ⟨_, rfl⟩
    have b16 : (-2147483648 : Int) ≤ x14.toInt ∧ x14.toInt ≤ 2147483647 := by rw [← e15]; exact I_91 16 4
    refine kv_get C 95 rfl 16 4 rfl rfl inX7 (by decide) mfl_TaleMachine_Teller_55 rfl rfl (kdec dk_cX7_tell 45 rfl) e15 ?_
    refine kv_ldc C 97 rfl 65535 (kdec dk_cX7_tell 46 rfl) mco_TaleMachine_Teller_58 ?_
    refine kv_iand C 98 rfl (kdec dk_cX7_tell 47 rfl) (fun x17 h18e h18l h18u => ?_)
    have g19 := kf_and65535 h18e
    exact kv_iret C hr hlk (kdec dk_cX7_tell 48 rfl) ⟨_, rfl, I_91, F_91, (by rw [e2, e5, e9, e12]; try omega)⟩
  have cut27 : ∀ (n_27 : Nat) (w_27 : kw) (l3_27 : Int32), kI true w_27 → kF [(2, some 9), (12, some 1), (13, none), (14, some 1), (15, none), (16, some 1), (16, some 2), (16, some 3), (16, some 4), (16, some 5), (16, some 6), (16, some 7), (16, some 8), (16, some 9), (16, some 10), (16, some 11), (16, some 12), (16, some 13)] w w_27 → (0 ≤ l3_27.toInt ∧ l3_27.toInt ≤ 6003) → ((w_27 16 1).toInt = 12) → ((w_27 12 1).toInt ≤ (w 12 1).toInt + (w_27 16 2).toInt ∧ (w_27 14 1).toInt ≤ (w 14 1).toInt + (w_27 16 2).toInt) → ((6004 - l3_27.toInt) : Int) < (n_27 : Int) → kV p l e { frames := 7, cells := 0, slots := 0, locals := 252 } s m args below meth c (kQ below args s D τ ρ (fun o w' => ∃ r : Int32, o = some (.int r) ∧ kI true w' ∧ kF [(2, some 9), (12, some 1), (13, none), (14, some 1), (15, none), (16, some 1), (16, some 2), (16, some 3), (16, some 4), (16, some 5), (16, some 6), (16, some 7), (16, some 8), (16, some 9), (16, some 10), (16, some 11), (16, some 12), (16, some 13)] w w' ∧ ((w' 12 1).toInt ≤ (w 12 1).toInt + 500 ∧ (w' 14 1).toInt ≤ (w 14 1).toInt + 500))) 4 D τ ρ 27 [(0, .ref (ρ 16)), (3, .int l3_27)] [] w_27 := by
    intro n_27
    induction n_27 with
    | zero => intro w_27 l3_27 I_27 F_27 k27_0 k27_1 k27_2 hmz; exfalso; omega
    | succ n_27 ih27 =>
      intro w_27 l3_27 I_27 F_27 k27_0 k27_1 k27_2 hm27
      have gl3_27 := kf_rng l3_27
      obtain ⟨x20, e21⟩ : ∃ z : Int32, w_27 16 1 = z := ⟨_, rfl⟩
      have b22 : (0 : Int) ≤ x20.toInt ∧ x20.toInt ≤ 14 := by rw [← e21]; exact I_27 16 1
      rw [e21] at k27_1
      obtain ⟨x23, e24⟩ : ∃ z : Int32, w_27 12 1 = z := ⟨_, rfl⟩
      have b25 : (0 : Int) ≤ x23.toInt ∧ x23.toInt ≤ 2147483647 := by rw [← e24]; exact I_27 12 1
      obtain ⟨x26, e27⟩ : ∃ z : Int32, w_27 16 2 = z := ⟨_, rfl⟩
      have b28 : (0 : Int) ≤ x26.toInt ∧ x26.toInt ≤ 500 := by rw [← e27]; exact I_27 16 2
      obtain ⟨x29, e30⟩ : ∃ z : Int32, w_27 14 1 = z := ⟨_, rfl⟩
      have b31 : (0 : Int) ≤ x29.toInt ∧ x29.toInt ≤ 2147483647 := by rw [← e30]; exact I_27 14 1
      rw [e2, e5, e24, e27, e30] at k27_2
      have cut85 : ∀ (w_85 : kw) (l3_85 : Int32), kI true w_85 → kF [(2, some 9), (12, some 1), (13, none), (14, some 1), (15, none), (16, some 1), (16, some 2), (16, some 3), (16, some 4), (16, some 5), (16, some 6), (16, some 7), (16, some 8), (16, some 9), (16, some 10), (16, some 11), (16, some 12), (16, some 13)] w w_85 → (l3_85.toInt < 6003 ∧ l3_85.toInt = l3_27.toInt) → (0 ≤ l3_85.toInt ∧ l3_85.toInt ≤ 6003) → ((w_85 16 1).toInt = 12) → ((w_85 12 1).toInt ≤ (w 12 1).toInt + (w_85 16 2).toInt ∧ (w_85 14 1).toInt ≤ (w 14 1).toInt + (w_85 16 2).toInt) → kV p l e { frames := 7, cells := 0, slots := 0, locals := 252 } s m args below meth c (kQ below args s D τ ρ (fun o w' => ∃ r : Int32, o = some (.int r) ∧ kI true w' ∧ kF [(2, some 9), (12, some 1), (13, none), (14, some 1), (15, none), (16, some 1), (16, some 2), (16, some 3), (16, some 4), (16, some 5), (16, some 6), (16, some 7), (16, some 8), (16, some 9), (16, some 10), (16, some 11), (16, some 12), (16, some 13)] w w' ∧ ((w' 12 1).toInt ≤ (w 12 1).toInt + 500 ∧ (w' 14 1).toInt ≤ (w 14 1).toInt + 500))) 4 D τ ρ 85 [(0, .ref (ρ 16)), (3, .int l3_85)] [] w_85 := by
        intro w_85 l3_85 I_85 F_85 k85_0 k85_1 k85_2 k85_3
        have gl3_85 := kf_rng l3_85
        obtain ⟨x32, e33⟩ : ∃ z : Int32, w_85 16 1 = z := ⟨_, rfl⟩
        have b34 : (0 : Int) ≤ x32.toInt ∧ x32.toInt ≤ 14 := by rw [← e33]; exact I_85 16 1
        rw [e33] at k85_2
        obtain ⟨x35, e36⟩ : ∃ z : Int32, w_85 12 1 = z := ⟨_, rfl⟩
        have b37 : (0 : Int) ≤ x35.toInt ∧ x35.toInt ≤ 2147483647 := by rw [← e36]; exact I_85 12 1
        obtain ⟨x38, e39⟩ : ∃ z : Int32, w_85 16 2 = z := ⟨_, rfl⟩
        have b40 : (0 : Int) ≤ x38.toInt ∧ x38.toInt ≤ 500 := by rw [← e39]; exact I_85 16 2
        obtain ⟨x41, e42⟩ : ∃ z : Int32, w_85 14 1 = z := ⟨_, rfl⟩
        have b43 : (0 : Int) ≤ x41.toInt ∧ x41.toInt ≤ 2147483647 := by rw [← e42]; exact I_85 14 1
        rw [e2, e5, e36, e39, e42] at k85_3
        refine kv_iinc C 88 rfl 3 1 [1, 0] (fun v9 => [(0, .ref (ρ 16)), (3, .int v9)]) (kdec dk_cX7_tell 42 rfl) rfl (by decide) (fun _ => rfl) 1 rfl (fun x44 q45 h46e h46 h46l h46u => ?_)
        try have h46n : x44.toInt = l3_85.toInt + 1 := by omega
        clear h46 q45
        refine kv_goto C 27 (kdec dk_cX7_tell 43 rfl) (by decide) ?_
        exact ih27 w_85 x44 I_85 F_85 (by omega) (by rw [e33]; try omega) (by rw [e2, e5, e36, e39, e42]; try omega) (by omega)
      refine kv_iload_n C 28 rfl 1 (kdec dk_cX7_tell 17 rfl) rfl rfl ?_
      refine kv_sipush C 31 rfl 6003 (kdec dk_cX7_tell 18 rfl) rfl ?_
      refine kv_icmp_ge C 34 rfl 91 (kdec dk_cX7_tell 19 rfl) (by decide) (fun d47 => ?_) (fun d47 => ?_)
      · skip
        refine kV.sub [0] (L' := [(0, .ref (ρ 16))]) rfl ?_
        exact cut91 w_27  I_27 F_27 (by rw [e2, e5, e24, e30]; try omega)
      · skip
        refine kv_aload_n C 35 rfl 0 (kdec dk_cX7_tell 20 rfl) rfl rfl ?_
        refine kv_getr C 38 rfl 16 0 rfl rfl inX7 (by decide) mfl_TaleMachine_Teller_11 rfl rfl (kdec dk_cX7_tell 21 rfl) ?_
        obtain ⟨x48, e49⟩ : ∃ z : Int32, w_27 2 9 = z := ⟨_, rfl⟩
        have b50 : (0 : Int) ≤ x48.toInt ∧ x48.toInt ≤ 13 := by rw [← e49]; exact I_27 2 9
        refine kv_getN C 41 rfl 2 9 rfl rfl inX6 (by decide) mfn_TaleMachine_Teller_34 rfl rfl (kdec dk_cX7_tell 22 rfl) e49 ?_
        refine kv_if_ne C 44 rfl 91 (kdec dk_cX7_tell 23 rfl) (by decide) (fun d51 => ?_) (fun d51 => ?_)
        · skip
          refine kV.sub [0] (L' := [(0, .ref (ρ 16))]) rfl ?_
          exact cut91 w_27  I_27 F_27 (by rw [e2, e5, e24, e30]; try omega)
        · skip
          refine kv_aload_n C 45 rfl 0 (kdec dk_cX7_tell 24 rfl) rfl rfl ?_
          obtain ⟨x52, e53⟩ : ∃ z : Int32, w_27 16 6 = z := ⟨_, rfl⟩
          have b54 : (0 : Int) ≤ x52.toInt ∧ x52.toInt ≤ 3 := by rw [← e53]; exact I_27 16 6
          refine kv_get C 48 rfl 16 6 rfl rfl inX7 (by decide) mfl_TaleMachine_Teller_39 rfl rfl (kdec dk_cX7_tell 25 rfl) e53 ?_
          refine kv_if_le C 51 rfl 58 (kdec dk_cX7_tell 26 rfl) (by decide) (fun d55 => ?_) (fun d55 => ?_)
          · skip
            refine kv_aload_n C 59 rfl 0 (kdec dk_cX7_tell 30 rfl) rfl rfl ?_
            obtain ⟨x56, e57⟩ : ∃ z : Int32, w_27 16 5 = z := ⟨_, rfl⟩
            have b58 : (-2147483648 : Int) ≤ x56.toInt ∧ x56.toInt ≤ 2147483647 := by rw [← e57]; exact I_27 16 5
            refine kv_get C 62 rfl 16 5 rfl rfl inX7 (by decide) mfl_TaleMachine_Teller_45 rfl rfl (kdec dk_cX7_tell 31 rfl) e57 ?_
            refine kv_ldc C 64 rfl 32768 (kdec dk_cX7_tell 32 rfl) mco_TaleMachine_Teller_48 ?_
            refine kv_icmp_ge C 67 rfl 74 (kdec dk_cX7_tell 33 rfl) (by decide) (fun d59 => ?_) (fun d59 => ?_)
            · skip
              refine kv_aload_n C 75 rfl 0 (kdec dk_cX7_tell 37 rfl) rfl rfl ?_
              obtain ⟨x60, e61⟩ : ∃ z : Int32, w_27 16 7 = z := ⟨_, rfl⟩
              have b62 : (0 : Int) ≤ x60.toInt ∧ x60.toInt ≤ 1 := by rw [← e61]; exact I_27 16 7
              refine kv_get C 78 rfl 16 7 rfl rfl inX7 (by decide) mfl_TaleMachine_Teller_26 rfl rfl (kdec dk_cX7_tell 38 rfl) e61 ?_
              refine kv_if_eq C 81 rfl 91 (kdec dk_cX7_tell 39 rfl) (by decide) (fun d63 => ?_) (fun d63 => ?_)
              · skip
                refine kV.sub [0] (L' := [(0, .ref (ρ 16))]) rfl ?_
                exact cut91 w_27  I_27 F_27 (by rw [e2, e5, e24, e30]; try omega)
              · skip
                refine kv_aload_n C 82 rfl 0 (kdec dk_cX7_tell 40 rfl) rfl rfl ?_
                refine kv_callVv (As := []) (rest := []) C 85 rfl 16 (k_t_goOnOutside l D τ ρ σ w_27  I_27 ) rfl rfl mml_TaleMachine_Teller_52 mim_yX7_goOnOutside mse_yX7_goOnOutside mcd_yX7_goOnOutside min_yX7_goOnOutside hd_yX7_goOnOutside rfl rfl rfl (by decide) rfl (Nat.le_of_ble_eq_true rfl) (kdec dk_cX7_tell 41 rfl) (fun w64 h65 => ?_)
                obtain ⟨I66, f67⟩ := h65
                have F69 : kF [(2, some 9), (12, some 1), (13, none), (14, some 1), (15, none), (16, some 1), (16, some 2), (16, some 3), (16, some 4), (16, some 5), (16, some 6), (16, some 7), (16, some 8), (16, some 9), (16, some 10), (16, some 11), (16, some 12), (16, some 13)] w w64 := kF_call F_27 f67 (by decide)
                have e70 : w64 16 1 = x20 := ((f67 16 1 rfl : w64 16 1 = w_27 16 1).trans e21)
                have e71 : w64 12 1 = x23 := ((f67 12 1 rfl : w64 12 1 = w_27 12 1).trans e24)
                have e72 : w64 16 2 = x26 := ((f67 16 2 rfl : w64 16 2 = w_27 16 2).trans e27)
                have e73 : w64 14 1 = x29 := ((f67 14 1 rfl : w64 14 1 = w_27 14 1).trans e30)
                exact cut85 w64 l3_27 I66 F69 (by omega) (by omega) (by rw [e70]; try omega) (by rw [e2, e5, e71, e72, e73]; try omega)
            · skip
              refine kv_aload_n C 68 rfl 0 (kdec dk_cX7_tell 34 rfl) rfl rfl ?_
              refine kv_callVv (As := []) (rest := []) C 71 rfl 16 (k_t_nextWord l D τ ρ σ w_27  I_27 ) rfl rfl mml_TaleMachine_Teller_49 mim_yX7_nextWord mse_yX7_nextWord mcd_yX7_nextWord min_yX7_nextWord hd_yX7_nextWord rfl rfl rfl (by decide) rfl (Nat.le_of_ble_eq_true rfl) (kdec dk_cX7_tell 35 rfl) (fun w74 h75 => ?_)
              obtain ⟨I76, f77⟩ := h75
              have F79 : kF [(2, some 9), (12, some 1), (13, none), (14, some 1), (15, none), (16, some 1), (16, some 2), (16, some 3), (16, some 4), (16, some 5), (16, some 6), (16, some 7), (16, some 8), (16, some 9), (16, some 10), (16, some 11), (16, some 12), (16, some 13)] w w74 := kF_call F_27 f77 (by decide)
              refine kv_goto C 85 (kdec dk_cX7_tell 36 rfl) (by decide) ?_
              have e80 : w74 16 1 = x20 := ((f77 16 1 rfl : w74 16 1 = w_27 16 1).trans e21)
              have e81 : w74 12 1 = x23 := ((f77 12 1 rfl : w74 12 1 = w_27 12 1).trans e24)
              have e82 : w74 16 2 = x26 := ((f77 16 2 rfl : w74 16 2 = w_27 16 2).trans e27)
              have e83 : w74 14 1 = x29 := ((f77 14 1 rfl : w74 14 1 = w_27 14 1).trans e30)
              exact cut85 w74 l3_27 I76 F79 (by omega) (by omega) (by rw [e80]; try omega) (by rw [e2, e5, e81, e82, e83]; try omega)
          · skip
            refine kv_aload_n C 52 rfl 0 (kdec dk_cX7_tell 27 rfl) rfl rfl ?_
            refine kv_callVv (As := []) (rest := []) C 55 rfl 16 (k_t_nextLetter l D τ ρ σ w_27  I_27 (by rw [e21]; try omega) (by rw [e24, e30]; try omega) (by rw [e53]; try omega)) rfl rfl mml_TaleMachine_Teller_42 mim_yX7_nextLetter mse_yX7_nextLetter mcd_yX7_nextLetter min_yX7_nextLetter hd_yX7_nextLetter rfl rfl rfl (by decide) rfl (Nat.le_of_ble_eq_true rfl) (kdec dk_cX7_tell 28 rfl) (fun w84 h85 => ?_)
            obtain ⟨I86, f87, p89⟩ := h85
            have F90 : kF [(2, some 9), (12, some 1), (13, none), (14, some 1), (15, none), (16, some 1), (16, some 2), (16, some 3), (16, some 4), (16, some 5), (16, some 6), (16, some 7), (16, some 8), (16, some 9), (16, some 10), (16, some 11), (16, some 12), (16, some 13)] w w84 := kF_call F_27 f87 (by decide)
            obtain ⟨x91, e92⟩ : ∃ z : Int32, w84 16 2 = z := ⟨_, rfl⟩
            have b93 : (0 : Int) ≤ x91.toInt ∧ x91.toInt ≤ 500 := by rw [← e92]; exact I86 16 2
            obtain ⟨x94, e95⟩ : ∃ z : Int32, w84 12 1 = z := ⟨_, rfl⟩
            have b96 : (0 : Int) ≤ x94.toInt ∧ x94.toInt ≤ 2147483647 := by rw [← e95]; exact I86 12 1
            obtain ⟨x97, e98⟩ : ∃ z : Int32, w84 14 1 = z := ⟨_, rfl⟩
            have b99 : (0 : Int) ≤ x97.toInt ∧ x97.toInt ≤ 2147483647 := by rw [← e98]; exact I86 14 1
            rw [e27, e24, e30, e92, e95, e98] at p89
            refine kv_goto C 85 (kdec dk_cX7_tell 29 rfl) (by decide) ?_
            have e100 : w84 16 1 = x20 := ((f87 16 1 rfl : w84 16 1 = w_27 16 1).trans e21)
            exact cut85 w84 l3_27 I86 F90 (by omega) (by omega) (by rw [e100]; try omega) (by rw [e2, e5, e95, e92, e98]; try omega)
  refine kv_aload_n C 1 rfl 0 (kdec dk_cX7_tell 0 rfl) rfl rfl ?_
  refine kv_aload_n C 2 rfl 2 (kdec dk_cX7_tell 1 rfl) rfl rfl ?_
  refine kv_putm C 5 rfl 16 1 rfl rfl inX7 (by decide) mfl_TaleMachine_Teller_15 rfl tyX7 tyX7_ok nmX7 rfl 12 12 rfl rfl rfl (kdec dk_cX7_tell 2 rfl) rfl rfl (fun w101 u102 => ?_)
  have I103 : kI true w101 := kI_put u102 hI (show (0 : Int) ≤ (12 : Int32).toInt by omega) (show (12 : Int32).toInt ≤ 14 by omega)
  have F104 : kF [(2, some 9), (12, some 1), (13, none), (14, some 1), (15, none), (16, some 1), (16, some 2), (16, some 3), (16, some 4), (16, some 5), (16, some 6), (16, some 7), (16, some 8), (16, some 9), (16, some 10), (16, some 11), (16, some 12), (16, some 13)] w w101 := kF_put u102 hF0 rfl
  refine kv_aload_n C 6 rfl 0 (kdec dk_cX7_tell 3 rfl) rfl rfl ?_
  refine kv_iconst C 7 rfl 0 (kdec dk_cX7_tell 4 rfl) rfl ?_
  refine kv_put C 10 rfl 16 2 rfl rfl inX7 (by decide) mfl_TaleMachine_Teller_19 rfl tyX7 tyX7_ok nmX7 rfl rfl (kdec dk_cX7_tell 5 rfl) rfl rfl (fun w105 u106 => ?_)
  have I107 : kI true w105 := kI_put u106 I103 (show (0 : Int) ≤ (0 : Int32).toInt by omega) (show (0 : Int32).toInt ≤ 500 by omega)
  have F108 : kF [(2, some 9), (12, some 1), (13, none), (14, some 1), (15, none), (16, some 1), (16, some 2), (16, some 3), (16, some 4), (16, some 5), (16, some 6), (16, some 7), (16, some 8), (16, some 9), (16, some 10), (16, some 11), (16, some 12), (16, some 13)] w w105 := kF_put u106 F104 rfl
  refine kv_aload_n C 11 rfl 0 (kdec dk_cX7_tell 6 rfl) rfl rfl ?_
  refine kv_iconst C 12 rfl 0 (kdec dk_cX7_tell 7 rfl) rfl ?_
  refine kv_put C 15 rfl 16 3 rfl rfl inX7 (by decide) mfl_TaleMachine_Teller_23 rfl tyX7 tyX7_ok nmX7 rfl rfl (kdec dk_cX7_tell 8 rfl) rfl rfl (fun w109 u110 => ?_)
  have I111 : kI true w109 := kI_put u110 I107 (show (0 : Int) ≤ (0 : Int32).toInt by omega) (show (0 : Int32).toInt ≤ 2000 by omega)
  have F112 : kF [(2, some 9), (12, some 1), (13, none), (14, some 1), (15, none), (16, some 1), (16, some 2), (16, some 3), (16, some 4), (16, some 5), (16, some 6), (16, some 7), (16, some 8), (16, some 9), (16, some 10), (16, some 11), (16, some 12), (16, some 13)] w w109 := kF_put u110 F108 rfl
  refine kv_aload_n C 16 rfl 0 (kdec dk_cX7_tell 9 rfl) rfl rfl ?_
  refine kv_iconst C 17 rfl 0 (kdec dk_cX7_tell 10 rfl) rfl ?_
  refine kv_put C 20 rfl 16 7 rfl rfl inX7 (by decide) mfl_TaleMachine_Teller_26 rfl tyX7 tyX7_ok nmX7 rfl rfl (kdec dk_cX7_tell 11 rfl) (kf_bool (by decide)) rfl (fun w113 u114 => ?_)
  have I115 : kI true w113 := kI_put u114 I111 (show (0 : Int) ≤ (0 : Int32).toInt by omega) (show (0 : Int32).toInt ≤ 1 by omega)
  have F116 : kF [(2, some 9), (12, some 1), (13, none), (14, some 1), (15, none), (16, some 1), (16, some 2), (16, some 3), (16, some 4), (16, some 5), (16, some 6), (16, some 7), (16, some 8), (16, some 9), (16, some 10), (16, some 11), (16, some 12), (16, some 13)] w w113 := kF_put u114 F112 rfl
  refine kv_aload_n C 21 rfl 0 (kdec dk_cX7_tell 12 rfl) rfl rfl ?_
  refine kv_iload_n C 22 rfl 1 (kdec dk_cX7_tell 13 rfl) rfl rfl ?_
  refine kv_callVv (As := [.int a1]) (rest := []) C 25 rfl 16 (k_t_open l D τ ρ σ w113 a1 I115 ) rfl rfl mml_TaleMachine_Teller_30 mim_yX7_open mse_yX7_open mcd_yX7_open min_yX7_open hd_yX7_open rfl rfl rfl (by decide) rfl (Nat.le_of_ble_eq_true rfl) (kdec dk_cX7_tell 14 rfl) (fun w117 h118 => ?_)
  obtain ⟨I119, f120⟩ := h118
  have F122 : kF [(2, some 9), (12, some 1), (13, none), (14, some 1), (15, none), (16, some 1), (16, some 2), (16, some 3), (16, some 4), (16, some 5), (16, some 6), (16, some 7), (16, some 8), (16, some 9), (16, some 10), (16, some 11), (16, some 12), (16, some 13)] w w117 := kF_call F116 f120 (by decide)
  refine kv_iconst C 26 rfl 0 (kdec dk_cX7_tell 15 rfl) rfl ?_
  refine kv_istore_n C 27 rfl 3 [1, 2, 3, 0] [(0, .ref (ρ 16)), (1, .int a1), (2, .ref (ρ 12)), (3, .int 0)] (kdec dk_cX7_tell 16 rfl) rfl (by decide) rfl ?_
  have e123 : w117 16 1 = 12 := ((f120 16 1 rfl : w117 16 1 = w113 16 1).trans ((kup_ne u114 rfl : w113 16 1 = w109 16 1).trans ((kup_ne u110 rfl : w109 16 1 = w105 16 1).trans ((kup_ne u106 rfl : w105 16 1 = w101 16 1).trans (kup_eq u102)))))
  have e124 : w117 12 1 = x1 := ((f120 12 1 rfl : w117 12 1 = w113 12 1).trans ((kup_ne u114 rfl : w113 12 1 = w109 12 1).trans ((kup_ne u110 rfl : w109 12 1 = w105 12 1).trans ((kup_ne u106 rfl : w105 12 1 = w101 12 1).trans ((kup_ne u102 rfl : w101 12 1 = w 12 1).trans e2)))))
  have e125 : w117 16 2 = 0 := ((f120 16 2 rfl : w117 16 2 = w113 16 2).trans ((kup_ne u114 rfl : w113 16 2 = w109 16 2).trans ((kup_ne u110 rfl : w109 16 2 = w105 16 2).trans (kup_eq u106))))
  have e126 : w117 14 1 = x4 := ((f120 14 1 rfl : w117 14 1 = w113 14 1).trans ((kup_ne u114 rfl : w113 14 1 = w109 14 1).trans ((kup_ne u110 rfl : w109 14 1 = w105 14 1).trans ((kup_ne u106 rfl : w105 14 1 = w101 14 1).trans ((kup_ne u102 rfl : w101 14 1 = w 14 1).trans e5)))))
  refine kV.sub [0, 3] (L' := [(0, .ref (ρ 16)), (3, .int 0)]) rfl ?_
  exact cut27 ((((6004 - (0 : Int32).toInt)) : Int).toNat + 1) w117 0 I119 F122 (by omega) (by rw [e123]; try omega) (by rw [e2, e5, e124, e125, e126]; try omega) (by omega)

set_option maxHeartbeats 4000000 in
set_option maxRecDepth 100000 in
theorem k_tellS (l : Launch) (D : va_G) (τ : Nat → ClassId) (ρ σ : Nat → Nat) (w : kw) (a1 : Int32) (hI : kI true w) (hp0 : (w 12 1).toInt ≤ 2147482000 ∧ (w 14 1).toInt ≤ 2147482000) :
    kM l D τ ρ σ yX7_tell cX7_tell 4 (some .int) { frames := 7, cells := 0, slots := 0, locals := 252 } [.ref (ρ 16), .int a1, .ref (ρ 14)] w
      (fun o w' => ∃ r : Int32, o = some (.int r) ∧ kI true w' ∧ kF [(2, some 9), (12, some 1), (13, none), (14, some 1), (15, none), (16, some 1), (16, some 2), (16, some 3), (16, some 4), (16, some 5), (16, some 6), (16, some 7), (16, some 8), (16, some 9), (16, some 10), (16, some 11), (16, some 12), (16, some 13)] w w' ∧ ((w' 12 1).toInt ≤ (w 12 1).toInt + 500 ∧ (w' 14 1).toInt ≤ (w 14 1).toInt + 500)) := by
  refine kM_of (own := "TaleMachine$Teller") rfl (by decide) (Nat.le_of_ble_eq_true rfl) ?_
  intro p e s m args below meth c C hr hlk
  have hF0 : kF [(2, some 9), (12, some 1), (13, none), (14, some 1), (15, none), (16, some 1), (16, some 2), (16, some 3), (16, some 4), (16, some 5), (16, some 6), (16, some 7), (16, some 8), (16, some 9), (16, some 10), (16, some 11), (16, some 12), (16, some 13)] w w := kF.rf
  have c_0 : (0 : Int32).toInt = 0 := by decide
  have c_14 : (14 : Int32).toInt = 14 := by decide
  have c_6003 : (6003 : Int32).toInt = 6003 := by decide
  have c_32768 : (32768 : Int32).toInt = 32768 := by decide
  have c_65535 : (65535 : Int32).toInt = 65535 := by decide
  refine kV.L (L' := [(0, .ref (ρ 16)), (1, .int a1), (2, .ref (ρ 14))]) rfl ?_
  obtain ⟨x1, e2⟩ : ∃ z : Int32, w 12 1 = z := ⟨_, rfl⟩
  have b3 : (0 : Int) ≤ x1.toInt ∧ x1.toInt ≤ 2147483647 := by rw [← e2]; exact hI 12 1
  obtain ⟨x4, e5⟩ : ∃ z : Int32, w 14 1 = z := ⟨_, rfl⟩
  have b6 : (0 : Int) ≤ x4.toInt ∧ x4.toInt ≤ 2147483647 := by rw [← e5]; exact hI 14 1
  rw [e2, e5] at hp0
  have g7 := kf_rng a1
  have cut91 : ∀ (w_91 : kw), kI true w_91 → kF [(2, some 9), (12, some 1), (13, none), (14, some 1), (15, none), (16, some 1), (16, some 2), (16, some 3), (16, some 4), (16, some 5), (16, some 6), (16, some 7), (16, some 8), (16, some 9), (16, some 10), (16, some 11), (16, some 12), (16, some 13)] w w_91 → ((w_91 12 1).toInt ≤ (w 12 1).toInt + 500 ∧ (w_91 14 1).toInt ≤ (w 14 1).toInt + 500) → kV p l e { frames := 7, cells := 0, slots := 0, locals := 252 } s m args below meth c (kQ below args s D τ ρ (fun o w' => ∃ r : Int32, o = some (.int r) ∧ kI true w' ∧ kF [(2, some 9), (12, some 1), (13, none), (14, some 1), (15, none), (16, some 1), (16, some 2), (16, some 3), (16, some 4), (16, some 5), (16, some 6), (16, some 7), (16, some 8), (16, some 9), (16, some 10), (16, some 11), (16, some 12), (16, some 13)] w w' ∧ ((w' 12 1).toInt ≤ (w 12 1).toInt + 500 ∧ (w' 14 1).toInt ≤ (w 14 1).toInt + 500))) 4 D τ ρ 91 [(0, .ref (ρ 16))] [] w_91 := by
    intro w_91  I_91 F_91 k91_0
    obtain ⟨x8, e9⟩ : ∃ z : Int32, w_91 12 1 = z := ⟨_, rfl⟩
    have b10 : (0 : Int) ≤ x8.toInt ∧ x8.toInt ≤ 2147483647 := by rw [← e9]; exact I_91 12 1
    obtain ⟨x11, e12⟩ : ∃ z : Int32, w_91 14 1 = z := ⟨_, rfl⟩
    have b13 : (0 : Int) ≤ x11.toInt ∧ x11.toInt ≤ 2147483647 := by rw [← e12]; exact I_91 14 1
    rw [e2, e5, e9, e12] at k91_0
    refine kv_aload_n C 92 rfl 0 (kdec dk_cX7_tell 44 rfl) rfl rfl ?_
    obtain ⟨x14, e15⟩ : ∃ z : Int32, w_91 16 4 = z := ⟨_, rfl⟩
    have b16 : (-2147483648 : Int) ≤ x14.toInt ∧ x14.toInt ≤ 2147483647 := by rw [← e15]; exact I_91 16 4
    refine kv_get C 95 rfl 16 4 rfl rfl inX7 (by decide) mfl_TaleMachine_Teller_55 rfl rfl (kdec dk_cX7_tell 45 rfl) e15 ?_
    refine kv_ldc C 97 rfl 65535 (kdec dk_cX7_tell 46 rfl) mco_TaleMachine_Teller_58 ?_
    refine kv_iand C 98 rfl (kdec dk_cX7_tell 47 rfl) (fun x17 h18e h18l h18u => ?_)
    have g19 := kf_and65535 h18e
    exact kv_iret C hr hlk (kdec dk_cX7_tell 48 rfl) ⟨_, rfl, I_91, F_91, (by rw [e2, e5, e9, e12]; try omega)⟩
  have cut27 : ∀ (n_27 : Nat) (w_27 : kw) (l3_27 : Int32), kI true w_27 → kF [(2, some 9), (12, some 1), (13, none), (14, some 1), (15, none), (16, some 1), (16, some 2), (16, some 3), (16, some 4), (16, some 5), (16, some 6), (16, some 7), (16, some 8), (16, some 9), (16, some 10), (16, some 11), (16, some 12), (16, some 13)] w w_27 → (0 ≤ l3_27.toInt ∧ l3_27.toInt ≤ 6003) → ((w_27 16 1).toInt = 14) → ((w_27 12 1).toInt ≤ (w 12 1).toInt + (w_27 16 2).toInt ∧ (w_27 14 1).toInt ≤ (w 14 1).toInt + (w_27 16 2).toInt) → ((6004 - l3_27.toInt) : Int) < (n_27 : Int) → kV p l e { frames := 7, cells := 0, slots := 0, locals := 252 } s m args below meth c (kQ below args s D τ ρ (fun o w' => ∃ r : Int32, o = some (.int r) ∧ kI true w' ∧ kF [(2, some 9), (12, some 1), (13, none), (14, some 1), (15, none), (16, some 1), (16, some 2), (16, some 3), (16, some 4), (16, some 5), (16, some 6), (16, some 7), (16, some 8), (16, some 9), (16, some 10), (16, some 11), (16, some 12), (16, some 13)] w w' ∧ ((w' 12 1).toInt ≤ (w 12 1).toInt + 500 ∧ (w' 14 1).toInt ≤ (w 14 1).toInt + 500))) 4 D τ ρ 27 [(0, .ref (ρ 16)), (3, .int l3_27)] [] w_27 := by
    intro n_27
    induction n_27 with
    | zero => intro w_27 l3_27 I_27 F_27 k27_0 k27_1 k27_2 hmz; exfalso; omega
    | succ n_27 ih27 =>
      intro w_27 l3_27 I_27 F_27 k27_0 k27_1 k27_2 hm27
      have gl3_27 := kf_rng l3_27
      obtain ⟨x20, e21⟩ : ∃ z : Int32, w_27 16 1 = z := ⟨_, rfl⟩
      have b22 : (0 : Int) ≤ x20.toInt ∧ x20.toInt ≤ 14 := by rw [← e21]; exact I_27 16 1
      rw [e21] at k27_1
      obtain ⟨x23, e24⟩ : ∃ z : Int32, w_27 12 1 = z := ⟨_, rfl⟩
      have b25 : (0 : Int) ≤ x23.toInt ∧ x23.toInt ≤ 2147483647 := by rw [← e24]; exact I_27 12 1
      obtain ⟨x26, e27⟩ : ∃ z : Int32, w_27 16 2 = z := ⟨_, rfl⟩
      have b28 : (0 : Int) ≤ x26.toInt ∧ x26.toInt ≤ 500 := by rw [← e27]; exact I_27 16 2
      obtain ⟨x29, e30⟩ : ∃ z : Int32, w_27 14 1 = z := ⟨_, rfl⟩
      have b31 : (0 : Int) ≤ x29.toInt ∧ x29.toInt ≤ 2147483647 := by rw [← e30]; exact I_27 14 1
      rw [e2, e5, e24, e27, e30] at k27_2
      have cut85 : ∀ (w_85 : kw) (l3_85 : Int32), kI true w_85 → kF [(2, some 9), (12, some 1), (13, none), (14, some 1), (15, none), (16, some 1), (16, some 2), (16, some 3), (16, some 4), (16, some 5), (16, some 6), (16, some 7), (16, some 8), (16, some 9), (16, some 10), (16, some 11), (16, some 12), (16, some 13)] w w_85 → (l3_85.toInt < 6003 ∧ l3_85.toInt = l3_27.toInt) → (0 ≤ l3_85.toInt ∧ l3_85.toInt ≤ 6003) → ((w_85 16 1).toInt = 14) → ((w_85 12 1).toInt ≤ (w 12 1).toInt + (w_85 16 2).toInt ∧ (w_85 14 1).toInt ≤ (w 14 1).toInt + (w_85 16 2).toInt) → kV p l e { frames := 7, cells := 0, slots := 0, locals := 252 } s m args below meth c (kQ below args s D τ ρ (fun o w' => ∃ r : Int32, o = some (.int r) ∧ kI true w' ∧ kF [(2, some 9), (12, some 1), (13, none), (14, some 1), (15, none), (16, some 1), (16, some 2), (16, some 3), (16, some 4), (16, some 5), (16, some 6), (16, some 7), (16, some 8), (16, some 9), (16, some 10), (16, some 11), (16, some 12), (16, some 13)] w w' ∧ ((w' 12 1).toInt ≤ (w 12 1).toInt + 500 ∧ (w' 14 1).toInt ≤ (w 14 1).toInt + 500))) 4 D τ ρ 85 [(0, .ref (ρ 16)), (3, .int l3_85)] [] w_85 := by
        intro w_85 l3_85 I_85 F_85 k85_0 k85_1 k85_2 k85_3
        have gl3_85 := kf_rng l3_85
        obtain ⟨x32, e33⟩ : ∃ z : Int32, w_85 16 1 = z := ⟨_, rfl⟩
        have b34 : (0 : Int) ≤ x32.toInt ∧ x32.toInt ≤ 14 := by rw [← e33]; exact I_85 16 1
        rw [e33] at k85_2
        obtain ⟨x35, e36⟩ : ∃ z : Int32, w_85 12 1 = z := ⟨_, rfl⟩
        have b37 : (0 : Int) ≤ x35.toInt ∧ x35.toInt ≤ 2147483647 := by rw [← e36]; exact I_85 12 1
        obtain ⟨x38, e39⟩ : ∃ z : Int32, w_85 16 2 = z := ⟨_, rfl⟩
        have b40 : (0 : Int) ≤ x38.toInt ∧ x38.toInt ≤ 500 := by rw [← e39]; exact I_85 16 2
        obtain ⟨x41, e42⟩ : ∃ z : Int32, w_85 14 1 = z := ⟨_, rfl⟩
        have b43 : (0 : Int) ≤ x41.toInt ∧ x41.toInt ≤ 2147483647 := by rw [← e42]; exact I_85 14 1
        rw [e2, e5, e36, e39, e42] at k85_3
        refine kv_iinc C 88 rfl 3 1 [1, 0] (fun v9 => [(0, .ref (ρ 16)), (3, .int v9)]) (kdec dk_cX7_tell 42 rfl) rfl (by decide) (fun _ => rfl) 1 rfl (fun x44 q45 h46e h46 h46l h46u => ?_)
        try have h46n : x44.toInt = l3_85.toInt + 1 := by omega
        clear h46 q45
        refine kv_goto C 27 (kdec dk_cX7_tell 43 rfl) (by decide) ?_
        exact ih27 w_85 x44 I_85 F_85 (by omega) (by rw [e33]; try omega) (by rw [e2, e5, e36, e39, e42]; try omega) (by omega)
      refine kv_iload_n C 28 rfl 1 (kdec dk_cX7_tell 17 rfl) rfl rfl ?_
      refine kv_sipush C 31 rfl 6003 (kdec dk_cX7_tell 18 rfl) rfl ?_
      refine kv_icmp_ge C 34 rfl 91 (kdec dk_cX7_tell 19 rfl) (by decide) (fun d47 => ?_) (fun d47 => ?_)
      · skip
        refine kV.sub [0] (L' := [(0, .ref (ρ 16))]) rfl ?_
        exact cut91 w_27  I_27 F_27 (by rw [e2, e5, e24, e30]; try omega)
      · skip
        refine kv_aload_n C 35 rfl 0 (kdec dk_cX7_tell 20 rfl) rfl rfl ?_
        refine kv_getr C 38 rfl 16 0 rfl rfl inX7 (by decide) mfl_TaleMachine_Teller_11 rfl rfl (kdec dk_cX7_tell 21 rfl) ?_
        obtain ⟨x48, e49⟩ : ∃ z : Int32, w_27 2 9 = z := ⟨_, rfl⟩
        have b50 : (0 : Int) ≤ x48.toInt ∧ x48.toInt ≤ 13 := by rw [← e49]; exact I_27 2 9
        refine kv_getN C 41 rfl 2 9 rfl rfl inX6 (by decide) mfn_TaleMachine_Teller_34 rfl rfl (kdec dk_cX7_tell 22 rfl) e49 ?_
        refine kv_if_ne C 44 rfl 91 (kdec dk_cX7_tell 23 rfl) (by decide) (fun d51 => ?_) (fun d51 => ?_)
        · skip
          refine kV.sub [0] (L' := [(0, .ref (ρ 16))]) rfl ?_
          exact cut91 w_27  I_27 F_27 (by rw [e2, e5, e24, e30]; try omega)
        · skip
          refine kv_aload_n C 45 rfl 0 (kdec dk_cX7_tell 24 rfl) rfl rfl ?_
          obtain ⟨x52, e53⟩ : ∃ z : Int32, w_27 16 6 = z := ⟨_, rfl⟩
          have b54 : (0 : Int) ≤ x52.toInt ∧ x52.toInt ≤ 3 := by rw [← e53]; exact I_27 16 6
          refine kv_get C 48 rfl 16 6 rfl rfl inX7 (by decide) mfl_TaleMachine_Teller_39 rfl rfl (kdec dk_cX7_tell 25 rfl) e53 ?_
          refine kv_if_le C 51 rfl 58 (kdec dk_cX7_tell 26 rfl) (by decide) (fun d55 => ?_) (fun d55 => ?_)
          · skip
            refine kv_aload_n C 59 rfl 0 (kdec dk_cX7_tell 30 rfl) rfl rfl ?_
            obtain ⟨x56, e57⟩ : ∃ z : Int32, w_27 16 5 = z := ⟨_, rfl⟩
            have b58 : (-2147483648 : Int) ≤ x56.toInt ∧ x56.toInt ≤ 2147483647 := by rw [← e57]; exact I_27 16 5
            refine kv_get C 62 rfl 16 5 rfl rfl inX7 (by decide) mfl_TaleMachine_Teller_45 rfl rfl (kdec dk_cX7_tell 31 rfl) e57 ?_
            refine kv_ldc C 64 rfl 32768 (kdec dk_cX7_tell 32 rfl) mco_TaleMachine_Teller_48 ?_
            refine kv_icmp_ge C 67 rfl 74 (kdec dk_cX7_tell 33 rfl) (by decide) (fun d59 => ?_) (fun d59 => ?_)
            · skip
              refine kv_aload_n C 75 rfl 0 (kdec dk_cX7_tell 37 rfl) rfl rfl ?_
              obtain ⟨x60, e61⟩ : ∃ z : Int32, w_27 16 7 = z := ⟨_, rfl⟩
              have b62 : (0 : Int) ≤ x60.toInt ∧ x60.toInt ≤ 1 := by rw [← e61]; exact I_27 16 7
              refine kv_get C 78 rfl 16 7 rfl rfl inX7 (by decide) mfl_TaleMachine_Teller_26 rfl rfl (kdec dk_cX7_tell 38 rfl) e61 ?_
              refine kv_if_eq C 81 rfl 91 (kdec dk_cX7_tell 39 rfl) (by decide) (fun d63 => ?_) (fun d63 => ?_)
              · skip
                refine kV.sub [0] (L' := [(0, .ref (ρ 16))]) rfl ?_
                exact cut91 w_27  I_27 F_27 (by rw [e2, e5, e24, e30]; try omega)
              · skip
                refine kv_aload_n C 82 rfl 0 (kdec dk_cX7_tell 40 rfl) rfl rfl ?_
                refine kv_callVv (As := []) (rest := []) C 85 rfl 16 (k_t_goOnOutside l D τ ρ σ w_27  I_27 ) rfl rfl mml_TaleMachine_Teller_52 mim_yX7_goOnOutside mse_yX7_goOnOutside mcd_yX7_goOnOutside min_yX7_goOnOutside hd_yX7_goOnOutside rfl rfl rfl (by decide) rfl (Nat.le_of_ble_eq_true rfl) (kdec dk_cX7_tell 41 rfl) (fun w64 h65 => ?_)
                obtain ⟨I66, f67⟩ := h65
                have F69 : kF [(2, some 9), (12, some 1), (13, none), (14, some 1), (15, none), (16, some 1), (16, some 2), (16, some 3), (16, some 4), (16, some 5), (16, some 6), (16, some 7), (16, some 8), (16, some 9), (16, some 10), (16, some 11), (16, some 12), (16, some 13)] w w64 := kF_call F_27 f67 (by decide)
                have e70 : w64 16 1 = x20 := ((f67 16 1 rfl : w64 16 1 = w_27 16 1).trans e21)
                have e71 : w64 12 1 = x23 := ((f67 12 1 rfl : w64 12 1 = w_27 12 1).trans e24)
                have e72 : w64 16 2 = x26 := ((f67 16 2 rfl : w64 16 2 = w_27 16 2).trans e27)
                have e73 : w64 14 1 = x29 := ((f67 14 1 rfl : w64 14 1 = w_27 14 1).trans e30)
                exact cut85 w64 l3_27 I66 F69 (by omega) (by omega) (by rw [e70]; try omega) (by rw [e2, e5, e71, e72, e73]; try omega)
            · skip
              refine kv_aload_n C 68 rfl 0 (kdec dk_cX7_tell 34 rfl) rfl rfl ?_
              refine kv_callVv (As := []) (rest := []) C 71 rfl 16 (k_t_nextWord l D τ ρ σ w_27  I_27 ) rfl rfl mml_TaleMachine_Teller_49 mim_yX7_nextWord mse_yX7_nextWord mcd_yX7_nextWord min_yX7_nextWord hd_yX7_nextWord rfl rfl rfl (by decide) rfl (Nat.le_of_ble_eq_true rfl) (kdec dk_cX7_tell 35 rfl) (fun w74 h75 => ?_)
              obtain ⟨I76, f77⟩ := h75
              have F79 : kF [(2, some 9), (12, some 1), (13, none), (14, some 1), (15, none), (16, some 1), (16, some 2), (16, some 3), (16, some 4), (16, some 5), (16, some 6), (16, some 7), (16, some 8), (16, some 9), (16, some 10), (16, some 11), (16, some 12), (16, some 13)] w w74 := kF_call F_27 f77 (by decide)
              refine kv_goto C 85 (kdec dk_cX7_tell 36 rfl) (by decide) ?_
              have e80 : w74 16 1 = x20 := ((f77 16 1 rfl : w74 16 1 = w_27 16 1).trans e21)
              have e81 : w74 12 1 = x23 := ((f77 12 1 rfl : w74 12 1 = w_27 12 1).trans e24)
              have e82 : w74 16 2 = x26 := ((f77 16 2 rfl : w74 16 2 = w_27 16 2).trans e27)
              have e83 : w74 14 1 = x29 := ((f77 14 1 rfl : w74 14 1 = w_27 14 1).trans e30)
              exact cut85 w74 l3_27 I76 F79 (by omega) (by omega) (by rw [e80]; try omega) (by rw [e2, e5, e81, e82, e83]; try omega)
          · skip
            refine kv_aload_n C 52 rfl 0 (kdec dk_cX7_tell 27 rfl) rfl rfl ?_
            refine kv_callVv (As := []) (rest := []) C 55 rfl 16 (k_t_nextLetter l D τ ρ σ w_27  I_27 (by rw [e21]; try omega) (by rw [e24, e30]; try omega) (by rw [e53]; try omega)) rfl rfl mml_TaleMachine_Teller_42 mim_yX7_nextLetter mse_yX7_nextLetter mcd_yX7_nextLetter min_yX7_nextLetter hd_yX7_nextLetter rfl rfl rfl (by decide) rfl (Nat.le_of_ble_eq_true rfl) (kdec dk_cX7_tell 28 rfl) (fun w84 h85 => ?_)
            obtain ⟨I86, f87, p89⟩ := h85
            have F90 : kF [(2, some 9), (12, some 1), (13, none), (14, some 1), (15, none), (16, some 1), (16, some 2), (16, some 3), (16, some 4), (16, some 5), (16, some 6), (16, some 7), (16, some 8), (16, some 9), (16, some 10), (16, some 11), (16, some 12), (16, some 13)] w w84 := kF_call F_27 f87 (by decide)
            obtain ⟨x91, e92⟩ : ∃ z : Int32, w84 16 2 = z := ⟨_, rfl⟩
            have b93 : (0 : Int) ≤ x91.toInt ∧ x91.toInt ≤ 500 := by rw [← e92]; exact I86 16 2
            obtain ⟨x94, e95⟩ : ∃ z : Int32, w84 12 1 = z := ⟨_, rfl⟩
            have b96 : (0 : Int) ≤ x94.toInt ∧ x94.toInt ≤ 2147483647 := by rw [← e95]; exact I86 12 1
            obtain ⟨x97, e98⟩ : ∃ z : Int32, w84 14 1 = z := ⟨_, rfl⟩
            have b99 : (0 : Int) ≤ x97.toInt ∧ x97.toInt ≤ 2147483647 := by rw [← e98]; exact I86 14 1
            rw [e27, e24, e30, e92, e95, e98] at p89
            refine kv_goto C 85 (kdec dk_cX7_tell 29 rfl) (by decide) ?_
            have e100 : w84 16 1 = x20 := ((f87 16 1 rfl : w84 16 1 = w_27 16 1).trans e21)
            exact cut85 w84 l3_27 I86 F90 (by omega) (by omega) (by rw [e100]; try omega) (by rw [e2, e5, e95, e92, e98]; try omega)
  refine kv_aload_n C 1 rfl 0 (kdec dk_cX7_tell 0 rfl) rfl rfl ?_
  refine kv_aload_n C 2 rfl 2 (kdec dk_cX7_tell 1 rfl) rfl rfl ?_
  refine kv_putm C 5 rfl 16 1 rfl rfl inX7 (by decide) mfl_TaleMachine_Teller_15 rfl tyX7 tyX7_ok nmX7 rfl 14 14 rfl rfl rfl (kdec dk_cX7_tell 2 rfl) rfl rfl (fun w101 u102 => ?_)
  have I103 : kI true w101 := kI_put u102 hI (show (0 : Int) ≤ (14 : Int32).toInt by omega) (show (14 : Int32).toInt ≤ 14 by omega)
  have F104 : kF [(2, some 9), (12, some 1), (13, none), (14, some 1), (15, none), (16, some 1), (16, some 2), (16, some 3), (16, some 4), (16, some 5), (16, some 6), (16, some 7), (16, some 8), (16, some 9), (16, some 10), (16, some 11), (16, some 12), (16, some 13)] w w101 := kF_put u102 hF0 rfl
  refine kv_aload_n C 6 rfl 0 (kdec dk_cX7_tell 3 rfl) rfl rfl ?_
  refine kv_iconst C 7 rfl 0 (kdec dk_cX7_tell 4 rfl) rfl ?_
  refine kv_put C 10 rfl 16 2 rfl rfl inX7 (by decide) mfl_TaleMachine_Teller_19 rfl tyX7 tyX7_ok nmX7 rfl rfl (kdec dk_cX7_tell 5 rfl) rfl rfl (fun w105 u106 => ?_)
  have I107 : kI true w105 := kI_put u106 I103 (show (0 : Int) ≤ (0 : Int32).toInt by omega) (show (0 : Int32).toInt ≤ 500 by omega)
  have F108 : kF [(2, some 9), (12, some 1), (13, none), (14, some 1), (15, none), (16, some 1), (16, some 2), (16, some 3), (16, some 4), (16, some 5), (16, some 6), (16, some 7), (16, some 8), (16, some 9), (16, some 10), (16, some 11), (16, some 12), (16, some 13)] w w105 := kF_put u106 F104 rfl
  refine kv_aload_n C 11 rfl 0 (kdec dk_cX7_tell 6 rfl) rfl rfl ?_
  refine kv_iconst C 12 rfl 0 (kdec dk_cX7_tell 7 rfl) rfl ?_
  refine kv_put C 15 rfl 16 3 rfl rfl inX7 (by decide) mfl_TaleMachine_Teller_23 rfl tyX7 tyX7_ok nmX7 rfl rfl (kdec dk_cX7_tell 8 rfl) rfl rfl (fun w109 u110 => ?_)
  have I111 : kI true w109 := kI_put u110 I107 (show (0 : Int) ≤ (0 : Int32).toInt by omega) (show (0 : Int32).toInt ≤ 2000 by omega)
  have F112 : kF [(2, some 9), (12, some 1), (13, none), (14, some 1), (15, none), (16, some 1), (16, some 2), (16, some 3), (16, some 4), (16, some 5), (16, some 6), (16, some 7), (16, some 8), (16, some 9), (16, some 10), (16, some 11), (16, some 12), (16, some 13)] w w109 := kF_put u110 F108 rfl
  refine kv_aload_n C 16 rfl 0 (kdec dk_cX7_tell 9 rfl) rfl rfl ?_
  refine kv_iconst C 17 rfl 0 (kdec dk_cX7_tell 10 rfl) rfl ?_
  refine kv_put C 20 rfl 16 7 rfl rfl inX7 (by decide) mfl_TaleMachine_Teller_26 rfl tyX7 tyX7_ok nmX7 rfl rfl (kdec dk_cX7_tell 11 rfl) (kf_bool (by decide)) rfl (fun w113 u114 => ?_)
  have I115 : kI true w113 := kI_put u114 I111 (show (0 : Int) ≤ (0 : Int32).toInt by omega) (show (0 : Int32).toInt ≤ 1 by omega)
  have F116 : kF [(2, some 9), (12, some 1), (13, none), (14, some 1), (15, none), (16, some 1), (16, some 2), (16, some 3), (16, some 4), (16, some 5), (16, some 6), (16, some 7), (16, some 8), (16, some 9), (16, some 10), (16, some 11), (16, some 12), (16, some 13)] w w113 := kF_put u114 F112 rfl
  refine kv_aload_n C 21 rfl 0 (kdec dk_cX7_tell 12 rfl) rfl rfl ?_
  refine kv_iload_n C 22 rfl 1 (kdec dk_cX7_tell 13 rfl) rfl rfl ?_
  refine kv_callVv (As := [.int a1]) (rest := []) C 25 rfl 16 (k_t_open l D τ ρ σ w113 a1 I115 ) rfl rfl mml_TaleMachine_Teller_30 mim_yX7_open mse_yX7_open mcd_yX7_open min_yX7_open hd_yX7_open rfl rfl rfl (by decide) rfl (Nat.le_of_ble_eq_true rfl) (kdec dk_cX7_tell 14 rfl) (fun w117 h118 => ?_)
  obtain ⟨I119, f120⟩ := h118
  have F122 : kF [(2, some 9), (12, some 1), (13, none), (14, some 1), (15, none), (16, some 1), (16, some 2), (16, some 3), (16, some 4), (16, some 5), (16, some 6), (16, some 7), (16, some 8), (16, some 9), (16, some 10), (16, some 11), (16, some 12), (16, some 13)] w w117 := kF_call F116 f120 (by decide)
  refine kv_iconst C 26 rfl 0 (kdec dk_cX7_tell 15 rfl) rfl ?_
  refine kv_istore_n C 27 rfl 3 [1, 2, 3, 0] [(0, .ref (ρ 16)), (1, .int a1), (2, .ref (ρ 14)), (3, .int 0)] (kdec dk_cX7_tell 16 rfl) rfl (by decide) rfl ?_
  have e123 : w117 16 1 = 14 := ((f120 16 1 rfl : w117 16 1 = w113 16 1).trans ((kup_ne u114 rfl : w113 16 1 = w109 16 1).trans ((kup_ne u110 rfl : w109 16 1 = w105 16 1).trans ((kup_ne u106 rfl : w105 16 1 = w101 16 1).trans (kup_eq u102)))))
  have e124 : w117 12 1 = x1 := ((f120 12 1 rfl : w117 12 1 = w113 12 1).trans ((kup_ne u114 rfl : w113 12 1 = w109 12 1).trans ((kup_ne u110 rfl : w109 12 1 = w105 12 1).trans ((kup_ne u106 rfl : w105 12 1 = w101 12 1).trans ((kup_ne u102 rfl : w101 12 1 = w 12 1).trans e2)))))
  have e125 : w117 16 2 = 0 := ((f120 16 2 rfl : w117 16 2 = w113 16 2).trans ((kup_ne u114 rfl : w113 16 2 = w109 16 2).trans ((kup_ne u110 rfl : w109 16 2 = w105 16 2).trans (kup_eq u106))))
  have e126 : w117 14 1 = x4 := ((f120 14 1 rfl : w117 14 1 = w113 14 1).trans ((kup_ne u114 rfl : w113 14 1 = w109 14 1).trans ((kup_ne u110 rfl : w109 14 1 = w105 14 1).trans ((kup_ne u106 rfl : w105 14 1 = w101 14 1).trans ((kup_ne u102 rfl : w101 14 1 = w 14 1).trans e5)))))
  refine kV.sub [0, 3] (L' := [(0, .ref (ρ 16)), (3, .int 0)]) rfl ?_
  exact cut27 ((((6004 - (0 : Int32).toInt)) : Int).toNat + 1) w117 0 I119 F122 (by omega) (by rw [e123]; try omega) (by rw [e2, e5, e124, e125, e126]; try omega) (by omega)
