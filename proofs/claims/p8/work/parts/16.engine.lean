set_option maxHeartbeats 4000000 in
set_option maxRecDepth 100000 in
theorem k_e_fetch (l : Launch) (D : va_G) (τ : Nat → ClassId) (ρ σ : Nat → Nat) (w : kw)  (hI : kI true w)  :
    kM l D τ ρ σ yX1_fetch cX1_fetch 2 (some .int) { frames := 2, cells := 0, slots := 0, locals := 72 } [.ref (ρ 20)] w
      (fun o w' => ∃ r : Int32, o = some (.int r) ∧ kI true w' ∧ kF [(2, some 9), (20, some 9)] w w' ∧ (0 ≤ r.toInt ∧ r.toInt ≤ 255) ∧ ((w 2 9).toInt = 0 ∨ ¬ (w' 2 9).toInt = 0)) := by
  refine kM_of (own := "TaleMachine$Engine") rfl (by decide) (Nat.le_of_ble_eq_true rfl) ?_
  intro p e s m args below meth c C hr hlk
  have hF0 : kF [(2, some 9), (20, some 9)] w w := kF.rf
  have c_1 : (1 : Int32).toInt = 1 := by decide
  have c_65535 : (65535 : Int32).toInt = 65535 := by decide
  refine kV.L (L' := [(0, .ref (ρ 20))]) rfl ?_
  refine kv_aload_n C 1 rfl 0 (kdec dk_cX1_fetch 0 rfl) rfl rfl ?_
  refine kv_getr C 4 rfl 20 0 rfl rfl inX1 (by decide) mfl_TaleMachine_Engine_9 rfl rfl (kdec dk_cX1_fetch 1 rfl) ?_
  refine kv_aload_n C 5 rfl 0 (kdec dk_cX1_fetch 2 rfl) rfl rfl ?_
  obtain ⟨x1, e2⟩ : ∃ z : Int32, w 20 9 = z := ⟨_, rfl⟩
  have b3 : (-2147483648 : Int) ≤ x1.toInt ∧ x1.toInt ≤ 2147483647 := by rw [← e2]; exact hI 20 9
  refine kv_get C 8 rfl 20 9 rfl rfl inX1 (by decide) mfl_TaleMachine_Engine_56 rfl rfl (kdec dk_cX1_fetch 3 rfl) e2 ?_
  refine kv_callVNi (As := [.int x1]) (rest := []) C 11 rfl 2 (k_byteAt l D τ ρ σ w x1 hI ) rfl rfl mmn_TaleMachine_Engine_133 mim_yX6_byteAt mse_yX6_byteAt mcd_yX6_byteAt min_yX6_byteAt hd_yX6_byteAt rfl rfl rfl (by decide) rfl (Nat.le_of_ble_eq_true rfl) (kdec dk_cX1_fetch 4 rfl) (fun x8 w4 h5 => ?_)
  obtain ⟨I6, f7, p9, p10⟩ := h5
  have F11 : kF [(2, some 9), (20, some 9)] w w4 := kF_call hF0 f7 (by decide)
  have g12 := kf_rng x8
  obtain ⟨x13, e14⟩ : ∃ z : Int32, w 2 9 = z := ⟨_, rfl⟩
  have b15 : (0 : Int) ≤ x13.toInt ∧ x13.toInt ≤ 13 := by rw [← e14]; exact hI 2 9
  obtain ⟨x16, e17⟩ : ∃ z : Int32, w4 2 9 = z := ⟨_, rfl⟩
  have b18 : (0 : Int) ≤ x16.toInt ∧ x16.toInt ≤ 13 := by rw [← e17]; exact I6 2 9
  rw [e14, e17] at p10
  refine kv_istore_n C 12 rfl 1 [1, 0] [(0, .ref (ρ 20)), (1, .int x8)] (kdec dk_cX1_fetch 5 rfl) rfl (by decide) rfl ?_
  refine kv_aload_n C 13 rfl 0 (kdec dk_cX1_fetch 6 rfl) rfl rfl ?_
  refine kv_aload_n C 14 rfl 0 (kdec dk_cX1_fetch 7 rfl) rfl rfl ?_
  have e19 : w4 20 9 = x1 := ((f7 20 9 rfl : w4 20 9 = w 20 9).trans e2)
  refine kv_get C 17 rfl 20 9 rfl rfl inX1 (by decide) mfl_TaleMachine_Engine_56 rfl rfl (kdec dk_cX1_fetch 8 rfl) e19 ?_
  refine kv_iconst C 18 rfl 1 (kdec dk_cX1_fetch 9 rfl) rfl ?_
  refine kv_iadd C 19 rfl (kdec dk_cX1_fetch 10 rfl) (fun x20 q22 h21e h21 h21l h21u => ?_)
  try have h21n : x20.toInt = x1.toInt + (1 : Int32).toInt := by omega
  clear h21 q22
  refine kv_ldc C 21 rfl 65535 (kdec dk_cX1_fetch 11 rfl) mco_TaleMachine_Engine_119 ?_
  refine kv_iand C 22 rfl (kdec dk_cX1_fetch 12 rfl) (fun x23 h24e h24l h24u => ?_)
  have g25 := kf_and65535 h24e
  refine kv_put C 25 rfl 20 9 rfl rfl inX1 (by decide) mfl_TaleMachine_Engine_56 rfl tyX1 tyX1_ok nmX1 rfl rfl (kdec dk_cX1_fetch 13 rfl) rfl rfl (fun w26 u27 => ?_)
  have I28 : kI true w26 := kI_put u27 I6 (kf_rng _).1 (kf_rng _).2
  have F29 : kF [(2, some 9), (20, some 9)] w w26 := kF_put u27 F11 rfl
  refine kv_iload_n C 26 rfl 1 (kdec dk_cX1_fetch 14 rfl) rfl rfl ?_
  have e30 : w26 2 9 = x16 := ((kup_ne u27 rfl : w26 2 9 = w4 2 9).trans e17)
  exact kv_iret C hr hlk (kdec dk_cX1_fetch 15 rfl) ⟨_, rfl, I28, F29, (by omega), (by rw [e14, e30]; try omega)⟩

set_option maxHeartbeats 4000000 in
set_option maxRecDepth 100000 in
theorem k_e_operandOf (l : Launch) (D : va_G) (τ : Nat → ClassId) (ρ σ : Nat → Nat) (w : kw) (a1 : Int32) (hI : kI true w)  :
    kM l D τ ρ σ yX1_operandOf cX1_operandOf 3 (some .int) { frames := 3, cells := 0, slots := 0, locals := 108 } [.ref (ρ 20), .int a1] w
      (fun o w' => ∃ r : Int32, o = some (.int r) ∧ kI true w' ∧ kF [(2, some 9), (5, some 6), (20, some 9)] w w') := by
  refine kM_of (own := "TaleMachine$Engine") rfl (by decide) (Nat.le_of_ble_eq_true rfl) ?_
  intro p e s m args below meth c C hr hlk
  have hF0 : kF [(2, some 9), (5, some 6), (20, some 9)] w w := kF.rf
  have c_1 : (1 : Int32).toInt = 1 := by decide
  have c_256 : (256 : Int32).toInt = 256 := by decide
  refine kV.L (L' := [(0, .ref (ρ 20)), (1, .int a1)]) rfl ?_
  have g1 := kf_rng a1
  refine kv_aload_n C 1 rfl 0 (kdec dk_cX1_operandOf 0 rfl) rfl rfl ?_
  refine kv_callVi (As := []) (rest := []) C 4 rfl 20 (k_e_fetch l D τ ρ σ w  hI ) rfl rfl mml_TaleMachine_Engine_87 mim_yX1_fetch mse_yX1_fetch mcd_yX1_fetch min_yX1_fetch hd_yX1_fetch rfl rfl rfl (by decide) rfl (Nat.le_of_ble_eq_true rfl) (kdec dk_cX1_operandOf 1 rfl) (fun x6 w2 h3 => ?_)
  obtain ⟨I4, f5, p7, p8⟩ := h3
  have F9 : kF [(2, some 9), (5, some 6), (20, some 9)] w w2 := kF_call hF0 f5 (by decide)
  have g10 := kf_rng x6
  obtain ⟨x11, e12⟩ : ∃ z : Int32, w 2 9 = z := ⟨_, rfl⟩
  have b13 : (0 : Int) ≤ x11.toInt ∧ x11.toInt ≤ 13 := by rw [← e12]; exact hI 2 9
  obtain ⟨x14, e15⟩ : ∃ z : Int32, w2 2 9 = z := ⟨_, rfl⟩
  have b16 : (0 : Int) ≤ x14.toInt ∧ x14.toInt ≤ 13 := by rw [← e15]; exact I4 2 9
  rw [e12, e15] at p8
  refine kv_istore_n C 5 rfl 2 [1, 2, 0] [(0, .ref (ρ 20)), (1, .int a1), (2, .int x6)] (kdec dk_cX1_operandOf 2 rfl) rfl (by decide) rfl ?_
  refine kv_iload_n C 6 rfl 1 (kdec dk_cX1_operandOf 3 rfl) rfl rfl ?_
  refine kv_iconst C 7 rfl 1 (kdec dk_cX1_operandOf 4 rfl) rfl ?_
  refine kv_icmp_eq C 10 rfl 20 (kdec dk_cX1_operandOf 5 rfl) (by decide) (fun d17 => ?_) (fun d17 => ?_)
  · skip
    refine kv_iload_n C 21 rfl 2 (kdec dk_cX1_operandOf 10 rfl) rfl rfl ?_
    exact kv_iret C hr hlk (kdec dk_cX1_operandOf 11 rfl) ⟨_, rfl, I4, F9⟩
  · skip
    refine kv_aload_n C 11 rfl 0 (kdec dk_cX1_operandOf 6 rfl) rfl rfl ?_
    refine kv_getr C 14 rfl 20 0 rfl rfl inX1 (by decide) mfl_TaleMachine_Engine_9 rfl rfl (kdec dk_cX1_operandOf 7 rfl) ?_
    refine kv_getN C 17 rfl 2 9 rfl rfl inX6 (by decide) mfn_TaleMachine_Engine_67 rfl rfl (kdec dk_cX1_operandOf 8 rfl) e15 ?_
    refine kv_if_eq C 20 rfl 22 (kdec dk_cX1_operandOf 9 rfl) (by decide) (fun d18 => ?_) (fun d18 => ?_)
    · skip
      refine kv_iload_n C 23 rfl 1 (kdec dk_cX1_operandOf 12 rfl) rfl rfl ?_
      refine kv_if_ne C 26 rfl 39 (kdec dk_cX1_operandOf 13 rfl) (by decide) (fun d19 => ?_) (fun d19 => ?_)
      · skip
        refine kv_aload_n C 40 rfl 0 (kdec dk_cX1_operandOf 21 rfl) rfl rfl ?_
        refine kv_getr C 43 rfl 20 2 rfl rfl inX1 (by decide) mfl_TaleMachine_Engine_32 rfl rfl (kdec dk_cX1_operandOf 22 rfl) ?_
        refine kv_iload_n C 44 rfl 2 (kdec dk_cX1_operandOf 23 rfl) rfl rfl ?_
        refine kv_callVNi (As := [.int x6]) (rest := []) C 47 rfl 21 (k_valueOf l D τ ρ σ w2 x6 I4 (by omega)) rfl rfl mmn_TaleMachine_Engine_139 mim_yX8_valueOf mse_yX8_valueOf mcd_yX8_valueOf min_yX8_valueOf hd_yX8_valueOf rfl rfl rfl (by decide) rfl (Nat.le_of_ble_eq_true rfl) (kdec dk_cX1_operandOf 24 rfl) (fun x24 w20 h21 => ?_)
        obtain ⟨I22, f23⟩ := h21
        have F25 : kF [(2, some 9), (5, some 6), (20, some 9)] w w20 := kF_call F9 f23 (by decide)
        have g26 := kf_rng x24
        exact kv_iret C hr hlk (kdec dk_cX1_operandOf 25 rfl) ⟨_, rfl, I22, F25⟩
      · skip
        refine kv_iload_n C 27 rfl 2 (kdec dk_cX1_operandOf 14 rfl) rfl rfl ?_
        refine kv_sipush C 30 rfl 256 (kdec dk_cX1_operandOf 15 rfl) rfl ?_
        refine kv_imul C 31 rfl (kdec dk_cX1_operandOf 16 rfl) (fun x27 h28e h28l h28u => ?_)
        obtain ⟨q29, g30⟩ := kf_mul x6 256
        rw [← h28e, c_256] at g30
        try have h28n : x27.toInt = 256 * x6.toInt := by omega
        clear g30 q29
        refine kv_aload_n C 32 rfl 0 (kdec dk_cX1_operandOf 17 rfl) rfl rfl ?_
        refine kv_callVi (As := []) (rest := [.int x27]) C 35 rfl 20 (k_e_fetch l D τ ρ σ w2  I4 ) rfl rfl mml_TaleMachine_Engine_87 mim_yX1_fetch mse_yX1_fetch mcd_yX1_fetch min_yX1_fetch hd_yX1_fetch rfl rfl rfl (by decide) rfl (Nat.le_of_ble_eq_true rfl) (kdec dk_cX1_operandOf 18 rfl) (fun x35 w31 h32 => ?_)
        obtain ⟨I33, f34, p36, p37⟩ := h32
        have F38 : kF [(2, some 9), (5, some 6), (20, some 9)] w w31 := kF_call F9 f34 (by decide)
        have g39 := kf_rng x35
        obtain ⟨x40, e41⟩ : ∃ z : Int32, w31 2 9 = z := ⟨_, rfl⟩
        have b42 : (0 : Int) ≤ x40.toInt ∧ x40.toInt ≤ 13 := by rw [← e41]; exact I33 2 9
        rw [e15, e41] at p37
        refine kv_iadd C 36 rfl (kdec dk_cX1_operandOf 19 rfl) (fun x43 q45 h44e h44 h44l h44u => ?_)
        try have h44n : x43.toInt = x27.toInt + x35.toInt := by omega
        clear h44 q45
        refine kv_goto C 47 (kdec dk_cX1_operandOf 20 rfl) (by decide) ?_
        exact kv_iret C hr hlk (kdec dk_cX1_operandOf 25 rfl) ⟨_, rfl, I33, F38⟩
    · skip
      refine kv_iload_n C 21 rfl 2 (kdec dk_cX1_operandOf 10 rfl) rfl rfl ?_
      exact kv_iret C hr hlk (kdec dk_cX1_operandOf 11 rfl) ⟨_, rfl, I4, F9⟩

set_option maxHeartbeats 4000000 in
set_option maxRecDepth 100000 in
theorem k_e_readOperands (l : Launch) (D : va_G) (τ : Nat → ClassId) (ρ σ : Nat → Nat) (w : kw) (a1 : Int32) (hI : kI true w)  :
    kM l D τ ρ σ yX1_readOperands cX1_readOperands 6 none { frames := 4, cells := 0, slots := 0, locals := 144 } [.ref (ρ 20), .int a1] w
      (fun o w' => o = none ∧ kI true w' ∧ kF [(2, some 9), (5, some 6), (20, some 7), (20, some 9), (23, none)] w w') := by
  refine kM_of (own := "TaleMachine$Engine") rfl (by decide) (Nat.le_of_ble_eq_true rfl) ?_
  intro p e s m args below meth c C hr hlk
  have hF0 : kF [(2, some 9), (5, some 6), (20, some 7), (20, some 9), (23, none)] w w := kF.rf
  have c_0 : (0 : Int32).toInt = 0 := by decide
  have c_1 : (1 : Int32).toInt = 1 := by decide
  have c_2 : (2 : Int32).toInt = 2 := by decide
  have c_3 : (3 : Int32).toInt = 3 := by decide
  have c_4 : (4 : Int32).toInt = 4 := by decide
  have c_6 : (6 : Int32).toInt = 6 := by decide
  have c_15 : (15 : Int32).toInt = 15 := by decide
  have c_32 : (32 : Int32).toInt = 32 := by decide
  have c_48 : (48 : Int32).toInt = 48 := by decide
  have c_63 : (63 : Int32).toInt = 63 := by decide
  have c_64 : (64 : Int32).toInt = 64 := by decide
  have c_128 : (128 : Int32).toInt = 128 := by decide
  have c_192 : (192 : Int32).toInt = 192 := by decide
  refine kV.L (L' := [(0, .ref (ρ 20)), (1, .int a1)]) rfl ?_
  have g1 := kf_rng a1
  have cut85 : ∀ (n_85 : Nat) (w_85 : kw) (l2_85 l3_85 l4_85 : Int32), kI true w_85 → kF [(2, some 9), (5, some 6), (20, some 7), (20, some 9), (23, none)] w w_85 → (0 ≤ l4_85.toInt ∧ l4_85.toInt ≤ 4) → ((w_85 20 7).toInt ≤ l4_85.toInt) → ((5 - l4_85.toInt) : Int) < (n_85 : Int) → kV p l e { frames := 4, cells := 0, slots := 0, locals := 144 } s m args below meth c (kQ below args s D τ ρ (fun o w' => o = none ∧ kI true w' ∧ kF [(2, some 9), (5, some 6), (20, some 7), (20, some 9), (23, none)] w w')) 6 D τ ρ 85 [(0, .ref (ρ 20)), (2, .int l2_85), (3, .int l3_85), (4, .int l4_85)] [] w_85 := by
    intro n_85
    induction n_85 with
    | zero => intro w_85 l2_85 l3_85 l4_85 I_85 F_85 k85_0 k85_1 hmz; exfalso; omega
    | succ n_85 ih85 =>
      intro w_85 l2_85 l3_85 l4_85 I_85 F_85 k85_0 k85_1 hm85
      have gl2_85 := kf_rng l2_85
      have gl3_85 := kf_rng l3_85
      have gl4_85 := kf_rng l4_85
      obtain ⟨x2, e3⟩ : ∃ z : Int32, w_85 20 7 = z := ⟨_, rfl⟩
      have b4 : (0 : Int) ≤ x2.toInt ∧ x2.toInt ≤ 4 := by rw [← e3]; exact I_85 20 7
      rw [e3] at k85_1
      refine kv_iload C 87 rfl 3 (kdec dk_cX1_readOperands 52 rfl) rfl ?_
      refine kv_iconst C 88 rfl 4 (kdec dk_cX1_readOperands 53 rfl) rfl ?_
      refine kv_icmp_ge C 91 rfl 155 (kdec dk_cX1_readOperands 54 rfl) (by decide) (fun d5 => ?_) (fun d5 => ?_)
      · skip
        exact kv_vret C hr hlk (kdec dk_cX1_readOperands 92 rfl) ⟨rfl, I_85, F_85⟩
      · skip
        refine kv_iload_n C 92 rfl 2 (kdec dk_cX1_readOperands 55 rfl) rfl rfl ?_
        refine kv_if_eq C 95 rfl 155 (kdec dk_cX1_readOperands 56 rfl) (by decide) (fun d6 => ?_) (fun d6 => ?_)
        · skip
          exact kv_vret C hr hlk (kdec dk_cX1_readOperands 92 rfl) ⟨rfl, I_85, F_85⟩
        · skip
          refine kv_iload_n C 96 rfl 1 (kdec dk_cX1_readOperands 57 rfl) rfl rfl ?_
          refine kv_bipush C 98 rfl 6 (kdec dk_cX1_readOperands 58 rfl) rfl ?_
          refine kv_iconst C 99 rfl 2 (kdec dk_cX1_readOperands 59 rfl) rfl ?_
          refine kv_iload C 101 rfl 3 (kdec dk_cX1_readOperands 60 rfl) rfl ?_
          refine kv_imul C 102 rfl (kdec dk_cX1_readOperands 61 rfl) (fun x7 h8e h8l h8u => ?_)
          obtain ⟨q9, g10⟩ := kf_mul 2 l4_85
          rw [← h8e, c_2] at g10
          try have h8n : x7.toInt = 2 * l4_85.toInt := by omega
          clear g10 q9
          refine kv_isub C 103 rfl (kdec dk_cX1_readOperands 62 rfl) (fun x11 q13 h12e h12 h12l h12u => ?_)
          try have h12n : x11.toInt = (6 : Int32).toInt - x7.toInt := by omega
          clear h12 q13
          refine kv_ishr C 104 rfl (kdec dk_cX1_readOperands 63 rfl) (fun x14 h15e h15l h15u => ?_)
          refine kv_iconst C 105 rfl 3 (kdec dk_cX1_readOperands 64 rfl) rfl ?_
          refine kv_iand C 106 rfl (kdec dk_cX1_readOperands 65 rfl) (fun x16 h17e h17l h17u => ?_)
          have g18 := kf_and3 h17e
          refine kv_istore C 108 rfl 5 [1, 2, 3, 4, 0] [(0, .ref (ρ 20)), (2, .int l2_85), (3, .int l3_85), (4, .int l4_85), (5, .int x16)] (kdec dk_cX1_readOperands 66 rfl) (by decide) rfl ?_
          refine kv_iload C 110 rfl 4 (kdec dk_cX1_readOperands 67 rfl) rfl ?_
          refine kv_iconst C 111 rfl 3 (kdec dk_cX1_readOperands 68 rfl) rfl ?_
          refine kv_icmp_eq C 114 rfl 118 (kdec dk_cX1_readOperands 69 rfl) (by decide) (fun d19 => ?_) (fun d19 => ?_)
          · skip
            refine kv_iconst C 119 rfl 0 (kdec dk_cX1_readOperands 72 rfl) rfl ?_
            refine kv_istore_n C 120 rfl 3 [1, 2, 0, 3, 4] [(0, .ref (ρ 20)), (2, .int l2_85), (3, .int 0), (4, .int l4_85), (5, .int x16)] (kdec dk_cX1_readOperands 73 rfl) rfl (by decide) rfl ?_
            refine kv_iload_n C 121 rfl 2 (kdec dk_cX1_readOperands 74 rfl) rfl rfl ?_
            refine kv_if_eq C 124 rfl 149 (kdec dk_cX1_readOperands 75 rfl) (by decide) (fun d20 => ?_) (fun d20 => ?_)
            · skip
              refine kv_iinc C 152 rfl 4 3 [1, 2, 3, 0, 4] (fun v9 => [(0, .ref (ρ 20)), (2, .int l2_85), (3, .int 0), (4, .int v9), (5, .int x16)]) (kdec dk_cX1_readOperands 90 rfl) rfl (by decide) (fun _ => rfl) 1 rfl (fun x21 q22 h23e h23 h23l h23u => ?_)
              try have h23n : x21.toInt = l4_85.toInt + 1 := by omega
              clear h23 q22
              refine kv_goto C 85 (kdec dk_cX1_readOperands 91 rfl) (by decide) ?_
              refine kV.sub [0, 1, 2, 3] (L' := [(0, .ref (ρ 20)), (2, .int l2_85), (3, .int 0), (4, .int x21)]) rfl ?_
              exact ih85 w_85 l2_85 0 x21 I_85 F_85 (by omega) (by rw [e3]; try omega) (by omega)
            · exfalso; omega
          · skip
            refine kv_iconst C 115 rfl 1 (kdec dk_cX1_readOperands 70 rfl) rfl ?_
            refine kv_goto C 119 (kdec dk_cX1_readOperands 71 rfl) (by decide) ?_
            refine kv_istore_n C 120 rfl 3 [1, 2, 0, 3, 4] [(0, .ref (ρ 20)), (2, .int l2_85), (3, .int 1), (4, .int l4_85), (5, .int x16)] (kdec dk_cX1_readOperands 73 rfl) rfl (by decide) rfl ?_
            refine kv_iload_n C 121 rfl 2 (kdec dk_cX1_readOperands 74 rfl) rfl rfl ?_
            refine kv_if_eq C 124 rfl 149 (kdec dk_cX1_readOperands 75 rfl) (by decide) (fun d24 => ?_) (fun d24 => ?_)
            · exfalso; omega
            · skip
              refine kv_aload_n C 125 rfl 0 (kdec dk_cX1_readOperands 76 rfl) rfl rfl ?_
              refine kv_getr C 128 rfl 20 6 rfl rfl inX1 (by decide) mfl_TaleMachine_Engine_45 rfl rfl (kdec dk_cX1_readOperands 77 rfl) ?_
              refine kv_aload_n C 129 rfl 0 (kdec dk_cX1_readOperands 78 rfl) rfl rfl ?_
              refine kv_get C 132 rfl 20 7 rfl rfl inX1 (by decide) mfl_TaleMachine_Engine_105 rfl rfl (kdec dk_cX1_readOperands 79 rfl) e3 ?_
              refine kv_aload_n C 133 rfl 0 (kdec dk_cX1_readOperands 80 rfl) rfl rfl ?_
              refine kv_iload C 135 rfl 4 (kdec dk_cX1_readOperands 81 rfl) rfl ?_
              refine kv_callVi (As := [.int x16]) (rest := [.int x2, .ref (ρ 23)]) C 138 rfl 20 (k_e_operandOf l D τ ρ σ w_85 x16 I_85 ) rfl rfl mml_TaleMachine_Engine_136 mim_yX1_operandOf mse_yX1_operandOf mcd_yX1_operandOf min_yX1_operandOf hd_yX1_operandOf rfl rfl rfl (by decide) rfl (Nat.le_of_ble_eq_true rfl) (kdec dk_cX1_readOperands 82 rfl) (fun x29 w25 h26 => ?_)
              obtain ⟨I27, f28⟩ := h26
              have F30 : kF [(2, some 9), (5, some 6), (20, some 7), (20, some 9), (23, none)] w w25 := kF_call F_85 f28 (by decide)
              have g31 := kf_rng x29
              refine kv_iast C 139 rfl 23 rfl (by omega) (by omega) (kdec dk_cX1_readOperands 83 rfl) (fun w32 u33 => ?_)
              have I34 : kI true w32 := kI_put u33 I27 (kf_rng _).1 (kf_rng _).2
              have F35 : kF [(2, some 9), (5, some 6), (20, some 7), (20, some 9), (23, none)] w w32 := kF_put u33 F30 rfl
              refine kv_aload_n C 140 rfl 0 (kdec dk_cX1_readOperands 84 rfl) rfl rfl ?_
              refine kv_dup C 141 rfl (kdec dk_cX1_readOperands 85 rfl) rfl ?_
              have e36 : w32 20 7 = x2 := ((kup_ne u33 rfl : w32 20 7 = w25 20 7).trans ((f28 20 7 rfl : w25 20 7 = w_85 20 7).trans e3))
              refine kv_get C 144 rfl 20 7 rfl rfl inX1 (by decide) mfl_TaleMachine_Engine_105 rfl rfl (kdec dk_cX1_readOperands 86 rfl) e36 ?_
              refine kv_iconst C 145 rfl 1 (kdec dk_cX1_readOperands 87 rfl) rfl ?_
              refine kv_iadd C 146 rfl (kdec dk_cX1_readOperands 88 rfl) (fun x37 q39 h38e h38 h38l h38u => ?_)
              try have h38n : x37.toInt = x2.toInt + (1 : Int32).toInt := by omega
              clear h38 q39
              refine kv_put C 149 rfl 20 7 rfl rfl inX1 (by decide) mfl_TaleMachine_Engine_105 rfl tyX1 tyX1_ok nmX1 rfl rfl (kdec dk_cX1_readOperands 89 rfl) rfl rfl (fun w40 u41 => ?_)
              have I42 : kI true w40 := kI_put u41 I34 (show (0 : Int) ≤ (x37 : Int32).toInt by omega) (show (x37 : Int32).toInt ≤ 4 by omega)
              have F43 : kF [(2, some 9), (5, some 6), (20, some 7), (20, some 9), (23, none)] w w40 := kF_put u41 F35 rfl
              refine kv_iinc C 152 rfl 4 3 [1, 2, 3, 0, 4] (fun v9 => [(0, .ref (ρ 20)), (2, .int l2_85), (3, .int 1), (4, .int v9), (5, .int x16)]) (kdec dk_cX1_readOperands 90 rfl) rfl (by decide) (fun _ => rfl) 1 rfl (fun x44 q45 h46e h46 h46l h46u => ?_)
              try have h46n : x44.toInt = l4_85.toInt + 1 := by omega
              clear h46 q45
              refine kv_goto C 85 (kdec dk_cX1_readOperands 91 rfl) (by decide) ?_
              refine kV.sub [0, 1, 2, 3] (L' := [(0, .ref (ρ 20)), (2, .int l2_85), (3, .int 1), (4, .int x44)]) rfl ?_
              exact ih85 w40 l2_85 1 x44 I42 F43 (by omega) (by rw [(kup_eq u41)]; try omega) (by omega)
  have cut80 : ∀ (w_80 : kw) (l2_80 : Int32), kI true w_80 → kF [(2, some 9), (5, some 6), (20, some 7), (20, some 9), (23, none)] w w_80 → ((w_80 20 7).toInt = 0) → kV p l e { frames := 4, cells := 0, slots := 0, locals := 144 } s m args below meth c (kQ below args s D τ ρ (fun o w' => o = none ∧ kI true w' ∧ kF [(2, some 9), (5, some 6), (20, some 7), (20, some 9), (23, none)] w w')) 6 D τ ρ 80 [(0, .ref (ρ 20)), (2, .int l2_80)] [] w_80 := by
    intro w_80 l2_80 I_80 F_80 k80_0
    have gl2_80 := kf_rng l2_80
    obtain ⟨x47, e48⟩ : ∃ z : Int32, w_80 20 7 = z := ⟨_, rfl⟩
    have b49 : (0 : Int) ≤ x47.toInt ∧ x47.toInt ≤ 4 := by rw [← e48]; exact I_80 20 7
    rw [e48] at k80_0
    refine kv_iconst C 81 rfl 1 (kdec dk_cX1_readOperands 48 rfl) rfl ?_
    refine kv_istore_n C 82 rfl 3 [1, 2, 0] [(0, .ref (ρ 20)), (2, .int l2_80), (3, .int 1)] (kdec dk_cX1_readOperands 49 rfl) rfl (by decide) rfl ?_
    refine kv_iconst C 83 rfl 0 (kdec dk_cX1_readOperands 50 rfl) rfl ?_
    refine kv_istore C 85 rfl 4 [1, 2, 3, 0] [(0, .ref (ρ 20)), (2, .int l2_80), (3, .int 1), (4, .int 0)] (kdec dk_cX1_readOperands 51 rfl) (by decide) rfl ?_
    exact cut85 ((((5 - (0 : Int32).toInt)) : Int).toNat + 1) w_80 l2_80 1 0 I_80 F_80 (by omega) (by rw [e48]; try omega) (by omega)
  have cut65 : ∀ (w_65 : kw) (l1_65 l3_65 s0_65 : Int32), kI true w_65 → kF [(2, some 9), (5, some 6), (20, some 7), (20, some 9), (23, none)] w w_65 → ((w_65 20 7).toInt = 0) → kV p l e { frames := 4, cells := 0, slots := 0, locals := 144 } s m args below meth c (kQ below args s D τ ρ (fun o w' => o = none ∧ kI true w' ∧ kF [(2, some 9), (5, some 6), (20, some 7), (20, some 9), (23, none)] w w')) 6 D τ ρ 65 [(0, .ref (ρ 20)), (1, .int l1_65), (3, .int l3_65)] [.int s0_65] w_65 := by
    intro w_65 l1_65 l3_65 s0_65 I_65 F_65 k65_0
    have gl1_65 := kf_rng l1_65
    have gl3_65 := kf_rng l3_65
    have gs0_65 := kf_rng s0_65
    obtain ⟨x50, e51⟩ : ∃ z : Int32, w_65 20 7 = z := ⟨_, rfl⟩
    have b52 : (0 : Int) ≤ x50.toInt ∧ x50.toInt ≤ 4 := by rw [← e51]; exact I_65 20 7
    rw [e51] at k65_0
    refine kv_istore C 67 rfl 4 [1, 2, 3, 0] [(0, .ref (ρ 20)), (1, .int l1_65), (3, .int l3_65), (4, .int s0_65)] (kdec dk_cX1_readOperands 37 rfl) (by decide) rfl ?_
    refine kv_iload_n C 68 rfl 2 (kdec dk_cX1_readOperands 38 rfl) rfl rfl ?_
    refine kv_bipush C 70 rfl 6 (kdec dk_cX1_readOperands 39 rfl) rfl ?_
    refine kv_ishl C 71 rfl (kdec dk_cX1_readOperands 40 rfl) (fun x53 h54e h54l h54u => ?_)
    refine kv_iload C 73 rfl 3 (kdec dk_cX1_readOperands 41 rfl) rfl ?_
    refine kv_iconst C 74 rfl 4 (kdec dk_cX1_readOperands 42 rfl) rfl ?_
    refine kv_ishl C 75 rfl (kdec dk_cX1_readOperands 43 rfl) (fun x55 h56e h56l h56u => ?_)
    refine kv_ior C 76 rfl (kdec dk_cX1_readOperands 44 rfl) (fun x57 h58e h58l h58u => ?_)
    refine kv_bipush C 78 rfl 15 (kdec dk_cX1_readOperands 45 rfl) rfl ?_
    refine kv_ior C 79 rfl (kdec dk_cX1_readOperands 46 rfl) (fun x59 h60e h60l h60u => ?_)
    refine kv_istore_n C 80 rfl 2 [1, 2, 0, 3, 4] [(0, .ref (ρ 20)), (1, .int l1_65), (2, .int x59), (3, .int l3_65), (4, .int s0_65)] (kdec dk_cX1_readOperands 47 rfl) rfl (by decide) rfl ?_
    refine kV.sub [0, 2] (L' := [(0, .ref (ρ 20)), (2, .int x59)]) rfl ?_
    exact cut80 w_65 x59 I_65 F_65 (by rw [e51]; try omega)
  have cut52 : ∀ (w_52 : kw) (l1_52 s0_52 : Int32), kI true w_52 → kF [(2, some 9), (5, some 6), (20, some 7), (20, some 9), (23, none)] w w_52 → ((w_52 20 7).toInt = 0) → kV p l e { frames := 4, cells := 0, slots := 0, locals := 144 } s m args below meth c (kQ below args s D τ ρ (fun o w' => o = none ∧ kI true w' ∧ kF [(2, some 9), (5, some 6), (20, some 7), (20, some 9), (23, none)] w w')) 6 D τ ρ 52 [(0, .ref (ρ 20)), (1, .int l1_52)] [.int s0_52] w_52 := by
    intro w_52 l1_52 s0_52 I_52 F_52 k52_0
    have gl1_52 := kf_rng l1_52
    have gs0_52 := kf_rng s0_52
    obtain ⟨x61, e62⟩ : ∃ z : Int32, w_52 20 7 = z := ⟨_, rfl⟩
    have b63 : (0 : Int) ≤ x61.toInt ∧ x61.toInt ≤ 4 := by rw [← e62]; exact I_52 20 7
    rw [e62] at k52_0
    refine kv_istore_n C 53 rfl 3 [1, 2, 0] [(0, .ref (ρ 20)), (1, .int l1_52), (3, .int s0_52)] (kdec dk_cX1_readOperands 29 rfl) rfl (by decide) rfl ?_
    refine kv_iload_n C 54 rfl 1 (kdec dk_cX1_readOperands 30 rfl) rfl rfl ?_
    refine kv_bipush C 56 rfl 32 (kdec dk_cX1_readOperands 31 rfl) rfl ?_
    refine kv_iand C 57 rfl (kdec dk_cX1_readOperands 32 rfl) (fun x64 h65e h65l h65u => ?_)
    refine kv_if_eq C 60 rfl 64 (kdec dk_cX1_readOperands 33 rfl) (by decide) (fun d66 => ?_) (fun d66 => ?_)
    · skip
      refine kv_iconst C 65 rfl 1 (kdec dk_cX1_readOperands 36 rfl) rfl ?_
      exact cut65 w_52 l1_52 s0_52 1 I_52 F_52 (by rw [e62]; try omega)
    · skip
      refine kv_iconst C 61 rfl 2 (kdec dk_cX1_readOperands 34 rfl) rfl ?_
      refine kv_goto C 65 (kdec dk_cX1_readOperands 35 rfl) (by decide) ?_
      exact cut65 w_52 l1_52 s0_52 2 I_52 F_52 (by rw [e62]; try omega)
  refine kv_aload_n C 1 rfl 0 (kdec dk_cX1_readOperands 0 rfl) rfl rfl ?_
  refine kv_iconst C 2 rfl 0 (kdec dk_cX1_readOperands 1 rfl) rfl ?_
  refine kv_put C 5 rfl 20 7 rfl rfl inX1 (by decide) mfl_TaleMachine_Engine_105 rfl tyX1 tyX1_ok nmX1 rfl rfl (kdec dk_cX1_readOperands 2 rfl) rfl rfl (fun w67 u68 => ?_)
  have I69 : kI true w67 := kI_put u68 hI (show (0 : Int) ≤ (0 : Int32).toInt by omega) (show (0 : Int32).toInt ≤ 4 by omega)
  have F70 : kF [(2, some 9), (5, some 6), (20, some 7), (20, some 9), (23, none)] w w67 := kF_put u68 hF0 rfl
  refine kv_iload_n C 6 rfl 1 (kdec dk_cX1_readOperands 3 rfl) rfl rfl ?_
  refine kv_sipush C 9 rfl 192 (kdec dk_cX1_readOperands 4 rfl) rfl ?_
  refine kv_icmp_lt C 12 rfl 20 (kdec dk_cX1_readOperands 5 rfl) (by decide) (fun d71 => ?_) (fun d71 => ?_)
  · skip
    refine kv_iload_n C 21 rfl 1 (kdec dk_cX1_readOperands 10 rfl) rfl rfl ?_
    refine kv_sipush C 24 rfl 128 (kdec dk_cX1_readOperands 11 rfl) rfl ?_
    refine kv_icmp_lt C 27 rfl 40 (kdec dk_cX1_readOperands 12 rfl) (by decide) (fun d72 => ?_) (fun d72 => ?_)
    · skip
      refine kv_iload_n C 41 rfl 1 (kdec dk_cX1_readOperands 22 rfl) rfl rfl ?_
      refine kv_bipush C 43 rfl 64 (kdec dk_cX1_readOperands 23 rfl) rfl ?_
      refine kv_iand C 44 rfl (kdec dk_cX1_readOperands 24 rfl) (fun x73 h74e h74l h74u => ?_)
      refine kv_if_eq C 47 rfl 51 (kdec dk_cX1_readOperands 25 rfl) (by decide) (fun d75 => ?_) (fun d75 => ?_)
      · skip
        refine kv_iconst C 52 rfl 1 (kdec dk_cX1_readOperands 28 rfl) rfl ?_
        exact cut52 w67 a1 1 I69 F70 (by rw [(kup_eq u68)]; try omega)
      · skip
        refine kv_iconst C 48 rfl 2 (kdec dk_cX1_readOperands 26 rfl) rfl ?_
        refine kv_goto C 52 (kdec dk_cX1_readOperands 27 rfl) (by decide) ?_
        exact cut52 w67 a1 2 I69 F70 (by rw [(kup_eq u68)]; try omega)
    · skip
      refine kv_iload_n C 28 rfl 1 (kdec dk_cX1_readOperands 13 rfl) rfl rfl ?_
      refine kv_bipush C 30 rfl 48 (kdec dk_cX1_readOperands 14 rfl) rfl ?_
      refine kv_iand C 31 rfl (kdec dk_cX1_readOperands 15 rfl) (fun x76 h77e h77l h77u => ?_)
      refine kv_iconst C 32 rfl 2 (kdec dk_cX1_readOperands 16 rfl) rfl ?_
      refine kv_ishl C 33 rfl (kdec dk_cX1_readOperands 17 rfl) (fun x78 h79e h79l h79u => ?_)
      refine kv_bipush C 35 rfl 63 (kdec dk_cX1_readOperands 18 rfl) rfl ?_
      refine kv_ior C 36 rfl (kdec dk_cX1_readOperands 19 rfl) (fun x80 h81e h81l h81u => ?_)
      refine kv_istore_n C 37 rfl 2 [1, 2, 0] [(0, .ref (ρ 20)), (1, .int a1), (2, .int x80)] (kdec dk_cX1_readOperands 20 rfl) rfl (by decide) rfl ?_
      refine kv_goto C 80 (kdec dk_cX1_readOperands 21 rfl) (by decide) ?_
      refine kV.sub [0, 2] (L' := [(0, .ref (ρ 20)), (2, .int x80)]) rfl ?_
      exact cut80 w67 x80 I69 F70 (by rw [(kup_eq u68)]; try omega)
  · skip
    refine kv_aload_n C 13 rfl 0 (kdec dk_cX1_readOperands 6 rfl) rfl rfl ?_
    refine kv_callVi (As := []) (rest := []) C 16 rfl 20 (k_e_fetch l D τ ρ σ w67  I69 ) rfl rfl mml_TaleMachine_Engine_87 mim_yX1_fetch mse_yX1_fetch mcd_yX1_fetch min_yX1_fetch hd_yX1_fetch rfl rfl rfl (by decide) rfl (Nat.le_of_ble_eq_true rfl) (kdec dk_cX1_readOperands 7 rfl) (fun x86 w82 h83 => ?_)
    obtain ⟨I84, f85, p87, p88⟩ := h83
    have F89 : kF [(2, some 9), (5, some 6), (20, some 7), (20, some 9), (23, none)] w w82 := kF_call F70 f85 (by decide)
    have g90 := kf_rng x86
    obtain ⟨x91, e92⟩ : ∃ z : Int32, w 2 9 = z := ⟨_, rfl⟩
    have b93 : (0 : Int) ≤ x91.toInt ∧ x91.toInt ≤ 13 := by rw [← e92]; exact hI 2 9
    have e94 : w67 2 9 = x91 := ((kup_ne u68 rfl : w67 2 9 = w 2 9).trans e92)
    obtain ⟨x95, e96⟩ : ∃ z : Int32, w82 2 9 = z := ⟨_, rfl⟩
    have b97 : (0 : Int) ≤ x95.toInt ∧ x95.toInt ≤ 13 := by rw [← e96]; exact I84 2 9
    rw [e94, e96] at p88
    refine kv_istore_n C 17 rfl 2 [1, 2, 0] [(0, .ref (ρ 20)), (1, .int a1), (2, .int x86)] (kdec dk_cX1_readOperands 8 rfl) rfl (by decide) rfl ?_
    refine kv_goto C 80 (kdec dk_cX1_readOperands 9 rfl) (by decide) ?_
    have e98 : w82 20 7 = 0 := ((f85 20 7 rfl : w82 20 7 = w67 20 7).trans (kup_eq u68))
    refine kV.sub [0, 2] (L' := [(0, .ref (ρ 20)), (2, .int x86)]) rfl ?_
    exact cut80 w82 x86 I84 F89 (by rw [e98]; try omega)

set_option maxHeartbeats 4000000 in
set_option maxRecDepth 100000 in
theorem k_e_afterOf (l : Launch) (D : va_G) (τ : Nat → ClassId) (ρ σ : Nat → Nat) (w : kw) (a1 : Int32) (hI : kI true w)  :
    kM l D τ ρ σ yX1_afterOf cX1_afterOf 4 (some .int) { frames := 0, cells := 0, slots := 0, locals := 0 } [.ref (ρ 20), .int a1] w
      (fun o w' => ∃ r : Int32, o = some (.int r) ∧ kI true w' ∧ kF [] w w') := by
  refine kM_of (own := "TaleMachine$Engine") rfl (by decide) (Nat.le_of_ble_eq_true rfl) ?_
  intro p e s m args below meth c C hr hlk
  have hF0 : kF [] w w := kF.rf
  have c_0 : (0 : Int32).toInt = 0 := by decide
  have c_1 : (1 : Int32).toInt = 1 := by decide
  have c_2 : (2 : Int32).toInt = 2 := by decide
  have c_4 : (4 : Int32).toInt = 4 := by decide
  have c_10 : (10 : Int32).toInt = 10 := by decide
  have c_15 : (15 : Int32).toInt = 15 := by decide
  have c_31 : (31 : Int32).toInt = 31 := by decide
  have c_128 : (128 : Int32).toInt = 128 := by decide
  have c_192 : (192 : Int32).toInt = 192 := by decide
  have c_224 : (224 : Int32).toInt = 224 := by decide
  refine kV.L (L' := [(0, .ref (ρ 20)), (1, .int a1)]) rfl ?_
  have g1 := kf_rng a1
  refine kv_iload_n C 1 rfl 1 (kdec dk_cX1_afterOf 0 rfl) rfl rfl ?_
  refine kv_sipush C 4 rfl 224 (kdec dk_cX1_afterOf 1 rfl) rfl ?_
  refine kv_icmp_lt C 7 rfl 52 (kdec dk_cX1_afterOf 2 rfl) (by decide) (fun d2 => ?_) (fun d2 => ?_)
  · skip
    refine kv_iload_n C 53 rfl 1 (kdec dk_cX1_afterOf 29 rfl) rfl rfl ?_
    refine kv_sipush C 56 rfl 192 (kdec dk_cX1_afterOf 30 rfl) rfl ?_
    refine kv_icmp_ge C 59 rfl 66 (kdec dk_cX1_afterOf 31 rfl) (by decide) (fun d3 => ?_) (fun d3 => ?_)
    · skip
      refine kv_aload_n C 67 rfl 0 (kdec dk_cX1_afterOf 35 rfl) rfl rfl ?_
      obtain ⟨x4, e5⟩ : ∃ z : Int32, w 20 7 = z := ⟨_, rfl⟩
      have b6 : (0 : Int) ≤ x4.toInt ∧ x4.toInt ≤ 4 := by rw [← e5]; exact hI 20 7
      refine kv_get C 70 rfl 20 7 rfl rfl inX1 (by decide) mfl_TaleMachine_Engine_105 rfl rfl (kdec dk_cX1_afterOf 36 rfl) e5 ?_
      refine kv_iconst C 71 rfl 2 (kdec dk_cX1_afterOf 37 rfl) rfl ?_
      refine kv_icmp_lt C 74 rfl 85 (kdec dk_cX1_afterOf 38 rfl) (by decide) (fun d7 => ?_) (fun d7 => ?_)
      · skip
        refine kv_iconst C 86 rfl 4 (kdec dk_cX1_afterOf 45 rfl) rfl ?_
        exact kv_iret C hr hlk (kdec dk_cX1_afterOf 46 rfl) ⟨_, rfl, hI, hF0⟩
      · skip
        refine kv_gets C 77 rfl kst2 mfl_TaleMachine_Engine_148 (kdec dk_cX1_afterOf 39 rfl) ?_
        refine kv_iload_n C 78 rfl 1 (kdec dk_cX1_afterOf 40 rfl) rfl rfl ?_
        refine kv_bipush C 80 rfl 31 (kdec dk_cX1_afterOf 41 rfl) rfl ?_
        refine kv_iand C 81 rfl (kdec dk_cX1_afterOf 42 rfl) (fun x8 h9e h9l h9u => ?_)
        have g10 := kf_and31 h9e
        refine kv_sld C 82 rfl kst2 (by omega) (by omega) (kdec dk_cX1_afterOf 43 rfl) (fun x11 => ?_)
        refine kv_goto C 86 (kdec dk_cX1_afterOf 44 rfl) (by decide) ?_
        exact kv_iret C hr hlk (kdec dk_cX1_afterOf 46 rfl) ⟨_, rfl, hI, hF0⟩
    · skip
      refine kv_iload_n C 60 rfl 1 (kdec dk_cX1_afterOf 32 rfl) rfl rfl ?_
      refine kv_sipush C 63 rfl 128 (kdec dk_cX1_afterOf 33 rfl) rfl ?_
      refine kv_icmp_ge C 66 rfl 87 (kdec dk_cX1_afterOf 34 rfl) (by decide) (fun d12 => ?_) (fun d12 => ?_)
      · skip
        refine kv_aload_n C 88 rfl 0 (kdec dk_cX1_afterOf 47 rfl) rfl rfl ?_
        obtain ⟨x13, e14⟩ : ∃ z : Int32, w 20 7 = z := ⟨_, rfl⟩
        have b15 : (0 : Int) ≤ x13.toInt ∧ x13.toInt ≤ 4 := by rw [← e14]; exact hI 20 7
        refine kv_get C 91 rfl 20 7 rfl rfl inX1 (by decide) mfl_TaleMachine_Engine_105 rfl rfl (kdec dk_cX1_afterOf 48 rfl) e14 ?_
        refine kv_if_ne C 94 rfl 105 (kdec dk_cX1_afterOf 49 rfl) (by decide) (fun d16 => ?_) (fun d16 => ?_)
        · skip
          refine kv_gets C 108 rfl kst4 mfl_TaleMachine_Engine_154 (kdec dk_cX1_afterOf 56 rfl) ?_
          refine kv_iload_n C 109 rfl 1 (kdec dk_cX1_afterOf 57 rfl) rfl rfl ?_
          refine kv_bipush C 111 rfl 15 (kdec dk_cX1_afterOf 58 rfl) rfl ?_
          refine kv_iand C 112 rfl (kdec dk_cX1_afterOf 59 rfl) (fun x17 h18e h18l h18u => ?_)
          have g19 := kf_and15 h18e
          refine kv_sld C 113 rfl kst4 (by omega) (by omega) (kdec dk_cX1_afterOf 60 rfl) (fun x20 => ?_)
          exact kv_iret C hr hlk (kdec dk_cX1_afterOf 61 rfl) ⟨_, rfl, hI, hF0⟩
        · skip
          refine kv_gets C 97 rfl kst3 mfl_TaleMachine_Engine_151 (kdec dk_cX1_afterOf 50 rfl) ?_
          refine kv_iload_n C 98 rfl 1 (kdec dk_cX1_afterOf 51 rfl) rfl rfl ?_
          refine kv_bipush C 100 rfl 15 (kdec dk_cX1_afterOf 52 rfl) rfl ?_
          refine kv_iand C 101 rfl (kdec dk_cX1_afterOf 53 rfl) (fun x21 h22e h22l h22u => ?_)
          have g23 := kf_and15 h22e
          refine kv_sld C 102 rfl kst3 (by omega) (by omega) (kdec dk_cX1_afterOf 54 rfl) (fun x24 => ?_)
          refine kv_goto C 113 (kdec dk_cX1_afterOf 55 rfl) (by decide) ?_
          exact kv_iret C hr hlk (kdec dk_cX1_afterOf 61 rfl) ⟨_, rfl, hI, hF0⟩
      · skip
        refine kv_aload_n C 67 rfl 0 (kdec dk_cX1_afterOf 35 rfl) rfl rfl ?_
        obtain ⟨x25, e26⟩ : ∃ z : Int32, w 20 7 = z := ⟨_, rfl⟩
        have b27 : (0 : Int) ≤ x25.toInt ∧ x25.toInt ≤ 4 := by rw [← e26]; exact hI 20 7
        refine kv_get C 70 rfl 20 7 rfl rfl inX1 (by decide) mfl_TaleMachine_Engine_105 rfl rfl (kdec dk_cX1_afterOf 36 rfl) e26 ?_
        refine kv_iconst C 71 rfl 2 (kdec dk_cX1_afterOf 37 rfl) rfl ?_
        refine kv_icmp_lt C 74 rfl 85 (kdec dk_cX1_afterOf 38 rfl) (by decide) (fun d28 => ?_) (fun d28 => ?_)
        · skip
          refine kv_iconst C 86 rfl 4 (kdec dk_cX1_afterOf 45 rfl) rfl ?_
          exact kv_iret C hr hlk (kdec dk_cX1_afterOf 46 rfl) ⟨_, rfl, hI, hF0⟩
        · skip
          refine kv_gets C 77 rfl kst2 mfl_TaleMachine_Engine_148 (kdec dk_cX1_afterOf 39 rfl) ?_
          refine kv_iload_n C 78 rfl 1 (kdec dk_cX1_afterOf 40 rfl) rfl rfl ?_
          refine kv_bipush C 80 rfl 31 (kdec dk_cX1_afterOf 41 rfl) rfl ?_
          refine kv_iand C 81 rfl (kdec dk_cX1_afterOf 42 rfl) (fun x29 h30e h30l h30u => ?_)
          have g31 := kf_and31 h30e
          refine kv_sld C 82 rfl kst2 (by omega) (by omega) (kdec dk_cX1_afterOf 43 rfl) (fun x32 => ?_)
          refine kv_goto C 86 (kdec dk_cX1_afterOf 44 rfl) (by decide) ?_
          exact kv_iret C hr hlk (kdec dk_cX1_afterOf 46 rfl) ⟨_, rfl, hI, hF0⟩
  · skip
    refine kv_iload_n C 8 rfl 1 (kdec dk_cX1_afterOf 3 rfl) rfl rfl ?_
    refine kv_bipush C 10 rfl 31 (kdec dk_cX1_afterOf 4 rfl) rfl ?_
    refine kv_iand C 11 rfl (kdec dk_cX1_afterOf 5 rfl) (fun x33 h34e h34l h34u => ?_)
    have g35 := kf_and31 h34e
    refine kv_istore_n C 12 rfl 2 [1, 2, 0] [(0, .ref (ρ 20)), (1, .int a1), (2, .int x33)] (kdec dk_cX1_afterOf 6 rfl) rfl (by decide) rfl ?_
    refine kv_iload_n C 13 rfl 2 (kdec dk_cX1_afterOf 7 rfl) rfl rfl ?_
    refine kv_gets C 16 rfl kst0 mfl_TaleMachine_Engine_142 (kdec dk_cX1_afterOf 8 rfl) ?_
    refine kv_slen C 17 rfl 10 kst0 rfl (kdec dk_cX1_afterOf 9 rfl) ?_
    refine kv_icmp_ge C 20 rfl 36 (kdec dk_cX1_afterOf 10 rfl) (by decide) (fun d36 => ?_) (fun d36 => ?_)
    · skip
      refine kv_iconst C 37 rfl 0 (kdec dk_cX1_afterOf 19 rfl) rfl ?_
      refine kv_istore_n C 38 rfl 3 [1, 2, 3, 0] [(0, .ref (ρ 20)), (1, .int a1), (2, .int x33), (3, .int 0)] (kdec dk_cX1_afterOf 20 rfl) rfl (by decide) rfl ?_
      refine kv_iload_n C 39 rfl 3 (kdec dk_cX1_afterOf 21 rfl) rfl rfl ?_
      refine kv_if_eq C 42 rfl 50 (kdec dk_cX1_afterOf 22 rfl) (by decide) (fun d37 => ?_) (fun d37 => ?_)
      · skip
        refine kv_iconst C 51 rfl 4 (kdec dk_cX1_afterOf 27 rfl) rfl ?_
        exact kv_iret C hr hlk (kdec dk_cX1_afterOf 28 rfl) ⟨_, rfl, hI, hF0⟩
      · exfalso; omega
    · skip
      refine kv_aload_n C 21 rfl 0 (kdec dk_cX1_afterOf 11 rfl) rfl rfl ?_
      obtain ⟨x38, e39⟩ : ∃ z : Int32, w 20 7 = z := ⟨_, rfl⟩
      have b40 : (0 : Int) ≤ x38.toInt ∧ x38.toInt ≤ 4 := by rw [← e39]; exact hI 20 7
      refine kv_get C 24 rfl 20 7 rfl rfl inX1 (by decide) mfl_TaleMachine_Engine_105 rfl rfl (kdec dk_cX1_afterOf 12 rfl) e39 ?_
      refine kv_gets C 27 rfl kst1 mfl_TaleMachine_Engine_145 (kdec dk_cX1_afterOf 13 rfl) ?_
      refine kv_iload_n C 28 rfl 2 (kdec dk_cX1_afterOf 14 rfl) rfl rfl ?_
      refine kv_sld C 29 rfl kst1 (by omega) (by omega) (kdec dk_cX1_afterOf 15 rfl) (fun x41 => ?_)
      refine kv_icmp_lt C 32 rfl 36 (kdec dk_cX1_afterOf 16 rfl) (by decide) (fun d42 => ?_) (fun d42 => ?_)
      · skip
        refine kv_iconst C 37 rfl 0 (kdec dk_cX1_afterOf 19 rfl) rfl ?_
        refine kv_istore_n C 38 rfl 3 [1, 2, 3, 0] [(0, .ref (ρ 20)), (1, .int a1), (2, .int x33), (3, .int 0)] (kdec dk_cX1_afterOf 20 rfl) rfl (by decide) rfl ?_
        refine kv_iload_n C 39 rfl 3 (kdec dk_cX1_afterOf 21 rfl) rfl rfl ?_
        refine kv_if_eq C 42 rfl 50 (kdec dk_cX1_afterOf 22 rfl) (by decide) (fun d43 => ?_) (fun d43 => ?_)
        · skip
          refine kv_iconst C 51 rfl 4 (kdec dk_cX1_afterOf 27 rfl) rfl ?_
          exact kv_iret C hr hlk (kdec dk_cX1_afterOf 28 rfl) ⟨_, rfl, hI, hF0⟩
        · exfalso; omega
      · skip
        refine kv_iconst C 33 rfl 1 (kdec dk_cX1_afterOf 17 rfl) rfl ?_
        refine kv_goto C 37 (kdec dk_cX1_afterOf 18 rfl) (by decide) ?_
        refine kv_istore_n C 38 rfl 3 [1, 2, 3, 0] [(0, .ref (ρ 20)), (1, .int a1), (2, .int x33), (3, .int 1)] (kdec dk_cX1_afterOf 20 rfl) rfl (by decide) rfl ?_
        refine kv_iload_n C 39 rfl 3 (kdec dk_cX1_afterOf 21 rfl) rfl rfl ?_
        refine kv_if_eq C 42 rfl 50 (kdec dk_cX1_afterOf 22 rfl) (by decide) (fun d44 => ?_) (fun d44 => ?_)
        · exfalso; omega
        · skip
          refine kv_gets C 45 rfl kst0 mfl_TaleMachine_Engine_142 (kdec dk_cX1_afterOf 23 rfl) ?_
          refine kv_iload_n C 46 rfl 2 (kdec dk_cX1_afterOf 24 rfl) rfl rfl ?_
          refine kv_sld C 47 rfl kst0 (by omega) (by omega) (kdec dk_cX1_afterOf 25 rfl) (fun x45 => ?_)
          refine kv_goto C 51 (kdec dk_cX1_afterOf 26 rfl) (by decide) ?_
          exact kv_iret C hr hlk (kdec dk_cX1_afterOf 28 rfl) ⟨_, rfl, hI, hF0⟩

set_option maxHeartbeats 4000000 in
set_option maxRecDepth 100000 in
theorem k_e_giveBack (l : Launch) (D : va_G) (τ : Nat → ClassId) (ρ σ : Nat → Nat) (w : kw) (a1 : Int32) (hI : kI true w)  :
    kM l D τ ρ σ yX1_giveBack cX1_giveBack 3 none { frames := 3, cells := 0, slots := 0, locals := 108 } [.ref (ρ 20), .int a1] w
      (fun o w' => o = none ∧ kI true w' ∧ kF [(2, some 9), (3, none), (5, some 6), (5, some 7), (6, none), (7, none), (20, some 9)] w w') := by
  refine kM_of (own := "TaleMachine$Engine") rfl (by decide) (Nat.le_of_ble_eq_true rfl) ?_
  intro p e s m args below meth c C hr hlk
  have hF0 : kF [(2, some 9), (3, none), (5, some 6), (5, some 7), (6, none), (7, none), (20, some 9)] w w := kF.rf
  have c_1 : (1 : Int32).toInt = 1 := by decide
  have c_2 : (2 : Int32).toInt = 2 := by decide
  have c_4 : (4 : Int32).toInt = 4 := by decide
  refine kV.L (L' := [(0, .ref (ρ 20)), (1, .int a1)]) rfl ?_
  have g1 := kf_rng a1
  refine kv_aload_n C 1 rfl 0 (kdec dk_cX1_giveBack 0 rfl) rfl rfl ?_
  refine kv_getr C 4 rfl 20 1 rfl rfl inX1 (by decide) mfl_TaleMachine_Engine_15 rfl rfl (kdec dk_cX1_giveBack 1 rfl) ?_
  obtain ⟨x2, e3⟩ : ∃ z : Int32, w 5 7 = z := ⟨_, rfl⟩
  have b4 : (1 : Int) ≤ x2.toInt ∧ x2.toInt ≤ 20 := by rw [← e3]; exact hI 5 7
  refine kv_getN C 7 rfl 5 7 rfl rfl inX3 (by decide) mfn_TaleMachine_Engine_170 rfl rfl (kdec dk_cX1_giveBack 2 rfl) e3 ?_
  refine kv_iconst C 8 rfl 2 (kdec dk_cX1_giveBack 3 rfl) rfl ?_
  refine kv_icmp_ge C 11 rfl 19 (kdec dk_cX1_giveBack 4 rfl) (by decide) (fun d5 => ?_) (fun d5 => ?_)
  · skip
    refine kv_aload_n C 20 rfl 0 (kdec dk_cX1_giveBack 9 rfl) rfl rfl ?_
    refine kv_getr C 23 rfl 20 0 rfl rfl inX1 (by decide) mfl_TaleMachine_Engine_9 rfl rfl (kdec dk_cX1_giveBack 10 rfl) ?_
    obtain ⟨x6, e7⟩ : ∃ z : Int32, w 2 9 = z := ⟨_, rfl⟩
    have b8 : (0 : Int) ≤ x6.toInt ∧ x6.toInt ≤ 13 := by rw [← e7]; exact hI 2 9
    refine kv_getN C 26 rfl 2 9 rfl rfl inX6 (by decide) mfn_TaleMachine_Engine_67 rfl rfl (kdec dk_cX1_giveBack 11 rfl) e7 ?_
    refine kv_if_eq C 29 rfl 30 (kdec dk_cX1_giveBack 12 rfl) (by decide) (fun d9 => ?_) (fun d9 => ?_)
    · skip
      refine kv_aload_n C 31 rfl 0 (kdec dk_cX1_giveBack 14 rfl) rfl rfl ?_
      refine kv_getr C 34 rfl 20 1 rfl rfl inX1 (by decide) mfl_TaleMachine_Engine_15 rfl rfl (kdec dk_cX1_giveBack 15 rfl) ?_
      refine kv_getrN C 37 rfl 5 4 rfl rfl inX3 (by decide) mfn_TaleMachine_Engine_173 rfl rfl (kdec dk_cX1_giveBack 16 rfl) ?_
      refine kv_aload_n C 38 rfl 0 (kdec dk_cX1_giveBack 17 rfl) rfl rfl ?_
      refine kv_getr C 41 rfl 20 1 rfl rfl inX1 (by decide) mfl_TaleMachine_Engine_15 rfl rfl (kdec dk_cX1_giveBack 18 rfl) ?_
      refine kv_getN C 44 rfl 5 7 rfl rfl inX3 (by decide) mfn_TaleMachine_Engine_170 rfl rfl (kdec dk_cX1_giveBack 19 rfl) e3 ?_
      refine kv_iconst C 45 rfl 1 (kdec dk_cX1_giveBack 20 rfl) rfl ?_
      refine kv_isub C 46 rfl (kdec dk_cX1_giveBack 21 rfl) (fun x10 q12 h11e h11 h11l h11u => ?_)
      try have h11n : x10.toInt = x2.toInt - (1 : Int32).toInt := by omega
      clear h11 q12
      obtain ⟨x13, e14⟩ : ∃ z : Int32, w 10 (x10 : Int32).toNatClampNeg = z := ⟨_, rfl⟩
      have b15 : (0 : Int) ≤ x13.toInt ∧ x13.toInt ≤ 255 := by rw [← e14]; exact hI 10 _
      refine kv_iald C 47 rfl 10 rfl (by omega) (by omega) e14 (kdec dk_cX1_giveBack 22 rfl) ?_
      refine kv_istore_n C 48 rfl 2 [1, 2, 0] [(0, .ref (ρ 20)), (1, .int a1), (2, .int x13)] (kdec dk_cX1_giveBack 23 rfl) rfl (by decide) rfl ?_
      refine kv_aload_n C 49 rfl 0 (kdec dk_cX1_giveBack 24 rfl) rfl rfl ?_
      refine kv_aload_n C 50 rfl 0 (kdec dk_cX1_giveBack 25 rfl) rfl rfl ?_
      refine kv_getr C 53 rfl 20 1 rfl rfl inX1 (by decide) mfl_TaleMachine_Engine_15 rfl rfl (kdec dk_cX1_giveBack 26 rfl) ?_
      refine kv_getrN C 56 rfl 5 5 rfl rfl inX3 (by decide) mfn_TaleMachine_Engine_176 rfl rfl (kdec dk_cX1_giveBack 27 rfl) ?_
      refine kv_aload_n C 57 rfl 0 (kdec dk_cX1_giveBack 28 rfl) rfl rfl ?_
      refine kv_getr C 60 rfl 20 1 rfl rfl inX1 (by decide) mfl_TaleMachine_Engine_15 rfl rfl (kdec dk_cX1_giveBack 29 rfl) ?_
      refine kv_getN C 63 rfl 5 7 rfl rfl inX3 (by decide) mfn_TaleMachine_Engine_170 rfl rfl (kdec dk_cX1_giveBack 30 rfl) e3 ?_
      refine kv_iconst C 64 rfl 1 (kdec dk_cX1_giveBack 31 rfl) rfl ?_
      refine kv_isub C 65 rfl (kdec dk_cX1_giveBack 32 rfl) (fun x16 q18 h17e h17 h17l h17u => ?_)
      try have h17n : x16.toInt = x2.toInt - (1 : Int32).toInt := by omega
      clear h17 q18
      obtain ⟨x19, e20⟩ : ∃ z : Int32, w 11 (x16 : Int32).toNatClampNeg = z := ⟨_, rfl⟩
      have b21 : (-2147483648 : Int) ≤ x19.toInt ∧ x19.toInt ≤ 2147483647 := by rw [← e20]; exact hI 11 _
      refine kv_iald C 66 rfl 11 rfl (by omega) (by omega) e20 (kdec dk_cX1_giveBack 33 rfl) ?_
      refine kv_put C 69 rfl 20 9 rfl rfl inX1 (by decide) mfl_TaleMachine_Engine_56 rfl tyX1 tyX1_ok nmX1 rfl rfl (kdec dk_cX1_giveBack 34 rfl) rfl rfl (fun w22 u23 => ?_)
      have I24 : kI true w22 := kI_put u23 hI (kf_rng _).1 (kf_rng _).2
      have F25 : kF [(2, some 9), (3, none), (5, some 6), (5, some 7), (6, none), (7, none), (20, some 9)] w w22 := kF_put u23 hF0 rfl
      refine kv_aload_n C 70 rfl 0 (kdec dk_cX1_giveBack 35 rfl) rfl rfl ?_
      refine kv_getr C 73 rfl 20 1 rfl rfl inX1 (by decide) mfl_TaleMachine_Engine_15 rfl rfl (kdec dk_cX1_giveBack 36 rfl) ?_
      have e26 : w22 5 7 = x2 := ((kup_ne u23 rfl : w22 5 7 = w 5 7).trans e3)
      refine kv_callVNv (As := []) (rest := []) C 76 rfl 5 (k_leave l D τ ρ σ w22  I24 (by rw [e26]; try omega)) rfl rfl mmn_TaleMachine_Engine_179 mim_yX3_leave mse_yX3_leave mcd_yX3_leave min_yX3_leave hd_yX3_leave rfl rfl rfl (by decide) rfl (Nat.le_of_ble_eq_true rfl) (kdec dk_cX1_giveBack 37 rfl) (fun w27 h28 => ?_)
      obtain ⟨I29, f30⟩ := h28
      have F32 : kF [(2, some 9), (3, none), (5, some 6), (5, some 7), (6, none), (7, none), (20, some 9)] w w27 := kF_call F25 f30 (by decide)
      refine kv_aload_n C 77 rfl 0 (kdec dk_cX1_giveBack 38 rfl) rfl rfl ?_
      refine kv_getr C 80 rfl 20 2 rfl rfl inX1 (by decide) mfl_TaleMachine_Engine_32 rfl rfl (kdec dk_cX1_giveBack 39 rfl) ?_
      refine kv_iload_n C 81 rfl 2 (kdec dk_cX1_giveBack 40 rfl) rfl rfl ?_
      refine kv_iload_n C 82 rfl 1 (kdec dk_cX1_giveBack 41 rfl) rfl rfl ?_
      refine kv_callVNv (As := [.int x13, .int a1]) (rest := []) C 85 rfl 21 (k_assign l D τ ρ σ w27 x13 a1 I29 (by omega)) rfl rfl mmn_TaleMachine_Engine_157 mim_yX8_assign mse_yX8_assign mcd_yX8_assign min_yX8_assign hd_yX8_assign rfl rfl rfl (by decide) rfl (Nat.le_of_ble_eq_true rfl) (kdec dk_cX1_giveBack 42 rfl) (fun w33 h34 => ?_)
      obtain ⟨I35, f36⟩ := h34
      have F38 : kF [(2, some 9), (3, none), (5, some 6), (5, some 7), (6, none), (7, none), (20, some 9)] w w33 := kF_call F32 f36 (by decide)
      exact kv_vret C hr hlk (kdec dk_cX1_giveBack 43 rfl) ⟨rfl, I35, F38⟩
    · skip
      exact kv_vret C hr hlk (kdec dk_cX1_giveBack 13 rfl) ⟨rfl, hI, hF0⟩
  · skip
    refine kv_aload_n C 12 rfl 0 (kdec dk_cX1_giveBack 5 rfl) rfl rfl ?_
    refine kv_getr C 15 rfl 20 0 rfl rfl inX1 (by decide) mfl_TaleMachine_Engine_9 rfl rfl (kdec dk_cX1_giveBack 6 rfl) ?_
    refine kv_iconst C 16 rfl 4 (kdec dk_cX1_giveBack 7 rfl) rfl ?_
    refine kv_callVNv (As := [.int 4]) (rest := []) C 19 rfl 2 (k_raise l D τ ρ σ w 4 hI (by omega)) rfl rfl mmn_TaleMachine_Engine_99 mim_yX6_raise mse_yX6_raise mcd_yX6_raise min_yX6_raise hd_yX6_raise rfl rfl rfl (by decide) rfl (Nat.le_of_ble_eq_true rfl) (kdec dk_cX1_giveBack 8 rfl) (fun w39 h40 => ?_)
    obtain ⟨I41, f42, p44⟩ := h40
    have F45 : kF [(2, some 9), (3, none), (5, some 6), (5, some 7), (6, none), (7, none), (20, some 9)] w w39 := kF_call hF0 f42 (by decide)
    obtain ⟨x46, e47⟩ : ∃ z : Int32, w 2 9 = z := ⟨_, rfl⟩
    have b48 : (0 : Int) ≤ x46.toInt ∧ x46.toInt ≤ 13 := by rw [← e47]; exact hI 2 9
    obtain ⟨x49, e50⟩ : ∃ z : Int32, w39 2 9 = z := ⟨_, rfl⟩
    have b51 : (0 : Int) ≤ x49.toInt ∧ x49.toInt ≤ 13 := by rw [← e50]; exact I41 2 9
    rw [e47, e50] at p44
    refine kv_aload_n C 20 rfl 0 (kdec dk_cX1_giveBack 9 rfl) rfl rfl ?_
    refine kv_getr C 23 rfl 20 0 rfl rfl inX1 (by decide) mfl_TaleMachine_Engine_9 rfl rfl (kdec dk_cX1_giveBack 10 rfl) ?_
    refine kv_getN C 26 rfl 2 9 rfl rfl inX6 (by decide) mfn_TaleMachine_Engine_67 rfl rfl (kdec dk_cX1_giveBack 11 rfl) e50 ?_
    refine kv_if_eq C 29 rfl 30 (kdec dk_cX1_giveBack 12 rfl) (by decide) (fun d52 => ?_) (fun d52 => ?_)
    · skip
      refine kv_aload_n C 31 rfl 0 (kdec dk_cX1_giveBack 14 rfl) rfl rfl ?_
      refine kv_getr C 34 rfl 20 1 rfl rfl inX1 (by decide) mfl_TaleMachine_Engine_15 rfl rfl (kdec dk_cX1_giveBack 15 rfl) ?_
      refine kv_getrN C 37 rfl 5 4 rfl rfl inX3 (by decide) mfn_TaleMachine_Engine_173 rfl rfl (kdec dk_cX1_giveBack 16 rfl) ?_
      refine kv_aload_n C 38 rfl 0 (kdec dk_cX1_giveBack 17 rfl) rfl rfl ?_
      refine kv_getr C 41 rfl 20 1 rfl rfl inX1 (by decide) mfl_TaleMachine_Engine_15 rfl rfl (kdec dk_cX1_giveBack 18 rfl) ?_
      have e53 : w39 5 7 = x2 := ((f42 5 7 rfl : w39 5 7 = w 5 7).trans e3)
      refine kv_getN C 44 rfl 5 7 rfl rfl inX3 (by decide) mfn_TaleMachine_Engine_170 rfl rfl (kdec dk_cX1_giveBack 19 rfl) e53 ?_
      refine kv_iconst C 45 rfl 1 (kdec dk_cX1_giveBack 20 rfl) rfl ?_
      refine kv_isub C 46 rfl (kdec dk_cX1_giveBack 21 rfl) (fun x54 q56 h55e h55 h55l h55u => ?_)
      try have h55n : x54.toInt = x2.toInt - (1 : Int32).toInt := by omega
      clear h55 q56
      obtain ⟨x57, e58⟩ : ∃ z : Int32, w39 10 (x54 : Int32).toNatClampNeg = z := ⟨_, rfl⟩
      have b59 : (0 : Int) ≤ x57.toInt ∧ x57.toInt ≤ 255 := by rw [← e58]; exact I41 10 _
      refine kv_iald C 47 rfl 10 rfl (by omega) (by omega) e58 (kdec dk_cX1_giveBack 22 rfl) ?_
      refine kv_istore_n C 48 rfl 2 [1, 2, 0] [(0, .ref (ρ 20)), (1, .int a1), (2, .int x57)] (kdec dk_cX1_giveBack 23 rfl) rfl (by decide) rfl ?_
      refine kv_aload_n C 49 rfl 0 (kdec dk_cX1_giveBack 24 rfl) rfl rfl ?_
      refine kv_aload_n C 50 rfl 0 (kdec dk_cX1_giveBack 25 rfl) rfl rfl ?_
      refine kv_getr C 53 rfl 20 1 rfl rfl inX1 (by decide) mfl_TaleMachine_Engine_15 rfl rfl (kdec dk_cX1_giveBack 26 rfl) ?_
      refine kv_getrN C 56 rfl 5 5 rfl rfl inX3 (by decide) mfn_TaleMachine_Engine_176 rfl rfl (kdec dk_cX1_giveBack 27 rfl) ?_
      refine kv_aload_n C 57 rfl 0 (kdec dk_cX1_giveBack 28 rfl) rfl rfl ?_
      refine kv_getr C 60 rfl 20 1 rfl rfl inX1 (by decide) mfl_TaleMachine_Engine_15 rfl rfl (kdec dk_cX1_giveBack 29 rfl) ?_
      refine kv_getN C 63 rfl 5 7 rfl rfl inX3 (by decide) mfn_TaleMachine_Engine_170 rfl rfl (kdec dk_cX1_giveBack 30 rfl) e53 ?_
      refine kv_iconst C 64 rfl 1 (kdec dk_cX1_giveBack 31 rfl) rfl ?_
      refine kv_isub C 65 rfl (kdec dk_cX1_giveBack 32 rfl) (fun x60 q62 h61e h61 h61l h61u => ?_)
      try have h61n : x60.toInt = x2.toInt - (1 : Int32).toInt := by omega
      clear h61 q62
      obtain ⟨x63, e64⟩ : ∃ z : Int32, w39 11 (x60 : Int32).toNatClampNeg = z := ⟨_, rfl⟩
      have b65 : (-2147483648 : Int) ≤ x63.toInt ∧ x63.toInt ≤ 2147483647 := by rw [← e64]; exact I41 11 _
      refine kv_iald C 66 rfl 11 rfl (by omega) (by omega) e64 (kdec dk_cX1_giveBack 33 rfl) ?_
      refine kv_put C 69 rfl 20 9 rfl rfl inX1 (by decide) mfl_TaleMachine_Engine_56 rfl tyX1 tyX1_ok nmX1 rfl rfl (kdec dk_cX1_giveBack 34 rfl) rfl rfl (fun w66 u67 => ?_)
      have I68 : kI true w66 := kI_put u67 I41 (kf_rng _).1 (kf_rng _).2
      have F69 : kF [(2, some 9), (3, none), (5, some 6), (5, some 7), (6, none), (7, none), (20, some 9)] w w66 := kF_put u67 F45 rfl
      refine kv_aload_n C 70 rfl 0 (kdec dk_cX1_giveBack 35 rfl) rfl rfl ?_
      refine kv_getr C 73 rfl 20 1 rfl rfl inX1 (by decide) mfl_TaleMachine_Engine_15 rfl rfl (kdec dk_cX1_giveBack 36 rfl) ?_
      have e70 : w66 5 7 = x2 := ((kup_ne u67 rfl : w66 5 7 = w39 5 7).trans e53)
      refine kv_callVNv (As := []) (rest := []) C 76 rfl 5 (k_leave l D τ ρ σ w66  I68 (by rw [e70]; try omega)) rfl rfl mmn_TaleMachine_Engine_179 mim_yX3_leave mse_yX3_leave mcd_yX3_leave min_yX3_leave hd_yX3_leave rfl rfl rfl (by decide) rfl (Nat.le_of_ble_eq_true rfl) (kdec dk_cX1_giveBack 37 rfl) (fun w71 h72 => ?_)
      obtain ⟨I73, f74⟩ := h72
      have F76 : kF [(2, some 9), (3, none), (5, some 6), (5, some 7), (6, none), (7, none), (20, some 9)] w w71 := kF_call F69 f74 (by decide)
      refine kv_aload_n C 77 rfl 0 (kdec dk_cX1_giveBack 38 rfl) rfl rfl ?_
      refine kv_getr C 80 rfl 20 2 rfl rfl inX1 (by decide) mfl_TaleMachine_Engine_32 rfl rfl (kdec dk_cX1_giveBack 39 rfl) ?_
      refine kv_iload_n C 81 rfl 2 (kdec dk_cX1_giveBack 40 rfl) rfl rfl ?_
      refine kv_iload_n C 82 rfl 1 (kdec dk_cX1_giveBack 41 rfl) rfl rfl ?_
      refine kv_callVNv (As := [.int x57, .int a1]) (rest := []) C 85 rfl 21 (k_assign l D τ ρ σ w71 x57 a1 I73 (by omega)) rfl rfl mmn_TaleMachine_Engine_157 mim_yX8_assign mse_yX8_assign mcd_yX8_assign min_yX8_assign hd_yX8_assign rfl rfl rfl (by decide) rfl (Nat.le_of_ble_eq_true rfl) (kdec dk_cX1_giveBack 42 rfl) (fun w77 h78 => ?_)
      obtain ⟨I79, f80⟩ := h78
      have F82 : kF [(2, some 9), (3, none), (5, some 6), (5, some 7), (6, none), (7, none), (20, some 9)] w w77 := kF_call F76 f80 (by decide)
      exact kv_vret C hr hlk (kdec dk_cX1_giveBack 43 rfl) ⟨rfl, I79, F82⟩
    · skip
      exact kv_vret C hr hlk (kdec dk_cX1_giveBack 13 rfl) ⟨rfl, I41, F45⟩

set_option maxHeartbeats 4000000 in
set_option maxRecDepth 100000 in
theorem k_e_moveBy (l : Launch) (D : va_G) (τ : Nat → ClassId) (ρ σ : Nat → Nat) (w : kw) (a1 : Int32) (hI : kI true w)  :
    kM l D τ ρ σ yX1_moveBy cX1_moveBy 2 none { frames := 4, cells := 0, slots := 0, locals := 144 } [.ref (ρ 20), .int a1] w
      (fun o w' => o = none ∧ kI true w' ∧ kF [(2, some 9), (3, none), (5, some 6), (5, some 7), (6, none), (7, none), (20, some 9)] w w') := by
  refine kM_of (own := "TaleMachine$Engine") rfl (by decide) (Nat.le_of_ble_eq_true rfl) ?_
  intro p e s m args below meth c C hr hlk
  have hF0 : kF [(2, some 9), (3, none), (5, some 6), (5, some 7), (6, none), (7, none), (20, some 9)] w w := kF.rf
  have c_1 : (1 : Int32).toInt = 1 := by decide
  have c_2 : (2 : Int32).toInt = 2 := by decide
  have c_65535 : (65535 : Int32).toInt = 65535 := by decide
  refine kV.L (L' := [(0, .ref (ρ 20)), (1, .int a1)]) rfl ?_
  have g1 := kf_rng a1
  refine kv_iload_n C 1 rfl 1 (kdec dk_cX1_moveBy 0 rfl) rfl rfl ?_
  refine kv_if_eq C 4 rfl 9 (kdec dk_cX1_moveBy 1 rfl) (by decide) (fun d2 => ?_) (fun d2 => ?_)
  · skip
    refine kv_aload_n C 10 rfl 0 (kdec dk_cX1_moveBy 5 rfl) rfl rfl ?_
    refine kv_iload_n C 11 rfl 1 (kdec dk_cX1_moveBy 6 rfl) rfl rfl ?_
    refine kv_callVv (As := [.int a1]) (rest := []) C 14 rfl 20 (k_e_giveBack l D τ ρ σ w a1 hI ) rfl rfl mml_TaleMachine_Engine_167 mim_yX1_giveBack mse_yX1_giveBack mcd_yX1_giveBack min_yX1_giveBack hd_yX1_giveBack rfl rfl rfl (by decide) rfl (Nat.le_of_ble_eq_true rfl) (kdec dk_cX1_moveBy 7 rfl) (fun w3 h4 => ?_)
    obtain ⟨I5, f6⟩ := h4
    have F8 : kF [(2, some 9), (3, none), (5, some 6), (5, some 7), (6, none), (7, none), (20, some 9)] w w3 := kF_call hF0 f6 (by decide)
    refine kv_goto C 32 (kdec dk_cX1_moveBy 8 rfl) (by decide) ?_
    exact kv_vret C hr hlk (kdec dk_cX1_moveBy 19 rfl) ⟨rfl, I5, F8⟩
  · skip
    refine kv_iload_n C 5 rfl 1 (kdec dk_cX1_moveBy 2 rfl) rfl rfl ?_
    refine kv_iconst C 6 rfl 1 (kdec dk_cX1_moveBy 3 rfl) rfl ?_
    refine kv_icmp_ne C 9 rfl 17 (kdec dk_cX1_moveBy 4 rfl) (by decide) (fun d9 => ?_) (fun d9 => ?_)
    · skip
      refine kv_aload_n C 18 rfl 0 (kdec dk_cX1_moveBy 9 rfl) rfl rfl ?_
      refine kv_aload_n C 19 rfl 0 (kdec dk_cX1_moveBy 10 rfl) rfl rfl ?_
      obtain ⟨x10, e11⟩ : ∃ z : Int32, w 20 9 = z := ⟨_, rfl⟩
      have b12 : (-2147483648 : Int) ≤ x10.toInt ∧ x10.toInt ≤ 2147483647 := by rw [← e11]; exact hI 20 9
      refine kv_get C 22 rfl 20 9 rfl rfl inX1 (by decide) mfl_TaleMachine_Engine_56 rfl rfl (kdec dk_cX1_moveBy 11 rfl) e11 ?_
      refine kv_iload_n C 23 rfl 1 (kdec dk_cX1_moveBy 12 rfl) rfl rfl ?_
      refine kv_iadd C 24 rfl (kdec dk_cX1_moveBy 13 rfl) (fun x13 q15 h14e h14 h14l h14u => ?_)
      try have h14n : x13.toInt = x10.toInt + a1.toInt := by omega
      clear h14 q15
      refine kv_iconst C 25 rfl 2 (kdec dk_cX1_moveBy 14 rfl) rfl ?_
      refine kv_isub C 26 rfl (kdec dk_cX1_moveBy 15 rfl) (fun x16 q18 h17e h17 h17l h17u => ?_)
      try have h17n : x16.toInt = x13.toInt - (2 : Int32).toInt := by omega
      clear h17 q18
      refine kv_ldc C 28 rfl 65535 (kdec dk_cX1_moveBy 16 rfl) mco_TaleMachine_Engine_119 ?_
      refine kv_iand C 29 rfl (kdec dk_cX1_moveBy 17 rfl) (fun x19 h20e h20l h20u => ?_)
      have g21 := kf_and65535 h20e
      refine kv_put C 32 rfl 20 9 rfl rfl inX1 (by decide) mfl_TaleMachine_Engine_56 rfl tyX1 tyX1_ok nmX1 rfl rfl (kdec dk_cX1_moveBy 18 rfl) rfl rfl (fun w22 u23 => ?_)
      have I24 : kI true w22 := kI_put u23 hI (kf_rng _).1 (kf_rng _).2
      have F25 : kF [(2, some 9), (3, none), (5, some 6), (5, some 7), (6, none), (7, none), (20, some 9)] w w22 := kF_put u23 hF0 rfl
      exact kv_vret C hr hlk (kdec dk_cX1_moveBy 19 rfl) ⟨rfl, I24, F25⟩
    · skip
      refine kv_aload_n C 10 rfl 0 (kdec dk_cX1_moveBy 5 rfl) rfl rfl ?_
      refine kv_iload_n C 11 rfl 1 (kdec dk_cX1_moveBy 6 rfl) rfl rfl ?_
      refine kv_callVv (As := [.int a1]) (rest := []) C 14 rfl 20 (k_e_giveBack l D τ ρ σ w a1 hI ) rfl rfl mml_TaleMachine_Engine_167 mim_yX1_giveBack mse_yX1_giveBack mcd_yX1_giveBack min_yX1_giveBack hd_yX1_giveBack rfl rfl rfl (by decide) rfl (Nat.le_of_ble_eq_true rfl) (kdec dk_cX1_moveBy 7 rfl) (fun w26 h27 => ?_)
      obtain ⟨I28, f29⟩ := h27
      have F31 : kF [(2, some 9), (3, none), (5, some 6), (5, some 7), (6, none), (7, none), (20, some 9)] w w26 := kF_call hF0 f29 (by decide)
      refine kv_goto C 32 (kdec dk_cX1_moveBy 8 rfl) (by decide) ?_
      exact kv_vret C hr hlk (kdec dk_cX1_moveBy 19 rfl) ⟨rfl, I28, F31⟩

set_option maxHeartbeats 4000000 in
set_option maxRecDepth 100000 in
theorem k_e_answer (l : Launch) (D : va_G) (τ : Nat → ClassId) (ρ σ : Nat → Nat) (w : kw)  (hI : kI true w)  :
    kM l D τ ρ σ yX1_answer cX1_answer 2 none { frames := 3, cells := 0, slots := 0, locals := 108 } [.ref (ρ 20)] w
      (fun o w' => o = none ∧ kI true w' ∧ kF [(2, some 9), (3, none), (5, some 6), (6, none), (7, none), (20, some 9)] w w') := by
  refine kM_of (own := "TaleMachine$Engine") rfl (by decide) (Nat.le_of_ble_eq_true rfl) ?_
  intro p e s m args below meth c C hr hlk
  have hF0 : kF [(2, some 9), (3, none), (5, some 6), (6, none), (7, none), (20, some 9)] w w := kF.rf
  refine kV.L (L' := [(0, .ref (ρ 20))]) rfl ?_
  refine kv_aload_n C 1 rfl 0 (kdec dk_cX1_answer 0 rfl) rfl rfl ?_
  refine kv_callVi (As := []) (rest := []) C 4 rfl 20 (k_e_fetch l D τ ρ σ w  hI ) rfl rfl mml_TaleMachine_Engine_87 mim_yX1_fetch mse_yX1_fetch mcd_yX1_fetch min_yX1_fetch hd_yX1_fetch rfl rfl rfl (by decide) rfl (Nat.le_of_ble_eq_true rfl) (kdec dk_cX1_answer 1 rfl) (fun x5 w1 h2 => ?_)
  obtain ⟨I3, f4, p6, p7⟩ := h2
  have F8 : kF [(2, some 9), (3, none), (5, some 6), (6, none), (7, none), (20, some 9)] w w1 := kF_call hF0 f4 (by decide)
  have g9 := kf_rng x5
  obtain ⟨x10, e11⟩ : ∃ z : Int32, w 2 9 = z := ⟨_, rfl⟩
  have b12 : (0 : Int) ≤ x10.toInt ∧ x10.toInt ≤ 13 := by rw [← e11]; exact hI 2 9
  obtain ⟨x13, e14⟩ : ∃ z : Int32, w1 2 9 = z := ⟨_, rfl⟩
  have b15 : (0 : Int) ≤ x13.toInt ∧ x13.toInt ≤ 13 := by rw [← e14]; exact I3 2 9
  rw [e11, e14] at p7
  refine kv_istore_n C 5 rfl 1 [1, 0] [(0, .ref (ρ 20)), (1, .int x5)] (kdec dk_cX1_answer 2 rfl) rfl (by decide) rfl ?_
  refine kv_aload_n C 6 rfl 0 (kdec dk_cX1_answer 3 rfl) rfl rfl ?_
  refine kv_getr C 9 rfl 20 0 rfl rfl inX1 (by decide) mfl_TaleMachine_Engine_9 rfl rfl (kdec dk_cX1_answer 4 rfl) ?_
  refine kv_getN C 12 rfl 2 9 rfl rfl inX6 (by decide) mfn_TaleMachine_Engine_67 rfl rfl (kdec dk_cX1_answer 5 rfl) e14 ?_
  refine kv_if_ne C 15 rfl 27 (kdec dk_cX1_answer 6 rfl) (by decide) (fun d16 => ?_) (fun d16 => ?_)
  · skip
    exact kv_vret C hr hlk (kdec dk_cX1_answer 13 rfl) ⟨rfl, I3, F8⟩
  · skip
    refine kv_aload_n C 16 rfl 0 (kdec dk_cX1_answer 7 rfl) rfl rfl ?_
    refine kv_getr C 19 rfl 20 2 rfl rfl inX1 (by decide) mfl_TaleMachine_Engine_32 rfl rfl (kdec dk_cX1_answer 8 rfl) ?_
    refine kv_iload_n C 20 rfl 1 (kdec dk_cX1_answer 9 rfl) rfl rfl ?_
    refine kv_aload_n C 21 rfl 0 (kdec dk_cX1_answer 10 rfl) rfl rfl ?_
    obtain ⟨x17, e18⟩ : ∃ z : Int32, w 20 15 = z := ⟨_, rfl⟩
    have b19 : (-2147483648 : Int) ≤ x17.toInt ∧ x17.toInt ≤ 2147483647 := by rw [← e18]; exact hI 20 15
    have e20 : w1 20 15 = x17 := ((f4 20 15 rfl : w1 20 15 = w 20 15).trans e18)
    refine kv_get C 24 rfl 20 15 rfl rfl inX1 (by decide) mfl_TaleMachine_Engine_120 rfl rfl (kdec dk_cX1_answer 11 rfl) e20 ?_
    refine kv_callVNv (As := [.int x5, .int x17]) (rest := []) C 27 rfl 21 (k_assign l D τ ρ σ w1 x5 x17 I3 (by omega)) rfl rfl mmn_TaleMachine_Engine_157 mim_yX8_assign mse_yX8_assign mcd_yX8_assign min_yX8_assign hd_yX8_assign rfl rfl rfl (by decide) rfl (Nat.le_of_ble_eq_true rfl) (kdec dk_cX1_answer 12 rfl) (fun w21 h22 => ?_)
    obtain ⟨I23, f24⟩ := h22
    have F26 : kF [(2, some 9), (3, none), (5, some 6), (6, none), (7, none), (20, some 9)] w w21 := kF_call F8 f24 (by decide)
    exact kv_vret C hr hlk (kdec dk_cX1_answer 13 rfl) ⟨rfl, I23, F26⟩

set_option maxHeartbeats 4000000 in
set_option maxRecDepth 100000 in
theorem k_e_branch (l : Launch) (D : va_G) (τ : Nat → ClassId) (ρ σ : Nat → Nat) (w : kw)  (hI : kI true w)  :
    kM l D τ ρ σ yX1_branch cX1_branch 4 none { frames := 5, cells := 0, slots := 0, locals := 180 } [.ref (ρ 20)] w
      (fun o w' => o = none ∧ kI true w' ∧ kF [(2, some 9), (3, none), (5, some 6), (5, some 7), (6, none), (7, none), (20, some 9)] w w') := by
  refine kM_of (own := "TaleMachine$Engine") rfl (by decide) (Nat.le_of_ble_eq_true rfl) ?_
  intro p e s m args below meth c C hr hlk
  have hF0 : kF [(2, some 9), (3, none), (5, some 6), (5, some 7), (6, none), (7, none), (20, some 9)] w w := kF.rf
  have c_0 : (0 : Int32).toInt = 0 := by decide
  have c_1 : (1 : Int32).toInt = 1 := by decide
  have c_63 : (63 : Int32).toInt = 63 := by decide
  have c_64 : (64 : Int32).toInt = 64 := by decide
  have c_128 : (128 : Int32).toInt = 128 := by decide
  have c_256 : (256 : Int32).toInt = 256 := by decide
  have c_8192 : (8192 : Int32).toInt = 8192 := by decide
  have c_16384 : (16384 : Int32).toInt = 16384 := by decide
  refine kV.L (L' := [(0, .ref (ρ 20))]) rfl ?_
  have cut58 : ∀ (w_58 : kw) (l2_58 s0_58 : Int32), kI true w_58 → kF [(2, some 9), (3, none), (5, some 6), (5, some 7), (6, none), (7, none), (20, some 9)] w w_58 → kV p l e { frames := 5, cells := 0, slots := 0, locals := 180 } s m args below meth c (kQ below args s D τ ρ (fun o w' => o = none ∧ kI true w' ∧ kF [(2, some 9), (3, none), (5, some 6), (5, some 7), (6, none), (7, none), (20, some 9)] w w')) 4 D τ ρ 58 [(0, .ref (ρ 20)), (2, .int l2_58)] [.int s0_58] w_58 := by
    intro w_58 l2_58 s0_58 I_58 F_58 
    have gl2_58 := kf_rng l2_58
    have gs0_58 := kf_rng s0_58
    refine kv_istore_n C 59 rfl 3 [1, 2, 0] [(0, .ref (ρ 20)), (2, .int l2_58), (3, .int s0_58)] (kdec dk_cX1_branch 34 rfl) rfl (by decide) rfl ?_
    refine kv_aload_n C 60 rfl 0 (kdec dk_cX1_branch 35 rfl) rfl rfl ?_
    refine kv_getr C 63 rfl 20 0 rfl rfl inX1 (by decide) mfl_TaleMachine_Engine_9 rfl rfl (kdec dk_cX1_branch 36 rfl) ?_
    obtain ⟨x1, e2⟩ : ∃ z : Int32, w_58 2 9 = z := ⟨_, rfl⟩
    have b3 : (0 : Int) ≤ x1.toInt ∧ x1.toInt ≤ 13 := by rw [← e2]; exact I_58 2 9
    refine kv_getN C 66 rfl 2 9 rfl rfl inX6 (by decide) mfn_TaleMachine_Engine_67 rfl rfl (kdec dk_cX1_branch 37 rfl) e2 ?_
    refine kv_if_ne C 69 rfl 82 (kdec dk_cX1_branch 38 rfl) (by decide) (fun d4 => ?_) (fun d4 => ?_)
    · skip
      exact kv_vret C hr hlk (kdec dk_cX1_branch 46 rfl) ⟨rfl, I_58, F_58⟩
    · skip
      refine kv_iload_n C 70 rfl 2 (kdec dk_cX1_branch 39 rfl) rfl rfl ?_
      refine kv_aload_n C 71 rfl 0 (kdec dk_cX1_branch 40 rfl) rfl rfl ?_
      obtain ⟨x5, e6⟩ : ∃ z : Int32, w 20 16 = z := ⟨_, rfl⟩
      have b7 : (0 : Int) ≤ x5.toInt ∧ x5.toInt ≤ 1 := by rw [← e6]; exact hI 20 16
      have e8 : w_58 20 16 = x5 := ((F_58 20 16 rfl : w_58 20 16 = w 20 16).trans e6)
      refine kv_get C 74 rfl 20 16 rfl rfl inX1 (by decide) mfl_TaleMachine_Engine_160 rfl rfl (kdec dk_cX1_branch 41 rfl) e8 ?_
      refine kv_icmp_ne C 77 rfl 82 (kdec dk_cX1_branch 42 rfl) (by decide) (fun d9 => ?_) (fun d9 => ?_)
      · skip
        exact kv_vret C hr hlk (kdec dk_cX1_branch 46 rfl) ⟨rfl, I_58, F_58⟩
      · skip
        refine kv_aload_n C 78 rfl 0 (kdec dk_cX1_branch 43 rfl) rfl rfl ?_
        refine kv_iload_n C 79 rfl 1 (kdec dk_cX1_branch 44 rfl) rfl rfl ?_
        refine kv_callVv (As := [.int l2_58]) (rest := []) C 82 rfl 20 (k_e_moveBy l D τ ρ σ w_58 l2_58 I_58 ) rfl rfl mml_TaleMachine_Engine_164 mim_yX1_moveBy mse_yX1_moveBy mcd_yX1_moveBy min_yX1_moveBy hd_yX1_moveBy rfl rfl rfl (by decide) rfl (Nat.le_of_ble_eq_true rfl) (kdec dk_cX1_branch 45 rfl) (fun w10 h11 => ?_)
        obtain ⟨I12, f13⟩ := h11
        have F15 : kF [(2, some 9), (3, none), (5, some 6), (5, some 7), (6, none), (7, none), (20, some 9)] w w10 := kF_call F_58 f13 (by decide)
        exact kv_vret C hr hlk (kdec dk_cX1_branch 46 rfl) ⟨rfl, I12, F15⟩
  have cut45 : ∀ (w_45 : kw) (l1_45 l2_45 : Int32), kI true w_45 → kF [(2, some 9), (3, none), (5, some 6), (5, some 7), (6, none), (7, none), (20, some 9)] w w_45 → kV p l e { frames := 5, cells := 0, slots := 0, locals := 180 } s m args below meth c (kQ below args s D τ ρ (fun o w' => o = none ∧ kI true w' ∧ kF [(2, some 9), (3, none), (5, some 6), (5, some 7), (6, none), (7, none), (20, some 9)] w w')) 4 D τ ρ 45 [(0, .ref (ρ 20)), (1, .int l1_45), (2, .int l2_45)] [] w_45 := by
    intro w_45 l1_45 l2_45 I_45 F_45 
    have gl1_45 := kf_rng l1_45
    have gl2_45 := kf_rng l2_45
    refine kv_iload_n C 46 rfl 1 (kdec dk_cX1_branch 27 rfl) rfl rfl ?_
    refine kv_sipush C 49 rfl 128 (kdec dk_cX1_branch 28 rfl) rfl ?_
    refine kv_iand C 50 rfl (kdec dk_cX1_branch 29 rfl) (fun x16 h17e h17l h17u => ?_)
    refine kv_if_eq C 53 rfl 57 (kdec dk_cX1_branch 30 rfl) (by decide) (fun d18 => ?_) (fun d18 => ?_)
    · skip
      refine kv_iconst C 58 rfl 0 (kdec dk_cX1_branch 33 rfl) rfl ?_
      refine kV.sub [0, 2] (L' := [(0, .ref (ρ 20)), (2, .int l2_45)]) rfl ?_
      exact cut58 w_45 l2_45 0 I_45 F_45 
    · skip
      refine kv_iconst C 54 rfl 1 (kdec dk_cX1_branch 31 rfl) rfl ?_
      refine kv_goto C 58 (kdec dk_cX1_branch 32 rfl) (by decide) ?_
      refine kV.sub [0, 2] (L' := [(0, .ref (ρ 20)), (2, .int l2_45)]) rfl ?_
      exact cut58 w_45 l2_45 1 I_45 F_45 
  refine kv_aload_n C 1 rfl 0 (kdec dk_cX1_branch 0 rfl) rfl rfl ?_
  refine kv_callVi (As := []) (rest := []) C 4 rfl 20 (k_e_fetch l D τ ρ σ w  hI ) rfl rfl mml_TaleMachine_Engine_87 mim_yX1_fetch mse_yX1_fetch mcd_yX1_fetch min_yX1_fetch hd_yX1_fetch rfl rfl rfl (by decide) rfl (Nat.le_of_ble_eq_true rfl) (kdec dk_cX1_branch 1 rfl) (fun x23 w19 h20 => ?_)
  obtain ⟨I21, f22, p24, p25⟩ := h20
  have F26 : kF [(2, some 9), (3, none), (5, some 6), (5, some 7), (6, none), (7, none), (20, some 9)] w w19 := kF_call hF0 f22 (by decide)
  have g27 := kf_rng x23
  obtain ⟨x28, e29⟩ : ∃ z : Int32, w 2 9 = z := ⟨_, rfl⟩
  have b30 : (0 : Int) ≤ x28.toInt ∧ x28.toInt ≤ 13 := by rw [← e29]; exact hI 2 9
  obtain ⟨x31, e32⟩ : ∃ z : Int32, w19 2 9 = z := ⟨_, rfl⟩
  have b33 : (0 : Int) ≤ x31.toInt ∧ x31.toInt ≤ 13 := by rw [← e32]; exact I21 2 9
  rw [e29, e32] at p25
  refine kv_istore_n C 5 rfl 1 [1, 0] [(0, .ref (ρ 20)), (1, .int x23)] (kdec dk_cX1_branch 2 rfl) rfl (by decide) rfl ?_
  refine kv_iload_n C 6 rfl 1 (kdec dk_cX1_branch 3 rfl) rfl rfl ?_
  refine kv_bipush C 8 rfl 63 (kdec dk_cX1_branch 4 rfl) rfl ?_
  refine kv_iand C 9 rfl (kdec dk_cX1_branch 5 rfl) (fun x34 h35e h35l h35u => ?_)
  have g36 := kf_and63 h35e
  refine kv_istore_n C 10 rfl 2 [1, 2, 0] [(0, .ref (ρ 20)), (1, .int x23), (2, .int x34)] (kdec dk_cX1_branch 6 rfl) rfl (by decide) rfl ?_
  refine kv_iload_n C 11 rfl 1 (kdec dk_cX1_branch 7 rfl) rfl rfl ?_
  refine kv_bipush C 13 rfl 64 (kdec dk_cX1_branch 8 rfl) rfl ?_
  refine kv_iand C 14 rfl (kdec dk_cX1_branch 9 rfl) (fun x37 h38e h38l h38u => ?_)
  refine kv_if_ne C 17 rfl 45 (kdec dk_cX1_branch 10 rfl) (by decide) (fun d39 => ?_) (fun d39 => ?_)
  · skip
    exact cut45 w19 x23 x34 I21 F26 
  · skip
    refine kv_iload_n C 18 rfl 2 (kdec dk_cX1_branch 11 rfl) rfl rfl ?_
    refine kv_sipush C 21 rfl 256 (kdec dk_cX1_branch 12 rfl) rfl ?_
    refine kv_imul C 22 rfl (kdec dk_cX1_branch 13 rfl) (fun x40 h41e h41l h41u => ?_)
    obtain ⟨q42, g43⟩ := kf_mul x34 256
    rw [← h41e, c_256] at g43
    try have h41n : x40.toInt = 256 * x34.toInt := by omega
    clear g43 q42
    refine kv_aload_n C 23 rfl 0 (kdec dk_cX1_branch 14 rfl) rfl rfl ?_
    refine kv_callVi (As := []) (rest := [.int x40]) C 26 rfl 20 (k_e_fetch l D τ ρ σ w19  I21 ) rfl rfl mml_TaleMachine_Engine_87 mim_yX1_fetch mse_yX1_fetch mcd_yX1_fetch min_yX1_fetch hd_yX1_fetch rfl rfl rfl (by decide) rfl (Nat.le_of_ble_eq_true rfl) (kdec dk_cX1_branch 15 rfl) (fun x48 w44 h45 => ?_)
    obtain ⟨I46, f47, p49, p50⟩ := h45
    have F51 : kF [(2, some 9), (3, none), (5, some 6), (5, some 7), (6, none), (7, none), (20, some 9)] w w44 := kF_call F26 f47 (by decide)
    have g52 := kf_rng x48
    obtain ⟨x53, e54⟩ : ∃ z : Int32, w44 2 9 = z := ⟨_, rfl⟩
    have b55 : (0 : Int) ≤ x53.toInt ∧ x53.toInt ≤ 13 := by rw [← e54]; exact I46 2 9
    rw [e32, e54] at p50
    refine kv_iadd C 27 rfl (kdec dk_cX1_branch 16 rfl) (fun x56 q58 h57e h57 h57l h57u => ?_)
    try have h57n : x56.toInt = x40.toInt + x48.toInt := by omega
    clear h57 q58
    refine kv_istore_n C 28 rfl 2 [1, 2, 0] [(0, .ref (ρ 20)), (1, .int x23), (2, .int x56)] (kdec dk_cX1_branch 17 rfl) rfl (by decide) rfl ?_
    refine kv_iload_n C 29 rfl 2 (kdec dk_cX1_branch 18 rfl) rfl rfl ?_
    refine kv_sipush C 32 rfl 8192 (kdec dk_cX1_branch 19 rfl) rfl ?_
    refine kv_icmp_lt C 35 rfl 43 (kdec dk_cX1_branch 20 rfl) (by decide) (fun d59 => ?_) (fun d59 => ?_)
    · skip
      refine kv_iload_n C 44 rfl 2 (kdec dk_cX1_branch 25 rfl) rfl rfl ?_
      refine kv_istore_n C 45 rfl 2 [1, 2, 0] [(0, .ref (ρ 20)), (1, .int x23), (2, .int x56)] (kdec dk_cX1_branch 26 rfl) rfl (by decide) rfl ?_
      exact cut45 w44 x23 x56 I46 F51 
    · skip
      refine kv_iload_n C 36 rfl 2 (kdec dk_cX1_branch 21 rfl) rfl rfl ?_
      refine kv_sipush C 39 rfl 16384 (kdec dk_cX1_branch 22 rfl) rfl ?_
      refine kv_isub C 40 rfl (kdec dk_cX1_branch 23 rfl) (fun x60 q62 h61e h61 h61l h61u => ?_)
      try have h61n : x60.toInt = x56.toInt - (16384 : Int32).toInt := by omega
      clear h61 q62
      refine kv_goto C 44 (kdec dk_cX1_branch 24 rfl) (by decide) ?_
      refine kv_istore_n C 45 rfl 2 [1, 2, 0] [(0, .ref (ρ 20)), (1, .int x23), (2, .int x60)] (kdec dk_cX1_branch 26 rfl) rfl (by decide) rfl ?_
      exact cut45 w44 x23 x60 I46 F51 

set_option maxHeartbeats 4000000 in
set_option maxRecDepth 100000 in
theorem k_e_isAnyOfTheOthers (l : Launch) (D : va_G) (τ : Nat → ClassId) (ρ σ : Nat → Nat) (w : kw)  (hI : kI true w)  :
    kM l D τ ρ σ yX1_isAnyOfTheOthers cX1_isAnyOfTheOthers 2 (some .boolean) { frames := 0, cells := 0, slots := 0, locals := 0 } [.ref (ρ 20)] w
      (fun o w' => ∃ r : Int32, o = some (.int r) ∧ kI true w' ∧ kF [] w w' ∧ (0 ≤ r.toInt ∧ r.toInt ≤ 1)) := by
  refine kM_of (own := "TaleMachine$Engine") rfl (by decide) (Nat.le_of_ble_eq_true rfl) ?_
  intro p e s m args below meth c C hr hlk
  have hF0 : kF [] w w := kF.rf
  have c_0 : (0 : Int32).toInt = 0 := by decide
  have c_1 : (1 : Int32).toInt = 1 := by decide
  refine kV.L (L' := [(0, .ref (ρ 20))]) rfl ?_
  have cut2 : ∀ (n_2 : Nat) (w_2 : kw) (l1_2 : Int32), kI true w_2 → kF [] w w_2 → (1 ≤ l1_2.toInt ∧ l1_2.toInt ≤ 4) → ((5 - l1_2.toInt) : Int) < (n_2 : Int) → kV p l e { frames := 0, cells := 0, slots := 0, locals := 0 } s m args below meth c (kQ below args s D τ ρ (fun o w' => ∃ r : Int32, o = some (.int r) ∧ kI true w' ∧ kF [] w w' ∧ (0 ≤ r.toInt ∧ r.toInt ≤ 1))) 2 D τ ρ 2 [(0, .ref (ρ 20)), (1, .int l1_2)] [] w_2 := by
    intro n_2
    induction n_2 with
    | zero => intro w_2 l1_2 I_2 F_2 k2_0 hmz; exfalso; omega
    | succ n_2 ih2 =>
      intro w_2 l1_2 I_2 F_2 k2_0 hm2
      have gl1_2 := kf_rng l1_2
      refine kv_iload_n C 3 rfl 1 (kdec dk_cX1_isAnyOfTheOthers 2 rfl) rfl rfl ?_
      refine kv_aload_n C 4 rfl 0 (kdec dk_cX1_isAnyOfTheOthers 3 rfl) rfl rfl ?_
      obtain ⟨x1, e2⟩ : ∃ z : Int32, w 20 7 = z := ⟨_, rfl⟩
      have b3 : (0 : Int) ≤ x1.toInt ∧ x1.toInt ≤ 4 := by rw [← e2]; exact hI 20 7
      have e4 : w_2 20 7 = x1 := ((F_2 20 7 rfl : w_2 20 7 = w 20 7).trans e2)
      refine kv_get C 7 rfl 20 7 rfl rfl inX1 (by decide) mfl_TaleMachine_Engine_105 rfl rfl (kdec dk_cX1_isAnyOfTheOthers 4 rfl) e4 ?_
      refine kv_icmp_ge C 10 rfl 33 (kdec dk_cX1_isAnyOfTheOthers 5 rfl) (by decide) (fun d5 => ?_) (fun d5 => ?_)
      · skip
        refine kv_iconst C 34 rfl 0 (kdec dk_cX1_isAnyOfTheOthers 19 rfl) rfl ?_
        exact kv_zret C hr hlk (kdec dk_cX1_isAnyOfTheOthers 20 rfl) (kf_bool (by decide)) ⟨_, rfl, I_2, F_2, (by omega)⟩
      · skip
        refine kv_aload_n C 11 rfl 0 (kdec dk_cX1_isAnyOfTheOthers 6 rfl) rfl rfl ?_
        refine kv_getr C 14 rfl 20 6 rfl rfl inX1 (by decide) mfl_TaleMachine_Engine_45 rfl rfl (kdec dk_cX1_isAnyOfTheOthers 7 rfl) ?_
        refine kv_iload_n C 15 rfl 1 (kdec dk_cX1_isAnyOfTheOthers 8 rfl) rfl rfl ?_
        obtain ⟨x6, e7⟩ : ∃ z : Int32, w_2 23 (l1_2 : Int32).toNatClampNeg = z := ⟨_, rfl⟩
        have b8 : (-2147483648 : Int) ≤ x6.toInt ∧ x6.toInt ≤ 2147483647 := by rw [← e7]; exact I_2 23 _
        refine kv_iald C 16 rfl 23 rfl (by omega) (by omega) e7 (kdec dk_cX1_isAnyOfTheOthers 9 rfl) ?_
        refine kv_aload_n C 17 rfl 0 (kdec dk_cX1_isAnyOfTheOthers 10 rfl) rfl rfl ?_
        refine kv_getr C 20 rfl 20 6 rfl rfl inX1 (by decide) mfl_TaleMachine_Engine_45 rfl rfl (kdec dk_cX1_isAnyOfTheOthers 11 rfl) ?_
        refine kv_iconst C 21 rfl 0 (kdec dk_cX1_isAnyOfTheOthers 12 rfl) rfl ?_
        obtain ⟨x9, e10⟩ : ∃ z : Int32, w 23 0 = z := ⟨_, rfl⟩
        have b11 : (-2147483648 : Int) ≤ x9.toInt ∧ x9.toInt ≤ 2147483647 := by rw [← e10]; exact hI 23 0
        have e12 : w_2 23 0 = x9 := ((F_2 23 0 rfl : w_2 23 0 = w 23 0).trans e10)
        refine kv_iald C 22 rfl 23 rfl (by omega) (by omega) (show w_2 23 (0 : Int32).toNatClampNeg = x9 from e12) (kdec dk_cX1_isAnyOfTheOthers 13 rfl) ?_
        refine kv_icmp_ne C 25 rfl 27 (kdec dk_cX1_isAnyOfTheOthers 14 rfl) (by decide) (fun d13 => ?_) (fun d13 => ?_)
        · skip
          refine kv_iinc C 30 rfl 1 1 [1, 0] (fun v9 => [(0, .ref (ρ 20)), (1, .int v9)]) (kdec dk_cX1_isAnyOfTheOthers 17 rfl) rfl (by decide) (fun _ => rfl) 1 rfl (fun x14 q15 h16e h16 h16l h16u => ?_)
          try have h16n : x14.toInt = l1_2.toInt + 1 := by omega
          clear h16 q15
          refine kv_goto C 2 (kdec dk_cX1_isAnyOfTheOthers 18 rfl) (by decide) ?_
          exact ih2 w_2 x14 I_2 F_2 (by omega) (by omega)
        · skip
          refine kv_iconst C 26 rfl 1 (kdec dk_cX1_isAnyOfTheOthers 15 rfl) rfl ?_
          exact kv_zret C hr hlk (kdec dk_cX1_isAnyOfTheOthers 16 rfl) (kf_bool (by decide)) ⟨_, rfl, I_2, F_2, (by omega)⟩
  refine kv_iconst C 1 rfl 1 (kdec dk_cX1_isAnyOfTheOthers 0 rfl) rfl ?_
  refine kv_istore_n C 2 rfl 1 [1, 0] [(0, .ref (ρ 20)), (1, .int 1)] (kdec dk_cX1_isAnyOfTheOthers 1 rfl) rfl (by decide) rfl ?_
  exact cut2 ((((5 - (1 : Int32).toInt)) : Int).toNat + 1) w 1 hI hF0 (by omega) (by omega)

set_option maxHeartbeats 4000000 in
set_option maxRecDepth 100000 in
theorem k_e_divided (l : Launch) (D : va_G) (τ : Nat → ClassId) (ρ σ : Nat → Nat) (w : kw) (a1 : Int32) (a2 : Int32) (a3 : Int32) (hI : kI true w)  :
    kM l D τ ρ σ yX1_divided cX1_divided 4 (some .int) { frames := 1, cells := 0, slots := 0, locals := 36 } [.ref (ρ 20), .int a1, .int a2, .int a3] w
      (fun o w' => ∃ r : Int32, o = some (.int r) ∧ kI true w' ∧ kF [(2, some 9)] w w') := by
  refine kM_of (own := "TaleMachine$Engine") rfl (by decide) (Nat.le_of_ble_eq_true rfl) ?_
  intro p e s m args below meth c C hr hlk
  have hF0 : kF [(2, some 9)] w w := kF.rf
  have c_0 : (0 : Int32).toInt = 0 := by decide
  have c_7 : (7 : Int32).toInt = 7 := by decide
  have c_23 : (23 : Int32).toInt = 23 := by decide
  refine kV.L (L' := [(0, .ref (ρ 20)), (1, .int a1), (2, .int a2), (3, .int a3)]) rfl ?_
  have g1 := kf_rng a1
  have g2 := kf_rng a2
  have g3 := kf_rng a3
  refine kv_iload_n C 1 rfl 3 (kdec dk_cX1_divided 0 rfl) rfl rfl ?_
  refine kv_if_ne C 4 rfl 15 (kdec dk_cX1_divided 1 rfl) (by decide) (fun d4 => ?_) (fun d4 => ?_)
  · skip
    refine kv_iload_n C 16 rfl 1 (kdec dk_cX1_divided 8 rfl) rfl rfl ?_
    refine kv_bipush C 18 rfl 23 (kdec dk_cX1_divided 9 rfl) rfl ?_
    refine kv_icmp_ne C 21 rfl 27 (kdec dk_cX1_divided 10 rfl) (by decide) (fun d5 => ?_) (fun d5 => ?_)
    · skip
      refine kv_iload_n C 28 rfl 2 (kdec dk_cX1_divided 15 rfl) rfl rfl ?_
      refine kv_iload_n C 29 rfl 3 (kdec dk_cX1_divided 16 rfl) rfl rfl ?_
      refine kv_irem C 30 rfl (kdec dk_cX1_divided 17 rfl) (fun h9 => by have := kc_eq_t0 h9; omega) (fun x6 h7e h7l h7u => ?_)
      exact kv_iret C hr hlk (kdec dk_cX1_divided 18 rfl) ⟨_, rfl, hI, hF0⟩
    · skip
      refine kv_iload_n C 22 rfl 2 (kdec dk_cX1_divided 11 rfl) rfl rfl ?_
      refine kv_iload_n C 23 rfl 3 (kdec dk_cX1_divided 12 rfl) rfl rfl ?_
      refine kv_idiv C 24 rfl (kdec dk_cX1_divided 13 rfl) (fun h9 => by have := kc_eq_t0 h9; omega) (fun x8 h9e h9l h9u => ?_)
      refine kv_goto C 30 (kdec dk_cX1_divided 14 rfl) (by decide) ?_
      exact kv_iret C hr hlk (kdec dk_cX1_divided 18 rfl) ⟨_, rfl, hI, hF0⟩
  · skip
    refine kv_aload_n C 5 rfl 0 (kdec dk_cX1_divided 2 rfl) rfl rfl ?_
    refine kv_getr C 8 rfl 20 0 rfl rfl inX1 (by decide) mfl_TaleMachine_Engine_9 rfl rfl (kdec dk_cX1_divided 3 rfl) ?_
    refine kv_bipush C 10 rfl 7 (kdec dk_cX1_divided 4 rfl) rfl ?_
    refine kv_callVNv (As := [.int 7]) (rest := []) C 13 rfl 2 (k_raise l D τ ρ σ w 7 hI (by omega)) rfl rfl mmn_TaleMachine_Engine_99 mim_yX6_raise mse_yX6_raise mcd_yX6_raise min_yX6_raise hd_yX6_raise rfl rfl rfl (by decide) rfl (Nat.le_of_ble_eq_true rfl) (kdec dk_cX1_divided 5 rfl) (fun w10 h11 => ?_)
    obtain ⟨I12, f13, p15⟩ := h11
    have F16 : kF [(2, some 9)] w w10 := kF_call hF0 f13 (by decide)
    obtain ⟨x17, e18⟩ : ∃ z : Int32, w 2 9 = z := ⟨_, rfl⟩
    have b19 : (0 : Int) ≤ x17.toInt ∧ x17.toInt ≤ 13 := by rw [← e18]; exact hI 2 9
    obtain ⟨x20, e21⟩ : ∃ z : Int32, w10 2 9 = z := ⟨_, rfl⟩
    have b22 : (0 : Int) ≤ x20.toInt ∧ x20.toInt ≤ 13 := by rw [← e21]; exact I12 2 9
    rw [e18, e21] at p15
    refine kv_iconst C 14 rfl 0 (kdec dk_cX1_divided 6 rfl) rfl ?_
    exact kv_iret C hr hlk (kdec dk_cX1_divided 7 rfl) ⟨_, rfl, I12, F16⟩

set_option maxHeartbeats 4000000 in
set_option maxRecDepth 100000 in
theorem k_e_drawn (l : Launch) (D : va_G) (τ : Nat → ClassId) (ρ σ : Nat → Nat) (w : kw) (a1 : Int32) (hI : kI true w)  :
    kM l D τ ρ σ yX1_drawn cX1_drawn 2 (some .int) { frames := 0, cells := 0, slots := 0, locals := 0 } [.ref (ρ 20), .int a1] w
      (fun o w' => ∃ r : Int32, o = some (.int r) ∧ kI true w' ∧ kF [(20, some 12)] w w') := by
  refine kM_of (own := "TaleMachine$Engine") rfl (by decide) (Nat.le_of_ble_eq_true rfl) ?_
  intro p e s m args below meth c C hr hlk
  have hF0 : kF [(20, some 12)] w w := kF.rf
  have c_0 : (0 : Int32).toInt = 0 := by decide
  have c_1 : (1 : Int32).toInt = 1 := by decide
  have c_16 : (16 : Int32).toInt = 16 := by decide
  have c_12345 : (12345 : Int32).toInt = 12345 := by decide
  have c_32767 : (32767 : Int32).toInt = 32767 := by decide
  have c_1103515245 : (1103515245 : Int32).toInt = 1103515245 := by decide
  refine kV.L (L' := [(0, .ref (ρ 20)), (1, .int a1)]) rfl ?_
  have g1 := kf_rng a1
  refine kv_iload_n C 1 rfl 1 (kdec dk_cX1_drawn 0 rfl) rfl rfl ?_
  refine kv_if_le C 4 rfl 36 (kdec dk_cX1_drawn 1 rfl) (by decide) (fun d2 => ?_) (fun d2 => ?_)
  · skip
    refine kv_iload_n C 37 rfl 1 (kdec dk_cX1_drawn 21 rfl) rfl rfl ?_
    refine kv_if_ge C 40 rfl 46 (kdec dk_cX1_drawn 22 rfl) (by decide) (fun d3 => ?_) (fun d3 => ?_)
    · skip
      refine kv_iconst C 47 rfl 0 (kdec dk_cX1_drawn 27 rfl) rfl ?_
      exact kv_iret C hr hlk (kdec dk_cX1_drawn 28 rfl) ⟨_, rfl, hI, hF0⟩
    · skip
      refine kv_aload_n C 41 rfl 0 (kdec dk_cX1_drawn 23 rfl) rfl rfl ?_
      refine kv_iload_n C 42 rfl 1 (kdec dk_cX1_drawn 24 rfl) rfl rfl ?_
      refine kv_ineg C 43 rfl (kdec dk_cX1_drawn 25 rfl) (fun x4 h5e h5l h5u => ?_)
      refine kv_put C 46 rfl 20 12 rfl rfl inX1 (by decide) mfl_TaleMachine_Engine_75 rfl tyX1 tyX1_ok nmX1 rfl rfl (kdec dk_cX1_drawn 26 rfl) rfl rfl (fun w6 u7 => ?_)
      have I8 : kI true w6 := kI_put u7 hI (kf_rng _).1 (kf_rng _).2
      have F9 : kF [(20, some 12)] w w6 := kF_put u7 hF0 rfl
      refine kv_iconst C 47 rfl 0 (kdec dk_cX1_drawn 27 rfl) rfl ?_
      exact kv_iret C hr hlk (kdec dk_cX1_drawn 28 rfl) ⟨_, rfl, I8, F9⟩
  · skip
    refine kv_aload_n C 5 rfl 0 (kdec dk_cX1_drawn 2 rfl) rfl rfl ?_
    refine kv_ldcw C 8 rfl 1103515245 (kdec dk_cX1_drawn 3 rfl) mco_TaleMachine_Engine_288 ?_
    refine kv_aload_n C 9 rfl 0 (kdec dk_cX1_drawn 4 rfl) rfl rfl ?_
    obtain ⟨x10, e11⟩ : ∃ z : Int32, w 20 12 = z := ⟨_, rfl⟩
    have b12 : (-2147483648 : Int) ≤ x10.toInt ∧ x10.toInt ≤ 2147483647 := by rw [← e11]; exact hI 20 12
    refine kv_get C 12 rfl 20 12 rfl rfl inX1 (by decide) mfl_TaleMachine_Engine_75 rfl rfl (kdec dk_cX1_drawn 5 rfl) e11 ?_
    refine kv_imul C 13 rfl (kdec dk_cX1_drawn 6 rfl) (fun x13 h14e h14l h14u => ?_)
    obtain ⟨q15, g16⟩ := kf_mul 1103515245 x10
    rw [← h14e, c_1103515245] at g16
    try have h14n : x13.toInt = 1103515245 * x10.toInt := by omega
    clear g16 q15
    refine kv_sipush C 16 rfl 12345 (kdec dk_cX1_drawn 7 rfl) rfl ?_
    refine kv_iadd C 17 rfl (kdec dk_cX1_drawn 8 rfl) (fun x17 q19 h18e h18 h18l h18u => ?_)
    try have h18n : x17.toInt = x13.toInt + (12345 : Int32).toInt := by omega
    clear h18 q19
    refine kv_put C 20 rfl 20 12 rfl rfl inX1 (by decide) mfl_TaleMachine_Engine_75 rfl tyX1 tyX1_ok nmX1 rfl rfl (kdec dk_cX1_drawn 9 rfl) rfl rfl (fun w20 u21 => ?_)
    have I22 : kI true w20 := kI_put u21 hI (kf_rng _).1 (kf_rng _).2
    have F23 : kF [(20, some 12)] w w20 := kF_put u21 hF0 rfl
    refine kv_aload_n C 21 rfl 0 (kdec dk_cX1_drawn 10 rfl) rfl rfl ?_
    refine kv_get C 24 rfl 20 12 rfl rfl inX1 (by decide) mfl_TaleMachine_Engine_75 rfl rfl (kdec dk_cX1_drawn 11 rfl) (kup_eq u21) ?_
    refine kv_bipush C 26 rfl 16 (kdec dk_cX1_drawn 12 rfl) rfl ?_
    refine kv_iushr C 27 rfl (kdec dk_cX1_drawn 13 rfl) (fun x24 h25e h25l h25u => ?_)
    refine kv_sipush C 30 rfl 32767 (kdec dk_cX1_drawn 14 rfl) rfl ?_
    refine kv_iand C 31 rfl (kdec dk_cX1_drawn 15 rfl) (fun x26 h27e h27l h27u => ?_)
    have g28 := kf_and32767 h27e
    refine kv_iload_n C 32 rfl 1 (kdec dk_cX1_drawn 16 rfl) rfl rfl ?_
    refine kv_irem C 33 rfl (kdec dk_cX1_drawn 17 rfl) (fun h9 => by have := kc_eq_t0 h9; omega) (fun x29 h30e h30l h30u => ?_)
    refine kv_iconst C 34 rfl 1 (kdec dk_cX1_drawn 18 rfl) rfl ?_
    refine kv_iadd C 35 rfl (kdec dk_cX1_drawn 19 rfl) (fun x31 q33 h32e h32 h32l h32u => ?_)
    try have h32n : x31.toInt = x29.toInt + (1 : Int32).toInt := by omega
    clear h32 q33
    exact kv_iret C hr hlk (kdec dk_cX1_drawn 20 rfl) ⟨_, rfl, I22, F23⟩

set_option maxHeartbeats 4000000 in
set_option maxRecDepth 100000 in
theorem k_e_newLine (l : Launch) (D : va_G) (τ : Nat → ClassId) (ρ σ : Nat → Nat) (w : kw)  (hI : kI true w) (hp0 : (w 12 1).toInt ≤ 2147483000) :
    kM l D τ ρ σ yX1_newLine cX1_newLine 1 none { frames := 1, cells := 0, slots := 0, locals := 36 } [.ref (ρ 20)] w
      (fun o w' => o = none ∧ kI true w' ∧ kF [(12, some 1), (13, none)] w w' ∧ ((w' 12 1).toInt ≤ (w 12 1).toInt + 1)) := by
  refine kM_of (own := "TaleMachine$Engine") rfl (by decide) (Nat.le_of_ble_eq_true rfl) ?_
  intro p e s m args below meth c C hr hlk
  have hF0 : kF [(12, some 1), (13, none)] w w := kF.rf
  have c_13 : (13 : Int32).toInt = 13 := by decide
  refine kV.L (L' := [(0, .ref (ρ 20))]) rfl ?_
  obtain ⟨x1, e2⟩ : ∃ z : Int32, w 12 1 = z := ⟨_, rfl⟩
  have b3 : (0 : Int) ≤ x1.toInt ∧ x1.toInt ≤ 2147483647 := by rw [← e2]; exact hI 12 1
  rw [e2] at hp0
  refine kv_aload_n C 1 rfl 0 (kdec dk_cX1_newLine 0 rfl) rfl rfl ?_
  refine kv_getr C 4 rfl 20 0 rfl rfl inX1 (by decide) mfl_TaleMachine_Engine_9 rfl rfl (kdec dk_cX1_newLine 1 rfl) ?_
  obtain ⟨x4, e5⟩ : ∃ z : Int32, w 2 9 = z := ⟨_, rfl⟩
  have b6 : (0 : Int) ≤ x4.toInt ∧ x4.toInt ≤ 13 := by rw [← e5]; exact hI 2 9
  refine kv_getN C 7 rfl 2 9 rfl rfl inX6 (by decide) mfn_TaleMachine_Engine_67 rfl rfl (kdec dk_cX1_newLine 2 rfl) e5 ?_
  refine kv_if_ne C 10 rfl 19 (kdec dk_cX1_newLine 3 rfl) (by decide) (fun d7 => ?_) (fun d7 => ?_)
  · skip
    exact kv_vret C hr hlk (kdec dk_cX1_newLine 8 rfl) ⟨rfl, hI, hF0, (by rw [e2]; try omega)⟩
  · skip
    refine kv_aload_n C 11 rfl 0 (kdec dk_cX1_newLine 4 rfl) rfl rfl ?_
    refine kv_getr C 14 rfl 20 5 rfl rfl inX1 (by decide) mfl_TaleMachine_Engine_19 rfl rfl (kdec dk_cX1_newLine 5 rfl) ?_
    refine kv_bipush C 16 rfl 13 (kdec dk_cX1_newLine 6 rfl) rfl ?_
    refine kv_callVNv (As := [.int 13]) (rest := []) C 19 rfl 12 (k_addO l D τ ρ σ w 13 hI (by rw [e2]; try omega)) rfl rfl mmn_TaleMachine_Engine_249 mim_yX0_add mse_yX0_add mcd_yX0_add min_yX0_add hd_yX0_add rfl rfl rfl (by decide) rfl (Nat.le_of_ble_eq_true rfl) (kdec dk_cX1_newLine 7 rfl) (fun w8 h9 => ?_)
    obtain ⟨I10, f11, p13⟩ := h9
    have F14 : kF [(12, some 1), (13, none)] w w8 := kF_call hF0 f11 (by decide)
    obtain ⟨x15, e16⟩ : ∃ z : Int32, w8 12 1 = z := ⟨_, rfl⟩
    have b17 : (0 : Int) ≤ x15.toInt ∧ x15.toInt ≤ 2147483647 := by rw [← e16]; exact I10 12 1
    rw [e2, e16] at p13
    exact kv_vret C hr hlk (kdec dk_cX1_newLine 8 rfl) ⟨rfl, I10, F14, (by rw [e2, e16]; try omega)⟩

set_option maxHeartbeats 4000000 in
set_option maxRecDepth 100000 in
theorem k_e_rewind (l : Launch) (D : va_G) (τ : Nat → ClassId) (ρ σ : Nat → Nat) (w : kw)  (hI : kI true w)  :
    kM l D τ ρ σ yX1_rewind cX1_rewind 1 none { frames := 3, cells := 0, slots := 0, locals := 108 } [.ref (ρ 20)] w
      (fun o w' => o = none ∧ kI true w' ∧ kF [(3, none), (5, some 6), (5, some 7), (8, none), (9, none), (20, some 9)] w w') := by
  refine kM_of (own := "TaleMachine$Engine") rfl (by decide) (Nat.le_of_ble_eq_true rfl) ?_
  intro p e s m args below meth c C hr hlk
  have hF0 : kF [(3, none), (5, some 6), (5, some 7), (8, none), (9, none), (20, some 9)] w w := kF.rf
  refine kV.L (L' := [(0, .ref (ρ 20))]) rfl ?_
  refine kv_aload_n C 1 rfl 0 (kdec dk_cX1_rewind 0 rfl) rfl rfl ?_
  refine kv_getr C 4 rfl 20 0 rfl rfl inX1 (by decide) mfl_TaleMachine_Engine_9 rfl rfl (kdec dk_cX1_rewind 1 rfl) ?_
  refine kv_callVNv (As := []) (rest := []) C 7 rfl 2 (k_renew l D τ ρ σ w  hI ) rfl rfl mmn_TaleMachine_Engine_78 mim_yX6_renew mse_yX6_renew mcd_yX6_renew min_yX6_renew hd_yX6_renew rfl rfl rfl (by decide) rfl (Nat.le_of_ble_eq_true rfl) (kdec dk_cX1_rewind 2 rfl) (fun w1 h2 => ?_)
  obtain ⟨I3, f4⟩ := h2
  have F6 : kF [(3, none), (5, some 6), (5, some 7), (8, none), (9, none), (20, some 9)] w w1 := kF_call hF0 f4 (by decide)
  refine kv_aload_n C 8 rfl 0 (kdec dk_cX1_rewind 3 rfl) rfl rfl ?_
  refine kv_getr C 11 rfl 20 1 rfl rfl inX1 (by decide) mfl_TaleMachine_Engine_15 rfl rfl (kdec dk_cX1_rewind 4 rfl) ?_
  refine kv_callVNv (As := []) (rest := []) C 14 rfl 5 (k_clear l D τ ρ σ w1  I3 ) rfl rfl mmn_TaleMachine_Engine_81 mim_yX3_clear mse_yX3_clear mcd_yX3_clear min_yX3_clear hd_yX3_clear rfl rfl rfl (by decide) rfl (Nat.le_of_ble_eq_true rfl) (kdec dk_cX1_rewind 5 rfl) (fun w7 h8 => ?_)
  obtain ⟨I9, f10⟩ := h8
  have F12 : kF [(3, none), (5, some 6), (5, some 7), (8, none), (9, none), (20, some 9)] w w7 := kF_call F6 f10 (by decide)
  refine kv_aload_n C 15 rfl 0 (kdec dk_cX1_rewind 6 rfl) rfl rfl ?_
  refine kv_aload_n C 16 rfl 0 (kdec dk_cX1_rewind 7 rfl) rfl rfl ?_
  refine kv_getr C 19 rfl 20 0 rfl rfl inX1 (by decide) mfl_TaleMachine_Engine_9 rfl rfl (kdec dk_cX1_rewind 8 rfl) ?_
  obtain ⟨x13, e14⟩ : ∃ z : Int32, w 2 4 = z := ⟨_, rfl⟩
  have b15 : (0 : Int) ≤ x13.toInt ∧ x13.toInt ≤ 65535 := by rw [← e14]; exact hI 2 4
  have e16 : w7 2 4 = x13 := ((f10 2 4 rfl : w7 2 4 = w1 2 4).trans ((f4 2 4 rfl : w1 2 4 = w 2 4).trans e14))
  refine kv_getN C 22 rfl 2 4 rfl rfl inX6 (by decide) mfn_TaleMachine_Engine_84 rfl rfl (kdec dk_cX1_rewind 9 rfl) e16 ?_
  refine kv_put C 25 rfl 20 9 rfl rfl inX1 (by decide) mfl_TaleMachine_Engine_56 rfl tyX1 tyX1_ok nmX1 rfl rfl (kdec dk_cX1_rewind 10 rfl) rfl rfl (fun w17 u18 => ?_)
  have I19 : kI true w17 := kI_put u18 I9 (kf_rng _).1 (kf_rng _).2
  have F20 : kF [(3, none), (5, some 6), (5, some 7), (8, none), (9, none), (20, some 9)] w w17 := kF_put u18 F12 rfl
  exact kv_vret C hr hlk (kdec dk_cX1_rewind 11 rfl) ⟨rfl, I19, F20⟩

set_option maxHeartbeats 4000000 in
set_option maxRecDepth 100000 in
theorem k_e_begin (l : Launch) (D : va_G) (τ : Nat → ClassId) (ρ σ : Nat → Nat) (w : kw)  (hI : kI true w)  :
    kM l D τ ρ σ yX1_begin cX1_begin 1 none { frames := 4, cells := 0, slots := 0, locals := 144 } [.ref (ρ 20)] w
      (fun o w' => o = none ∧ kI true w' ∧ kF [(2, some 9), (3, none), (5, some 6), (5, some 7), (8, none), (9, none), (12, some 1), (20, some 8), (20, some 9), (20, some 10), (20, some 11), (20, some 12)] w w' ∧ ((w' 12 1).toInt = 0) ∧ ((w' 20 10).toInt = 1)) := by
  refine kM_of (own := "TaleMachine$Engine") rfl (by decide) (Nat.le_of_ble_eq_true rfl) ?_
  intro p e s m args below meth c C hr hlk
  have hF0 : kF [(2, some 9), (3, none), (5, some 6), (5, some 7), (8, none), (9, none), (12, some 1), (20, some 8), (20, some 9), (20, some 10), (20, some 11), (20, some 12)] w w := kF.rf
  have c_0 : (0 : Int32).toInt = 0 := by decide
  have c_1 : (1 : Int32).toInt = 1 := by decide
  refine kV.L (L' := [(0, .ref (ρ 20))]) rfl ?_
  refine kv_aload_n C 1 rfl 0 (kdec dk_cX1_begin 0 rfl) rfl rfl ?_
  refine kv_callVv (As := []) (rest := []) C 4 rfl 20 (k_e_rewind l D τ ρ σ w  hI ) rfl rfl mml_TaleMachine_Engine_53 mim_yX1_rewind mse_yX1_rewind mcd_yX1_rewind min_yX1_rewind hd_yX1_rewind rfl rfl rfl (by decide) rfl (Nat.le_of_ble_eq_true rfl) (kdec dk_cX1_begin 1 rfl) (fun w1 h2 => ?_)
  obtain ⟨I3, f4⟩ := h2
  have F6 : kF [(2, some 9), (3, none), (5, some 6), (5, some 7), (8, none), (9, none), (12, some 1), (20, some 8), (20, some 9), (20, some 10), (20, some 11), (20, some 12)] w w1 := kF_call hF0 f4 (by decide)
  refine kv_aload_n C 5 rfl 0 (kdec dk_cX1_begin 2 rfl) rfl rfl ?_
  refine kv_aload_n C 6 rfl 0 (kdec dk_cX1_begin 3 rfl) rfl rfl ?_
  obtain ⟨x7, e8⟩ : ∃ z : Int32, w1 20 9 = z := ⟨_, rfl⟩
  have b9 : (-2147483648 : Int) ≤ x7.toInt ∧ x7.toInt ≤ 2147483647 := by rw [← e8]; exact I3 20 9
  refine kv_get C 9 rfl 20 9 rfl rfl inX1 (by decide) mfl_TaleMachine_Engine_56 rfl rfl (kdec dk_cX1_begin 4 rfl) e8 ?_
  refine kv_put C 12 rfl 20 8 rfl rfl inX1 (by decide) mfl_TaleMachine_Engine_59 rfl tyX1 tyX1_ok nmX1 rfl rfl (kdec dk_cX1_begin 5 rfl) rfl rfl (fun w10 u11 => ?_)
  have I12 : kI true w10 := kI_put u11 I3 (kf_rng _).1 (kf_rng _).2
  have F13 : kF [(2, some 9), (3, none), (5, some 6), (5, some 7), (8, none), (9, none), (12, some 1), (20, some 8), (20, some 9), (20, some 10), (20, some 11), (20, some 12)] w w10 := kF_put u11 F6 rfl
  refine kv_aload_n C 13 rfl 0 (kdec dk_cX1_begin 6 rfl) rfl rfl ?_
  refine kv_getr C 16 rfl 20 5 rfl rfl inX1 (by decide) mfl_TaleMachine_Engine_19 rfl rfl (kdec dk_cX1_begin 7 rfl) ?_
  refine kv_callVNv (As := []) (rest := []) C 19 rfl 12 (k_cclearO l D τ ρ σ w10  I12 ) rfl rfl mmn_TaleMachine_Engine_62 mim_yX0_clear mse_yX0_clear mcd_yX0_clear min_yX0_clear hd_yX0_clear rfl rfl rfl (by decide) rfl (Nat.le_of_ble_eq_true rfl) (kdec dk_cX1_begin 8 rfl) (fun w14 h15 => ?_)
  obtain ⟨I16, f17, p19⟩ := h15
  have F20 : kF [(2, some 9), (3, none), (5, some 6), (5, some 7), (8, none), (9, none), (12, some 1), (20, some 8), (20, some 9), (20, some 10), (20, some 11), (20, some 12)] w w14 := kF_call F13 f17 (by decide)
  obtain ⟨x21, e22⟩ : ∃ z : Int32, w14 12 1 = z := ⟨_, rfl⟩
  have b23 : (0 : Int) ≤ x21.toInt ∧ x21.toInt ≤ 2147483647 := by rw [← e22]; exact I16 12 1
  rw [e22] at p19
  refine kv_aload_n C 20 rfl 0 (kdec dk_cX1_begin 9 rfl) rfl rfl ?_
  refine kv_getr C 23 rfl 20 0 rfl rfl inX1 (by decide) mfl_TaleMachine_Engine_9 rfl rfl (kdec dk_cX1_begin 10 rfl) ?_
  refine kv_iconst C 24 rfl 0 (kdec dk_cX1_begin 11 rfl) rfl ?_
  refine kv_putN C 27 rfl 2 9 rfl rfl inX6 (by decide) mfn_TaleMachine_Engine_67 rfl tyX6 tyX6_ok nmX6 rfl rfl (kdec dk_cX1_begin 12 rfl) rfl rfl (fun w24 u25 => ?_)
  have I26 : kI true w24 := kI_put u25 I16 (show (0 : Int) ≤ (0 : Int32).toInt by omega) (show (0 : Int32).toInt ≤ 13 by omega)
  have F27 : kF [(2, some 9), (3, none), (5, some 6), (5, some 7), (8, none), (9, none), (12, some 1), (20, some 8), (20, some 9), (20, some 10), (20, some 11), (20, some 12)] w w24 := kF_put u25 F20 rfl
  refine kv_aload_n C 28 rfl 0 (kdec dk_cX1_begin 13 rfl) rfl rfl ?_
  refine kv_iconst C 29 rfl 0 (kdec dk_cX1_begin 14 rfl) rfl ?_
  refine kv_put C 32 rfl 20 11 rfl rfl inX1 (by decide) mfl_TaleMachine_Engine_72 rfl tyX1 tyX1_ok nmX1 rfl rfl (kdec dk_cX1_begin 15 rfl) rfl rfl (fun w28 u29 => ?_)
  have I30 : kI true w28 := kI_put u29 I26 (kf_rng _).1 (kf_rng _).2
  have F31 : kF [(2, some 9), (3, none), (5, some 6), (5, some 7), (8, none), (9, none), (12, some 1), (20, some 8), (20, some 9), (20, some 10), (20, some 11), (20, some 12)] w w28 := kF_put u29 F27 rfl
  refine kv_aload_n C 33 rfl 0 (kdec dk_cX1_begin 16 rfl) rfl rfl ?_
  refine kv_iconst C 34 rfl 1 (kdec dk_cX1_begin 17 rfl) rfl ?_
  refine kv_put C 37 rfl 20 12 rfl rfl inX1 (by decide) mfl_TaleMachine_Engine_75 rfl tyX1 tyX1_ok nmX1 rfl rfl (kdec dk_cX1_begin 18 rfl) rfl rfl (fun w32 u33 => ?_)
  have I34 : kI true w32 := kI_put u33 I30 (kf_rng _).1 (kf_rng _).2
  have F35 : kF [(2, some 9), (3, none), (5, some 6), (5, some 7), (8, none), (9, none), (12, some 1), (20, some 8), (20, some 9), (20, some 10), (20, some 11), (20, some 12)] w w32 := kF_put u33 F31 rfl
  refine kv_aload_n C 38 rfl 0 (kdec dk_cX1_begin 19 rfl) rfl rfl ?_
  refine kv_iconst C 39 rfl 1 (kdec dk_cX1_begin 20 rfl) rfl ?_
  refine kv_put C 42 rfl 20 10 rfl rfl inX1 (by decide) mfl_TaleMachine_Engine_49 rfl tyX1 tyX1_ok nmX1 rfl rfl (kdec dk_cX1_begin 21 rfl) rfl rfl (fun w36 u37 => ?_)
  have I38 : kI true w36 := kI_put u37 I34 (show (0 : Int) ≤ (1 : Int32).toInt by omega) (show (1 : Int32).toInt ≤ 4 by omega)
  have F39 : kF [(2, some 9), (3, none), (5, some 6), (5, some 7), (8, none), (9, none), (12, some 1), (20, some 8), (20, some 9), (20, some 10), (20, some 11), (20, some 12)] w w36 := kF_put u37 F35 rfl
  have e40 : w36 12 1 = x21 := ((kup_ne u37 rfl : w36 12 1 = w32 12 1).trans ((kup_ne u33 rfl : w32 12 1 = w28 12 1).trans ((kup_ne u29 rfl : w28 12 1 = w24 12 1).trans ((kup_ne u25 rfl : w24 12 1 = w14 12 1).trans e22))))
  exact kv_vret C hr hlk (kdec dk_cX1_begin 22 rfl) ⟨rfl, I38, F39, (by rw [e40]; try omega), (by rw [(kup_eq u37)]; try omega)⟩

set_option maxHeartbeats 4000000 in
set_option maxRecDepth 100000 in
theorem k_e_call (l : Launch) (D : va_G) (τ : Nat → ClassId) (ρ σ : Nat → Nat) (w : kw) (a1 : Int32) (hI : kI true w)  :
    kM l D τ ρ σ yX1_call cX1_call 6 none { frames := 3, cells := 0, slots := 0, locals := 108 } [.ref (ρ 20), .int a1] w
      (fun o w' => o = none ∧ kI true w' ∧ kF [(2, some 9), (3, none), (5, some 6), (5, some 7), (6, none), (7, none), (8, none), (9, none), (10, none), (11, none), (20, some 9)] w w') := by
  refine kM_of (own := "TaleMachine$Engine") rfl (by decide) (Nat.le_of_ble_eq_true rfl) ?_
  intro p e s m args below meth c C hr hlk
  have hF0 : kF [(2, some 9), (3, none), (5, some 6), (5, some 7), (6, none), (7, none), (8, none), (9, none), (10, none), (11, none), (20, some 9)] w w := kF.rf
  have c_0 : (0 : Int32).toInt = 0 := by decide
  have c_1 : (1 : Int32).toInt = 1 := by decide
  have c_2 : (2 : Int32).toInt = 2 := by decide
  have c_3 : (3 : Int32).toInt = 3 := by decide
  have c_8 : (8 : Int32).toInt = 8 := by decide
  have c_15 : (15 : Int32).toInt = 15 := by decide
  have c_65535 : (65535 : Int32).toInt = 65535 := by decide
  refine kV.L (L' := [(0, .ref (ρ 20)), (1, .int a1)]) rfl ?_
  have g1 := kf_rng a1
  have cut84 : ∀ (n_84 : Nat) (w_84 : kw) (l2_84 l3_84 l4_84 l5_84 : Int32), kI true w_84 → kF [(2, some 9), (3, none), (5, some 6), (5, some 7), (6, none), (7, none), (8, none), (9, none), (10, none), (11, none), (20, some 9)] w w_84 → (0 ≤ l2_84.toInt ∧ l2_84.toInt ≤ 255) → (0 ≤ l4_84.toInt ∧ l4_84.toInt ≤ 255) → (1 ≤ l5_84.toInt ∧ l5_84.toInt ≤ 256) → (¬ (w_84 2 9).toInt = 0 ∨ l4_84.toInt ≤ 15 ∧ (w_84 5 7).toInt < 20) → ((257 - l5_84.toInt) : Int) < (n_84 : Int) → kV p l e { frames := 3, cells := 0, slots := 0, locals := 108 } s m args below meth c (kQ below args s D τ ρ (fun o w' => o = none ∧ kI true w' ∧ kF [(2, some 9), (3, none), (5, some 6), (5, some 7), (6, none), (7, none), (8, none), (9, none), (10, none), (11, none), (20, some 9)] w w')) 6 D τ ρ 84 [(0, .ref (ρ 20)), (2, .int l2_84), (3, .int l3_84), (4, .int l4_84), (5, .int l5_84)] [] w_84 := by
    intro n_84
    induction n_84 with
    | zero => intro w_84 l2_84 l3_84 l4_84 l5_84 I_84 F_84 k84_0 k84_1 k84_2 k84_3 hmz; exfalso; omega
    | succ n_84 ih84 =>
      intro w_84 l2_84 l3_84 l4_84 l5_84 I_84 F_84 k84_0 k84_1 k84_2 k84_3 hm84
      have gl2_84 := kf_rng l2_84
      have gl3_84 := kf_rng l3_84
      have gl4_84 := kf_rng l4_84
      have gl5_84 := kf_rng l5_84
      obtain ⟨x2, e3⟩ : ∃ z : Int32, w_84 2 9 = z := ⟨_, rfl⟩
      have b4 : (0 : Int) ≤ x2.toInt ∧ x2.toInt ≤ 13 := by rw [← e3]; exact I_84 2 9
      obtain ⟨x5, e6⟩ : ∃ z : Int32, w_84 5 7 = z := ⟨_, rfl⟩
      have b7 : (1 : Int) ≤ x5.toInt ∧ x5.toInt ≤ 20 := by rw [← e6]; exact I_84 5 7
      rw [e3, e6] at k84_3
      refine kv_iload C 86 rfl 4 (kdec dk_cX1_call 43 rfl) rfl ?_
      refine kv_iload C 88 rfl 3 (kdec dk_cX1_call 44 rfl) rfl ?_
      refine kv_icmp_gt C 91 rfl 150 (kdec dk_cX1_call 45 rfl) (by decide) (fun d8 => ?_) (fun d8 => ?_)
      · skip
        refine kv_aload_n C 151 rfl 0 (kdec dk_cX1_call 75 rfl) rfl rfl ?_
        refine kv_getr C 154 rfl 20 0 rfl rfl inX1 (by decide) mfl_TaleMachine_Engine_9 rfl rfl (kdec dk_cX1_call 76 rfl) ?_
        refine kv_getN C 157 rfl 2 9 rfl rfl inX6 (by decide) mfn_TaleMachine_Engine_67 rfl rfl (kdec dk_cX1_call 77 rfl) e3 ?_
        refine kv_if_ne C 160 rfl 189 (kdec dk_cX1_call 78 rfl) (by decide) (fun d9 => ?_) (fun d9 => ?_)
        · skip
          exact kv_vret C hr hlk (kdec dk_cX1_call 97 rfl) ⟨rfl, I_84, F_84⟩
        · skip
          refine kv_aload_n C 161 rfl 0 (kdec dk_cX1_call 79 rfl) rfl rfl ?_
          refine kv_getr C 164 rfl 20 1 rfl rfl inX1 (by decide) mfl_TaleMachine_Engine_15 rfl rfl (kdec dk_cX1_call 80 rfl) ?_
          refine kv_iload C 166 rfl 3 (kdec dk_cX1_call 81 rfl) rfl ?_
          refine kv_iload_n C 167 rfl 1 (kdec dk_cX1_call 82 rfl) rfl rfl ?_
          refine kv_aload_n C 168 rfl 0 (kdec dk_cX1_call 83 rfl) rfl rfl ?_
          obtain ⟨x10, e11⟩ : ∃ z : Int32, w_84 20 9 = z := ⟨_, rfl⟩
          have b12 : (-2147483648 : Int) ≤ x10.toInt ∧ x10.toInt ≤ 2147483647 := by rw [← e11]; exact I_84 20 9
          refine kv_get C 171 rfl 20 9 rfl rfl inX1 (by decide) mfl_TaleMachine_Engine_56 rfl rfl (kdec dk_cX1_call 84 rfl) e11 ?_
          refine kv_callVNv (As := [.int l4_84, .int l2_84, .int x10]) (rest := []) C 174 rfl 5 (k_enter l D τ ρ σ w_84 l4_84 l2_84 x10 I_84 (by omega) (by omega) (by rw [e6]; try omega)) rfl rfl mmn_TaleMachine_Engine_285 mim_yX3_enter mse_yX3_enter mcd_yX3_enter min_yX3_enter hd_yX3_enter rfl rfl rfl (by decide) rfl (Nat.le_of_ble_eq_true rfl) (kdec dk_cX1_call 85 rfl) (fun w13 h14 => ?_)
          obtain ⟨I15, f16⟩ := h14
          have F18 : kF [(2, some 9), (3, none), (5, some 6), (5, some 7), (6, none), (7, none), (8, none), (9, none), (10, none), (11, none), (20, some 9)] w w13 := kF_call F_84 f16 (by decide)
          refine kv_aload_n C 175 rfl 0 (kdec dk_cX1_call 86 rfl) rfl rfl ?_
          refine kv_iload_n C 176 rfl 2 (kdec dk_cX1_call 87 rfl) rfl rfl ?_
          refine kv_iconst C 177 rfl 1 (kdec dk_cX1_call 88 rfl) rfl ?_
          refine kv_iadd C 178 rfl (kdec dk_cX1_call 89 rfl) (fun x19 q21 h20e h20 h20l h20u => ?_)
          try have h20n : x19.toInt = l3_84.toInt + (1 : Int32).toInt := by omega
          clear h20 q21
          refine kv_iconst C 179 rfl 2 (kdec dk_cX1_call 90 rfl) rfl ?_
          refine kv_iload C 181 rfl 3 (kdec dk_cX1_call 91 rfl) rfl ?_
          refine kv_imul C 182 rfl (kdec dk_cX1_call 92 rfl) (fun x22 h23e h23l h23u => ?_)
          obtain ⟨q24, g25⟩ := kf_mul 2 l4_84
          rw [← h23e, c_2] at g25
          try have h23n : x22.toInt = 2 * l4_84.toInt := by omega
          clear g25 q24
          refine kv_iadd C 183 rfl (kdec dk_cX1_call 93 rfl) (fun x26 q28 h27e h27 h27l h27u => ?_)
          try have h27n : x26.toInt = x19.toInt + x22.toInt := by omega
          clear h27 q28
          refine kv_ldc C 185 rfl 65535 (kdec dk_cX1_call 94 rfl) mco_TaleMachine_Engine_119 ?_
          refine kv_iand C 186 rfl (kdec dk_cX1_call 95 rfl) (fun x29 h30e h30l h30u => ?_)
          have g31 := kf_and65535 h30e
          refine kv_put C 189 rfl 20 9 rfl rfl inX1 (by decide) mfl_TaleMachine_Engine_56 rfl tyX1 tyX1_ok nmX1 rfl rfl (kdec dk_cX1_call 96 rfl) rfl rfl (fun w32 u33 => ?_)
          have I34 : kI true w32 := kI_put u33 I15 (kf_rng _).1 (kf_rng _).2
          have F35 : kF [(2, some 9), (3, none), (5, some 6), (5, some 7), (6, none), (7, none), (8, none), (9, none), (10, none), (11, none), (20, some 9)] w w32 := kF_put u33 F18 rfl
          exact kv_vret C hr hlk (kdec dk_cX1_call 97 rfl) ⟨rfl, I34, F35⟩
      · skip
        refine kv_aload_n C 92 rfl 0 (kdec dk_cX1_call 46 rfl) rfl rfl ?_
        refine kv_getr C 95 rfl 20 0 rfl rfl inX1 (by decide) mfl_TaleMachine_Engine_9 rfl rfl (kdec dk_cX1_call 47 rfl) ?_
        refine kv_getN C 98 rfl 2 9 rfl rfl inX6 (by decide) mfn_TaleMachine_Engine_67 rfl rfl (kdec dk_cX1_call 48 rfl) e3 ?_
        refine kv_if_ne C 101 rfl 150 (kdec dk_cX1_call 49 rfl) (by decide) (fun d36 => ?_) (fun d36 => ?_)
        · skip
          refine kv_aload_n C 151 rfl 0 (kdec dk_cX1_call 75 rfl) rfl rfl ?_
          refine kv_getr C 154 rfl 20 0 rfl rfl inX1 (by decide) mfl_TaleMachine_Engine_9 rfl rfl (kdec dk_cX1_call 76 rfl) ?_
          refine kv_getN C 157 rfl 2 9 rfl rfl inX6 (by decide) mfn_TaleMachine_Engine_67 rfl rfl (kdec dk_cX1_call 77 rfl) e3 ?_
          refine kv_if_ne C 160 rfl 189 (kdec dk_cX1_call 78 rfl) (by decide) (fun d37 => ?_) (fun d37 => ?_)
          · skip
            exact kv_vret C hr hlk (kdec dk_cX1_call 97 rfl) ⟨rfl, I_84, F_84⟩
          · skip
            refine kv_aload_n C 161 rfl 0 (kdec dk_cX1_call 79 rfl) rfl rfl ?_
            refine kv_getr C 164 rfl 20 1 rfl rfl inX1 (by decide) mfl_TaleMachine_Engine_15 rfl rfl (kdec dk_cX1_call 80 rfl) ?_
            refine kv_iload C 166 rfl 3 (kdec dk_cX1_call 81 rfl) rfl ?_
            refine kv_iload_n C 167 rfl 1 (kdec dk_cX1_call 82 rfl) rfl rfl ?_
            refine kv_aload_n C 168 rfl 0 (kdec dk_cX1_call 83 rfl) rfl rfl ?_
            obtain ⟨x38, e39⟩ : ∃ z : Int32, w_84 20 9 = z := ⟨_, rfl⟩
            have b40 : (-2147483648 : Int) ≤ x38.toInt ∧ x38.toInt ≤ 2147483647 := by rw [← e39]; exact I_84 20 9
            refine kv_get C 171 rfl 20 9 rfl rfl inX1 (by decide) mfl_TaleMachine_Engine_56 rfl rfl (kdec dk_cX1_call 84 rfl) e39 ?_
            refine kv_callVNv (As := [.int l4_84, .int l2_84, .int x38]) (rest := []) C 174 rfl 5 (k_enter l D τ ρ σ w_84 l4_84 l2_84 x38 I_84 (by omega) (by omega) (by rw [e6]; try omega)) rfl rfl mmn_TaleMachine_Engine_285 mim_yX3_enter mse_yX3_enter mcd_yX3_enter min_yX3_enter hd_yX3_enter rfl rfl rfl (by decide) rfl (Nat.le_of_ble_eq_true rfl) (kdec dk_cX1_call 85 rfl) (fun w41 h42 => ?_)
            obtain ⟨I43, f44⟩ := h42
            have F46 : kF [(2, some 9), (3, none), (5, some 6), (5, some 7), (6, none), (7, none), (8, none), (9, none), (10, none), (11, none), (20, some 9)] w w41 := kF_call F_84 f44 (by decide)
            refine kv_aload_n C 175 rfl 0 (kdec dk_cX1_call 86 rfl) rfl rfl ?_
            refine kv_iload_n C 176 rfl 2 (kdec dk_cX1_call 87 rfl) rfl rfl ?_
            refine kv_iconst C 177 rfl 1 (kdec dk_cX1_call 88 rfl) rfl ?_
            refine kv_iadd C 178 rfl (kdec dk_cX1_call 89 rfl) (fun x47 q49 h48e h48 h48l h48u => ?_)
            try have h48n : x47.toInt = l3_84.toInt + (1 : Int32).toInt := by omega
            clear h48 q49
            refine kv_iconst C 179 rfl 2 (kdec dk_cX1_call 90 rfl) rfl ?_
            refine kv_iload C 181 rfl 3 (kdec dk_cX1_call 91 rfl) rfl ?_
            refine kv_imul C 182 rfl (kdec dk_cX1_call 92 rfl) (fun x50 h51e h51l h51u => ?_)
            obtain ⟨q52, g53⟩ := kf_mul 2 l4_84
            rw [← h51e, c_2] at g53
            try have h51n : x50.toInt = 2 * l4_84.toInt := by omega
            clear g53 q52
            refine kv_iadd C 183 rfl (kdec dk_cX1_call 93 rfl) (fun x54 q56 h55e h55 h55l h55u => ?_)
            try have h55n : x54.toInt = x47.toInt + x50.toInt := by omega
            clear h55 q56
            refine kv_ldc C 185 rfl 65535 (kdec dk_cX1_call 94 rfl) mco_TaleMachine_Engine_119 ?_
            refine kv_iand C 186 rfl (kdec dk_cX1_call 95 rfl) (fun x57 h58e h58l h58u => ?_)
            have g59 := kf_and65535 h58e
            refine kv_put C 189 rfl 20 9 rfl rfl inX1 (by decide) mfl_TaleMachine_Engine_56 rfl tyX1 tyX1_ok nmX1 rfl rfl (kdec dk_cX1_call 96 rfl) rfl rfl (fun w60 u61 => ?_)
            have I62 : kI true w60 := kI_put u61 I43 (kf_rng _).1 (kf_rng _).2
            have F63 : kF [(2, some 9), (3, none), (5, some 6), (5, some 7), (6, none), (7, none), (8, none), (9, none), (10, none), (11, none), (20, some 9)] w w60 := kF_put u61 F46 rfl
            exact kv_vret C hr hlk (kdec dk_cX1_call 97 rfl) ⟨rfl, I62, F63⟩
        · skip
          refine kv_aload_n C 102 rfl 0 (kdec dk_cX1_call 50 rfl) rfl rfl ?_
          refine kv_getr C 105 rfl 20 1 rfl rfl inX1 (by decide) mfl_TaleMachine_Engine_15 rfl rfl (kdec dk_cX1_call 51 rfl) ?_
          refine kv_iload C 107 rfl 4 (kdec dk_cX1_call 52 rfl) rfl ?_
          refine kv_iload C 109 rfl 4 (kdec dk_cX1_call 53 rfl) rfl ?_
          refine kv_aload_n C 110 rfl 0 (kdec dk_cX1_call 54 rfl) rfl rfl ?_
          obtain ⟨x64, e65⟩ : ∃ z : Int32, w 20 7 = z := ⟨_, rfl⟩
          have b66 : (0 : Int) ≤ x64.toInt ∧ x64.toInt ≤ 4 := by rw [← e65]; exact hI 20 7
          have e67 : w_84 20 7 = x64 := ((F_84 20 7 rfl : w_84 20 7 = w 20 7).trans e65)
          refine kv_get C 113 rfl 20 7 rfl rfl inX1 (by decide) mfl_TaleMachine_Engine_105 rfl rfl (kdec dk_cX1_call 55 rfl) e67 ?_
          refine kv_icmp_ge C 116 rfl 126 (kdec dk_cX1_call 56 rfl) (by decide) (fun d68 => ?_) (fun d68 => ?_)
          · skip
            refine kv_aload_n C 127 rfl 0 (kdec dk_cX1_call 62 rfl) rfl rfl ?_
            refine kv_getr C 130 rfl 20 0 rfl rfl inX1 (by decide) mfl_TaleMachine_Engine_9 rfl rfl (kdec dk_cX1_call 63 rfl) ?_
            refine kv_iload_n C 131 rfl 2 (kdec dk_cX1_call 64 rfl) rfl rfl ?_
            refine kv_iconst C 132 rfl 2 (kdec dk_cX1_call 65 rfl) rfl ?_
            refine kv_iload C 134 rfl 4 (kdec dk_cX1_call 66 rfl) rfl ?_
            refine kv_imul C 135 rfl (kdec dk_cX1_call 67 rfl) (fun x69 h70e h70l h70u => ?_)
            obtain ⟨q71, g72⟩ := kf_mul 2 l5_84
            rw [← h70e, c_2] at g72
            try have h70n : x69.toInt = 2 * l5_84.toInt := by omega
            clear g72 q71
            refine kv_iadd C 136 rfl (kdec dk_cX1_call 68 rfl) (fun x73 q75 h74e h74 h74l h74u => ?_)
            try have h74n : x73.toInt = l3_84.toInt + x69.toInt := by omega
            clear h74 q75
            refine kv_iconst C 137 rfl 1 (kdec dk_cX1_call 69 rfl) rfl ?_
            refine kv_isub C 138 rfl (kdec dk_cX1_call 70 rfl) (fun x76 q78 h77e h77 h77l h77u => ?_)
            try have h77n : x76.toInt = x73.toInt - (1 : Int32).toInt := by omega
            clear h77 q78
            refine kv_callVNi (As := [.int x76]) (rest := [.int l5_84, .ref (ρ 5)]) C 141 rfl 2 (k_wordAt l D τ ρ σ w_84 x76 I_84 ) rfl rfl mmn_TaleMachine_Engine_210 mim_yX6_wordAt mse_yX6_wordAt mcd_yX6_wordAt min_yX6_wordAt hd_yX6_wordAt rfl rfl rfl (by decide) rfl (Nat.le_of_ble_eq_true rfl) (kdec dk_cX1_call 71 rfl) (fun x83 w79 h80 => ?_)
            obtain ⟨I81, f82, p84, p85⟩ := h80
            have F86 : kF [(2, some 9), (3, none), (5, some 6), (5, some 7), (6, none), (7, none), (8, none), (9, none), (10, none), (11, none), (20, some 9)] w w79 := kF_call F_84 f82 (by decide)
            have g87 := kf_rng x83
            obtain ⟨x88, e89⟩ : ∃ z : Int32, w79 2 9 = z := ⟨_, rfl⟩
            have b90 : (0 : Int) ≤ x88.toInt ∧ x88.toInt ≤ 13 := by rw [← e89]; exact I81 2 9
            rw [e3, e89] at p85
            have e91 : w79 5 7 = x5 := ((f82 5 7 rfl : w79 5 7 = w_84 5 7).trans e6)
            refine kv_callVNv (As := [.int l5_84, .int x83]) (rest := []) C 144 rfl 5 (k_prepareLocal l D τ ρ σ w79 l5_84 x83 I81 (by omega) (by rw [e91]; try omega)) rfl rfl mmn_TaleMachine_Engine_282 mim_yX3_prepareLocal mse_yX3_prepareLocal mcd_yX3_prepareLocal min_yX3_prepareLocal hd_yX3_prepareLocal rfl rfl rfl (by decide) rfl (Nat.le_of_ble_eq_true rfl) (kdec dk_cX1_call 72 rfl) (fun w92 h93 => ?_)
            obtain ⟨I94, f95⟩ := h93
            have F97 : kF [(2, some 9), (3, none), (5, some 6), (5, some 7), (6, none), (7, none), (8, none), (9, none), (10, none), (11, none), (20, some 9)] w w92 := kF_call F86 f95 (by decide)
            refine kv_iinc C 147 rfl 5 4 [1, 2, 3, 4, 0] (fun v9 => [(0, .ref (ρ 20)), (2, .int l2_84), (3, .int l3_84), (4, .int l4_84), (5, .int v9)]) (kdec dk_cX1_call 73 rfl) rfl (by decide) (fun _ => rfl) 1 rfl (fun x98 q99 h100e h100 h100l h100u => ?_)
            try have h100n : x98.toInt = l5_84.toInt + 1 := by omega
            clear h100 q99
            refine kv_goto C 84 (kdec dk_cX1_call 74 rfl) (by decide) ?_
            have e101 : w92 2 9 = x88 := ((f95 2 9 rfl : w92 2 9 = w79 2 9).trans e89)
            have e102 : w92 5 7 = x5 := ((f95 5 7 rfl : w92 5 7 = w79 5 7).trans e91)
            exact ih84 w92 l2_84 l3_84 l4_84 x98 I94 F97 (by omega) (by omega) (by omega) (by rw [e101, e102]; try omega) (by omega)
          · skip
            refine kv_aload_n C 117 rfl 0 (kdec dk_cX1_call 57 rfl) rfl rfl ?_
            refine kv_getr C 120 rfl 20 6 rfl rfl inX1 (by decide) mfl_TaleMachine_Engine_45 rfl rfl (kdec dk_cX1_call 58 rfl) ?_
            refine kv_iload C 122 rfl 4 (kdec dk_cX1_call 59 rfl) rfl ?_
            obtain ⟨x103, e104⟩ : ∃ z : Int32, w_84 23 (l5_84 : Int32).toNatClampNeg = z := ⟨_, rfl⟩
            have b105 : (-2147483648 : Int) ≤ x103.toInt ∧ x103.toInt ≤ 2147483647 := by rw [← e104]; exact I_84 23 _
            refine kv_iald C 123 rfl 23 rfl (by omega) (by omega) e104 (kdec dk_cX1_call 60 rfl) ?_
            refine kv_goto C 141 (kdec dk_cX1_call 61 rfl) (by decide) ?_
            refine kv_callVNv (As := [.int l5_84, .int x103]) (rest := []) C 144 rfl 5 (k_prepareLocal l D τ ρ σ w_84 l5_84 x103 I_84 (by omega) (by rw [e6]; try omega)) rfl rfl mmn_TaleMachine_Engine_282 mim_yX3_prepareLocal mse_yX3_prepareLocal mcd_yX3_prepareLocal min_yX3_prepareLocal hd_yX3_prepareLocal rfl rfl rfl (by decide) rfl (Nat.le_of_ble_eq_true rfl) (kdec dk_cX1_call 72 rfl) (fun w106 h107 => ?_)
            obtain ⟨I108, f109⟩ := h107
            have F111 : kF [(2, some 9), (3, none), (5, some 6), (5, some 7), (6, none), (7, none), (8, none), (9, none), (10, none), (11, none), (20, some 9)] w w106 := kF_call F_84 f109 (by decide)
            refine kv_iinc C 147 rfl 5 4 [1, 2, 3, 4, 0] (fun v9 => [(0, .ref (ρ 20)), (2, .int l2_84), (3, .int l3_84), (4, .int l4_84), (5, .int v9)]) (kdec dk_cX1_call 73 rfl) rfl (by decide) (fun _ => rfl) 1 rfl (fun x112 q113 h114e h114 h114l h114u => ?_)
            try have h114n : x112.toInt = l5_84.toInt + 1 := by omega
            clear h114 q113
            refine kv_goto C 84 (kdec dk_cX1_call 74 rfl) (by decide) ?_
            have e115 : w106 2 9 = x2 := ((f109 2 9 rfl : w106 2 9 = w_84 2 9).trans e3)
            have e116 : w106 5 7 = x5 := ((f109 5 7 rfl : w106 5 7 = w_84 5 7).trans e6)
            exact ih84 w106 l2_84 l3_84 l4_84 x112 I108 F111 (by omega) (by omega) (by omega) (by rw [e115, e116]; try omega) (by omega)
  refine kv_aload_n C 1 rfl 0 (kdec dk_cX1_call 0 rfl) rfl rfl ?_
  refine kv_callVi (As := []) (rest := []) C 4 rfl 20 (k_e_fetch l D τ ρ σ w  hI ) rfl rfl mml_TaleMachine_Engine_87 mim_yX1_fetch mse_yX1_fetch mcd_yX1_fetch min_yX1_fetch hd_yX1_fetch rfl rfl rfl (by decide) rfl (Nat.le_of_ble_eq_true rfl) (kdec dk_cX1_call 1 rfl) (fun x121 w117 h118 => ?_)
  obtain ⟨I119, f120, p122, p123⟩ := h118
  have F124 : kF [(2, some 9), (3, none), (5, some 6), (5, some 7), (6, none), (7, none), (8, none), (9, none), (10, none), (11, none), (20, some 9)] w w117 := kF_call hF0 f120 (by decide)
  have g125 := kf_rng x121
  obtain ⟨x126, e127⟩ : ∃ z : Int32, w 2 9 = z := ⟨_, rfl⟩
  have b128 : (0 : Int) ≤ x126.toInt ∧ x126.toInt ≤ 13 := by rw [← e127]; exact hI 2 9
  obtain ⟨x129, e130⟩ : ∃ z : Int32, w117 2 9 = z := ⟨_, rfl⟩
  have b131 : (0 : Int) ≤ x129.toInt ∧ x129.toInt ≤ 13 := by rw [← e130]; exact I119 2 9
  rw [e127, e130] at p123
  refine kv_istore_n C 5 rfl 2 [1, 2, 0] [(0, .ref (ρ 20)), (1, .int a1), (2, .int x121)] (kdec dk_cX1_call 2 rfl) rfl (by decide) rfl ?_
  refine kv_aload_n C 6 rfl 0 (kdec dk_cX1_call 3 rfl) rfl rfl ?_
  refine kv_getr C 9 rfl 20 0 rfl rfl inX1 (by decide) mfl_TaleMachine_Engine_9 rfl rfl (kdec dk_cX1_call 4 rfl) ?_
  refine kv_getN C 12 rfl 2 9 rfl rfl inX6 (by decide) mfn_TaleMachine_Engine_67 rfl rfl (kdec dk_cX1_call 5 rfl) e130 ?_
  refine kv_if_eq C 15 rfl 16 (kdec dk_cX1_call 6 rfl) (by decide) (fun d132 => ?_) (fun d132 => ?_)
  · skip
    refine kv_iload_n C 17 rfl 1 (kdec dk_cX1_call 8 rfl) rfl rfl ?_
    refine kv_if_ne C 20 rfl 30 (kdec dk_cX1_call 9 rfl) (by decide) (fun d133 => ?_) (fun d133 => ?_)
    · skip
      refine kv_iconst C 31 rfl 2 (kdec dk_cX1_call 16 rfl) rfl ?_
      refine kv_iload_n C 32 rfl 1 (kdec dk_cX1_call 17 rfl) rfl rfl ?_
      refine kv_imul C 33 rfl (kdec dk_cX1_call 18 rfl) (fun x134 h135e h135l h135u => ?_)
      obtain ⟨q136, g137⟩ := kf_mul 2 a1
      rw [← h135e, c_2] at g137
      try have h135n : x134.toInt = 2 * a1.toInt := by omega
      clear g137 q136
      refine kv_istore_n C 34 rfl 3 [1, 2, 3, 0] [(0, .ref (ρ 20)), (1, .int a1), (2, .int x121), (3, .int x134)] (kdec dk_cX1_call 19 rfl) rfl (by decide) rfl ?_
      refine kv_aload_n C 35 rfl 0 (kdec dk_cX1_call 20 rfl) rfl rfl ?_
      refine kv_getr C 38 rfl 20 0 rfl rfl inX1 (by decide) mfl_TaleMachine_Engine_9 rfl rfl (kdec dk_cX1_call 21 rfl) ?_
      refine kv_iload_n C 39 rfl 3 (kdec dk_cX1_call 22 rfl) rfl rfl ?_
      refine kv_callVNi (As := [.int x134]) (rest := []) C 42 rfl 2 (k_byteAt l D τ ρ σ w117 x134 I119 ) rfl rfl mmn_TaleMachine_Engine_133 mim_yX6_byteAt mse_yX6_byteAt mcd_yX6_byteAt min_yX6_byteAt hd_yX6_byteAt rfl rfl rfl (by decide) rfl (Nat.le_of_ble_eq_true rfl) (kdec dk_cX1_call 23 rfl) (fun x142 w138 h139 => ?_)
      obtain ⟨I140, f141, p143, p144⟩ := h139
      have F145 : kF [(2, some 9), (3, none), (5, some 6), (5, some 7), (6, none), (7, none), (8, none), (9, none), (10, none), (11, none), (20, some 9)] w w138 := kF_call F124 f141 (by decide)
      have g146 := kf_rng x142
      obtain ⟨x147, e148⟩ : ∃ z : Int32, w138 2 9 = z := ⟨_, rfl⟩
      have b149 : (0 : Int) ≤ x147.toInt ∧ x147.toInt ≤ 13 := by rw [← e148]; exact I140 2 9
      rw [e130, e148] at p144
      refine kv_istore C 44 rfl 4 [1, 2, 3, 4, 0] [(0, .ref (ρ 20)), (1, .int a1), (2, .int x121), (3, .int x134), (4, .int x142)] (kdec dk_cX1_call 24 rfl) (by decide) rfl ?_
      refine kv_iload C 46 rfl 4 (kdec dk_cX1_call 25 rfl) rfl ?_
      refine kv_bipush C 48 rfl 15 (kdec dk_cX1_call 26 rfl) rfl ?_
      refine kv_icmp_le C 51 rfl 63 (kdec dk_cX1_call 27 rfl) (by decide) (fun d150 => ?_) (fun d150 => ?_)
      · skip
        refine kv_aload_n C 64 rfl 0 (kdec dk_cX1_call 33 rfl) rfl rfl ?_
        refine kv_getr C 67 rfl 20 1 rfl rfl inX1 (by decide) mfl_TaleMachine_Engine_15 rfl rfl (kdec dk_cX1_call 34 rfl) ?_
        refine kv_callVNi (As := []) (rest := []) C 70 rfl 5 (k_isFull l D τ ρ σ w138  I140 ) rfl rfl mmn_TaleMachine_Engine_279 mim_yX3_isFull mse_yX3_isFull mcd_yX3_isFull min_yX3_isFull hd_yX3_isFull rfl rfl rfl (by decide) rfl (Nat.le_of_ble_eq_true rfl) (kdec dk_cX1_call 35 rfl) (fun x155 w151 h152 => ?_)
        obtain ⟨I153, f154, p156, p157⟩ := h152
        have F158 : kF [(2, some 9), (3, none), (5, some 6), (5, some 7), (6, none), (7, none), (8, none), (9, none), (10, none), (11, none), (20, some 9)] w w151 := kF_call F145 f154 (by decide)
        have g159 := kf_rng x155
        obtain ⟨x160, e161⟩ : ∃ z : Int32, w 5 7 = z := ⟨_, rfl⟩
        have b162 : (1 : Int) ≤ x160.toInt ∧ x160.toInt ≤ 20 := by rw [← e161]; exact hI 5 7
        have e163 : w138 5 7 = x160 := ((f141 5 7 rfl : w138 5 7 = w117 5 7).trans ((f120 5 7 rfl : w117 5 7 = w 5 7).trans e161))
        rw [e163] at p156
        refine kv_if_eq C 73 rfl 81 (kdec dk_cX1_call 36 rfl) (by decide) (fun d164 => ?_) (fun d164 => ?_)
        · skip
          refine kv_iconst C 82 rfl 1 (kdec dk_cX1_call 41 rfl) rfl ?_
          refine kv_istore C 84 rfl 5 [1, 2, 3, 4, 5, 0] [(0, .ref (ρ 20)), (1, .int a1), (2, .int x121), (3, .int x134), (4, .int x142), (5, .int 1)] (kdec dk_cX1_call 42 rfl) (by decide) rfl ?_
          have e165 : w151 2 9 = x147 := ((f154 2 9 rfl : w151 2 9 = w138 2 9).trans e148)
          have e166 : w151 5 7 = x160 := ((f154 5 7 rfl : w151 5 7 = w138 5 7).trans e163)
          refine kV.sub [0, 2, 3, 4, 5] (L' := [(0, .ref (ρ 20)), (2, .int x121), (3, .int x134), (4, .int x142), (5, .int 1)]) rfl ?_
          exact cut84 ((((257 - (1 : Int32).toInt)) : Int).toNat + 1) w151 x121 x134 x142 1 I153 F158 (by omega) (by omega) (by omega) (by rw [e165, e166]; try omega) (by omega)
        · skip
          refine kv_aload_n C 74 rfl 0 (kdec dk_cX1_call 37 rfl) rfl rfl ?_
          refine kv_getr C 77 rfl 20 0 rfl rfl inX1 (by decide) mfl_TaleMachine_Engine_9 rfl rfl (kdec dk_cX1_call 38 rfl) ?_
          refine kv_iconst C 78 rfl 3 (kdec dk_cX1_call 39 rfl) rfl ?_
          refine kv_callVNv (As := [.int 3]) (rest := []) C 81 rfl 2 (k_raise l D τ ρ σ w151 3 I153 (by omega)) rfl rfl mmn_TaleMachine_Engine_99 mim_yX6_raise mse_yX6_raise mcd_yX6_raise min_yX6_raise hd_yX6_raise rfl rfl rfl (by decide) rfl (Nat.le_of_ble_eq_true rfl) (kdec dk_cX1_call 40 rfl) (fun w167 h168 => ?_)
          obtain ⟨I169, f170, p172⟩ := h168
          have F173 : kF [(2, some 9), (3, none), (5, some 6), (5, some 7), (6, none), (7, none), (8, none), (9, none), (10, none), (11, none), (20, some 9)] w w167 := kF_call F158 f170 (by decide)
          have e174 : w151 2 9 = x147 := ((f154 2 9 rfl : w151 2 9 = w138 2 9).trans e148)
          obtain ⟨x175, e176⟩ : ∃ z : Int32, w167 2 9 = z := ⟨_, rfl⟩
          have b177 : (0 : Int) ≤ x175.toInt ∧ x175.toInt ≤ 13 := by rw [← e176]; exact I169 2 9
          rw [e174, e176] at p172
          refine kv_iconst C 82 rfl 1 (kdec dk_cX1_call 41 rfl) rfl ?_
          refine kv_istore C 84 rfl 5 [1, 2, 3, 4, 5, 0] [(0, .ref (ρ 20)), (1, .int a1), (2, .int x121), (3, .int x134), (4, .int x142), (5, .int 1)] (kdec dk_cX1_call 42 rfl) (by decide) rfl ?_
          have e178 : w167 5 7 = x160 := ((f170 5 7 rfl : w167 5 7 = w151 5 7).trans ((f154 5 7 rfl : w151 5 7 = w138 5 7).trans e163))
          refine kV.sub [0, 2, 3, 4, 5] (L' := [(0, .ref (ρ 20)), (2, .int x121), (3, .int x134), (4, .int x142), (5, .int 1)]) rfl ?_
          exact cut84 ((((257 - (1 : Int32).toInt)) : Int).toNat + 1) w167 x121 x134 x142 1 I169 F173 (by omega) (by omega) (by omega) (by rw [e176, e178]; try omega) (by omega)
      · skip
        refine kv_aload_n C 52 rfl 0 (kdec dk_cX1_call 28 rfl) rfl rfl ?_
        refine kv_getr C 55 rfl 20 0 rfl rfl inX1 (by decide) mfl_TaleMachine_Engine_9 rfl rfl (kdec dk_cX1_call 29 rfl) ?_
        refine kv_bipush C 57 rfl 8 (kdec dk_cX1_call 30 rfl) rfl ?_
        refine kv_callVNv (As := [.int 8]) (rest := []) C 60 rfl 2 (k_raise l D τ ρ σ w138 8 I140 (by omega)) rfl rfl mmn_TaleMachine_Engine_99 mim_yX6_raise mse_yX6_raise mcd_yX6_raise min_yX6_raise hd_yX6_raise rfl rfl rfl (by decide) rfl (Nat.le_of_ble_eq_true rfl) (kdec dk_cX1_call 31 rfl) (fun w179 h180 => ?_)
        obtain ⟨I181, f182, p184⟩ := h180
        have F185 : kF [(2, some 9), (3, none), (5, some 6), (5, some 7), (6, none), (7, none), (8, none), (9, none), (10, none), (11, none), (20, some 9)] w w179 := kF_call F145 f182 (by decide)
        obtain ⟨x186, e187⟩ : ∃ z : Int32, w179 2 9 = z := ⟨_, rfl⟩
        have b188 : (0 : Int) ≤ x186.toInt ∧ x186.toInt ≤ 13 := by rw [← e187]; exact I181 2 9
        rw [e148, e187] at p184
        refine kv_goto C 81 (kdec dk_cX1_call 32 rfl) (by decide) ?_
        refine kv_iconst C 82 rfl 1 (kdec dk_cX1_call 41 rfl) rfl ?_
        refine kv_istore C 84 rfl 5 [1, 2, 3, 4, 5, 0] [(0, .ref (ρ 20)), (1, .int a1), (2, .int x121), (3, .int x134), (4, .int x142), (5, .int 1)] (kdec dk_cX1_call 42 rfl) (by decide) rfl ?_
        obtain ⟨x189, e190⟩ : ∃ z : Int32, w 5 7 = z := ⟨_, rfl⟩
        have b191 : (1 : Int) ≤ x189.toInt ∧ x189.toInt ≤ 20 := by rw [← e190]; exact hI 5 7
        have e192 : w179 5 7 = x189 := ((f182 5 7 rfl : w179 5 7 = w138 5 7).trans ((f141 5 7 rfl : w138 5 7 = w117 5 7).trans ((f120 5 7 rfl : w117 5 7 = w 5 7).trans e190)))
        refine kV.sub [0, 2, 3, 4, 5] (L' := [(0, .ref (ρ 20)), (2, .int x121), (3, .int x134), (4, .int x142), (5, .int 1)]) rfl ?_
        exact cut84 ((((257 - (1 : Int32).toInt)) : Int).toNat + 1) w179 x121 x134 x142 1 I181 F185 (by omega) (by omega) (by omega) (by rw [e187, e192]; try omega) (by omega)
    · skip
      refine kv_aload_n C 21 rfl 0 (kdec dk_cX1_call 10 rfl) rfl rfl ?_
      refine kv_getr C 24 rfl 20 2 rfl rfl inX1 (by decide) mfl_TaleMachine_Engine_32 rfl rfl (kdec dk_cX1_call 11 rfl) ?_
      refine kv_iload_n C 25 rfl 2 (kdec dk_cX1_call 12 rfl) rfl rfl ?_
      refine kv_iconst C 26 rfl 0 (kdec dk_cX1_call 13 rfl) rfl ?_
      refine kv_callVNv (As := [.int x121, .int 0]) (rest := []) C 29 rfl 21 (k_assign l D τ ρ σ w117 x121 0 I119 (by omega)) rfl rfl mmn_TaleMachine_Engine_157 mim_yX8_assign mse_yX8_assign mcd_yX8_assign min_yX8_assign hd_yX8_assign rfl rfl rfl (by decide) rfl (Nat.le_of_ble_eq_true rfl) (kdec dk_cX1_call 14 rfl) (fun w193 h194 => ?_)
      obtain ⟨I195, f196⟩ := h194
      have F198 : kF [(2, some 9), (3, none), (5, some 6), (5, some 7), (6, none), (7, none), (8, none), (9, none), (10, none), (11, none), (20, some 9)] w w193 := kF_call F124 f196 (by decide)
      exact kv_vret C hr hlk (kdec dk_cX1_call 15 rfl) ⟨rfl, I195, F198⟩
  · skip
    exact kv_vret C hr hlk (kdec dk_cX1_call 7 rfl) ⟨rfl, I119, F124⟩

set_option maxHeartbeats 4000000 in
set_option maxRecDepth 100000 in
theorem k_e_performTwo (l : Launch) (D : va_G) (τ : Nat → ClassId) (ρ σ : Nat → Nat) (w : kw) (a1 : Int32) (a2 : Int32) (a3 : Int32) (hI : kI true w)  :
    kM l D τ ρ σ yX1_performTwo cX1_performTwo 4 none { frames := 5, cells := 0, slots := 0, locals := 180 } [.ref (ρ 20), .int a1, .int a2, .int a3] w
      (fun o w' => o = none ∧ kI true w' ∧ kF [(2, some 9), (3, none), (5, some 6), (6, none), (7, none), (20, some 16)] w w') := by
  refine kM_of (own := "TaleMachine$Engine") rfl (by decide) (Nat.le_of_ble_eq_true rfl) ?_
  intro p e s m args below meth c C hr hlk
  have hF0 : kF [(2, some 9), (3, none), (5, some 6), (6, none), (7, none), (20, some 16)] w w := kF.rf
  have c_m1 : (-1 : Int32).toInt = -1 := by decide
  have c_0 : (0 : Int32).toInt = 0 := by decide
  have c_1 : (1 : Int32).toInt = 1 := by decide
  have c_4 : (4 : Int32).toInt = 4 := by decide
  refine kV.L (L' := [(0, .ref (ρ 20)), (1, .int a1), (2, .int a2), (3, .int a3)]) rfl ?_
  have g1 := kf_rng a1
  have g2 := kf_rng a2
  have g3 := kf_rng a3
  have cut294 : ∀ (w_294 : kw), kI true w_294 → kF [(2, some 9), (3, none), (5, some 6), (6, none), (7, none), (20, some 16)] w w_294 → kV p l e { frames := 5, cells := 0, slots := 0, locals := 180 } s m args below meth c (kQ below args s D τ ρ (fun o w' => o = none ∧ kI true w' ∧ kF [(2, some 9), (3, none), (5, some 6), (6, none), (7, none), (20, some 16)] w w')) 4 D τ ρ 294 [] [] w_294 := by
    intro w_294  I_294 F_294 
    exact kv_vret C hr hlk (kdec dk_cX1_performTwo 116 rfl) ⟨rfl, I_294, F_294⟩
  refine kv_iload_n C 1 rfl 1 (kdec dk_cX1_performTwo 0 rfl) rfl rfl ?_
  by_cases d4 : a1.toInt = 1
  · skip
    refine kv_tableIn C 1 68 (kdec dk_cX1_performTwo 1 rfl) d4 (by decide) (by decide) rfl (by decide) ?_
    refine kv_aload_n C 69 rfl 0 (kdec dk_cX1_performTwo 2 rfl) rfl rfl ?_
    refine kv_aload_n C 70 rfl 0 (kdec dk_cX1_performTwo 3 rfl) rfl rfl ?_
    refine kv_callVi (As := []) (rest := [.ref (ρ 20)]) C 73 rfl 20 (k_e_isAnyOfTheOthers l D τ ρ σ w  hI ) rfl rfl mml_TaleMachine_Engine_182 mim_yX1_isAnyOfTheOthers mse_yX1_isAnyOfTheOthers mcd_yX1_isAnyOfTheOthers min_yX1_isAnyOfTheOthers hd_yX1_isAnyOfTheOthers rfl rfl rfl (by decide) rfl (Nat.le_of_ble_eq_true rfl) (kdec dk_cX1_performTwo 4 rfl) (fun x9 w5 h6 => ?_)
    obtain ⟨I7, f8, p10⟩ := h6
    have F11 : kF [(2, some 9), (3, none), (5, some 6), (6, none), (7, none), (20, some 16)] w w5 := kF_call hF0 f8 (by decide)
    have g12 := kf_rng x9
    refine kv_put C 76 rfl 20 16 rfl rfl inX1 (by decide) mfl_TaleMachine_Engine_160 rfl tyX1 tyX1_ok nmX1 rfl rfl (kdec dk_cX1_performTwo 5 rfl) (kf_bool (by omega)) (kf_boolf (by omega)) (fun w13 u14 => ?_)
    have I15 : kI true w13 := kI_put u14 I7 (show (0 : Int) ≤ (x9 : Int32).toInt by omega) (show (x9 : Int32).toInt ≤ 1 by omega)
    have F16 : kF [(2, some 9), (3, none), (5, some 6), (6, none), (7, none), (20, some 16)] w w13 := kF_put u14 F11 rfl
    refine kv_goto C 294 (kdec dk_cX1_performTwo 6 rfl) (by decide) ?_
    refine kV.sub [] (L' := []) rfl ?_
    exact cut294 w13  I15 F16 
  by_cases d17 : a1.toInt = 2
  · skip
    refine kv_tableIn C 2 79 (kdec dk_cX1_performTwo 1 rfl) d17 (by decide) (by decide) rfl (by decide) ?_
    refine kv_aload_n C 80 rfl 0 (kdec dk_cX1_performTwo 7 rfl) rfl rfl ?_
    refine kv_iload_n C 81 rfl 2 (kdec dk_cX1_performTwo 8 rfl) rfl rfl ?_
    refine kv_callSNi (As := [.int a2]) (rest := [.ref (ρ 20)]) C 84 rfl (k_signed l D τ ρ σ w a2 hI ) mmn_TaleMachine_Engine_186 mst_yX9_signed mcd_yX9_signed min_yX9_signed hd_yX9_signed rfl rfl rfl (by decide) rfl (Nat.le_of_ble_eq_true rfl) (kdec dk_cX1_performTwo 9 rfl) (fun x22 w18 h19 => ?_)
    obtain ⟨I20, f21⟩ := h19
    have F23 : kF [(2, some 9), (3, none), (5, some 6), (6, none), (7, none), (20, some 16)] w w18 := kF_call hF0 f21 (by decide)
    have g24 := kf_rng x22
    refine kv_iload_n C 85 rfl 3 (kdec dk_cX1_performTwo 10 rfl) rfl rfl ?_
    refine kv_callSNi (As := [.int a3]) (rest := [.int x22, .ref (ρ 20)]) C 88 rfl (k_signed l D τ ρ σ w18 a3 I20 ) mmn_TaleMachine_Engine_186 mst_yX9_signed mcd_yX9_signed min_yX9_signed hd_yX9_signed rfl rfl rfl (by decide) rfl (Nat.le_of_ble_eq_true rfl) (kdec dk_cX1_performTwo 11 rfl) (fun x29 w25 h26 => ?_)
    obtain ⟨I27, f28⟩ := h26
    have F30 : kF [(2, some 9), (3, none), (5, some 6), (6, none), (7, none), (20, some 16)] w w25 := kF_call F23 f28 (by decide)
    have g31 := kf_rng x29
    refine kv_icmp_ge C 91 rfl 95 (kdec dk_cX1_performTwo 12 rfl) (by decide) (fun d32 => ?_) (fun d32 => ?_)
    · skip
      refine kv_iconst C 96 rfl 0 (kdec dk_cX1_performTwo 15 rfl) rfl ?_
      refine kv_put C 99 rfl 20 16 rfl rfl inX1 (by decide) mfl_TaleMachine_Engine_160 rfl tyX1 tyX1_ok nmX1 rfl rfl (kdec dk_cX1_performTwo 16 rfl) (kf_bool (by decide)) rfl (fun w33 u34 => ?_)
      have I35 : kI true w33 := kI_put u34 I27 (show (0 : Int) ≤ (0 : Int32).toInt by omega) (show (0 : Int32).toInt ≤ 1 by omega)
      have F36 : kF [(2, some 9), (3, none), (5, some 6), (6, none), (7, none), (20, some 16)] w w33 := kF_put u34 F30 rfl
      refine kv_goto C 294 (kdec dk_cX1_performTwo 17 rfl) (by decide) ?_
      refine kV.sub [] (L' := []) rfl ?_
      exact cut294 w33  I35 F36 
    · skip
      refine kv_iconst C 92 rfl 1 (kdec dk_cX1_performTwo 13 rfl) rfl ?_
      refine kv_goto C 96 (kdec dk_cX1_performTwo 14 rfl) (by decide) ?_
      refine kv_put C 99 rfl 20 16 rfl rfl inX1 (by decide) mfl_TaleMachine_Engine_160 rfl tyX1 tyX1_ok nmX1 rfl rfl (kdec dk_cX1_performTwo 16 rfl) (kf_bool (by decide)) rfl (fun w37 u38 => ?_)
      have I39 : kI true w37 := kI_put u38 I27 (show (0 : Int) ≤ (1 : Int32).toInt by omega) (show (1 : Int32).toInt ≤ 1 by omega)
      have F40 : kF [(2, some 9), (3, none), (5, some 6), (6, none), (7, none), (20, some 16)] w w37 := kF_put u38 F30 rfl
      refine kv_goto C 294 (kdec dk_cX1_performTwo 17 rfl) (by decide) ?_
      refine kV.sub [] (L' := []) rfl ?_
      exact cut294 w37  I39 F40 
  by_cases d41 : a1.toInt = 3
  · skip
    refine kv_tableIn C 3 102 (kdec dk_cX1_performTwo 1 rfl) d41 (by decide) (by decide) rfl (by decide) ?_
    refine kv_aload_n C 103 rfl 0 (kdec dk_cX1_performTwo 18 rfl) rfl rfl ?_
    refine kv_iload_n C 104 rfl 2 (kdec dk_cX1_performTwo 19 rfl) rfl rfl ?_
    refine kv_callSNi (As := [.int a2]) (rest := [.ref (ρ 20)]) C 107 rfl (k_signed l D τ ρ σ w a2 hI ) mmn_TaleMachine_Engine_186 mst_yX9_signed mcd_yX9_signed min_yX9_signed hd_yX9_signed rfl rfl rfl (by decide) rfl (Nat.le_of_ble_eq_true rfl) (kdec dk_cX1_performTwo 20 rfl) (fun x46 w42 h43 => ?_)
    obtain ⟨I44, f45⟩ := h43
    have F47 : kF [(2, some 9), (3, none), (5, some 6), (6, none), (7, none), (20, some 16)] w w42 := kF_call hF0 f45 (by decide)
    have g48 := kf_rng x46
    refine kv_iload_n C 108 rfl 3 (kdec dk_cX1_performTwo 21 rfl) rfl rfl ?_
    refine kv_callSNi (As := [.int a3]) (rest := [.int x46, .ref (ρ 20)]) C 111 rfl (k_signed l D τ ρ σ w42 a3 I44 ) mmn_TaleMachine_Engine_186 mst_yX9_signed mcd_yX9_signed min_yX9_signed hd_yX9_signed rfl rfl rfl (by decide) rfl (Nat.le_of_ble_eq_true rfl) (kdec dk_cX1_performTwo 22 rfl) (fun x53 w49 h50 => ?_)
    obtain ⟨I51, f52⟩ := h50
    have F54 : kF [(2, some 9), (3, none), (5, some 6), (6, none), (7, none), (20, some 16)] w w49 := kF_call F47 f52 (by decide)
    have g55 := kf_rng x53
    refine kv_icmp_le C 114 rfl 118 (kdec dk_cX1_performTwo 23 rfl) (by decide) (fun d56 => ?_) (fun d56 => ?_)
    · skip
      refine kv_iconst C 119 rfl 0 (kdec dk_cX1_performTwo 26 rfl) rfl ?_
      refine kv_put C 122 rfl 20 16 rfl rfl inX1 (by decide) mfl_TaleMachine_Engine_160 rfl tyX1 tyX1_ok nmX1 rfl rfl (kdec dk_cX1_performTwo 27 rfl) (kf_bool (by decide)) rfl (fun w57 u58 => ?_)
      have I59 : kI true w57 := kI_put u58 I51 (show (0 : Int) ≤ (0 : Int32).toInt by omega) (show (0 : Int32).toInt ≤ 1 by omega)
      have F60 : kF [(2, some 9), (3, none), (5, some 6), (6, none), (7, none), (20, some 16)] w w57 := kF_put u58 F54 rfl
      refine kv_goto C 294 (kdec dk_cX1_performTwo 28 rfl) (by decide) ?_
      refine kV.sub [] (L' := []) rfl ?_
      exact cut294 w57  I59 F60 
    · skip
      refine kv_iconst C 115 rfl 1 (kdec dk_cX1_performTwo 24 rfl) rfl ?_
      refine kv_goto C 119 (kdec dk_cX1_performTwo 25 rfl) (by decide) ?_
      refine kv_put C 122 rfl 20 16 rfl rfl inX1 (by decide) mfl_TaleMachine_Engine_160 rfl tyX1 tyX1_ok nmX1 rfl rfl (kdec dk_cX1_performTwo 27 rfl) (kf_bool (by decide)) rfl (fun w61 u62 => ?_)
      have I63 : kI true w61 := kI_put u62 I51 (show (0 : Int) ≤ (1 : Int32).toInt by omega) (show (1 : Int32).toInt ≤ 1 by omega)
      have F64 : kF [(2, some 9), (3, none), (5, some 6), (6, none), (7, none), (20, some 16)] w w61 := kF_put u62 F54 rfl
      refine kv_goto C 294 (kdec dk_cX1_performTwo 28 rfl) (by decide) ?_
      refine kV.sub [] (L' := []) rfl ?_
      exact cut294 w61  I63 F64 
  by_cases d65 : a1.toInt = 4
  · skip
    refine kv_tableIn C 4 125 (kdec dk_cX1_performTwo 1 rfl) d65 (by decide) (by decide) rfl (by decide) ?_
    refine kv_aload_n C 126 rfl 0 (kdec dk_cX1_performTwo 29 rfl) rfl rfl ?_
    refine kv_aload_n C 127 rfl 0 (kdec dk_cX1_performTwo 30 rfl) rfl rfl ?_
    refine kv_getr C 130 rfl 20 2 rfl rfl inX1 (by decide) mfl_TaleMachine_Engine_32 rfl rfl (kdec dk_cX1_performTwo 31 rfl) ?_
    refine kv_iload_n C 131 rfl 2 (kdec dk_cX1_performTwo 32 rfl) rfl rfl ?_
    refine kv_iconst C 132 rfl (-1) (kdec dk_cX1_performTwo 33 rfl) rfl ?_
    refine kv_callVNi (As := [.int a2, .int (-1)]) (rest := [.ref (ρ 20)]) C 135 rfl 21 (k_stepNamed l D τ ρ σ w a2 (-1) hI ) rfl rfl mmn_TaleMachine_Engine_189 mim_yX8_stepNamed mse_yX8_stepNamed mcd_yX8_stepNamed min_yX8_stepNamed hd_yX8_stepNamed rfl rfl rfl (by decide) rfl (Nat.le_of_ble_eq_true rfl) (kdec dk_cX1_performTwo 34 rfl) (fun x70 w66 h67 => ?_)
    obtain ⟨I68, f69⟩ := h67
    have F71 : kF [(2, some 9), (3, none), (5, some 6), (6, none), (7, none), (20, some 16)] w w66 := kF_call hF0 f69 (by decide)
    have g72 := kf_rng x70
    refine kv_callSNi (As := [.int x70]) (rest := [.ref (ρ 20)]) C 138 rfl (k_signed l D τ ρ σ w66 x70 I68 ) mmn_TaleMachine_Engine_186 mst_yX9_signed mcd_yX9_signed min_yX9_signed hd_yX9_signed rfl rfl rfl (by decide) rfl (Nat.le_of_ble_eq_true rfl) (kdec dk_cX1_performTwo 35 rfl) (fun x77 w73 h74 => ?_)
    obtain ⟨I75, f76⟩ := h74
    have F78 : kF [(2, some 9), (3, none), (5, some 6), (6, none), (7, none), (20, some 16)] w w73 := kF_call F71 f76 (by decide)
    have g79 := kf_rng x77
    refine kv_iload_n C 139 rfl 3 (kdec dk_cX1_performTwo 36 rfl) rfl rfl ?_
    refine kv_callSNi (As := [.int a3]) (rest := [.int x77, .ref (ρ 20)]) C 142 rfl (k_signed l D τ ρ σ w73 a3 I75 ) mmn_TaleMachine_Engine_186 mst_yX9_signed mcd_yX9_signed min_yX9_signed hd_yX9_signed rfl rfl rfl (by decide) rfl (Nat.le_of_ble_eq_true rfl) (kdec dk_cX1_performTwo 37 rfl) (fun x84 w80 h81 => ?_)
    obtain ⟨I82, f83⟩ := h81
    have F85 : kF [(2, some 9), (3, none), (5, some 6), (6, none), (7, none), (20, some 16)] w w80 := kF_call F78 f83 (by decide)
    have g86 := kf_rng x84
    refine kv_icmp_ge C 145 rfl 149 (kdec dk_cX1_performTwo 38 rfl) (by decide) (fun d87 => ?_) (fun d87 => ?_)
    · skip
      refine kv_iconst C 150 rfl 0 (kdec dk_cX1_performTwo 41 rfl) rfl ?_
      refine kv_put C 153 rfl 20 16 rfl rfl inX1 (by decide) mfl_TaleMachine_Engine_160 rfl tyX1 tyX1_ok nmX1 rfl rfl (kdec dk_cX1_performTwo 42 rfl) (kf_bool (by decide)) rfl (fun w88 u89 => ?_)
      have I90 : kI true w88 := kI_put u89 I82 (show (0 : Int) ≤ (0 : Int32).toInt by omega) (show (0 : Int32).toInt ≤ 1 by omega)
      have F91 : kF [(2, some 9), (3, none), (5, some 6), (6, none), (7, none), (20, some 16)] w w88 := kF_put u89 F85 rfl
      refine kv_goto C 294 (kdec dk_cX1_performTwo 43 rfl) (by decide) ?_
      refine kV.sub [] (L' := []) rfl ?_
      exact cut294 w88  I90 F91 
    · skip
      refine kv_iconst C 146 rfl 1 (kdec dk_cX1_performTwo 39 rfl) rfl ?_
      refine kv_goto C 150 (kdec dk_cX1_performTwo 40 rfl) (by decide) ?_
      refine kv_put C 153 rfl 20 16 rfl rfl inX1 (by decide) mfl_TaleMachine_Engine_160 rfl tyX1 tyX1_ok nmX1 rfl rfl (kdec dk_cX1_performTwo 42 rfl) (kf_bool (by decide)) rfl (fun w92 u93 => ?_)
      have I94 : kI true w92 := kI_put u93 I82 (show (0 : Int) ≤ (1 : Int32).toInt by omega) (show (1 : Int32).toInt ≤ 1 by omega)
      have F95 : kF [(2, some 9), (3, none), (5, some 6), (6, none), (7, none), (20, some 16)] w w92 := kF_put u93 F85 rfl
      refine kv_goto C 294 (kdec dk_cX1_performTwo 43 rfl) (by decide) ?_
      refine kV.sub [] (L' := []) rfl ?_
      exact cut294 w92  I94 F95 
  by_cases d96 : a1.toInt = 5
  · skip
    refine kv_tableIn C 5 156 (kdec dk_cX1_performTwo 1 rfl) d96 (by decide) (by decide) rfl (by decide) ?_
    refine kv_aload_n C 157 rfl 0 (kdec dk_cX1_performTwo 44 rfl) rfl rfl ?_
    refine kv_aload_n C 158 rfl 0 (kdec dk_cX1_performTwo 45 rfl) rfl rfl ?_
    refine kv_getr C 161 rfl 20 2 rfl rfl inX1 (by decide) mfl_TaleMachine_Engine_32 rfl rfl (kdec dk_cX1_performTwo 46 rfl) ?_
    refine kv_iload_n C 162 rfl 2 (kdec dk_cX1_performTwo 47 rfl) rfl rfl ?_
    refine kv_iconst C 163 rfl 1 (kdec dk_cX1_performTwo 48 rfl) rfl ?_
    refine kv_callVNi (As := [.int a2, .int 1]) (rest := [.ref (ρ 20)]) C 166 rfl 21 (k_stepNamed l D τ ρ σ w a2 1 hI ) rfl rfl mmn_TaleMachine_Engine_189 mim_yX8_stepNamed mse_yX8_stepNamed mcd_yX8_stepNamed min_yX8_stepNamed hd_yX8_stepNamed rfl rfl rfl (by decide) rfl (Nat.le_of_ble_eq_true rfl) (kdec dk_cX1_performTwo 49 rfl) (fun x101 w97 h98 => ?_)
    obtain ⟨I99, f100⟩ := h98
    have F102 : kF [(2, some 9), (3, none), (5, some 6), (6, none), (7, none), (20, some 16)] w w97 := kF_call hF0 f100 (by decide)
    have g103 := kf_rng x101
    refine kv_callSNi (As := [.int x101]) (rest := [.ref (ρ 20)]) C 169 rfl (k_signed l D τ ρ σ w97 x101 I99 ) mmn_TaleMachine_Engine_186 mst_yX9_signed mcd_yX9_signed min_yX9_signed hd_yX9_signed rfl rfl rfl (by decide) rfl (Nat.le_of_ble_eq_true rfl) (kdec dk_cX1_performTwo 50 rfl) (fun x108 w104 h105 => ?_)
    obtain ⟨I106, f107⟩ := h105
    have F109 : kF [(2, some 9), (3, none), (5, some 6), (6, none), (7, none), (20, some 16)] w w104 := kF_call F102 f107 (by decide)
    have g110 := kf_rng x108
    refine kv_iload_n C 170 rfl 3 (kdec dk_cX1_performTwo 51 rfl) rfl rfl ?_
    refine kv_callSNi (As := [.int a3]) (rest := [.int x108, .ref (ρ 20)]) C 173 rfl (k_signed l D τ ρ σ w104 a3 I106 ) mmn_TaleMachine_Engine_186 mst_yX9_signed mcd_yX9_signed min_yX9_signed hd_yX9_signed rfl rfl rfl (by decide) rfl (Nat.le_of_ble_eq_true rfl) (kdec dk_cX1_performTwo 52 rfl) (fun x115 w111 h112 => ?_)
    obtain ⟨I113, f114⟩ := h112
    have F116 : kF [(2, some 9), (3, none), (5, some 6), (6, none), (7, none), (20, some 16)] w w111 := kF_call F109 f114 (by decide)
    have g117 := kf_rng x115
    refine kv_icmp_le C 176 rfl 180 (kdec dk_cX1_performTwo 53 rfl) (by decide) (fun d118 => ?_) (fun d118 => ?_)
    · skip
      refine kv_iconst C 181 rfl 0 (kdec dk_cX1_performTwo 56 rfl) rfl ?_
      refine kv_put C 184 rfl 20 16 rfl rfl inX1 (by decide) mfl_TaleMachine_Engine_160 rfl tyX1 tyX1_ok nmX1 rfl rfl (kdec dk_cX1_performTwo 57 rfl) (kf_bool (by decide)) rfl (fun w119 u120 => ?_)
      have I121 : kI true w119 := kI_put u120 I113 (show (0 : Int) ≤ (0 : Int32).toInt by omega) (show (0 : Int32).toInt ≤ 1 by omega)
      have F122 : kF [(2, some 9), (3, none), (5, some 6), (6, none), (7, none), (20, some 16)] w w119 := kF_put u120 F116 rfl
      refine kv_goto C 294 (kdec dk_cX1_performTwo 58 rfl) (by decide) ?_
      refine kV.sub [] (L' := []) rfl ?_
      exact cut294 w119  I121 F122 
    · skip
      refine kv_iconst C 177 rfl 1 (kdec dk_cX1_performTwo 54 rfl) rfl ?_
      refine kv_goto C 181 (kdec dk_cX1_performTwo 55 rfl) (by decide) ?_
      refine kv_put C 184 rfl 20 16 rfl rfl inX1 (by decide) mfl_TaleMachine_Engine_160 rfl tyX1 tyX1_ok nmX1 rfl rfl (kdec dk_cX1_performTwo 57 rfl) (kf_bool (by decide)) rfl (fun w123 u124 => ?_)
      have I125 : kI true w123 := kI_put u124 I113 (show (0 : Int) ≤ (1 : Int32).toInt by omega) (show (1 : Int32).toInt ≤ 1 by omega)
      have F126 : kF [(2, some 9), (3, none), (5, some 6), (6, none), (7, none), (20, some 16)] w w123 := kF_put u124 F116 rfl
      refine kv_goto C 294 (kdec dk_cX1_performTwo 58 rfl) (by decide) ?_
      refine kV.sub [] (L' := []) rfl ?_
      exact cut294 w123  I125 F126 
  by_cases d127 : a1.toInt = 6
  · skip
    refine kv_tableIn C 6 187 (kdec dk_cX1_performTwo 1 rfl) d127 (by decide) (by decide) rfl (by decide) ?_
    refine kv_aload_n C 188 rfl 0 (kdec dk_cX1_performTwo 59 rfl) rfl rfl ?_
    refine kv_aload_n C 189 rfl 0 (kdec dk_cX1_performTwo 60 rfl) rfl rfl ?_
    refine kv_getr C 192 rfl 20 3 rfl rfl inX1 (by decide) mfl_TaleMachine_Engine_41 rfl rfl (kdec dk_cX1_performTwo 61 rfl) ?_
    refine kv_iload_n C 193 rfl 2 (kdec dk_cX1_performTwo 62 rfl) rfl rfl ?_
    refine kv_iconst C 194 rfl 4 (kdec dk_cX1_performTwo 63 rfl) rfl ?_
    refine kv_callVNi (As := [.int a2, .int 4]) (rest := [.ref (ρ 20)]) C 197 rfl 22 (k_linkOf l D τ ρ σ w a2 4 hI ) rfl rfl mmn_TaleMachine_Engine_193 mim_yX2_linkOf mse_yX2_linkOf mcd_yX2_linkOf min_yX2_linkOf hd_yX2_linkOf rfl rfl rfl (by decide) rfl (Nat.le_of_ble_eq_true rfl) (kdec dk_cX1_performTwo 64 rfl) (fun x132 w128 h129 => ?_)
    obtain ⟨I130, f131⟩ := h129
    have F133 : kF [(2, some 9), (3, none), (5, some 6), (6, none), (7, none), (20, some 16)] w w128 := kF_call hF0 f131 (by decide)
    have g134 := kf_rng x132
    refine kv_iload_n C 198 rfl 3 (kdec dk_cX1_performTwo 65 rfl) rfl rfl ?_
    refine kv_icmp_ne C 201 rfl 205 (kdec dk_cX1_performTwo 66 rfl) (by decide) (fun d135 => ?_) (fun d135 => ?_)
    · skip
      refine kv_iconst C 206 rfl 0 (kdec dk_cX1_performTwo 69 rfl) rfl ?_
      refine kv_put C 209 rfl 20 16 rfl rfl inX1 (by decide) mfl_TaleMachine_Engine_160 rfl tyX1 tyX1_ok nmX1 rfl rfl (kdec dk_cX1_performTwo 70 rfl) (kf_bool (by decide)) rfl (fun w136 u137 => ?_)
      have I138 : kI true w136 := kI_put u137 I130 (show (0 : Int) ≤ (0 : Int32).toInt by omega) (show (0 : Int32).toInt ≤ 1 by omega)
      have F139 : kF [(2, some 9), (3, none), (5, some 6), (6, none), (7, none), (20, some 16)] w w136 := kF_put u137 F133 rfl
      refine kv_goto C 294 (kdec dk_cX1_performTwo 71 rfl) (by decide) ?_
      refine kV.sub [] (L' := []) rfl ?_
      exact cut294 w136  I138 F139 
    · skip
      refine kv_iconst C 202 rfl 1 (kdec dk_cX1_performTwo 67 rfl) rfl ?_
      refine kv_goto C 206 (kdec dk_cX1_performTwo 68 rfl) (by decide) ?_
      refine kv_put C 209 rfl 20 16 rfl rfl inX1 (by decide) mfl_TaleMachine_Engine_160 rfl tyX1 tyX1_ok nmX1 rfl rfl (kdec dk_cX1_performTwo 70 rfl) (kf_bool (by decide)) rfl (fun w140 u141 => ?_)
      have I142 : kI true w140 := kI_put u141 I130 (show (0 : Int) ≤ (1 : Int32).toInt by omega) (show (1 : Int32).toInt ≤ 1 by omega)
      have F143 : kF [(2, some 9), (3, none), (5, some 6), (6, none), (7, none), (20, some 16)] w w140 := kF_put u141 F133 rfl
      refine kv_goto C 294 (kdec dk_cX1_performTwo 71 rfl) (by decide) ?_
      refine kV.sub [] (L' := []) rfl ?_
      exact cut294 w140  I142 F143 
  by_cases d144 : a1.toInt = 7
  · skip
    refine kv_tableIn C 7 212 (kdec dk_cX1_performTwo 1 rfl) d144 (by decide) (by decide) rfl (by decide) ?_
    refine kv_aload_n C 213 rfl 0 (kdec dk_cX1_performTwo 72 rfl) rfl rfl ?_
    refine kv_iload_n C 214 rfl 2 (kdec dk_cX1_performTwo 73 rfl) rfl rfl ?_
    refine kv_iload_n C 215 rfl 3 (kdec dk_cX1_performTwo 74 rfl) rfl rfl ?_
    refine kv_iand C 216 rfl (kdec dk_cX1_performTwo 75 rfl) (fun x145 h146e h146l h146u => ?_)
    refine kv_iload_n C 217 rfl 3 (kdec dk_cX1_performTwo 76 rfl) rfl rfl ?_
    refine kv_icmp_ne C 220 rfl 224 (kdec dk_cX1_performTwo 77 rfl) (by decide) (fun d147 => ?_) (fun d147 => ?_)
    · skip
      refine kv_iconst C 225 rfl 0 (kdec dk_cX1_performTwo 80 rfl) rfl ?_
      refine kv_put C 228 rfl 20 16 rfl rfl inX1 (by decide) mfl_TaleMachine_Engine_160 rfl tyX1 tyX1_ok nmX1 rfl rfl (kdec dk_cX1_performTwo 81 rfl) (kf_bool (by decide)) rfl (fun w148 u149 => ?_)
      have I150 : kI true w148 := kI_put u149 hI (show (0 : Int) ≤ (0 : Int32).toInt by omega) (show (0 : Int32).toInt ≤ 1 by omega)
      have F151 : kF [(2, some 9), (3, none), (5, some 6), (6, none), (7, none), (20, some 16)] w w148 := kF_put u149 hF0 rfl
      refine kv_goto C 294 (kdec dk_cX1_performTwo 82 rfl) (by decide) ?_
      refine kV.sub [] (L' := []) rfl ?_
      exact cut294 w148  I150 F151 
    · skip
      refine kv_iconst C 221 rfl 1 (kdec dk_cX1_performTwo 78 rfl) rfl ?_
      refine kv_goto C 225 (kdec dk_cX1_performTwo 79 rfl) (by decide) ?_
      refine kv_put C 228 rfl 20 16 rfl rfl inX1 (by decide) mfl_TaleMachine_Engine_160 rfl tyX1 tyX1_ok nmX1 rfl rfl (kdec dk_cX1_performTwo 81 rfl) (kf_bool (by decide)) rfl (fun w152 u153 => ?_)
      have I154 : kI true w152 := kI_put u153 hI (show (0 : Int) ≤ (1 : Int32).toInt by omega) (show (1 : Int32).toInt ≤ 1 by omega)
      have F155 : kF [(2, some 9), (3, none), (5, some 6), (6, none), (7, none), (20, some 16)] w w152 := kF_put u153 hF0 rfl
      refine kv_goto C 294 (kdec dk_cX1_performTwo 82 rfl) (by decide) ?_
      refine kV.sub [] (L' := []) rfl ?_
      exact cut294 w152  I154 F155 
  by_cases d156 : a1.toInt = 8
  · skip
    refine kv_tableIn C 8 285 (kdec dk_cX1_performTwo 1 rfl) d156 (by decide) (by decide) rfl (by decide) ?_
    refine kv_aload_n C 286 rfl 0 (kdec dk_cX1_performTwo 111 rfl) rfl rfl ?_
    refine kv_getr C 289 rfl 20 3 rfl rfl inX1 (by decide) mfl_TaleMachine_Engine_41 rfl rfl (kdec dk_cX1_performTwo 112 rfl) ?_
    refine kv_iload_n C 290 rfl 2 (kdec dk_cX1_performTwo 113 rfl) rfl rfl ?_
    refine kv_iload_n C 291 rfl 3 (kdec dk_cX1_performTwo 114 rfl) rfl rfl ?_
    refine kv_callVNv (As := [.int a2, .int a3]) (rest := []) C 294 rfl 22 (k_insert l D τ ρ σ w a2 a3 hI ) rfl rfl mmn_TaleMachine_Engine_207 mim_yX2_insert mse_yX2_insert mcd_yX2_insert min_yX2_insert hd_yX2_insert rfl rfl rfl (by decide) rfl (Nat.le_of_ble_eq_true rfl) (kdec dk_cX1_performTwo 115 rfl) (fun w157 h158 => ?_)
    obtain ⟨I159, f160⟩ := h158
    have F162 : kF [(2, some 9), (3, none), (5, some 6), (6, none), (7, none), (20, some 16)] w w157 := kF_call hF0 f160 (by decide)
    refine kV.sub [] (L' := []) rfl ?_
    exact cut294 w157  I159 F162 
  by_cases d163 : a1.toInt = 9
  · skip
    refine kv_tableIn C 9 285 (kdec dk_cX1_performTwo 1 rfl) d163 (by decide) (by decide) rfl (by decide) ?_
    refine kv_aload_n C 286 rfl 0 (kdec dk_cX1_performTwo 111 rfl) rfl rfl ?_
    refine kv_getr C 289 rfl 20 3 rfl rfl inX1 (by decide) mfl_TaleMachine_Engine_41 rfl rfl (kdec dk_cX1_performTwo 112 rfl) ?_
    refine kv_iload_n C 290 rfl 2 (kdec dk_cX1_performTwo 113 rfl) rfl rfl ?_
    refine kv_iload_n C 291 rfl 3 (kdec dk_cX1_performTwo 114 rfl) rfl rfl ?_
    refine kv_callVNv (As := [.int a2, .int a3]) (rest := []) C 294 rfl 22 (k_insert l D τ ρ σ w a2 a3 hI ) rfl rfl mmn_TaleMachine_Engine_207 mim_yX2_insert mse_yX2_insert mcd_yX2_insert min_yX2_insert hd_yX2_insert rfl rfl rfl (by decide) rfl (Nat.le_of_ble_eq_true rfl) (kdec dk_cX1_performTwo 115 rfl) (fun w164 h165 => ?_)
    obtain ⟨I166, f167⟩ := h165
    have F169 : kF [(2, some 9), (3, none), (5, some 6), (6, none), (7, none), (20, some 16)] w w164 := kF_call hF0 f167 (by decide)
    refine kV.sub [] (L' := []) rfl ?_
    exact cut294 w164  I166 F169 
  by_cases d170 : a1.toInt = 10
  · skip
    refine kv_tableIn C 10 231 (kdec dk_cX1_performTwo 1 rfl) d170 (by decide) (by decide) rfl (by decide) ?_
    refine kv_aload_n C 232 rfl 0 (kdec dk_cX1_performTwo 83 rfl) rfl rfl ?_
    refine kv_aload_n C 233 rfl 0 (kdec dk_cX1_performTwo 84 rfl) rfl rfl ?_
    refine kv_getr C 236 rfl 20 3 rfl rfl inX1 (by decide) mfl_TaleMachine_Engine_41 rfl rfl (kdec dk_cX1_performTwo 85 rfl) ?_
    refine kv_iload_n C 237 rfl 2 (kdec dk_cX1_performTwo 86 rfl) rfl rfl ?_
    refine kv_iload_n C 238 rfl 3 (kdec dk_cX1_performTwo 87 rfl) rfl rfl ?_
    refine kv_callVNi (As := [.int a2, .int a3]) (rest := [.ref (ρ 20)]) C 241 rfl 22 (k_hasAttribute l D τ ρ σ w a2 a3 hI ) rfl rfl mmn_TaleMachine_Engine_196 mim_yX2_hasAttribute mse_yX2_hasAttribute mcd_yX2_hasAttribute min_yX2_hasAttribute hd_yX2_hasAttribute rfl rfl rfl (by decide) rfl (Nat.le_of_ble_eq_true rfl) (kdec dk_cX1_performTwo 88 rfl) (fun x175 w171 h172 => ?_)
    obtain ⟨I173, f174, p176⟩ := h172
    have F177 : kF [(2, some 9), (3, none), (5, some 6), (6, none), (7, none), (20, some 16)] w w171 := kF_call hF0 f174 (by decide)
    have g178 := kf_rng x175
    refine kv_put C 244 rfl 20 16 rfl rfl inX1 (by decide) mfl_TaleMachine_Engine_160 rfl tyX1 tyX1_ok nmX1 rfl rfl (kdec dk_cX1_performTwo 89 rfl) (kf_bool (by omega)) (kf_boolf (by omega)) (fun w179 u180 => ?_)
    have I181 : kI true w179 := kI_put u180 I173 (show (0 : Int) ≤ (x175 : Int32).toInt by omega) (show (x175 : Int32).toInt ≤ 1 by omega)
    have F182 : kF [(2, some 9), (3, none), (5, some 6), (6, none), (7, none), (20, some 16)] w w179 := kF_put u180 F177 rfl
    refine kv_goto C 294 (kdec dk_cX1_performTwo 90 rfl) (by decide) ?_
    refine kV.sub [] (L' := []) rfl ?_
    exact cut294 w179  I181 F182 
  by_cases d183 : a1.toInt = 11
  · skip
    refine kv_tableIn C 11 247 (kdec dk_cX1_performTwo 1 rfl) d183 (by decide) (by decide) rfl (by decide) ?_
    refine kv_aload_n C 248 rfl 0 (kdec dk_cX1_performTwo 91 rfl) rfl rfl ?_
    refine kv_getr C 251 rfl 20 3 rfl rfl inX1 (by decide) mfl_TaleMachine_Engine_41 rfl rfl (kdec dk_cX1_performTwo 92 rfl) ?_
    refine kv_iload_n C 252 rfl 2 (kdec dk_cX1_performTwo 93 rfl) rfl rfl ?_
    refine kv_iload_n C 253 rfl 3 (kdec dk_cX1_performTwo 94 rfl) rfl rfl ?_
    refine kv_iconst C 254 rfl 1 (kdec dk_cX1_performTwo 95 rfl) rfl ?_
    refine kv_callVNv (As := [.int a2, .int a3, .int 1]) (rest := []) C 257 rfl 22 (k_setAttribute l D τ ρ σ w a2 a3 1 hI ) rfl rfl mmn_TaleMachine_Engine_200 mim_yX2_setAttribute mse_yX2_setAttribute mcd_yX2_setAttribute min_yX2_setAttribute hd_yX2_setAttribute rfl rfl rfl (by decide) rfl (Nat.le_of_ble_eq_true rfl) (kdec dk_cX1_performTwo 96 rfl) (fun w184 h185 => ?_)
    obtain ⟨I186, f187⟩ := h185
    have F189 : kF [(2, some 9), (3, none), (5, some 6), (6, none), (7, none), (20, some 16)] w w184 := kF_call hF0 f187 (by decide)
    refine kv_goto C 294 (kdec dk_cX1_performTwo 97 rfl) (by decide) ?_
    refine kV.sub [] (L' := []) rfl ?_
    exact cut294 w184  I186 F189 
  by_cases d190 : a1.toInt = 12
  · skip
    refine kv_tableIn C 12 260 (kdec dk_cX1_performTwo 1 rfl) d190 (by decide) (by decide) rfl (by decide) ?_
    refine kv_aload_n C 261 rfl 0 (kdec dk_cX1_performTwo 98 rfl) rfl rfl ?_
    refine kv_getr C 264 rfl 20 3 rfl rfl inX1 (by decide) mfl_TaleMachine_Engine_41 rfl rfl (kdec dk_cX1_performTwo 99 rfl) ?_
    refine kv_iload_n C 265 rfl 2 (kdec dk_cX1_performTwo 100 rfl) rfl rfl ?_
    refine kv_iload_n C 266 rfl 3 (kdec dk_cX1_performTwo 101 rfl) rfl rfl ?_
    refine kv_iconst C 267 rfl 0 (kdec dk_cX1_performTwo 102 rfl) rfl ?_
    refine kv_callVNv (As := [.int a2, .int a3, .int 0]) (rest := []) C 270 rfl 22 (k_setAttribute l D τ ρ σ w a2 a3 0 hI ) rfl rfl mmn_TaleMachine_Engine_200 mim_yX2_setAttribute mse_yX2_setAttribute mcd_yX2_setAttribute min_yX2_setAttribute hd_yX2_setAttribute rfl rfl rfl (by decide) rfl (Nat.le_of_ble_eq_true rfl) (kdec dk_cX1_performTwo 103 rfl) (fun w191 h192 => ?_)
    obtain ⟨I193, f194⟩ := h192
    have F196 : kF [(2, some 9), (3, none), (5, some 6), (6, none), (7, none), (20, some 16)] w w191 := kF_call hF0 f194 (by decide)
    refine kv_goto C 294 (kdec dk_cX1_performTwo 104 rfl) (by decide) ?_
    refine kV.sub [] (L' := []) rfl ?_
    exact cut294 w191  I193 F196 
  by_cases d197 : a1.toInt = 13
  · skip
    refine kv_tableIn C 13 273 (kdec dk_cX1_performTwo 1 rfl) d197 (by decide) (by decide) rfl (by decide) ?_
    refine kv_aload_n C 274 rfl 0 (kdec dk_cX1_performTwo 105 rfl) rfl rfl ?_
    refine kv_getr C 277 rfl 20 2 rfl rfl inX1 (by decide) mfl_TaleMachine_Engine_32 rfl rfl (kdec dk_cX1_performTwo 106 rfl) ?_
    refine kv_iload_n C 278 rfl 2 (kdec dk_cX1_performTwo 107 rfl) rfl rfl ?_
    refine kv_iload_n C 279 rfl 3 (kdec dk_cX1_performTwo 108 rfl) rfl rfl ?_
    refine kv_callVNv (As := [.int a2, .int a3]) (rest := []) C 282 rfl 21 (k_assignNamed l D τ ρ σ w a2 a3 hI ) rfl rfl mmn_TaleMachine_Engine_204 mim_yX8_assignNamed mse_yX8_assignNamed mcd_yX8_assignNamed min_yX8_assignNamed hd_yX8_assignNamed rfl rfl rfl (by decide) rfl (Nat.le_of_ble_eq_true rfl) (kdec dk_cX1_performTwo 109 rfl) (fun w198 h199 => ?_)
    obtain ⟨I200, f201⟩ := h199
    have F203 : kF [(2, some 9), (3, none), (5, some 6), (6, none), (7, none), (20, some 16)] w w198 := kF_call hF0 f201 (by decide)
    refine kv_goto C 294 (kdec dk_cX1_performTwo 110 rfl) (by decide) ?_
    refine kV.sub [] (L' := []) rfl ?_
    exact cut294 w198  I200 F203 
  refine kv_tableOut C 285 (kdec dk_cX1_performTwo 1 rfl) (by omega) (by decide) ?_
  refine kv_aload_n C 286 rfl 0 (kdec dk_cX1_performTwo 111 rfl) rfl rfl ?_
  refine kv_getr C 289 rfl 20 3 rfl rfl inX1 (by decide) mfl_TaleMachine_Engine_41 rfl rfl (kdec dk_cX1_performTwo 112 rfl) ?_
  refine kv_iload_n C 290 rfl 2 (kdec dk_cX1_performTwo 113 rfl) rfl rfl ?_
  refine kv_iload_n C 291 rfl 3 (kdec dk_cX1_performTwo 114 rfl) rfl rfl ?_
  refine kv_callVNv (As := [.int a2, .int a3]) (rest := []) C 294 rfl 22 (k_insert l D τ ρ σ w a2 a3 hI ) rfl rfl mmn_TaleMachine_Engine_207 mim_yX2_insert mse_yX2_insert mcd_yX2_insert min_yX2_insert hd_yX2_insert rfl rfl rfl (by decide) rfl (Nat.le_of_ble_eq_true rfl) (kdec dk_cX1_performTwo 115 rfl) (fun w204 h205 => ?_)
  obtain ⟨I206, f207⟩ := h205
  have F209 : kF [(2, some 9), (3, none), (5, some 6), (6, none), (7, none), (20, some 16)] w w204 := kF_call hF0 f207 (by decide)
  refine kV.sub [] (L' := []) rfl ?_
  exact cut294 w204  I206 F209 

set_option maxHeartbeats 4000000 in
set_option maxRecDepth 100000 in
theorem k_e_answerOfTwo (l : Launch) (D : va_G) (τ : Nat → ClassId) (ρ σ : Nat → Nat) (w : kw) (a1 : Int32) (a2 : Int32) (a3 : Int32) (hI : kI true w)  :
    kM l D τ ρ σ yX1_answerOfTwo cX1_answerOfTwo 4 (some .int) { frames := 5, cells := 0, slots := 0, locals := 180 } [.ref (ρ 20), .int a1, .int a2, .int a3] w
      (fun o w' => ∃ r : Int32, o = some (.int r) ∧ kI true w' ∧ kF [(2, some 9)] w w') := by
  refine kM_of (own := "TaleMachine$Engine") rfl (by decide) (Nat.le_of_ble_eq_true rfl) ?_
  intro p e s m args below meth c C hr hlk
  have hF0 : kF [(2, some 9)] w w := kF.rf
  have c_2 : (2 : Int32).toInt = 2 := by decide
  refine kV.L (L' := [(0, .ref (ρ 20)), (1, .int a1), (2, .int a2), (3, .int a3)]) rfl ?_
  have g1 := kf_rng a1
  have g2 := kf_rng a2
  have g3 := kf_rng a3
  refine kv_iload_n C 1 rfl 1 (kdec dk_cX1_answerOfTwo 0 rfl) rfl rfl ?_
  by_cases d4 : a1.toInt = 8
  · skip
    refine kv_tableIn C 8 76 (kdec dk_cX1_answerOfTwo 1 rfl) d4 (by decide) (by decide) rfl (by decide) ?_
    refine kv_iload_n C 77 rfl 2 (kdec dk_cX1_answerOfTwo 2 rfl) rfl rfl ?_
    refine kv_iload_n C 78 rfl 3 (kdec dk_cX1_answerOfTwo 3 rfl) rfl rfl ?_
    refine kv_ior C 79 rfl (kdec dk_cX1_answerOfTwo 4 rfl) (fun x5 h6e h6l h6u => ?_)
    exact kv_iret C hr hlk (kdec dk_cX1_answerOfTwo 5 rfl) ⟨_, rfl, hI, hF0⟩
  by_cases d7 : a1.toInt = 9
  · skip
    refine kv_tableIn C 9 80 (kdec dk_cX1_answerOfTwo 1 rfl) d7 (by decide) (by decide) rfl (by decide) ?_
    refine kv_iload_n C 81 rfl 2 (kdec dk_cX1_answerOfTwo 6 rfl) rfl rfl ?_
    refine kv_iload_n C 82 rfl 3 (kdec dk_cX1_answerOfTwo 7 rfl) rfl rfl ?_
    refine kv_iand C 83 rfl (kdec dk_cX1_answerOfTwo 8 rfl) (fun x8 h9e h9l h9u => ?_)
    exact kv_iret C hr hlk (kdec dk_cX1_answerOfTwo 9 rfl) ⟨_, rfl, hI, hF0⟩
  by_cases d10 : a1.toInt = 10
  · skip
    refine kv_tableIn C 10 150 (kdec dk_cX1_answerOfTwo 1 rfl) d10 (by decide) (by decide) rfl (by decide) ?_
    refine kv_aload_n C 151 rfl 0 (kdec dk_cX1_answerOfTwo 56 rfl) rfl rfl ?_
    refine kv_iload_n C 152 rfl 1 (kdec dk_cX1_answerOfTwo 57 rfl) rfl rfl ?_
    refine kv_iload_n C 153 rfl 2 (kdec dk_cX1_answerOfTwo 58 rfl) rfl rfl ?_
    refine kv_callSNi (As := [.int a2]) (rest := [.int a1, .ref (ρ 20)]) C 156 rfl (k_signed l D τ ρ σ w a2 hI ) mmn_TaleMachine_Engine_186 mst_yX9_signed mcd_yX9_signed min_yX9_signed hd_yX9_signed rfl rfl rfl (by decide) rfl (Nat.le_of_ble_eq_true rfl) (kdec dk_cX1_answerOfTwo 59 rfl) (fun x15 w11 h12 => ?_)
    obtain ⟨I13, f14⟩ := h12
    have F16 : kF [(2, some 9)] w w11 := kF_call hF0 f14 (by decide)
    have g17 := kf_rng x15
    refine kv_iload_n C 157 rfl 3 (kdec dk_cX1_answerOfTwo 60 rfl) rfl rfl ?_
    refine kv_callSNi (As := [.int a3]) (rest := [.int x15, .int a1, .ref (ρ 20)]) C 160 rfl (k_signed l D τ ρ σ w11 a3 I13 ) mmn_TaleMachine_Engine_186 mst_yX9_signed mcd_yX9_signed min_yX9_signed hd_yX9_signed rfl rfl rfl (by decide) rfl (Nat.le_of_ble_eq_true rfl) (kdec dk_cX1_answerOfTwo 61 rfl) (fun x22 w18 h19 => ?_)
    obtain ⟨I20, f21⟩ := h19
    have F23 : kF [(2, some 9)] w w18 := kF_call F16 f21 (by decide)
    have g24 := kf_rng x22
    refine kv_callVi (As := [.int a1, .int x15, .int x22]) (rest := []) C 163 rfl 20 (k_e_divided l D τ ρ σ w18 a1 x15 x22 I20 ) rfl rfl mml_TaleMachine_Engine_222 mim_yX1_divided mse_yX1_divided mcd_yX1_divided min_yX1_divided hd_yX1_divided rfl rfl rfl (by decide) rfl (Nat.le_of_ble_eq_true rfl) (kdec dk_cX1_answerOfTwo 62 rfl) (fun x29 w25 h26 => ?_)
    obtain ⟨I27, f28⟩ := h26
    have F30 : kF [(2, some 9)] w w25 := kF_call F23 f28 (by decide)
    have g31 := kf_rng x29
    exact kv_iret C hr hlk (kdec dk_cX1_answerOfTwo 63 rfl) ⟨_, rfl, I27, F30⟩
  by_cases d32 : a1.toInt = 11
  · skip
    refine kv_tableIn C 11 150 (kdec dk_cX1_answerOfTwo 1 rfl) d32 (by decide) (by decide) rfl (by decide) ?_
    refine kv_aload_n C 151 rfl 0 (kdec dk_cX1_answerOfTwo 56 rfl) rfl rfl ?_
    refine kv_iload_n C 152 rfl 1 (kdec dk_cX1_answerOfTwo 57 rfl) rfl rfl ?_
    refine kv_iload_n C 153 rfl 2 (kdec dk_cX1_answerOfTwo 58 rfl) rfl rfl ?_
    refine kv_callSNi (As := [.int a2]) (rest := [.int a1, .ref (ρ 20)]) C 156 rfl (k_signed l D τ ρ σ w a2 hI ) mmn_TaleMachine_Engine_186 mst_yX9_signed mcd_yX9_signed min_yX9_signed hd_yX9_signed rfl rfl rfl (by decide) rfl (Nat.le_of_ble_eq_true rfl) (kdec dk_cX1_answerOfTwo 59 rfl) (fun x37 w33 h34 => ?_)
    obtain ⟨I35, f36⟩ := h34
    have F38 : kF [(2, some 9)] w w33 := kF_call hF0 f36 (by decide)
    have g39 := kf_rng x37
    refine kv_iload_n C 157 rfl 3 (kdec dk_cX1_answerOfTwo 60 rfl) rfl rfl ?_
    refine kv_callSNi (As := [.int a3]) (rest := [.int x37, .int a1, .ref (ρ 20)]) C 160 rfl (k_signed l D τ ρ σ w33 a3 I35 ) mmn_TaleMachine_Engine_186 mst_yX9_signed mcd_yX9_signed min_yX9_signed hd_yX9_signed rfl rfl rfl (by decide) rfl (Nat.le_of_ble_eq_true rfl) (kdec dk_cX1_answerOfTwo 61 rfl) (fun x44 w40 h41 => ?_)
    obtain ⟨I42, f43⟩ := h41
    have F45 : kF [(2, some 9)] w w40 := kF_call F38 f43 (by decide)
    have g46 := kf_rng x44
    refine kv_callVi (As := [.int a1, .int x37, .int x44]) (rest := []) C 163 rfl 20 (k_e_divided l D τ ρ σ w40 a1 x37 x44 I42 ) rfl rfl mml_TaleMachine_Engine_222 mim_yX1_divided mse_yX1_divided mcd_yX1_divided min_yX1_divided hd_yX1_divided rfl rfl rfl (by decide) rfl (Nat.le_of_ble_eq_true rfl) (kdec dk_cX1_answerOfTwo 62 rfl) (fun x51 w47 h48 => ?_)
    obtain ⟨I49, f50⟩ := h48
    have F52 : kF [(2, some 9)] w w47 := kF_call F45 f50 (by decide)
    have g53 := kf_rng x51
    exact kv_iret C hr hlk (kdec dk_cX1_answerOfTwo 63 rfl) ⟨_, rfl, I49, F52⟩
  by_cases d54 : a1.toInt = 12
  · skip
    refine kv_tableIn C 12 150 (kdec dk_cX1_answerOfTwo 1 rfl) d54 (by decide) (by decide) rfl (by decide) ?_
    refine kv_aload_n C 151 rfl 0 (kdec dk_cX1_answerOfTwo 56 rfl) rfl rfl ?_
    refine kv_iload_n C 152 rfl 1 (kdec dk_cX1_answerOfTwo 57 rfl) rfl rfl ?_
    refine kv_iload_n C 153 rfl 2 (kdec dk_cX1_answerOfTwo 58 rfl) rfl rfl ?_
    refine kv_callSNi (As := [.int a2]) (rest := [.int a1, .ref (ρ 20)]) C 156 rfl (k_signed l D τ ρ σ w a2 hI ) mmn_TaleMachine_Engine_186 mst_yX9_signed mcd_yX9_signed min_yX9_signed hd_yX9_signed rfl rfl rfl (by decide) rfl (Nat.le_of_ble_eq_true rfl) (kdec dk_cX1_answerOfTwo 59 rfl) (fun x59 w55 h56 => ?_)
    obtain ⟨I57, f58⟩ := h56
    have F60 : kF [(2, some 9)] w w55 := kF_call hF0 f58 (by decide)
    have g61 := kf_rng x59
    refine kv_iload_n C 157 rfl 3 (kdec dk_cX1_answerOfTwo 60 rfl) rfl rfl ?_
    refine kv_callSNi (As := [.int a3]) (rest := [.int x59, .int a1, .ref (ρ 20)]) C 160 rfl (k_signed l D τ ρ σ w55 a3 I57 ) mmn_TaleMachine_Engine_186 mst_yX9_signed mcd_yX9_signed min_yX9_signed hd_yX9_signed rfl rfl rfl (by decide) rfl (Nat.le_of_ble_eq_true rfl) (kdec dk_cX1_answerOfTwo 61 rfl) (fun x66 w62 h63 => ?_)
    obtain ⟨I64, f65⟩ := h63
    have F67 : kF [(2, some 9)] w w62 := kF_call F60 f65 (by decide)
    have g68 := kf_rng x66
    refine kv_callVi (As := [.int a1, .int x59, .int x66]) (rest := []) C 163 rfl 20 (k_e_divided l D τ ρ σ w62 a1 x59 x66 I64 ) rfl rfl mml_TaleMachine_Engine_222 mim_yX1_divided mse_yX1_divided mcd_yX1_divided min_yX1_divided hd_yX1_divided rfl rfl rfl (by decide) rfl (Nat.le_of_ble_eq_true rfl) (kdec dk_cX1_answerOfTwo 62 rfl) (fun x73 w69 h70 => ?_)
    obtain ⟨I71, f72⟩ := h70
    have F74 : kF [(2, some 9)] w w69 := kF_call F67 f72 (by decide)
    have g75 := kf_rng x73
    exact kv_iret C hr hlk (kdec dk_cX1_answerOfTwo 63 rfl) ⟨_, rfl, I71, F74⟩
  by_cases d76 : a1.toInt = 13
  · skip
    refine kv_tableIn C 13 150 (kdec dk_cX1_answerOfTwo 1 rfl) d76 (by decide) (by decide) rfl (by decide) ?_
    refine kv_aload_n C 151 rfl 0 (kdec dk_cX1_answerOfTwo 56 rfl) rfl rfl ?_
    refine kv_iload_n C 152 rfl 1 (kdec dk_cX1_answerOfTwo 57 rfl) rfl rfl ?_
    refine kv_iload_n C 153 rfl 2 (kdec dk_cX1_answerOfTwo 58 rfl) rfl rfl ?_
    refine kv_callSNi (As := [.int a2]) (rest := [.int a1, .ref (ρ 20)]) C 156 rfl (k_signed l D τ ρ σ w a2 hI ) mmn_TaleMachine_Engine_186 mst_yX9_signed mcd_yX9_signed min_yX9_signed hd_yX9_signed rfl rfl rfl (by decide) rfl (Nat.le_of_ble_eq_true rfl) (kdec dk_cX1_answerOfTwo 59 rfl) (fun x81 w77 h78 => ?_)
    obtain ⟨I79, f80⟩ := h78
    have F82 : kF [(2, some 9)] w w77 := kF_call hF0 f80 (by decide)
    have g83 := kf_rng x81
    refine kv_iload_n C 157 rfl 3 (kdec dk_cX1_answerOfTwo 60 rfl) rfl rfl ?_
    refine kv_callSNi (As := [.int a3]) (rest := [.int x81, .int a1, .ref (ρ 20)]) C 160 rfl (k_signed l D τ ρ σ w77 a3 I79 ) mmn_TaleMachine_Engine_186 mst_yX9_signed mcd_yX9_signed min_yX9_signed hd_yX9_signed rfl rfl rfl (by decide) rfl (Nat.le_of_ble_eq_true rfl) (kdec dk_cX1_answerOfTwo 61 rfl) (fun x88 w84 h85 => ?_)
    obtain ⟨I86, f87⟩ := h85
    have F89 : kF [(2, some 9)] w w84 := kF_call F82 f87 (by decide)
    have g90 := kf_rng x88
    refine kv_callVi (As := [.int a1, .int x81, .int x88]) (rest := []) C 163 rfl 20 (k_e_divided l D τ ρ σ w84 a1 x81 x88 I86 ) rfl rfl mml_TaleMachine_Engine_222 mim_yX1_divided mse_yX1_divided mcd_yX1_divided min_yX1_divided hd_yX1_divided rfl rfl rfl (by decide) rfl (Nat.le_of_ble_eq_true rfl) (kdec dk_cX1_answerOfTwo 62 rfl) (fun x95 w91 h92 => ?_)
    obtain ⟨I93, f94⟩ := h92
    have F96 : kF [(2, some 9)] w w91 := kF_call F89 f94 (by decide)
    have g97 := kf_rng x95
    exact kv_iret C hr hlk (kdec dk_cX1_answerOfTwo 63 rfl) ⟨_, rfl, I93, F96⟩
  by_cases d98 : a1.toInt = 14
  · skip
    refine kv_tableIn C 14 150 (kdec dk_cX1_answerOfTwo 1 rfl) d98 (by decide) (by decide) rfl (by decide) ?_
    refine kv_aload_n C 151 rfl 0 (kdec dk_cX1_answerOfTwo 56 rfl) rfl rfl ?_
    refine kv_iload_n C 152 rfl 1 (kdec dk_cX1_answerOfTwo 57 rfl) rfl rfl ?_
    refine kv_iload_n C 153 rfl 2 (kdec dk_cX1_answerOfTwo 58 rfl) rfl rfl ?_
    refine kv_callSNi (As := [.int a2]) (rest := [.int a1, .ref (ρ 20)]) C 156 rfl (k_signed l D τ ρ σ w a2 hI ) mmn_TaleMachine_Engine_186 mst_yX9_signed mcd_yX9_signed min_yX9_signed hd_yX9_signed rfl rfl rfl (by decide) rfl (Nat.le_of_ble_eq_true rfl) (kdec dk_cX1_answerOfTwo 59 rfl) (fun x103 w99 h100 => ?_)
    obtain ⟨I101, f102⟩ := h100
    have F104 : kF [(2, some 9)] w w99 := kF_call hF0 f102 (by decide)
    have g105 := kf_rng x103
    refine kv_iload_n C 157 rfl 3 (kdec dk_cX1_answerOfTwo 60 rfl) rfl rfl ?_
    refine kv_callSNi (As := [.int a3]) (rest := [.int x103, .int a1, .ref (ρ 20)]) C 160 rfl (k_signed l D τ ρ σ w99 a3 I101 ) mmn_TaleMachine_Engine_186 mst_yX9_signed mcd_yX9_signed min_yX9_signed hd_yX9_signed rfl rfl rfl (by decide) rfl (Nat.le_of_ble_eq_true rfl) (kdec dk_cX1_answerOfTwo 61 rfl) (fun x110 w106 h107 => ?_)
    obtain ⟨I108, f109⟩ := h107
    have F111 : kF [(2, some 9)] w w106 := kF_call F104 f109 (by decide)
    have g112 := kf_rng x110
    refine kv_callVi (As := [.int a1, .int x103, .int x110]) (rest := []) C 163 rfl 20 (k_e_divided l D τ ρ σ w106 a1 x103 x110 I108 ) rfl rfl mml_TaleMachine_Engine_222 mim_yX1_divided mse_yX1_divided mcd_yX1_divided min_yX1_divided hd_yX1_divided rfl rfl rfl (by decide) rfl (Nat.le_of_ble_eq_true rfl) (kdec dk_cX1_answerOfTwo 62 rfl) (fun x117 w113 h114 => ?_)
    obtain ⟨I115, f116⟩ := h114
    have F118 : kF [(2, some 9)] w w113 := kF_call F111 f116 (by decide)
    have g119 := kf_rng x117
    exact kv_iret C hr hlk (kdec dk_cX1_answerOfTwo 63 rfl) ⟨_, rfl, I115, F118⟩
  by_cases d120 : a1.toInt = 15
  · skip
    refine kv_tableIn C 15 84 (kdec dk_cX1_answerOfTwo 1 rfl) d120 (by decide) (by decide) rfl (by decide) ?_
    refine kv_aload_n C 85 rfl 0 (kdec dk_cX1_answerOfTwo 10 rfl) rfl rfl ?_
    refine kv_getr C 88 rfl 20 0 rfl rfl inX1 (by decide) mfl_TaleMachine_Engine_9 rfl rfl (kdec dk_cX1_answerOfTwo 11 rfl) ?_
    refine kv_iload_n C 89 rfl 2 (kdec dk_cX1_answerOfTwo 12 rfl) rfl rfl ?_
    refine kv_iconst C 90 rfl 2 (kdec dk_cX1_answerOfTwo 13 rfl) rfl ?_
    refine kv_iload_n C 91 rfl 3 (kdec dk_cX1_answerOfTwo 14 rfl) rfl rfl ?_
    refine kv_imul C 92 rfl (kdec dk_cX1_answerOfTwo 15 rfl) (fun x121 h122e h122l h122u => ?_)
    obtain ⟨q123, g124⟩ := kf_mul 2 a3
    rw [← h122e, c_2] at g124
    try have h122n : x121.toInt = 2 * a3.toInt := by omega
    clear g124 q123
    refine kv_iadd C 93 rfl (kdec dk_cX1_answerOfTwo 16 rfl) (fun x125 q127 h126e h126 h126l h126u => ?_)
    try have h126n : x125.toInt = a2.toInt + x121.toInt := by omega
    clear h126 q127
    refine kv_callVNi (As := [.int x125]) (rest := []) C 96 rfl 2 (k_wordAt l D τ ρ σ w x125 hI ) rfl rfl mmn_TaleMachine_Engine_210 mim_yX6_wordAt mse_yX6_wordAt mcd_yX6_wordAt min_yX6_wordAt hd_yX6_wordAt rfl rfl rfl (by decide) rfl (Nat.le_of_ble_eq_true rfl) (kdec dk_cX1_answerOfTwo 17 rfl) (fun x132 w128 h129 => ?_)
    obtain ⟨I130, f131, p133, p134⟩ := h129
    have F135 : kF [(2, some 9)] w w128 := kF_call hF0 f131 (by decide)
    have g136 := kf_rng x132
    obtain ⟨x137, e138⟩ : ∃ z : Int32, w 2 9 = z := ⟨_, rfl⟩
    have b139 : (0 : Int) ≤ x137.toInt ∧ x137.toInt ≤ 13 := by rw [← e138]; exact hI 2 9
    obtain ⟨x140, e141⟩ : ∃ z : Int32, w128 2 9 = z := ⟨_, rfl⟩
    have b142 : (0 : Int) ≤ x140.toInt ∧ x140.toInt ≤ 13 := by rw [← e141]; exact I130 2 9
    rw [e138, e141] at p134
    exact kv_iret C hr hlk (kdec dk_cX1_answerOfTwo 18 rfl) ⟨_, rfl, I130, F135⟩
  by_cases d143 : a1.toInt = 16
  · skip
    refine kv_tableIn C 16 97 (kdec dk_cX1_answerOfTwo 1 rfl) d143 (by decide) (by decide) rfl (by decide) ?_
    refine kv_aload_n C 98 rfl 0 (kdec dk_cX1_answerOfTwo 19 rfl) rfl rfl ?_
    refine kv_getr C 101 rfl 20 0 rfl rfl inX1 (by decide) mfl_TaleMachine_Engine_9 rfl rfl (kdec dk_cX1_answerOfTwo 20 rfl) ?_
    refine kv_iload_n C 102 rfl 2 (kdec dk_cX1_answerOfTwo 21 rfl) rfl rfl ?_
    refine kv_iload_n C 103 rfl 3 (kdec dk_cX1_answerOfTwo 22 rfl) rfl rfl ?_
    refine kv_iadd C 104 rfl (kdec dk_cX1_answerOfTwo 23 rfl) (fun x144 q146 h145e h145 h145l h145u => ?_)
    try have h145n : x144.toInt = a2.toInt + a3.toInt := by omega
    clear h145 q146
    refine kv_callVNi (As := [.int x144]) (rest := []) C 107 rfl 2 (k_byteAt l D τ ρ σ w x144 hI ) rfl rfl mmn_TaleMachine_Engine_133 mim_yX6_byteAt mse_yX6_byteAt mcd_yX6_byteAt min_yX6_byteAt hd_yX6_byteAt rfl rfl rfl (by decide) rfl (Nat.le_of_ble_eq_true rfl) (kdec dk_cX1_answerOfTwo 24 rfl) (fun x151 w147 h148 => ?_)
    obtain ⟨I149, f150, p152, p153⟩ := h148
    have F154 : kF [(2, some 9)] w w147 := kF_call hF0 f150 (by decide)
    have g155 := kf_rng x151
    obtain ⟨x156, e157⟩ : ∃ z : Int32, w 2 9 = z := ⟨_, rfl⟩
    have b158 : (0 : Int) ≤ x156.toInt ∧ x156.toInt ≤ 13 := by rw [← e157]; exact hI 2 9
    obtain ⟨x159, e160⟩ : ∃ z : Int32, w147 2 9 = z := ⟨_, rfl⟩
    have b161 : (0 : Int) ≤ x159.toInt ∧ x159.toInt ≤ 13 := by rw [← e160]; exact I149 2 9
    rw [e157, e160] at p153
    exact kv_iret C hr hlk (kdec dk_cX1_answerOfTwo 25 rfl) ⟨_, rfl, I149, F154⟩
  by_cases d162 : a1.toInt = 17
  · skip
    refine kv_tableIn C 17 108 (kdec dk_cX1_answerOfTwo 1 rfl) d162 (by decide) (by decide) rfl (by decide) ?_
    refine kv_aload_n C 109 rfl 0 (kdec dk_cX1_answerOfTwo 26 rfl) rfl rfl ?_
    refine kv_getr C 112 rfl 20 3 rfl rfl inX1 (by decide) mfl_TaleMachine_Engine_41 rfl rfl (kdec dk_cX1_answerOfTwo 27 rfl) ?_
    refine kv_iload_n C 113 rfl 2 (kdec dk_cX1_answerOfTwo 28 rfl) rfl rfl ?_
    refine kv_iload_n C 114 rfl 3 (kdec dk_cX1_answerOfTwo 29 rfl) rfl rfl ?_
    refine kv_callVNi (As := [.int a2, .int a3]) (rest := []) C 117 rfl 22 (k_propertyOf l D τ ρ σ w a2 a3 hI ) rfl rfl mmn_TaleMachine_Engine_213 mim_yX2_propertyOf mse_yX2_propertyOf mcd_yX2_propertyOf min_yX2_propertyOf hd_yX2_propertyOf rfl rfl rfl (by decide) rfl (Nat.le_of_ble_eq_true rfl) (kdec dk_cX1_answerOfTwo 30 rfl) (fun x167 w163 h164 => ?_)
    obtain ⟨I165, f166⟩ := h164
    have F168 : kF [(2, some 9)] w w163 := kF_call hF0 f166 (by decide)
    have g169 := kf_rng x167
    exact kv_iret C hr hlk (kdec dk_cX1_answerOfTwo 31 rfl) ⟨_, rfl, I165, F168⟩
  by_cases d170 : a1.toInt = 18
  · skip
    refine kv_tableIn C 18 118 (kdec dk_cX1_answerOfTwo 1 rfl) d170 (by decide) (by decide) rfl (by decide) ?_
    refine kv_aload_n C 119 rfl 0 (kdec dk_cX1_answerOfTwo 32 rfl) rfl rfl ?_
    refine kv_getr C 122 rfl 20 3 rfl rfl inX1 (by decide) mfl_TaleMachine_Engine_41 rfl rfl (kdec dk_cX1_answerOfTwo 33 rfl) ?_
    refine kv_iload_n C 123 rfl 2 (kdec dk_cX1_answerOfTwo 34 rfl) rfl rfl ?_
    refine kv_iload_n C 124 rfl 3 (kdec dk_cX1_answerOfTwo 35 rfl) rfl rfl ?_
    refine kv_callVNi (As := [.int a2, .int a3]) (rest := []) C 127 rfl 22 (k_propertyAddress l D τ ρ σ w a2 a3 hI ) rfl rfl mmn_TaleMachine_Engine_216 mim_yX2_propertyAddress mse_yX2_propertyAddress mcd_yX2_propertyAddress min_yX2_propertyAddress hd_yX2_propertyAddress rfl rfl rfl (by decide) rfl (Nat.le_of_ble_eq_true rfl) (kdec dk_cX1_answerOfTwo 36 rfl) (fun x175 w171 h172 => ?_)
    obtain ⟨I173, f174⟩ := h172
    have F176 : kF [(2, some 9)] w w171 := kF_call hF0 f174 (by decide)
    have g177 := kf_rng x175
    exact kv_iret C hr hlk (kdec dk_cX1_answerOfTwo 37 rfl) ⟨_, rfl, I173, F176⟩
  by_cases d178 : a1.toInt = 19
  · skip
    refine kv_tableIn C 19 128 (kdec dk_cX1_answerOfTwo 1 rfl) d178 (by decide) (by decide) rfl (by decide) ?_
    refine kv_aload_n C 129 rfl 0 (kdec dk_cX1_answerOfTwo 38 rfl) rfl rfl ?_
    refine kv_getr C 132 rfl 20 3 rfl rfl inX1 (by decide) mfl_TaleMachine_Engine_41 rfl rfl (kdec dk_cX1_answerOfTwo 39 rfl) ?_
    refine kv_iload_n C 133 rfl 2 (kdec dk_cX1_answerOfTwo 40 rfl) rfl rfl ?_
    refine kv_iload_n C 134 rfl 3 (kdec dk_cX1_answerOfTwo 41 rfl) rfl rfl ?_
    refine kv_callVNi (As := [.int a2, .int a3]) (rest := []) C 137 rfl 22 (k_propertyBehind l D τ ρ σ w a2 a3 hI ) rfl rfl mmn_TaleMachine_Engine_219 mim_yX2_propertyBehind mse_yX2_propertyBehind mcd_yX2_propertyBehind min_yX2_propertyBehind hd_yX2_propertyBehind rfl rfl rfl (by decide) rfl (Nat.le_of_ble_eq_true rfl) (kdec dk_cX1_answerOfTwo 42 rfl) (fun x183 w179 h180 => ?_)
    obtain ⟨I181, f182⟩ := h180
    have F184 : kF [(2, some 9)] w w179 := kF_call hF0 f182 (by decide)
    have g185 := kf_rng x183
    exact kv_iret C hr hlk (kdec dk_cX1_answerOfTwo 43 rfl) ⟨_, rfl, I181, F184⟩
  by_cases d186 : a1.toInt = 20
  · skip
    refine kv_tableIn C 20 138 (kdec dk_cX1_answerOfTwo 1 rfl) d186 (by decide) (by decide) rfl (by decide) ?_
    refine kv_iload_n C 139 rfl 2 (kdec dk_cX1_answerOfTwo 44 rfl) rfl rfl ?_
    refine kv_iload_n C 140 rfl 3 (kdec dk_cX1_answerOfTwo 45 rfl) rfl rfl ?_
    refine kv_iadd C 141 rfl (kdec dk_cX1_answerOfTwo 46 rfl) (fun x187 q189 h188e h188 h188l h188u => ?_)
    try have h188n : x187.toInt = a2.toInt + a3.toInt := by omega
    clear h188 q189
    exact kv_iret C hr hlk (kdec dk_cX1_answerOfTwo 47 rfl) ⟨_, rfl, hI, hF0⟩
  by_cases d190 : a1.toInt = 21
  · skip
    refine kv_tableIn C 21 142 (kdec dk_cX1_answerOfTwo 1 rfl) d190 (by decide) (by decide) rfl (by decide) ?_
    refine kv_iload_n C 143 rfl 2 (kdec dk_cX1_answerOfTwo 48 rfl) rfl rfl ?_
    refine kv_iload_n C 144 rfl 3 (kdec dk_cX1_answerOfTwo 49 rfl) rfl rfl ?_
    refine kv_isub C 145 rfl (kdec dk_cX1_answerOfTwo 50 rfl) (fun x191 q193 h192e h192 h192l h192u => ?_)
    try have h192n : x191.toInt = a2.toInt - a3.toInt := by omega
    clear h192 q193
    exact kv_iret C hr hlk (kdec dk_cX1_answerOfTwo 51 rfl) ⟨_, rfl, hI, hF0⟩
  by_cases d194 : a1.toInt = 22
  · skip
    refine kv_tableIn C 22 146 (kdec dk_cX1_answerOfTwo 1 rfl) d194 (by decide) (by decide) rfl (by decide) ?_
    refine kv_iload_n C 147 rfl 2 (kdec dk_cX1_answerOfTwo 52 rfl) rfl rfl ?_
    refine kv_iload_n C 148 rfl 3 (kdec dk_cX1_answerOfTwo 53 rfl) rfl rfl ?_
    refine kv_imul C 149 rfl (kdec dk_cX1_answerOfTwo 54 rfl) (fun x195 h196e h196l h196u => ?_)
    exact kv_iret C hr hlk (kdec dk_cX1_answerOfTwo 55 rfl) ⟨_, rfl, hI, hF0⟩
  refine kv_tableOut C 150 (kdec dk_cX1_answerOfTwo 1 rfl) (by omega) (by decide) ?_
  refine kv_aload_n C 151 rfl 0 (kdec dk_cX1_answerOfTwo 56 rfl) rfl rfl ?_
  refine kv_iload_n C 152 rfl 1 (kdec dk_cX1_answerOfTwo 57 rfl) rfl rfl ?_
  refine kv_iload_n C 153 rfl 2 (kdec dk_cX1_answerOfTwo 58 rfl) rfl rfl ?_
  refine kv_callSNi (As := [.int a2]) (rest := [.int a1, .ref (ρ 20)]) C 156 rfl (k_signed l D τ ρ σ w a2 hI ) mmn_TaleMachine_Engine_186 mst_yX9_signed mcd_yX9_signed min_yX9_signed hd_yX9_signed rfl rfl rfl (by decide) rfl (Nat.le_of_ble_eq_true rfl) (kdec dk_cX1_answerOfTwo 59 rfl) (fun x201 w197 h198 => ?_)
  obtain ⟨I199, f200⟩ := h198
  have F202 : kF [(2, some 9)] w w197 := kF_call hF0 f200 (by decide)
  have g203 := kf_rng x201
  refine kv_iload_n C 157 rfl 3 (kdec dk_cX1_answerOfTwo 60 rfl) rfl rfl ?_
  refine kv_callSNi (As := [.int a3]) (rest := [.int x201, .int a1, .ref (ρ 20)]) C 160 rfl (k_signed l D τ ρ σ w197 a3 I199 ) mmn_TaleMachine_Engine_186 mst_yX9_signed mcd_yX9_signed min_yX9_signed hd_yX9_signed rfl rfl rfl (by decide) rfl (Nat.le_of_ble_eq_true rfl) (kdec dk_cX1_answerOfTwo 61 rfl) (fun x208 w204 h205 => ?_)
  obtain ⟨I206, f207⟩ := h205
  have F209 : kF [(2, some 9)] w w204 := kF_call F202 f207 (by decide)
  have g210 := kf_rng x208
  refine kv_callVi (As := [.int a1, .int x201, .int x208]) (rest := []) C 163 rfl 20 (k_e_divided l D τ ρ σ w204 a1 x201 x208 I206 ) rfl rfl mml_TaleMachine_Engine_222 mim_yX1_divided mse_yX1_divided mcd_yX1_divided min_yX1_divided hd_yX1_divided rfl rfl rfl (by decide) rfl (Nat.le_of_ble_eq_true rfl) (kdec dk_cX1_answerOfTwo 62 rfl) (fun x215 w211 h212 => ?_)
  obtain ⟨I213, f214⟩ := h212
  have F216 : kF [(2, some 9)] w w211 := kF_call F209 f214 (by decide)
  have g217 := kf_rng x215
  exact kv_iret C hr hlk (kdec dk_cX1_answerOfTwo 63 rfl) ⟨_, rfl, I213, F216⟩

set_option maxHeartbeats 4000000 in
set_option maxRecDepth 100000 in
theorem k_e_performOne (l : Launch) (D : va_G) (τ : Nat → ClassId) (ρ σ : Nat → Nat) (w : kw) (a1 : Int32) (a2 : Int32) (hI : kI true w) (hp0 : (w 12 1).toInt ≤ 2147481000 ∧ (w 14 1).toInt ≤ 2147481000) :
    kM l D τ ρ σ yX1_performOne cX1_performOne 3 none { frames := 8, cells := 0, slots := 0, locals := 288 } [.ref (ρ 20), .int a1, .int a2] w
      (fun o w' => o = none ∧ kI true w' ∧ kF [(2, some 9), (3, none), (5, some 6), (5, some 7), (6, none), (7, none), (12, some 1), (13, none), (14, some 1), (15, none), (16, some 1), (16, some 2), (16, some 3), (16, some 4), (16, some 5), (16, some 6), (16, some 7), (16, some 8), (16, some 9), (16, some 10), (16, some 11), (16, some 12), (16, some 13), (20, some 9), (20, some 15), (20, some 16)] w w' ∧ ((w' 12 1).toInt ≤ (w 12 1).toInt + 501 ∧ (w' 14 1).toInt ≤ (w 14 1).toInt + 501)) := by
  refine kM_of (own := "TaleMachine$Engine") rfl (by decide) (Nat.le_of_ble_eq_true rfl) ?_
  intro p e s m args below meth c C hr hlk
  have hF0 : kF [(2, some 9), (3, none), (5, some 6), (5, some 7), (6, none), (7, none), (12, some 1), (13, none), (14, some 1), (15, none), (16, some 1), (16, some 2), (16, some 3), (16, some 4), (16, some 5), (16, some 6), (16, some 7), (16, some 8), (16, some 9), (16, some 10), (16, some 11), (16, some 12), (16, some 13), (20, some 9), (20, some 15), (20, some 16)] w w := kF.rf
  have c_m1 : (-1 : Int32).toInt = -1 := by decide
  have c_0 : (0 : Int32).toInt = 0 := by decide
  have c_1 : (1 : Int32).toInt = 1 := by decide
  have c_2 : (2 : Int32).toInt = 2 := by decide
  have c_4 : (4 : Int32).toInt = 4 := by decide
  have c_5 : (5 : Int32).toInt = 5 := by decide
  have c_6 : (6 : Int32).toInt = 6 := by decide
  have c_65535 : (65535 : Int32).toInt = 65535 := by decide
  refine kV.L (L' := [(0, .ref (ρ 20)), (1, .int a1), (2, .int a2)]) rfl ?_
  obtain ⟨x1, e2⟩ : ∃ z : Int32, w 12 1 = z := ⟨_, rfl⟩
  have b3 : (0 : Int) ≤ x1.toInt ∧ x1.toInt ≤ 2147483647 := by rw [← e2]; exact hI 12 1
  obtain ⟨x4, e5⟩ : ∃ z : Int32, w 14 1 = z := ⟨_, rfl⟩
  have b6 : (0 : Int) ≤ x4.toInt ∧ x4.toInt ≤ 2147483647 := by rw [← e5]; exact hI 14 1
  rw [e2, e5] at hp0
  have g7 := kf_rng a1
  have g8 := kf_rng a2
  refine kv_iload_n C 1 rfl 1 (kdec dk_cX1_performOne 0 rfl) rfl rfl ?_
  by_cases d9 : a1.toInt = 0
  · skip
    refine kv_tableIn C 0 76 (kdec dk_cX1_performOne 1 rfl) d9 (by decide) (by decide) rfl (by decide) ?_
    refine kv_aload_n C 77 rfl 0 (kdec dk_cX1_performOne 2 rfl) rfl rfl ?_
    refine kv_iload_n C 78 rfl 2 (kdec dk_cX1_performOne 3 rfl) rfl rfl ?_
    refine kv_if_ne C 81 rfl 85 (kdec dk_cX1_performOne 4 rfl) (by decide) (fun d10 => ?_) (fun d10 => ?_)
    · skip
      refine kv_iconst C 86 rfl 0 (kdec dk_cX1_performOne 7 rfl) rfl ?_
      refine kv_put C 89 rfl 20 16 rfl rfl inX1 (by decide) mfl_TaleMachine_Engine_160 rfl tyX1 tyX1_ok nmX1 rfl rfl (kdec dk_cX1_performOne 8 rfl) (kf_bool (by decide)) rfl (fun w11 u12 => ?_)
      have I13 : kI true w11 := kI_put u12 hI (show (0 : Int) ≤ (0 : Int32).toInt by omega) (show (0 : Int32).toInt ≤ 1 by omega)
      have F14 : kF [(2, some 9), (3, none), (5, some 6), (5, some 7), (6, none), (7, none), (12, some 1), (13, none), (14, some 1), (15, none), (16, some 1), (16, some 2), (16, some 3), (16, some 4), (16, some 5), (16, some 6), (16, some 7), (16, some 8), (16, some 9), (16, some 10), (16, some 11), (16, some 12), (16, some 13), (20, some 9), (20, some 15), (20, some 16)] w w11 := kF_put u12 hF0 rfl
      refine kv_goto C 328 (kdec dk_cX1_performOne 9 rfl) (by decide) ?_
      have e15 : w11 12 1 = x1 := ((kup_ne u12 rfl : w11 12 1 = w 12 1).trans e2)
      have e16 : w11 14 1 = x4 := ((kup_ne u12 rfl : w11 14 1 = w 14 1).trans e5)
      exact kv_vret C hr hlk (kdec dk_cX1_performOne 130 rfl) ⟨rfl, I13, F14, (by rw [e2, e5, e15, e16]; try omega)⟩
    · skip
      refine kv_iconst C 82 rfl 1 (kdec dk_cX1_performOne 5 rfl) rfl ?_
      refine kv_goto C 86 (kdec dk_cX1_performOne 6 rfl) (by decide) ?_
      refine kv_put C 89 rfl 20 16 rfl rfl inX1 (by decide) mfl_TaleMachine_Engine_160 rfl tyX1 tyX1_ok nmX1 rfl rfl (kdec dk_cX1_performOne 8 rfl) (kf_bool (by decide)) rfl (fun w17 u18 => ?_)
      have I19 : kI true w17 := kI_put u18 hI (show (0 : Int) ≤ (1 : Int32).toInt by omega) (show (1 : Int32).toInt ≤ 1 by omega)
      have F20 : kF [(2, some 9), (3, none), (5, some 6), (5, some 7), (6, none), (7, none), (12, some 1), (13, none), (14, some 1), (15, none), (16, some 1), (16, some 2), (16, some 3), (16, some 4), (16, some 5), (16, some 6), (16, some 7), (16, some 8), (16, some 9), (16, some 10), (16, some 11), (16, some 12), (16, some 13), (20, some 9), (20, some 15), (20, some 16)] w w17 := kF_put u18 hF0 rfl
      refine kv_goto C 328 (kdec dk_cX1_performOne 9 rfl) (by decide) ?_
      have e21 : w17 12 1 = x1 := ((kup_ne u18 rfl : w17 12 1 = w 12 1).trans e2)
      have e22 : w17 14 1 = x4 := ((kup_ne u18 rfl : w17 14 1 = w 14 1).trans e5)
      exact kv_vret C hr hlk (kdec dk_cX1_performOne 130 rfl) ⟨rfl, I19, F20, (by rw [e2, e5, e21, e22]; try omega)⟩
  by_cases d23 : a1.toInt = 1
  · skip
    refine kv_tableIn C 1 92 (kdec dk_cX1_performOne 1 rfl) d23 (by decide) (by decide) rfl (by decide) ?_
    refine kv_aload_n C 93 rfl 0 (kdec dk_cX1_performOne 10 rfl) rfl rfl ?_
    refine kv_aload_n C 94 rfl 0 (kdec dk_cX1_performOne 11 rfl) rfl rfl ?_
    refine kv_getr C 97 rfl 20 3 rfl rfl inX1 (by decide) mfl_TaleMachine_Engine_41 rfl rfl (kdec dk_cX1_performOne 12 rfl) ?_
    refine kv_iload_n C 98 rfl 2 (kdec dk_cX1_performOne 13 rfl) rfl rfl ?_
    refine kv_iconst C 99 rfl 5 (kdec dk_cX1_performOne 14 rfl) rfl ?_
    refine kv_callVNi (As := [.int a2, .int 5]) (rest := [.ref (ρ 20)]) C 102 rfl 22 (k_linkOf l D τ ρ σ w a2 5 hI ) rfl rfl mmn_TaleMachine_Engine_193 mim_yX2_linkOf mse_yX2_linkOf mcd_yX2_linkOf min_yX2_linkOf hd_yX2_linkOf rfl rfl rfl (by decide) rfl (Nat.le_of_ble_eq_true rfl) (kdec dk_cX1_performOne 15 rfl) (fun x28 w24 h25 => ?_)
    obtain ⟨I26, f27⟩ := h25
    have F29 : kF [(2, some 9), (3, none), (5, some 6), (5, some 7), (6, none), (7, none), (12, some 1), (13, none), (14, some 1), (15, none), (16, some 1), (16, some 2), (16, some 3), (16, some 4), (16, some 5), (16, some 6), (16, some 7), (16, some 8), (16, some 9), (16, some 10), (16, some 11), (16, some 12), (16, some 13), (20, some 9), (20, some 15), (20, some 16)] w w24 := kF_call hF0 f27 (by decide)
    have g30 := kf_rng x28
    refine kv_put C 105 rfl 20 15 rfl rfl inX1 (by decide) mfl_TaleMachine_Engine_120 rfl tyX1 tyX1_ok nmX1 rfl rfl (kdec dk_cX1_performOne 16 rfl) rfl rfl (fun w31 u32 => ?_)
    have I33 : kI true w31 := kI_put u32 I26 (kf_rng _).1 (kf_rng _).2
    have F34 : kF [(2, some 9), (3, none), (5, some 6), (5, some 7), (6, none), (7, none), (12, some 1), (13, none), (14, some 1), (15, none), (16, some 1), (16, some 2), (16, some 3), (16, some 4), (16, some 5), (16, some 6), (16, some 7), (16, some 8), (16, some 9), (16, some 10), (16, some 11), (16, some 12), (16, some 13), (20, some 9), (20, some 15), (20, some 16)] w w31 := kF_put u32 F29 rfl
    refine kv_aload_n C 106 rfl 0 (kdec dk_cX1_performOne 17 rfl) rfl rfl ?_
    refine kv_aload_n C 107 rfl 0 (kdec dk_cX1_performOne 18 rfl) rfl rfl ?_
    refine kv_get C 110 rfl 20 15 rfl rfl inX1 (by decide) mfl_TaleMachine_Engine_120 rfl rfl (kdec dk_cX1_performOne 19 rfl) (kup_eq u32) ?_
    refine kv_if_eq C 113 rfl 117 (kdec dk_cX1_performOne 20 rfl) (by decide) (fun d35 => ?_) (fun d35 => ?_)
    · skip
      refine kv_iconst C 118 rfl 0 (kdec dk_cX1_performOne 23 rfl) rfl ?_
      refine kv_put C 121 rfl 20 16 rfl rfl inX1 (by decide) mfl_TaleMachine_Engine_160 rfl tyX1 tyX1_ok nmX1 rfl rfl (kdec dk_cX1_performOne 24 rfl) (kf_bool (by decide)) rfl (fun w36 u37 => ?_)
      have I38 : kI true w36 := kI_put u37 I33 (show (0 : Int) ≤ (0 : Int32).toInt by omega) (show (0 : Int32).toInt ≤ 1 by omega)
      have F39 : kF [(2, some 9), (3, none), (5, some 6), (5, some 7), (6, none), (7, none), (12, some 1), (13, none), (14, some 1), (15, none), (16, some 1), (16, some 2), (16, some 3), (16, some 4), (16, some 5), (16, some 6), (16, some 7), (16, some 8), (16, some 9), (16, some 10), (16, some 11), (16, some 12), (16, some 13), (20, some 9), (20, some 15), (20, some 16)] w w36 := kF_put u37 F34 rfl
      refine kv_goto C 328 (kdec dk_cX1_performOne 25 rfl) (by decide) ?_
      have e40 : w36 12 1 = x1 := ((kup_ne u37 rfl : w36 12 1 = w31 12 1).trans ((kup_ne u32 rfl : w31 12 1 = w24 12 1).trans ((f27 12 1 rfl : w24 12 1 = w 12 1).trans e2)))
      have e41 : w36 14 1 = x4 := ((kup_ne u37 rfl : w36 14 1 = w31 14 1).trans ((kup_ne u32 rfl : w31 14 1 = w24 14 1).trans ((f27 14 1 rfl : w24 14 1 = w 14 1).trans e5)))
      exact kv_vret C hr hlk (kdec dk_cX1_performOne 130 rfl) ⟨rfl, I38, F39, (by rw [e2, e5, e40, e41]; try omega)⟩
    · skip
      refine kv_iconst C 114 rfl 1 (kdec dk_cX1_performOne 21 rfl) rfl ?_
      refine kv_goto C 118 (kdec dk_cX1_performOne 22 rfl) (by decide) ?_
      refine kv_put C 121 rfl 20 16 rfl rfl inX1 (by decide) mfl_TaleMachine_Engine_160 rfl tyX1 tyX1_ok nmX1 rfl rfl (kdec dk_cX1_performOne 24 rfl) (kf_bool (by decide)) rfl (fun w42 u43 => ?_)
      have I44 : kI true w42 := kI_put u43 I33 (show (0 : Int) ≤ (1 : Int32).toInt by omega) (show (1 : Int32).toInt ≤ 1 by omega)
      have F45 : kF [(2, some 9), (3, none), (5, some 6), (5, some 7), (6, none), (7, none), (12, some 1), (13, none), (14, some 1), (15, none), (16, some 1), (16, some 2), (16, some 3), (16, some 4), (16, some 5), (16, some 6), (16, some 7), (16, some 8), (16, some 9), (16, some 10), (16, some 11), (16, some 12), (16, some 13), (20, some 9), (20, some 15), (20, some 16)] w w42 := kF_put u43 F34 rfl
      refine kv_goto C 328 (kdec dk_cX1_performOne 25 rfl) (by decide) ?_
      have e46 : w42 12 1 = x1 := ((kup_ne u43 rfl : w42 12 1 = w31 12 1).trans ((kup_ne u32 rfl : w31 12 1 = w24 12 1).trans ((f27 12 1 rfl : w24 12 1 = w 12 1).trans e2)))
      have e47 : w42 14 1 = x4 := ((kup_ne u43 rfl : w42 14 1 = w31 14 1).trans ((kup_ne u32 rfl : w31 14 1 = w24 14 1).trans ((f27 14 1 rfl : w24 14 1 = w 14 1).trans e5)))
      exact kv_vret C hr hlk (kdec dk_cX1_performOne 130 rfl) ⟨rfl, I44, F45, (by rw [e2, e5, e46, e47]; try omega)⟩
  by_cases d48 : a1.toInt = 2
  · skip
    refine kv_tableIn C 2 124 (kdec dk_cX1_performOne 1 rfl) d48 (by decide) (by decide) rfl (by decide) ?_
    refine kv_aload_n C 125 rfl 0 (kdec dk_cX1_performOne 26 rfl) rfl rfl ?_
    refine kv_aload_n C 126 rfl 0 (kdec dk_cX1_performOne 27 rfl) rfl rfl ?_
    refine kv_getr C 129 rfl 20 3 rfl rfl inX1 (by decide) mfl_TaleMachine_Engine_41 rfl rfl (kdec dk_cX1_performOne 28 rfl) ?_
    refine kv_iload_n C 130 rfl 2 (kdec dk_cX1_performOne 29 rfl) rfl rfl ?_
    refine kv_bipush C 132 rfl 6 (kdec dk_cX1_performOne 30 rfl) rfl ?_
    refine kv_callVNi (As := [.int a2, .int 6]) (rest := [.ref (ρ 20)]) C 135 rfl 22 (k_linkOf l D τ ρ σ w a2 6 hI ) rfl rfl mmn_TaleMachine_Engine_193 mim_yX2_linkOf mse_yX2_linkOf mcd_yX2_linkOf min_yX2_linkOf hd_yX2_linkOf rfl rfl rfl (by decide) rfl (Nat.le_of_ble_eq_true rfl) (kdec dk_cX1_performOne 31 rfl) (fun x53 w49 h50 => ?_)
    obtain ⟨I51, f52⟩ := h50
    have F54 : kF [(2, some 9), (3, none), (5, some 6), (5, some 7), (6, none), (7, none), (12, some 1), (13, none), (14, some 1), (15, none), (16, some 1), (16, some 2), (16, some 3), (16, some 4), (16, some 5), (16, some 6), (16, some 7), (16, some 8), (16, some 9), (16, some 10), (16, some 11), (16, some 12), (16, some 13), (20, some 9), (20, some 15), (20, some 16)] w w49 := kF_call hF0 f52 (by decide)
    have g55 := kf_rng x53
    refine kv_put C 138 rfl 20 15 rfl rfl inX1 (by decide) mfl_TaleMachine_Engine_120 rfl tyX1 tyX1_ok nmX1 rfl rfl (kdec dk_cX1_performOne 32 rfl) rfl rfl (fun w56 u57 => ?_)
    have I58 : kI true w56 := kI_put u57 I51 (kf_rng _).1 (kf_rng _).2
    have F59 : kF [(2, some 9), (3, none), (5, some 6), (5, some 7), (6, none), (7, none), (12, some 1), (13, none), (14, some 1), (15, none), (16, some 1), (16, some 2), (16, some 3), (16, some 4), (16, some 5), (16, some 6), (16, some 7), (16, some 8), (16, some 9), (16, some 10), (16, some 11), (16, some 12), (16, some 13), (20, some 9), (20, some 15), (20, some 16)] w w56 := kF_put u57 F54 rfl
    refine kv_aload_n C 139 rfl 0 (kdec dk_cX1_performOne 33 rfl) rfl rfl ?_
    refine kv_aload_n C 140 rfl 0 (kdec dk_cX1_performOne 34 rfl) rfl rfl ?_
    refine kv_get C 143 rfl 20 15 rfl rfl inX1 (by decide) mfl_TaleMachine_Engine_120 rfl rfl (kdec dk_cX1_performOne 35 rfl) (kup_eq u57) ?_
    refine kv_if_eq C 146 rfl 150 (kdec dk_cX1_performOne 36 rfl) (by decide) (fun d60 => ?_) (fun d60 => ?_)
    · skip
      refine kv_iconst C 151 rfl 0 (kdec dk_cX1_performOne 39 rfl) rfl ?_
      refine kv_put C 154 rfl 20 16 rfl rfl inX1 (by decide) mfl_TaleMachine_Engine_160 rfl tyX1 tyX1_ok nmX1 rfl rfl (kdec dk_cX1_performOne 40 rfl) (kf_bool (by decide)) rfl (fun w61 u62 => ?_)
      have I63 : kI true w61 := kI_put u62 I58 (show (0 : Int) ≤ (0 : Int32).toInt by omega) (show (0 : Int32).toInt ≤ 1 by omega)
      have F64 : kF [(2, some 9), (3, none), (5, some 6), (5, some 7), (6, none), (7, none), (12, some 1), (13, none), (14, some 1), (15, none), (16, some 1), (16, some 2), (16, some 3), (16, some 4), (16, some 5), (16, some 6), (16, some 7), (16, some 8), (16, some 9), (16, some 10), (16, some 11), (16, some 12), (16, some 13), (20, some 9), (20, some 15), (20, some 16)] w w61 := kF_put u62 F59 rfl
      refine kv_goto C 328 (kdec dk_cX1_performOne 41 rfl) (by decide) ?_
      have e65 : w61 12 1 = x1 := ((kup_ne u62 rfl : w61 12 1 = w56 12 1).trans ((kup_ne u57 rfl : w56 12 1 = w49 12 1).trans ((f52 12 1 rfl : w49 12 1 = w 12 1).trans e2)))
      have e66 : w61 14 1 = x4 := ((kup_ne u62 rfl : w61 14 1 = w56 14 1).trans ((kup_ne u57 rfl : w56 14 1 = w49 14 1).trans ((f52 14 1 rfl : w49 14 1 = w 14 1).trans e5)))
      exact kv_vret C hr hlk (kdec dk_cX1_performOne 130 rfl) ⟨rfl, I63, F64, (by rw [e2, e5, e65, e66]; try omega)⟩
    · skip
      refine kv_iconst C 147 rfl 1 (kdec dk_cX1_performOne 37 rfl) rfl ?_
      refine kv_goto C 151 (kdec dk_cX1_performOne 38 rfl) (by decide) ?_
      refine kv_put C 154 rfl 20 16 rfl rfl inX1 (by decide) mfl_TaleMachine_Engine_160 rfl tyX1 tyX1_ok nmX1 rfl rfl (kdec dk_cX1_performOne 40 rfl) (kf_bool (by decide)) rfl (fun w67 u68 => ?_)
      have I69 : kI true w67 := kI_put u68 I58 (show (0 : Int) ≤ (1 : Int32).toInt by omega) (show (1 : Int32).toInt ≤ 1 by omega)
      have F70 : kF [(2, some 9), (3, none), (5, some 6), (5, some 7), (6, none), (7, none), (12, some 1), (13, none), (14, some 1), (15, none), (16, some 1), (16, some 2), (16, some 3), (16, some 4), (16, some 5), (16, some 6), (16, some 7), (16, some 8), (16, some 9), (16, some 10), (16, some 11), (16, some 12), (16, some 13), (20, some 9), (20, some 15), (20, some 16)] w w67 := kF_put u68 F59 rfl
      refine kv_goto C 328 (kdec dk_cX1_performOne 41 rfl) (by decide) ?_
      have e71 : w67 12 1 = x1 := ((kup_ne u68 rfl : w67 12 1 = w56 12 1).trans ((kup_ne u57 rfl : w56 12 1 = w49 12 1).trans ((f52 12 1 rfl : w49 12 1 = w 12 1).trans e2)))
      have e72 : w67 14 1 = x4 := ((kup_ne u68 rfl : w67 14 1 = w56 14 1).trans ((kup_ne u57 rfl : w56 14 1 = w49 14 1).trans ((f52 14 1 rfl : w49 14 1 = w 14 1).trans e5)))
      exact kv_vret C hr hlk (kdec dk_cX1_performOne 130 rfl) ⟨rfl, I69, F70, (by rw [e2, e5, e71, e72]; try omega)⟩
  by_cases d73 : a1.toInt = 3
  · skip
    refine kv_tableIn C 3 157 (kdec dk_cX1_performOne 1 rfl) d73 (by decide) (by decide) rfl (by decide) ?_
    refine kv_aload_n C 158 rfl 0 (kdec dk_cX1_performOne 42 rfl) rfl rfl ?_
    refine kv_aload_n C 159 rfl 0 (kdec dk_cX1_performOne 43 rfl) rfl rfl ?_
    refine kv_getr C 162 rfl 20 3 rfl rfl inX1 (by decide) mfl_TaleMachine_Engine_41 rfl rfl (kdec dk_cX1_performOne 44 rfl) ?_
    refine kv_iload_n C 163 rfl 2 (kdec dk_cX1_performOne 45 rfl) rfl rfl ?_
    refine kv_iconst C 164 rfl 4 (kdec dk_cX1_performOne 46 rfl) rfl ?_
    refine kv_callVNi (As := [.int a2, .int 4]) (rest := [.ref (ρ 20)]) C 167 rfl 22 (k_linkOf l D τ ρ σ w a2 4 hI ) rfl rfl mmn_TaleMachine_Engine_193 mim_yX2_linkOf mse_yX2_linkOf mcd_yX2_linkOf min_yX2_linkOf hd_yX2_linkOf rfl rfl rfl (by decide) rfl (Nat.le_of_ble_eq_true rfl) (kdec dk_cX1_performOne 47 rfl) (fun x78 w74 h75 => ?_)
    obtain ⟨I76, f77⟩ := h75
    have F79 : kF [(2, some 9), (3, none), (5, some 6), (5, some 7), (6, none), (7, none), (12, some 1), (13, none), (14, some 1), (15, none), (16, some 1), (16, some 2), (16, some 3), (16, some 4), (16, some 5), (16, some 6), (16, some 7), (16, some 8), (16, some 9), (16, some 10), (16, some 11), (16, some 12), (16, some 13), (20, some 9), (20, some 15), (20, some 16)] w w74 := kF_call hF0 f77 (by decide)
    have g80 := kf_rng x78
    refine kv_put C 170 rfl 20 15 rfl rfl inX1 (by decide) mfl_TaleMachine_Engine_120 rfl tyX1 tyX1_ok nmX1 rfl rfl (kdec dk_cX1_performOne 48 rfl) rfl rfl (fun w81 u82 => ?_)
    have I83 : kI true w81 := kI_put u82 I76 (kf_rng _).1 (kf_rng _).2
    have F84 : kF [(2, some 9), (3, none), (5, some 6), (5, some 7), (6, none), (7, none), (12, some 1), (13, none), (14, some 1), (15, none), (16, some 1), (16, some 2), (16, some 3), (16, some 4), (16, some 5), (16, some 6), (16, some 7), (16, some 8), (16, some 9), (16, some 10), (16, some 11), (16, some 12), (16, some 13), (20, some 9), (20, some 15), (20, some 16)] w w81 := kF_put u82 F79 rfl
    refine kv_goto C 328 (kdec dk_cX1_performOne 49 rfl) (by decide) ?_
    have e85 : w81 12 1 = x1 := ((kup_ne u82 rfl : w81 12 1 = w74 12 1).trans ((f77 12 1 rfl : w74 12 1 = w 12 1).trans e2))
    have e86 : w81 14 1 = x4 := ((kup_ne u82 rfl : w81 14 1 = w74 14 1).trans ((f77 14 1 rfl : w74 14 1 = w 14 1).trans e5))
    exact kv_vret C hr hlk (kdec dk_cX1_performOne 130 rfl) ⟨rfl, I83, F84, (by rw [e2, e5, e85, e86]; try omega)⟩
  by_cases d87 : a1.toInt = 4
  · skip
    refine kv_tableIn C 4 173 (kdec dk_cX1_performOne 1 rfl) d87 (by decide) (by decide) rfl (by decide) ?_
    refine kv_aload_n C 174 rfl 0 (kdec dk_cX1_performOne 50 rfl) rfl rfl ?_
    refine kv_aload_n C 175 rfl 0 (kdec dk_cX1_performOne 51 rfl) rfl rfl ?_
    refine kv_getr C 178 rfl 20 3 rfl rfl inX1 (by decide) mfl_TaleMachine_Engine_41 rfl rfl (kdec dk_cX1_performOne 52 rfl) ?_
    refine kv_iload_n C 179 rfl 2 (kdec dk_cX1_performOne 53 rfl) rfl rfl ?_
    refine kv_callVNi (As := [.int a2]) (rest := [.ref (ρ 20)]) C 182 rfl 22 (k_propertyLength l D τ ρ σ w a2 hI ) rfl rfl mmn_TaleMachine_Engine_225 mim_yX2_propertyLength mse_yX2_propertyLength mcd_yX2_propertyLength min_yX2_propertyLength hd_yX2_propertyLength rfl rfl rfl (by decide) rfl (Nat.le_of_ble_eq_true rfl) (kdec dk_cX1_performOne 54 rfl) (fun x92 w88 h89 => ?_)
    obtain ⟨I90, f91⟩ := h89
    have F93 : kF [(2, some 9), (3, none), (5, some 6), (5, some 7), (6, none), (7, none), (12, some 1), (13, none), (14, some 1), (15, none), (16, some 1), (16, some 2), (16, some 3), (16, some 4), (16, some 5), (16, some 6), (16, some 7), (16, some 8), (16, some 9), (16, some 10), (16, some 11), (16, some 12), (16, some 13), (20, some 9), (20, some 15), (20, some 16)] w w88 := kF_call hF0 f91 (by decide)
    have g94 := kf_rng x92
    refine kv_put C 185 rfl 20 15 rfl rfl inX1 (by decide) mfl_TaleMachine_Engine_120 rfl tyX1 tyX1_ok nmX1 rfl rfl (kdec dk_cX1_performOne 55 rfl) rfl rfl (fun w95 u96 => ?_)
    have I97 : kI true w95 := kI_put u96 I90 (kf_rng _).1 (kf_rng _).2
    have F98 : kF [(2, some 9), (3, none), (5, some 6), (5, some 7), (6, none), (7, none), (12, some 1), (13, none), (14, some 1), (15, none), (16, some 1), (16, some 2), (16, some 3), (16, some 4), (16, some 5), (16, some 6), (16, some 7), (16, some 8), (16, some 9), (16, some 10), (16, some 11), (16, some 12), (16, some 13), (20, some 9), (20, some 15), (20, some 16)] w w95 := kF_put u96 F93 rfl
    refine kv_goto C 328 (kdec dk_cX1_performOne 56 rfl) (by decide) ?_
    have e99 : w95 12 1 = x1 := ((kup_ne u96 rfl : w95 12 1 = w88 12 1).trans ((f91 12 1 rfl : w88 12 1 = w 12 1).trans e2))
    have e100 : w95 14 1 = x4 := ((kup_ne u96 rfl : w95 14 1 = w88 14 1).trans ((f91 14 1 rfl : w88 14 1 = w 14 1).trans e5))
    exact kv_vret C hr hlk (kdec dk_cX1_performOne 130 rfl) ⟨rfl, I97, F98, (by rw [e2, e5, e99, e100]; try omega)⟩
  by_cases d101 : a1.toInt = 5
  · skip
    refine kv_tableIn C 5 188 (kdec dk_cX1_performOne 1 rfl) d101 (by decide) (by decide) rfl (by decide) ?_
    refine kv_aload_n C 189 rfl 0 (kdec dk_cX1_performOne 57 rfl) rfl rfl ?_
    refine kv_getr C 192 rfl 20 2 rfl rfl inX1 (by decide) mfl_TaleMachine_Engine_32 rfl rfl (kdec dk_cX1_performOne 58 rfl) ?_
    refine kv_iload_n C 193 rfl 2 (kdec dk_cX1_performOne 59 rfl) rfl rfl ?_
    refine kv_iconst C 194 rfl 1 (kdec dk_cX1_performOne 60 rfl) rfl ?_
    refine kv_callVNi (As := [.int a2, .int 1]) (rest := []) C 197 rfl 21 (k_stepNamed l D τ ρ σ w a2 1 hI ) rfl rfl mmn_TaleMachine_Engine_189 mim_yX8_stepNamed mse_yX8_stepNamed mcd_yX8_stepNamed min_yX8_stepNamed hd_yX8_stepNamed rfl rfl rfl (by decide) rfl (Nat.le_of_ble_eq_true rfl) (kdec dk_cX1_performOne 61 rfl) (fun x106 w102 h103 => ?_)
    obtain ⟨I104, f105⟩ := h103
    have F107 : kF [(2, some 9), (3, none), (5, some 6), (5, some 7), (6, none), (7, none), (12, some 1), (13, none), (14, some 1), (15, none), (16, some 1), (16, some 2), (16, some 3), (16, some 4), (16, some 5), (16, some 6), (16, some 7), (16, some 8), (16, some 9), (16, some 10), (16, some 11), (16, some 12), (16, some 13), (20, some 9), (20, some 15), (20, some 16)] w w102 := kF_call hF0 f105 (by decide)
    have g108 := kf_rng x106
    refine kv_pop C 198 rfl (kdec dk_cX1_performOne 62 rfl) rfl ?_
    refine kv_goto C 328 (kdec dk_cX1_performOne 63 rfl) (by decide) ?_
    have e109 : w102 12 1 = x1 := ((f105 12 1 rfl : w102 12 1 = w 12 1).trans e2)
    have e110 : w102 14 1 = x4 := ((f105 14 1 rfl : w102 14 1 = w 14 1).trans e5)
    exact kv_vret C hr hlk (kdec dk_cX1_performOne 130 rfl) ⟨rfl, I104, F107, (by rw [e2, e5, e109, e110]; try omega)⟩
  by_cases d111 : a1.toInt = 6
  · skip
    refine kv_tableIn C 6 201 (kdec dk_cX1_performOne 1 rfl) d111 (by decide) (by decide) rfl (by decide) ?_
    refine kv_aload_n C 202 rfl 0 (kdec dk_cX1_performOne 64 rfl) rfl rfl ?_
    refine kv_getr C 205 rfl 20 2 rfl rfl inX1 (by decide) mfl_TaleMachine_Engine_32 rfl rfl (kdec dk_cX1_performOne 65 rfl) ?_
    refine kv_iload_n C 206 rfl 2 (kdec dk_cX1_performOne 66 rfl) rfl rfl ?_
    refine kv_iconst C 207 rfl (-1) (kdec dk_cX1_performOne 67 rfl) rfl ?_
    refine kv_callVNi (As := [.int a2, .int (-1)]) (rest := []) C 210 rfl 21 (k_stepNamed l D τ ρ σ w a2 (-1) hI ) rfl rfl mmn_TaleMachine_Engine_189 mim_yX8_stepNamed mse_yX8_stepNamed mcd_yX8_stepNamed min_yX8_stepNamed hd_yX8_stepNamed rfl rfl rfl (by decide) rfl (Nat.le_of_ble_eq_true rfl) (kdec dk_cX1_performOne 68 rfl) (fun x116 w112 h113 => ?_)
    obtain ⟨I114, f115⟩ := h113
    have F117 : kF [(2, some 9), (3, none), (5, some 6), (5, some 7), (6, none), (7, none), (12, some 1), (13, none), (14, some 1), (15, none), (16, some 1), (16, some 2), (16, some 3), (16, some 4), (16, some 5), (16, some 6), (16, some 7), (16, some 8), (16, some 9), (16, some 10), (16, some 11), (16, some 12), (16, some 13), (20, some 9), (20, some 15), (20, some 16)] w w112 := kF_call hF0 f115 (by decide)
    have g118 := kf_rng x116
    refine kv_pop C 211 rfl (kdec dk_cX1_performOne 69 rfl) rfl ?_
    refine kv_goto C 328 (kdec dk_cX1_performOne 70 rfl) (by decide) ?_
    have e119 : w112 12 1 = x1 := ((f115 12 1 rfl : w112 12 1 = w 12 1).trans e2)
    have e120 : w112 14 1 = x4 := ((f115 14 1 rfl : w112 14 1 = w 14 1).trans e5)
    exact kv_vret C hr hlk (kdec dk_cX1_performOne 130 rfl) ⟨rfl, I114, F117, (by rw [e2, e5, e119, e120]; try omega)⟩
  by_cases d121 : a1.toInt = 7
  · skip
    refine kv_tableIn C 7 214 (kdec dk_cX1_performOne 1 rfl) d121 (by decide) (by decide) rfl (by decide) ?_
    refine kv_aload_n C 215 rfl 0 (kdec dk_cX1_performOne 71 rfl) rfl rfl ?_
    refine kv_getr C 218 rfl 20 4 rfl rfl inX1 (by decide) mfl_TaleMachine_Engine_23 rfl rfl (kdec dk_cX1_performOne 72 rfl) ?_
    refine kv_iload_n C 219 rfl 2 (kdec dk_cX1_performOne 73 rfl) rfl rfl ?_
    refine kv_aload_n C 220 rfl 0 (kdec dk_cX1_performOne 74 rfl) rfl rfl ?_
    refine kv_getr C 223 rfl 20 5 rfl rfl inX1 (by decide) mfl_TaleMachine_Engine_19 rfl rfl (kdec dk_cX1_performOne 75 rfl) ?_
    refine kv_callVNi (As := [.int a2, .ref (ρ 12)]) (rest := []) C 226 rfl 16 (k_tellO l D τ ρ σ w a2 hI (by rw [e2, e5]; try omega)) rfl rfl mmn_TaleMachine_Engine_228 mim_yX7_tell mse_yX7_tell mcd_yX7_tell min_yX7_tell hd_yX7_tell rfl rfl rfl (by decide) rfl (Nat.le_of_ble_eq_true rfl) (kdec dk_cX1_performOne 76 rfl) (fun x126 w122 h123 => ?_)
    obtain ⟨I124, f125, p127⟩ := h123
    have F128 : kF [(2, some 9), (3, none), (5, some 6), (5, some 7), (6, none), (7, none), (12, some 1), (13, none), (14, some 1), (15, none), (16, some 1), (16, some 2), (16, some 3), (16, some 4), (16, some 5), (16, some 6), (16, some 7), (16, some 8), (16, some 9), (16, some 10), (16, some 11), (16, some 12), (16, some 13), (20, some 9), (20, some 15), (20, some 16)] w w122 := kF_call hF0 f125 (by decide)
    have g129 := kf_rng x126
    obtain ⟨x130, e131⟩ : ∃ z : Int32, w122 12 1 = z := ⟨_, rfl⟩
    have b132 : (0 : Int) ≤ x130.toInt ∧ x130.toInt ≤ 2147483647 := by rw [← e131]; exact I124 12 1
    obtain ⟨x133, e134⟩ : ∃ z : Int32, w122 14 1 = z := ⟨_, rfl⟩
    have b135 : (0 : Int) ≤ x133.toInt ∧ x133.toInt ≤ 2147483647 := by rw [← e134]; exact I124 14 1
    rw [e2, e5, e131, e134] at p127
    refine kv_pop C 227 rfl (kdec dk_cX1_performOne 77 rfl) rfl ?_
    refine kv_goto C 328 (kdec dk_cX1_performOne 78 rfl) (by decide) ?_
    exact kv_vret C hr hlk (kdec dk_cX1_performOne 130 rfl) ⟨rfl, I124, F128, (by rw [e2, e5, e131, e134]; try omega)⟩
  by_cases d136 : a1.toInt = 8
  · skip
    refine kv_tableIn C 8 318 (kdec dk_cX1_performOne 1 rfl) d136 (by decide) (by decide) rfl (by decide) ?_
    refine kv_aload_n C 319 rfl 0 (kdec dk_cX1_performOne 123 rfl) rfl rfl ?_
    refine kv_iload_n C 320 rfl 2 (kdec dk_cX1_performOne 124 rfl) rfl rfl ?_
    refine kv_iconst C 321 rfl (-1) (kdec dk_cX1_performOne 125 rfl) rfl ?_
    refine kv_ixor C 322 rfl (kdec dk_cX1_performOne 126 rfl) (fun x137 h138e h138l h138u => ?_)
    refine kv_ldc C 324 rfl 65535 (kdec dk_cX1_performOne 127 rfl) mco_TaleMachine_Engine_119 ?_
    refine kv_iand C 325 rfl (kdec dk_cX1_performOne 128 rfl) (fun x139 h140e h140l h140u => ?_)
    have g141 := kf_and65535 h140e
    refine kv_put C 328 rfl 20 15 rfl rfl inX1 (by decide) mfl_TaleMachine_Engine_120 rfl tyX1 tyX1_ok nmX1 rfl rfl (kdec dk_cX1_performOne 129 rfl) rfl rfl (fun w142 u143 => ?_)
    have I144 : kI true w142 := kI_put u143 hI (kf_rng _).1 (kf_rng _).2
    have F145 : kF [(2, some 9), (3, none), (5, some 6), (5, some 7), (6, none), (7, none), (12, some 1), (13, none), (14, some 1), (15, none), (16, some 1), (16, some 2), (16, some 3), (16, some 4), (16, some 5), (16, some 6), (16, some 7), (16, some 8), (16, some 9), (16, some 10), (16, some 11), (16, some 12), (16, some 13), (20, some 9), (20, some 15), (20, some 16)] w w142 := kF_put u143 hF0 rfl
    have e146 : w142 12 1 = x1 := ((kup_ne u143 rfl : w142 12 1 = w 12 1).trans e2)
    have e147 : w142 14 1 = x4 := ((kup_ne u143 rfl : w142 14 1 = w 14 1).trans e5)
    exact kv_vret C hr hlk (kdec dk_cX1_performOne 130 rfl) ⟨rfl, I144, F145, (by rw [e2, e5, e146, e147]; try omega)⟩
  by_cases d148 : a1.toInt = 9
  · skip
    refine kv_tableIn C 9 230 (kdec dk_cX1_performOne 1 rfl) d148 (by decide) (by decide) rfl (by decide) ?_
    refine kv_aload_n C 231 rfl 0 (kdec dk_cX1_performOne 79 rfl) rfl rfl ?_
    refine kv_getr C 234 rfl 20 3 rfl rfl inX1 (by decide) mfl_TaleMachine_Engine_41 rfl rfl (kdec dk_cX1_performOne 80 rfl) ?_
    refine kv_iload_n C 235 rfl 2 (kdec dk_cX1_performOne 81 rfl) rfl rfl ?_
    refine kv_callVNv (As := [.int a2]) (rest := []) C 238 rfl 22 (k_remove l D τ ρ σ w a2 hI ) rfl rfl mmn_TaleMachine_Engine_234 mim_yX2_remove mse_yX2_remove mcd_yX2_remove min_yX2_remove hd_yX2_remove rfl rfl rfl (by decide) rfl (Nat.le_of_ble_eq_true rfl) (kdec dk_cX1_performOne 82 rfl) (fun w149 h150 => ?_)
    obtain ⟨I151, f152⟩ := h150
    have F154 : kF [(2, some 9), (3, none), (5, some 6), (5, some 7), (6, none), (7, none), (12, some 1), (13, none), (14, some 1), (15, none), (16, some 1), (16, some 2), (16, some 3), (16, some 4), (16, some 5), (16, some 6), (16, some 7), (16, some 8), (16, some 9), (16, some 10), (16, some 11), (16, some 12), (16, some 13), (20, some 9), (20, some 15), (20, some 16)] w w149 := kF_call hF0 f152 (by decide)
    refine kv_goto C 328 (kdec dk_cX1_performOne 83 rfl) (by decide) ?_
    have e155 : w149 12 1 = x1 := ((f152 12 1 rfl : w149 12 1 = w 12 1).trans e2)
    have e156 : w149 14 1 = x4 := ((f152 14 1 rfl : w149 14 1 = w 14 1).trans e5)
    exact kv_vret C hr hlk (kdec dk_cX1_performOne 130 rfl) ⟨rfl, I151, F154, (by rw [e2, e5, e155, e156]; try omega)⟩
  by_cases d157 : a1.toInt = 10
  · skip
    refine kv_tableIn C 10 241 (kdec dk_cX1_performOne 1 rfl) d157 (by decide) (by decide) rfl (by decide) ?_
    refine kv_aload_n C 242 rfl 0 (kdec dk_cX1_performOne 84 rfl) rfl rfl ?_
    refine kv_getr C 245 rfl 20 4 rfl rfl inX1 (by decide) mfl_TaleMachine_Engine_23 rfl rfl (kdec dk_cX1_performOne 85 rfl) ?_
    refine kv_aload_n C 246 rfl 0 (kdec dk_cX1_performOne 86 rfl) rfl rfl ?_
    refine kv_getr C 249 rfl 20 3 rfl rfl inX1 (by decide) mfl_TaleMachine_Engine_41 rfl rfl (kdec dk_cX1_performOne 87 rfl) ?_
    refine kv_iload_n C 250 rfl 2 (kdec dk_cX1_performOne 88 rfl) rfl rfl ?_
    refine kv_callVNi (As := [.int a2]) (rest := [.ref (ρ 16)]) C 253 rfl 22 (k_nameOf l D τ ρ σ w a2 hI ) rfl rfl mmn_TaleMachine_Engine_237 mim_yX2_nameOf mse_yX2_nameOf mcd_yX2_nameOf min_yX2_nameOf hd_yX2_nameOf rfl rfl rfl (by decide) rfl (Nat.le_of_ble_eq_true rfl) (kdec dk_cX1_performOne 89 rfl) (fun x162 w158 h159 => ?_)
    obtain ⟨I160, f161⟩ := h159
    have F163 : kF [(2, some 9), (3, none), (5, some 6), (5, some 7), (6, none), (7, none), (12, some 1), (13, none), (14, some 1), (15, none), (16, some 1), (16, some 2), (16, some 3), (16, some 4), (16, some 5), (16, some 6), (16, some 7), (16, some 8), (16, some 9), (16, some 10), (16, some 11), (16, some 12), (16, some 13), (20, some 9), (20, some 15), (20, some 16)] w w158 := kF_call hF0 f161 (by decide)
    have g164 := kf_rng x162
    refine kv_iconst C 254 rfl 1 (kdec dk_cX1_performOne 90 rfl) rfl ?_
    refine kv_iadd C 255 rfl (kdec dk_cX1_performOne 91 rfl) (fun x165 q167 h166e h166 h166l h166u => ?_)
    try have h166n : x165.toInt = x162.toInt + (1 : Int32).toInt := by omega
    clear h166 q167
    refine kv_aload_n C 256 rfl 0 (kdec dk_cX1_performOne 92 rfl) rfl rfl ?_
    refine kv_getr C 259 rfl 20 5 rfl rfl inX1 (by decide) mfl_TaleMachine_Engine_19 rfl rfl (kdec dk_cX1_performOne 93 rfl) ?_
    have e168 : w158 12 1 = x1 := ((f161 12 1 rfl : w158 12 1 = w 12 1).trans e2)
    have e169 : w158 14 1 = x4 := ((f161 14 1 rfl : w158 14 1 = w 14 1).trans e5)
    refine kv_callVNi (As := [.int x165, .ref (ρ 12)]) (rest := []) C 262 rfl 16 (k_tellO l D τ ρ σ w158 x165 I160 (by rw [e168, e169]; try omega)) rfl rfl mmn_TaleMachine_Engine_228 mim_yX7_tell mse_yX7_tell mcd_yX7_tell min_yX7_tell hd_yX7_tell rfl rfl rfl (by decide) rfl (Nat.le_of_ble_eq_true rfl) (kdec dk_cX1_performOne 94 rfl) (fun x174 w170 h171 => ?_)
    obtain ⟨I172, f173, p175⟩ := h171
    have F176 : kF [(2, some 9), (3, none), (5, some 6), (5, some 7), (6, none), (7, none), (12, some 1), (13, none), (14, some 1), (15, none), (16, some 1), (16, some 2), (16, some 3), (16, some 4), (16, some 5), (16, some 6), (16, some 7), (16, some 8), (16, some 9), (16, some 10), (16, some 11), (16, some 12), (16, some 13), (20, some 9), (20, some 15), (20, some 16)] w w170 := kF_call F163 f173 (by decide)
    have g177 := kf_rng x174
    obtain ⟨x178, e179⟩ : ∃ z : Int32, w170 12 1 = z := ⟨_, rfl⟩
    have b180 : (0 : Int) ≤ x178.toInt ∧ x178.toInt ≤ 2147483647 := by rw [← e179]; exact I172 12 1
    obtain ⟨x181, e182⟩ : ∃ z : Int32, w170 14 1 = z := ⟨_, rfl⟩
    have b183 : (0 : Int) ≤ x181.toInt ∧ x181.toInt ≤ 2147483647 := by rw [← e182]; exact I172 14 1
    rw [e168, e169, e179, e182] at p175
    refine kv_pop C 263 rfl (kdec dk_cX1_performOne 95 rfl) rfl ?_
    refine kv_goto C 328 (kdec dk_cX1_performOne 96 rfl) (by decide) ?_
    exact kv_vret C hr hlk (kdec dk_cX1_performOne 130 rfl) ⟨rfl, I172, F176, (by rw [e2, e5, e179, e182]; try omega)⟩
  by_cases d184 : a1.toInt = 11
  · skip
    refine kv_tableIn C 11 266 (kdec dk_cX1_performOne 1 rfl) d184 (by decide) (by decide) rfl (by decide) ?_
    refine kv_aload_n C 267 rfl 0 (kdec dk_cX1_performOne 97 rfl) rfl rfl ?_
    refine kv_iload_n C 268 rfl 2 (kdec dk_cX1_performOne 98 rfl) rfl rfl ?_
    refine kv_callVv (As := [.int a2]) (rest := []) C 271 rfl 20 (k_e_giveBack l D τ ρ σ w a2 hI ) rfl rfl mml_TaleMachine_Engine_167 mim_yX1_giveBack mse_yX1_giveBack mcd_yX1_giveBack min_yX1_giveBack hd_yX1_giveBack rfl rfl rfl (by decide) rfl (Nat.le_of_ble_eq_true rfl) (kdec dk_cX1_performOne 99 rfl) (fun w185 h186 => ?_)
    obtain ⟨I187, f188⟩ := h186
    have F190 : kF [(2, some 9), (3, none), (5, some 6), (5, some 7), (6, none), (7, none), (12, some 1), (13, none), (14, some 1), (15, none), (16, some 1), (16, some 2), (16, some 3), (16, some 4), (16, some 5), (16, some 6), (16, some 7), (16, some 8), (16, some 9), (16, some 10), (16, some 11), (16, some 12), (16, some 13), (20, some 9), (20, some 15), (20, some 16)] w w185 := kF_call hF0 f188 (by decide)
    refine kv_goto C 328 (kdec dk_cX1_performOne 100 rfl) (by decide) ?_
    have e191 : w185 12 1 = x1 := ((f188 12 1 rfl : w185 12 1 = w 12 1).trans e2)
    have e192 : w185 14 1 = x4 := ((f188 14 1 rfl : w185 14 1 = w 14 1).trans e5)
    exact kv_vret C hr hlk (kdec dk_cX1_performOne 130 rfl) ⟨rfl, I187, F190, (by rw [e2, e5, e191, e192]; try omega)⟩
  by_cases d193 : a1.toInt = 12
  · skip
    refine kv_tableIn C 12 274 (kdec dk_cX1_performOne 1 rfl) d193 (by decide) (by decide) rfl (by decide) ?_
    refine kv_aload_n C 275 rfl 0 (kdec dk_cX1_performOne 101 rfl) rfl rfl ?_
    refine kv_iload_n C 276 rfl 2 (kdec dk_cX1_performOne 102 rfl) rfl rfl ?_
    refine kv_callSNi (As := [.int a2]) (rest := [.ref (ρ 20)]) C 279 rfl (k_signed l D τ ρ σ w a2 hI ) mmn_TaleMachine_Engine_186 mst_yX9_signed mcd_yX9_signed min_yX9_signed hd_yX9_signed rfl rfl rfl (by decide) rfl (Nat.le_of_ble_eq_true rfl) (kdec dk_cX1_performOne 103 rfl) (fun x198 w194 h195 => ?_)
    obtain ⟨I196, f197⟩ := h195
    have F199 : kF [(2, some 9), (3, none), (5, some 6), (5, some 7), (6, none), (7, none), (12, some 1), (13, none), (14, some 1), (15, none), (16, some 1), (16, some 2), (16, some 3), (16, some 4), (16, some 5), (16, some 6), (16, some 7), (16, some 8), (16, some 9), (16, some 10), (16, some 11), (16, some 12), (16, some 13), (20, some 9), (20, some 15), (20, some 16)] w w194 := kF_call hF0 f197 (by decide)
    have g200 := kf_rng x198
    refine kv_callVv (As := [.int x198]) (rest := []) C 282 rfl 20 (k_e_moveBy l D τ ρ σ w194 x198 I196 ) rfl rfl mml_TaleMachine_Engine_164 mim_yX1_moveBy mse_yX1_moveBy mcd_yX1_moveBy min_yX1_moveBy hd_yX1_moveBy rfl rfl rfl (by decide) rfl (Nat.le_of_ble_eq_true rfl) (kdec dk_cX1_performOne 104 rfl) (fun w201 h202 => ?_)
    obtain ⟨I203, f204⟩ := h202
    have F206 : kF [(2, some 9), (3, none), (5, some 6), (5, some 7), (6, none), (7, none), (12, some 1), (13, none), (14, some 1), (15, none), (16, some 1), (16, some 2), (16, some 3), (16, some 4), (16, some 5), (16, some 6), (16, some 7), (16, some 8), (16, some 9), (16, some 10), (16, some 11), (16, some 12), (16, some 13), (20, some 9), (20, some 15), (20, some 16)] w w201 := kF_call F199 f204 (by decide)
    refine kv_goto C 328 (kdec dk_cX1_performOne 105 rfl) (by decide) ?_
    have e207 : w201 12 1 = x1 := ((f204 12 1 rfl : w201 12 1 = w194 12 1).trans ((f197 12 1 rfl : w194 12 1 = w 12 1).trans e2))
    have e208 : w201 14 1 = x4 := ((f204 14 1 rfl : w201 14 1 = w194 14 1).trans ((f197 14 1 rfl : w194 14 1 = w 14 1).trans e5))
    exact kv_vret C hr hlk (kdec dk_cX1_performOne 130 rfl) ⟨rfl, I203, F206, (by rw [e2, e5, e207, e208]; try omega)⟩
  by_cases d209 : a1.toInt = 13
  · skip
    refine kv_tableIn C 13 285 (kdec dk_cX1_performOne 1 rfl) d209 (by decide) (by decide) rfl (by decide) ?_
    refine kv_aload_n C 286 rfl 0 (kdec dk_cX1_performOne 106 rfl) rfl rfl ?_
    refine kv_getr C 289 rfl 20 4 rfl rfl inX1 (by decide) mfl_TaleMachine_Engine_23 rfl rfl (kdec dk_cX1_performOne 107 rfl) ?_
    refine kv_iconst C 290 rfl 2 (kdec dk_cX1_performOne 108 rfl) rfl ?_
    refine kv_iload_n C 291 rfl 2 (kdec dk_cX1_performOne 109 rfl) rfl rfl ?_
    refine kv_imul C 292 rfl (kdec dk_cX1_performOne 110 rfl) (fun x210 h211e h211l h211u => ?_)
    obtain ⟨q212, g213⟩ := kf_mul 2 a2
    rw [← h211e, c_2] at g213
    try have h211n : x210.toInt = 2 * a2.toInt := by omega
    clear g213 q212
    refine kv_aload_n C 293 rfl 0 (kdec dk_cX1_performOne 111 rfl) rfl rfl ?_
    refine kv_getr C 296 rfl 20 5 rfl rfl inX1 (by decide) mfl_TaleMachine_Engine_19 rfl rfl (kdec dk_cX1_performOne 112 rfl) ?_
    refine kv_callVNi (As := [.int x210, .ref (ρ 12)]) (rest := []) C 299 rfl 16 (k_tellO l D τ ρ σ w x210 hI (by rw [e2, e5]; try omega)) rfl rfl mmn_TaleMachine_Engine_228 mim_yX7_tell mse_yX7_tell mcd_yX7_tell min_yX7_tell hd_yX7_tell rfl rfl rfl (by decide) rfl (Nat.le_of_ble_eq_true rfl) (kdec dk_cX1_performOne 113 rfl) (fun x218 w214 h215 => ?_)
    obtain ⟨I216, f217, p219⟩ := h215
    have F220 : kF [(2, some 9), (3, none), (5, some 6), (5, some 7), (6, none), (7, none), (12, some 1), (13, none), (14, some 1), (15, none), (16, some 1), (16, some 2), (16, some 3), (16, some 4), (16, some 5), (16, some 6), (16, some 7), (16, some 8), (16, some 9), (16, some 10), (16, some 11), (16, some 12), (16, some 13), (20, some 9), (20, some 15), (20, some 16)] w w214 := kF_call hF0 f217 (by decide)
    have g221 := kf_rng x218
    obtain ⟨x222, e223⟩ : ∃ z : Int32, w214 12 1 = z := ⟨_, rfl⟩
    have b224 : (0 : Int) ≤ x222.toInt ∧ x222.toInt ≤ 2147483647 := by rw [← e223]; exact I216 12 1
    obtain ⟨x225, e226⟩ : ∃ z : Int32, w214 14 1 = z := ⟨_, rfl⟩
    have b227 : (0 : Int) ≤ x225.toInt ∧ x225.toInt ≤ 2147483647 := by rw [← e226]; exact I216 14 1
    rw [e2, e5, e223, e226] at p219
    refine kv_pop C 300 rfl (kdec dk_cX1_performOne 114 rfl) rfl ?_
    refine kv_goto C 328 (kdec dk_cX1_performOne 115 rfl) (by decide) ?_
    exact kv_vret C hr hlk (kdec dk_cX1_performOne 130 rfl) ⟨rfl, I216, F220, (by rw [e2, e5, e223, e226]; try omega)⟩
  by_cases d228 : a1.toInt = 14
  · skip
    refine kv_tableIn C 14 303 (kdec dk_cX1_performOne 1 rfl) d228 (by decide) (by decide) rfl (by decide) ?_
    refine kv_aload_n C 304 rfl 0 (kdec dk_cX1_performOne 116 rfl) rfl rfl ?_
    refine kv_aload_n C 305 rfl 0 (kdec dk_cX1_performOne 117 rfl) rfl rfl ?_
    refine kv_getr C 308 rfl 20 2 rfl rfl inX1 (by decide) mfl_TaleMachine_Engine_32 rfl rfl (kdec dk_cX1_performOne 118 rfl) ?_
    refine kv_iload_n C 309 rfl 2 (kdec dk_cX1_performOne 119 rfl) rfl rfl ?_
    refine kv_callVNi (As := [.int a2]) (rest := [.ref (ρ 20)]) C 312 rfl 21 (k_namedValue l D τ ρ σ w a2 hI ) rfl rfl mmn_TaleMachine_Engine_240 mim_yX8_namedValue mse_yX8_namedValue mcd_yX8_namedValue min_yX8_namedValue hd_yX8_namedValue rfl rfl rfl (by decide) rfl (Nat.le_of_ble_eq_true rfl) (kdec dk_cX1_performOne 120 rfl) (fun x233 w229 h230 => ?_)
    obtain ⟨I231, f232⟩ := h230
    have F234 : kF [(2, some 9), (3, none), (5, some 6), (5, some 7), (6, none), (7, none), (12, some 1), (13, none), (14, some 1), (15, none), (16, some 1), (16, some 2), (16, some 3), (16, some 4), (16, some 5), (16, some 6), (16, some 7), (16, some 8), (16, some 9), (16, some 10), (16, some 11), (16, some 12), (16, some 13), (20, some 9), (20, some 15), (20, some 16)] w w229 := kF_call hF0 f232 (by decide)
    have g235 := kf_rng x233
    refine kv_put C 315 rfl 20 15 rfl rfl inX1 (by decide) mfl_TaleMachine_Engine_120 rfl tyX1 tyX1_ok nmX1 rfl rfl (kdec dk_cX1_performOne 121 rfl) rfl rfl (fun w236 u237 => ?_)
    have I238 : kI true w236 := kI_put u237 I231 (kf_rng _).1 (kf_rng _).2
    have F239 : kF [(2, some 9), (3, none), (5, some 6), (5, some 7), (6, none), (7, none), (12, some 1), (13, none), (14, some 1), (15, none), (16, some 1), (16, some 2), (16, some 3), (16, some 4), (16, some 5), (16, some 6), (16, some 7), (16, some 8), (16, some 9), (16, some 10), (16, some 11), (16, some 12), (16, some 13), (20, some 9), (20, some 15), (20, some 16)] w w236 := kF_put u237 F234 rfl
    refine kv_goto C 328 (kdec dk_cX1_performOne 122 rfl) (by decide) ?_
    have e240 : w236 12 1 = x1 := ((kup_ne u237 rfl : w236 12 1 = w229 12 1).trans ((f232 12 1 rfl : w229 12 1 = w 12 1).trans e2))
    have e241 : w236 14 1 = x4 := ((kup_ne u237 rfl : w236 14 1 = w229 14 1).trans ((f232 14 1 rfl : w229 14 1 = w 14 1).trans e5))
    exact kv_vret C hr hlk (kdec dk_cX1_performOne 130 rfl) ⟨rfl, I238, F239, (by rw [e2, e5, e240, e241]; try omega)⟩
  refine kv_tableOut C 318 (kdec dk_cX1_performOne 1 rfl) (by omega) (by decide) ?_
  refine kv_aload_n C 319 rfl 0 (kdec dk_cX1_performOne 123 rfl) rfl rfl ?_
  refine kv_iload_n C 320 rfl 2 (kdec dk_cX1_performOne 124 rfl) rfl rfl ?_
  refine kv_iconst C 321 rfl (-1) (kdec dk_cX1_performOne 125 rfl) rfl ?_
  refine kv_ixor C 322 rfl (kdec dk_cX1_performOne 126 rfl) (fun x242 h243e h243l h243u => ?_)
  refine kv_ldc C 324 rfl 65535 (kdec dk_cX1_performOne 127 rfl) mco_TaleMachine_Engine_119 ?_
  refine kv_iand C 325 rfl (kdec dk_cX1_performOne 128 rfl) (fun x244 h245e h245l h245u => ?_)
  have g246 := kf_and65535 h245e
  refine kv_put C 328 rfl 20 15 rfl rfl inX1 (by decide) mfl_TaleMachine_Engine_120 rfl tyX1 tyX1_ok nmX1 rfl rfl (kdec dk_cX1_performOne 129 rfl) rfl rfl (fun w247 u248 => ?_)
  have I249 : kI true w247 := kI_put u248 hI (kf_rng _).1 (kf_rng _).2
  have F250 : kF [(2, some 9), (3, none), (5, some 6), (5, some 7), (6, none), (7, none), (12, some 1), (13, none), (14, some 1), (15, none), (16, some 1), (16, some 2), (16, some 3), (16, some 4), (16, some 5), (16, some 6), (16, some 7), (16, some 8), (16, some 9), (16, some 10), (16, some 11), (16, some 12), (16, some 13), (20, some 9), (20, some 15), (20, some 16)] w w247 := kF_put u248 hF0 rfl
  have e251 : w247 12 1 = x1 := ((kup_ne u248 rfl : w247 12 1 = w 12 1).trans e2)
  have e252 : w247 14 1 = x4 := ((kup_ne u248 rfl : w247 14 1 = w 14 1).trans e5)
  exact kv_vret C hr hlk (kdec dk_cX1_performOne 130 rfl) ⟨rfl, I249, F250, (by rw [e2, e5, e251, e252]; try omega)⟩

set_option maxHeartbeats 4000000 in
set_option maxRecDepth 100000 in
theorem k_e_performNone (l : Launch) (D : va_G) (τ : Nat → ClassId) (ρ σ : Nat → Nat) (w : kw) (a1 : Int32) (hI : kI true w) (hp0 : (w 12 1).toInt ≤ 2147481000 ∧ (w 14 1).toInt ≤ 2147481000) :
    kM l D τ ρ σ yX1_performNone cX1_performNone 2 none { frames := 8, cells := 0, slots := 0, locals := 288 } [.ref (ρ 20), .int a1] w
      (fun o w' => o = none ∧ kI true w' ∧ kF [(2, some 9), (3, none), (5, some 6), (5, some 7), (6, none), (7, none), (8, none), (9, none), (12, some 1), (13, none), (14, some 1), (15, none), (16, some 1), (16, some 2), (16, some 3), (16, some 4), (16, some 5), (16, some 6), (16, some 7), (16, some 8), (16, some 9), (16, some 10), (16, some 11), (16, some 12), (16, some 13), (20, some 9), (20, some 10), (20, some 16)] w w' ∧ ((w' 12 1).toInt ≤ (w 12 1).toInt + 501 ∧ (w' 14 1).toInt ≤ (w 14 1).toInt + 501) ∧ ((w 20 10).toInt = 0 ∨ 1 ≤ (w' 20 10).toInt)) := by
  refine kM_of (own := "TaleMachine$Engine") rfl (by decide) (Nat.le_of_ble_eq_true rfl) ?_
  intro p e s m args below meth c C hr hlk
  have hF0 : kF [(2, some 9), (3, none), (5, some 6), (5, some 7), (6, none), (7, none), (8, none), (9, none), (12, some 1), (13, none), (14, some 1), (15, none), (16, some 1), (16, some 2), (16, some 3), (16, some 4), (16, some 5), (16, some 6), (16, some 7), (16, some 8), (16, some 9), (16, some 10), (16, some 11), (16, some 12), (16, some 13), (20, some 9), (20, some 10), (20, some 16)] w w := kF.rf
  have c_0 : (0 : Int32).toInt = 0 := by decide
  have c_1 : (1 : Int32).toInt = 1 := by decide
  have c_2 : (2 : Int32).toInt = 2 := by decide
  refine kV.L (L' := [(0, .ref (ρ 20)), (1, .int a1)]) rfl ?_
  obtain ⟨x1, e2⟩ : ∃ z : Int32, w 12 1 = z := ⟨_, rfl⟩
  have b3 : (0 : Int) ≤ x1.toInt ∧ x1.toInt ≤ 2147483647 := by rw [← e2]; exact hI 12 1
  obtain ⟨x4, e5⟩ : ∃ z : Int32, w 14 1 = z := ⟨_, rfl⟩
  have b6 : (0 : Int) ≤ x4.toInt ∧ x4.toInt ≤ 2147483647 := by rw [← e5]; exact hI 14 1
  rw [e2, e5] at hp0
  have g7 := kf_rng a1
  refine kv_iload_n C 1 rfl 1 (kdec dk_cX1_performNone 0 rfl) rfl rfl ?_
  by_cases d8 : a1.toInt = 0
  · skip
    refine kv_tableIn C 0 64 (kdec dk_cX1_performNone 1 rfl) d8 (by decide) (by decide) rfl (by decide) ?_
    refine kv_aload_n C 65 rfl 0 (kdec dk_cX1_performNone 2 rfl) rfl rfl ?_
    refine kv_iconst C 66 rfl 1 (kdec dk_cX1_performNone 3 rfl) rfl ?_
    refine kv_callVv (As := [.int 1]) (rest := []) C 69 rfl 20 (k_e_giveBack l D τ ρ σ w 1 hI ) rfl rfl mml_TaleMachine_Engine_167 mim_yX1_giveBack mse_yX1_giveBack mcd_yX1_giveBack min_yX1_giveBack hd_yX1_giveBack rfl rfl rfl (by decide) rfl (Nat.le_of_ble_eq_true rfl) (kdec dk_cX1_performNone 4 rfl) (fun w9 h10 => ?_)
    obtain ⟨I11, f12⟩ := h10
    have F14 : kF [(2, some 9), (3, none), (5, some 6), (5, some 7), (6, none), (7, none), (8, none), (9, none), (12, some 1), (13, none), (14, some 1), (15, none), (16, some 1), (16, some 2), (16, some 3), (16, some 4), (16, some 5), (16, some 6), (16, some 7), (16, some 8), (16, some 9), (16, some 10), (16, some 11), (16, some 12), (16, some 13), (20, some 9), (20, some 10), (20, some 16)] w w9 := kF_call hF0 f12 (by decide)
    refine kv_goto C 185 (kdec dk_cX1_performNone 5 rfl) (by decide) ?_
    have e15 : w9 12 1 = x1 := ((f12 12 1 rfl : w9 12 1 = w 12 1).trans e2)
    have e16 : w9 14 1 = x4 := ((f12 14 1 rfl : w9 14 1 = w 14 1).trans e5)
    obtain ⟨x17, e18⟩ : ∃ z : Int32, w 20 10 = z := ⟨_, rfl⟩
    have b19 : (0 : Int) ≤ x17.toInt ∧ x17.toInt ≤ 4 := by rw [← e18]; exact hI 20 10
    have e20 : w9 20 10 = x17 := ((f12 20 10 rfl : w9 20 10 = w 20 10).trans e18)
    exact kv_vret C hr hlk (kdec dk_cX1_performNone 59 rfl) ⟨rfl, I11, F14, (by rw [e2, e5, e15, e16]; try omega), (by rw [e18, e20]; try omega)⟩
  by_cases d21 : a1.toInt = 1
  · skip
    refine kv_tableIn C 1 72 (kdec dk_cX1_performNone 1 rfl) d21 (by decide) (by decide) rfl (by decide) ?_
    refine kv_aload_n C 73 rfl 0 (kdec dk_cX1_performNone 6 rfl) rfl rfl ?_
    refine kv_iconst C 74 rfl 0 (kdec dk_cX1_performNone 7 rfl) rfl ?_
    refine kv_callVv (As := [.int 0]) (rest := []) C 77 rfl 20 (k_e_giveBack l D τ ρ σ w 0 hI ) rfl rfl mml_TaleMachine_Engine_167 mim_yX1_giveBack mse_yX1_giveBack mcd_yX1_giveBack min_yX1_giveBack hd_yX1_giveBack rfl rfl rfl (by decide) rfl (Nat.le_of_ble_eq_true rfl) (kdec dk_cX1_performNone 8 rfl) (fun w22 h23 => ?_)
    obtain ⟨I24, f25⟩ := h23
    have F27 : kF [(2, some 9), (3, none), (5, some 6), (5, some 7), (6, none), (7, none), (8, none), (9, none), (12, some 1), (13, none), (14, some 1), (15, none), (16, some 1), (16, some 2), (16, some 3), (16, some 4), (16, some 5), (16, some 6), (16, some 7), (16, some 8), (16, some 9), (16, some 10), (16, some 11), (16, some 12), (16, some 13), (20, some 9), (20, some 10), (20, some 16)] w w22 := kF_call hF0 f25 (by decide)
    refine kv_goto C 185 (kdec dk_cX1_performNone 9 rfl) (by decide) ?_
    have e28 : w22 12 1 = x1 := ((f25 12 1 rfl : w22 12 1 = w 12 1).trans e2)
    have e29 : w22 14 1 = x4 := ((f25 14 1 rfl : w22 14 1 = w 14 1).trans e5)
    obtain ⟨x30, e31⟩ : ∃ z : Int32, w 20 10 = z := ⟨_, rfl⟩
    have b32 : (0 : Int) ≤ x30.toInt ∧ x30.toInt ≤ 4 := by rw [← e31]; exact hI 20 10
    have e33 : w22 20 10 = x30 := ((f25 20 10 rfl : w22 20 10 = w 20 10).trans e31)
    exact kv_vret C hr hlk (kdec dk_cX1_performNone 59 rfl) ⟨rfl, I24, F27, (by rw [e2, e5, e28, e29]; try omega), (by rw [e31, e33]; try omega)⟩
  by_cases d34 : a1.toInt = 2
  · skip
    refine kv_tableIn C 2 80 (kdec dk_cX1_performNone 1 rfl) d34 (by decide) (by decide) rfl (by decide) ?_
    refine kv_aload_n C 81 rfl 0 (kdec dk_cX1_performNone 10 rfl) rfl rfl ?_
    refine kv_aload_n C 82 rfl 0 (kdec dk_cX1_performNone 11 rfl) rfl rfl ?_
    refine kv_getr C 85 rfl 20 4 rfl rfl inX1 (by decide) mfl_TaleMachine_Engine_23 rfl rfl (kdec dk_cX1_performNone 12 rfl) ?_
    refine kv_aload_n C 86 rfl 0 (kdec dk_cX1_performNone 13 rfl) rfl rfl ?_
    obtain ⟨x35, e36⟩ : ∃ z : Int32, w 20 9 = z := ⟨_, rfl⟩
    have b37 : (-2147483648 : Int) ≤ x35.toInt ∧ x35.toInt ≤ 2147483647 := by rw [← e36]; exact hI 20 9
    refine kv_get C 89 rfl 20 9 rfl rfl inX1 (by decide) mfl_TaleMachine_Engine_56 rfl rfl (kdec dk_cX1_performNone 14 rfl) e36 ?_
    refine kv_aload_n C 90 rfl 0 (kdec dk_cX1_performNone 15 rfl) rfl rfl ?_
    refine kv_getr C 93 rfl 20 5 rfl rfl inX1 (by decide) mfl_TaleMachine_Engine_19 rfl rfl (kdec dk_cX1_performNone 16 rfl) ?_
    refine kv_callVNi (As := [.int x35, .ref (ρ 12)]) (rest := [.ref (ρ 20)]) C 96 rfl 16 (k_tellO l D τ ρ σ w x35 hI (by rw [e2, e5]; try omega)) rfl rfl mmn_TaleMachine_Engine_228 mim_yX7_tell mse_yX7_tell mcd_yX7_tell min_yX7_tell hd_yX7_tell rfl rfl rfl (by decide) rfl (Nat.le_of_ble_eq_true rfl) (kdec dk_cX1_performNone 17 rfl) (fun x42 w38 h39 => ?_)
    obtain ⟨I40, f41, p43⟩ := h39
    have F44 : kF [(2, some 9), (3, none), (5, some 6), (5, some 7), (6, none), (7, none), (8, none), (9, none), (12, some 1), (13, none), (14, some 1), (15, none), (16, some 1), (16, some 2), (16, some 3), (16, some 4), (16, some 5), (16, some 6), (16, some 7), (16, some 8), (16, some 9), (16, some 10), (16, some 11), (16, some 12), (16, some 13), (20, some 9), (20, some 10), (20, some 16)] w w38 := kF_call hF0 f41 (by decide)
    have g45 := kf_rng x42
    obtain ⟨x46, e47⟩ : ∃ z : Int32, w38 12 1 = z := ⟨_, rfl⟩
    have b48 : (0 : Int) ≤ x46.toInt ∧ x46.toInt ≤ 2147483647 := by rw [← e47]; exact I40 12 1
    obtain ⟨x49, e50⟩ : ∃ z : Int32, w38 14 1 = z := ⟨_, rfl⟩
    have b51 : (0 : Int) ≤ x49.toInt ∧ x49.toInt ≤ 2147483647 := by rw [← e50]; exact I40 14 1
    rw [e2, e5, e47, e50] at p43
    refine kv_put C 99 rfl 20 9 rfl rfl inX1 (by decide) mfl_TaleMachine_Engine_56 rfl tyX1 tyX1_ok nmX1 rfl rfl (kdec dk_cX1_performNone 18 rfl) rfl rfl (fun w52 u53 => ?_)
    have I54 : kI true w52 := kI_put u53 I40 (kf_rng _).1 (kf_rng _).2
    have F55 : kF [(2, some 9), (3, none), (5, some 6), (5, some 7), (6, none), (7, none), (8, none), (9, none), (12, some 1), (13, none), (14, some 1), (15, none), (16, some 1), (16, some 2), (16, some 3), (16, some 4), (16, some 5), (16, some 6), (16, some 7), (16, some 8), (16, some 9), (16, some 10), (16, some 11), (16, some 12), (16, some 13), (20, some 9), (20, some 10), (20, some 16)] w w52 := kF_put u53 F44 rfl
    refine kv_goto C 185 (kdec dk_cX1_performNone 19 rfl) (by decide) ?_
    have e56 : w52 12 1 = x46 := ((kup_ne u53 rfl : w52 12 1 = w38 12 1).trans e47)
    have e57 : w52 14 1 = x49 := ((kup_ne u53 rfl : w52 14 1 = w38 14 1).trans e50)
    obtain ⟨x58, e59⟩ : ∃ z : Int32, w 20 10 = z := ⟨_, rfl⟩
    have b60 : (0 : Int) ≤ x58.toInt ∧ x58.toInt ≤ 4 := by rw [← e59]; exact hI 20 10
    have e61 : w52 20 10 = x58 := ((kup_ne u53 rfl : w52 20 10 = w38 20 10).trans ((f41 20 10 rfl : w38 20 10 = w 20 10).trans e59))
    exact kv_vret C hr hlk (kdec dk_cX1_performNone 59 rfl) ⟨rfl, I54, F55, (by rw [e2, e5, e56, e57]; try omega), (by rw [e59, e61]; try omega)⟩
  by_cases d62 : a1.toInt = 3
  · skip
    refine kv_tableIn C 3 102 (kdec dk_cX1_performNone 1 rfl) d62 (by decide) (by decide) rfl (by decide) ?_
    refine kv_aload_n C 103 rfl 0 (kdec dk_cX1_performNone 20 rfl) rfl rfl ?_
    refine kv_aload_n C 104 rfl 0 (kdec dk_cX1_performNone 21 rfl) rfl rfl ?_
    refine kv_getr C 107 rfl 20 4 rfl rfl inX1 (by decide) mfl_TaleMachine_Engine_23 rfl rfl (kdec dk_cX1_performNone 22 rfl) ?_
    refine kv_aload_n C 108 rfl 0 (kdec dk_cX1_performNone 23 rfl) rfl rfl ?_
    obtain ⟨x63, e64⟩ : ∃ z : Int32, w 20 9 = z := ⟨_, rfl⟩
    have b65 : (-2147483648 : Int) ≤ x63.toInt ∧ x63.toInt ≤ 2147483647 := by rw [← e64]; exact hI 20 9
    refine kv_get C 111 rfl 20 9 rfl rfl inX1 (by decide) mfl_TaleMachine_Engine_56 rfl rfl (kdec dk_cX1_performNone 24 rfl) e64 ?_
    refine kv_aload_n C 112 rfl 0 (kdec dk_cX1_performNone 25 rfl) rfl rfl ?_
    refine kv_getr C 115 rfl 20 5 rfl rfl inX1 (by decide) mfl_TaleMachine_Engine_19 rfl rfl (kdec dk_cX1_performNone 26 rfl) ?_
    refine kv_callVNi (As := [.int x63, .ref (ρ 12)]) (rest := [.ref (ρ 20)]) C 118 rfl 16 (k_tellO l D τ ρ σ w x63 hI (by rw [e2, e5]; try omega)) rfl rfl mmn_TaleMachine_Engine_228 mim_yX7_tell mse_yX7_tell mcd_yX7_tell min_yX7_tell hd_yX7_tell rfl rfl rfl (by decide) rfl (Nat.le_of_ble_eq_true rfl) (kdec dk_cX1_performNone 27 rfl) (fun x70 w66 h67 => ?_)
    obtain ⟨I68, f69, p71⟩ := h67
    have F72 : kF [(2, some 9), (3, none), (5, some 6), (5, some 7), (6, none), (7, none), (8, none), (9, none), (12, some 1), (13, none), (14, some 1), (15, none), (16, some 1), (16, some 2), (16, some 3), (16, some 4), (16, some 5), (16, some 6), (16, some 7), (16, some 8), (16, some 9), (16, some 10), (16, some 11), (16, some 12), (16, some 13), (20, some 9), (20, some 10), (20, some 16)] w w66 := kF_call hF0 f69 (by decide)
    have g73 := kf_rng x70
    obtain ⟨x74, e75⟩ : ∃ z : Int32, w66 12 1 = z := ⟨_, rfl⟩
    have b76 : (0 : Int) ≤ x74.toInt ∧ x74.toInt ≤ 2147483647 := by rw [← e75]; exact I68 12 1
    obtain ⟨x77, e78⟩ : ∃ z : Int32, w66 14 1 = z := ⟨_, rfl⟩
    have b79 : (0 : Int) ≤ x77.toInt ∧ x77.toInt ≤ 2147483647 := by rw [← e78]; exact I68 14 1
    rw [e2, e5, e75, e78] at p71
    refine kv_put C 121 rfl 20 9 rfl rfl inX1 (by decide) mfl_TaleMachine_Engine_56 rfl tyX1 tyX1_ok nmX1 rfl rfl (kdec dk_cX1_performNone 28 rfl) rfl rfl (fun w80 u81 => ?_)
    have I82 : kI true w80 := kI_put u81 I68 (kf_rng _).1 (kf_rng _).2
    have F83 : kF [(2, some 9), (3, none), (5, some 6), (5, some 7), (6, none), (7, none), (8, none), (9, none), (12, some 1), (13, none), (14, some 1), (15, none), (16, some 1), (16, some 2), (16, some 3), (16, some 4), (16, some 5), (16, some 6), (16, some 7), (16, some 8), (16, some 9), (16, some 10), (16, some 11), (16, some 12), (16, some 13), (20, some 9), (20, some 10), (20, some 16)] w w80 := kF_put u81 F72 rfl
    refine kv_aload_n C 122 rfl 0 (kdec dk_cX1_performNone 29 rfl) rfl rfl ?_
    have e84 : w80 12 1 = x74 := ((kup_ne u81 rfl : w80 12 1 = w66 12 1).trans e75)
    refine kv_callVv (As := []) (rest := []) C 125 rfl 20 (k_e_newLine l D τ ρ σ w80  I82 (by rw [e84]; try omega)) rfl rfl mml_TaleMachine_Engine_243 mim_yX1_newLine mse_yX1_newLine mcd_yX1_newLine min_yX1_newLine hd_yX1_newLine rfl rfl rfl (by decide) rfl (Nat.le_of_ble_eq_true rfl) (kdec dk_cX1_performNone 30 rfl) (fun w85 h86 => ?_)
    obtain ⟨I87, f88, p90⟩ := h86
    have F91 : kF [(2, some 9), (3, none), (5, some 6), (5, some 7), (6, none), (7, none), (8, none), (9, none), (12, some 1), (13, none), (14, some 1), (15, none), (16, some 1), (16, some 2), (16, some 3), (16, some 4), (16, some 5), (16, some 6), (16, some 7), (16, some 8), (16, some 9), (16, some 10), (16, some 11), (16, some 12), (16, some 13), (20, some 9), (20, some 10), (20, some 16)] w w85 := kF_call F83 f88 (by decide)
    obtain ⟨x92, e93⟩ : ∃ z : Int32, w85 12 1 = z := ⟨_, rfl⟩
    have b94 : (0 : Int) ≤ x92.toInt ∧ x92.toInt ≤ 2147483647 := by rw [← e93]; exact I87 12 1
    rw [e84, e93] at p90
    refine kv_aload_n C 126 rfl 0 (kdec dk_cX1_performNone 31 rfl) rfl rfl ?_
    refine kv_iconst C 127 rfl 1 (kdec dk_cX1_performNone 32 rfl) rfl ?_
    refine kv_callVv (As := [.int 1]) (rest := []) C 130 rfl 20 (k_e_giveBack l D τ ρ σ w85 1 I87 ) rfl rfl mml_TaleMachine_Engine_167 mim_yX1_giveBack mse_yX1_giveBack mcd_yX1_giveBack min_yX1_giveBack hd_yX1_giveBack rfl rfl rfl (by decide) rfl (Nat.le_of_ble_eq_true rfl) (kdec dk_cX1_performNone 33 rfl) (fun w95 h96 => ?_)
    obtain ⟨I97, f98⟩ := h96
    have F100 : kF [(2, some 9), (3, none), (5, some 6), (5, some 7), (6, none), (7, none), (8, none), (9, none), (12, some 1), (13, none), (14, some 1), (15, none), (16, some 1), (16, some 2), (16, some 3), (16, some 4), (16, some 5), (16, some 6), (16, some 7), (16, some 8), (16, some 9), (16, some 10), (16, some 11), (16, some 12), (16, some 13), (20, some 9), (20, some 10), (20, some 16)] w w95 := kF_call F91 f98 (by decide)
    refine kv_goto C 185 (kdec dk_cX1_performNone 34 rfl) (by decide) ?_
    have e101 : w95 12 1 = x92 := ((f98 12 1 rfl : w95 12 1 = w85 12 1).trans e93)
    have e102 : w95 14 1 = x77 := ((f98 14 1 rfl : w95 14 1 = w85 14 1).trans ((f88 14 1 rfl : w85 14 1 = w80 14 1).trans ((kup_ne u81 rfl : w80 14 1 = w66 14 1).trans e78)))
    obtain ⟨x103, e104⟩ : ∃ z : Int32, w 20 10 = z := ⟨_, rfl⟩
    have b105 : (0 : Int) ≤ x103.toInt ∧ x103.toInt ≤ 4 := by rw [← e104]; exact hI 20 10
    have e106 : w95 20 10 = x103 := ((f98 20 10 rfl : w95 20 10 = w85 20 10).trans ((f88 20 10 rfl : w85 20 10 = w80 20 10).trans ((kup_ne u81 rfl : w80 20 10 = w66 20 10).trans ((f69 20 10 rfl : w66 20 10 = w 20 10).trans e104))))
    exact kv_vret C hr hlk (kdec dk_cX1_performNone 59 rfl) ⟨rfl, I97, F100, (by rw [e2, e5, e101, e102]; try omega), (by rw [e104, e106]; try omega)⟩
  by_cases d107 : a1.toInt = 4
  · skip
    refine kv_tableIn C 4 180 (kdec dk_cX1_performNone 1 rfl) d107 (by decide) (by decide) rfl (by decide) ?_
    refine kv_aload_n C 181 rfl 0 (kdec dk_cX1_performNone 56 rfl) rfl rfl ?_
    refine kv_iconst C 182 rfl 1 (kdec dk_cX1_performNone 57 rfl) rfl ?_
    refine kv_put C 185 rfl 20 16 rfl rfl inX1 (by decide) mfl_TaleMachine_Engine_160 rfl tyX1 tyX1_ok nmX1 rfl rfl (kdec dk_cX1_performNone 58 rfl) (kf_bool (by decide)) rfl (fun w108 u109 => ?_)
    have I110 : kI true w108 := kI_put u109 hI (show (0 : Int) ≤ (1 : Int32).toInt by omega) (show (1 : Int32).toInt ≤ 1 by omega)
    have F111 : kF [(2, some 9), (3, none), (5, some 6), (5, some 7), (6, none), (7, none), (8, none), (9, none), (12, some 1), (13, none), (14, some 1), (15, none), (16, some 1), (16, some 2), (16, some 3), (16, some 4), (16, some 5), (16, some 6), (16, some 7), (16, some 8), (16, some 9), (16, some 10), (16, some 11), (16, some 12), (16, some 13), (20, some 9), (20, some 10), (20, some 16)] w w108 := kF_put u109 hF0 rfl
    have e112 : w108 12 1 = x1 := ((kup_ne u109 rfl : w108 12 1 = w 12 1).trans e2)
    have e113 : w108 14 1 = x4 := ((kup_ne u109 rfl : w108 14 1 = w 14 1).trans e5)
    obtain ⟨x114, e115⟩ : ∃ z : Int32, w 20 10 = z := ⟨_, rfl⟩
    have b116 : (0 : Int) ≤ x114.toInt ∧ x114.toInt ≤ 4 := by rw [← e115]; exact hI 20 10
    have e117 : w108 20 10 = x114 := ((kup_ne u109 rfl : w108 20 10 = w 20 10).trans e115)
    exact kv_vret C hr hlk (kdec dk_cX1_performNone 59 rfl) ⟨rfl, I110, F111, (by rw [e2, e5, e112, e113]; try omega), (by rw [e115, e117]; try omega)⟩
  by_cases d118 : a1.toInt = 5
  · skip
    refine kv_tableIn C 5 180 (kdec dk_cX1_performNone 1 rfl) d118 (by decide) (by decide) rfl (by decide) ?_
    refine kv_aload_n C 181 rfl 0 (kdec dk_cX1_performNone 56 rfl) rfl rfl ?_
    refine kv_iconst C 182 rfl 1 (kdec dk_cX1_performNone 57 rfl) rfl ?_
    refine kv_put C 185 rfl 20 16 rfl rfl inX1 (by decide) mfl_TaleMachine_Engine_160 rfl tyX1 tyX1_ok nmX1 rfl rfl (kdec dk_cX1_performNone 58 rfl) (kf_bool (by decide)) rfl (fun w119 u120 => ?_)
    have I121 : kI true w119 := kI_put u120 hI (show (0 : Int) ≤ (1 : Int32).toInt by omega) (show (1 : Int32).toInt ≤ 1 by omega)
    have F122 : kF [(2, some 9), (3, none), (5, some 6), (5, some 7), (6, none), (7, none), (8, none), (9, none), (12, some 1), (13, none), (14, some 1), (15, none), (16, some 1), (16, some 2), (16, some 3), (16, some 4), (16, some 5), (16, some 6), (16, some 7), (16, some 8), (16, some 9), (16, some 10), (16, some 11), (16, some 12), (16, some 13), (20, some 9), (20, some 10), (20, some 16)] w w119 := kF_put u120 hF0 rfl
    have e123 : w119 12 1 = x1 := ((kup_ne u120 rfl : w119 12 1 = w 12 1).trans e2)
    have e124 : w119 14 1 = x4 := ((kup_ne u120 rfl : w119 14 1 = w 14 1).trans e5)
    obtain ⟨x125, e126⟩ : ∃ z : Int32, w 20 10 = z := ⟨_, rfl⟩
    have b127 : (0 : Int) ≤ x125.toInt ∧ x125.toInt ≤ 4 := by rw [← e126]; exact hI 20 10
    have e128 : w119 20 10 = x125 := ((kup_ne u120 rfl : w119 20 10 = w 20 10).trans e126)
    exact kv_vret C hr hlk (kdec dk_cX1_performNone 59 rfl) ⟨rfl, I121, F122, (by rw [e2, e5, e123, e124]; try omega), (by rw [e126, e128]; try omega)⟩
  by_cases d129 : a1.toInt = 6
  · skip
    refine kv_tableIn C 6 180 (kdec dk_cX1_performNone 1 rfl) d129 (by decide) (by decide) rfl (by decide) ?_
    refine kv_aload_n C 181 rfl 0 (kdec dk_cX1_performNone 56 rfl) rfl rfl ?_
    refine kv_iconst C 182 rfl 1 (kdec dk_cX1_performNone 57 rfl) rfl ?_
    refine kv_put C 185 rfl 20 16 rfl rfl inX1 (by decide) mfl_TaleMachine_Engine_160 rfl tyX1 tyX1_ok nmX1 rfl rfl (kdec dk_cX1_performNone 58 rfl) (kf_bool (by decide)) rfl (fun w130 u131 => ?_)
    have I132 : kI true w130 := kI_put u131 hI (show (0 : Int) ≤ (1 : Int32).toInt by omega) (show (1 : Int32).toInt ≤ 1 by omega)
    have F133 : kF [(2, some 9), (3, none), (5, some 6), (5, some 7), (6, none), (7, none), (8, none), (9, none), (12, some 1), (13, none), (14, some 1), (15, none), (16, some 1), (16, some 2), (16, some 3), (16, some 4), (16, some 5), (16, some 6), (16, some 7), (16, some 8), (16, some 9), (16, some 10), (16, some 11), (16, some 12), (16, some 13), (20, some 9), (20, some 10), (20, some 16)] w w130 := kF_put u131 hF0 rfl
    have e134 : w130 12 1 = x1 := ((kup_ne u131 rfl : w130 12 1 = w 12 1).trans e2)
    have e135 : w130 14 1 = x4 := ((kup_ne u131 rfl : w130 14 1 = w 14 1).trans e5)
    obtain ⟨x136, e137⟩ : ∃ z : Int32, w 20 10 = z := ⟨_, rfl⟩
    have b138 : (0 : Int) ≤ x136.toInt ∧ x136.toInt ≤ 4 := by rw [← e137]; exact hI 20 10
    have e139 : w130 20 10 = x136 := ((kup_ne u131 rfl : w130 20 10 = w 20 10).trans e137)
    exact kv_vret C hr hlk (kdec dk_cX1_performNone 59 rfl) ⟨rfl, I132, F133, (by rw [e2, e5, e134, e135]; try omega), (by rw [e137, e139]; try omega)⟩
  by_cases d140 : a1.toInt = 7
  · skip
    refine kv_tableIn C 7 133 (kdec dk_cX1_performNone 1 rfl) d140 (by decide) (by decide) rfl (by decide) ?_
    refine kv_aload_n C 134 rfl 0 (kdec dk_cX1_performNone 35 rfl) rfl rfl ?_
    refine kv_callVv (As := []) (rest := []) C 137 rfl 20 (k_e_rewind l D τ ρ σ w  hI ) rfl rfl mml_TaleMachine_Engine_53 mim_yX1_rewind mse_yX1_rewind mcd_yX1_rewind min_yX1_rewind hd_yX1_rewind rfl rfl rfl (by decide) rfl (Nat.le_of_ble_eq_true rfl) (kdec dk_cX1_performNone 36 rfl) (fun w141 h142 => ?_)
    obtain ⟨I143, f144⟩ := h142
    have F146 : kF [(2, some 9), (3, none), (5, some 6), (5, some 7), (6, none), (7, none), (8, none), (9, none), (12, some 1), (13, none), (14, some 1), (15, none), (16, some 1), (16, some 2), (16, some 3), (16, some 4), (16, some 5), (16, some 6), (16, some 7), (16, some 8), (16, some 9), (16, some 10), (16, some 11), (16, some 12), (16, some 13), (20, some 9), (20, some 10), (20, some 16)] w w141 := kF_call hF0 f144 (by decide)
    refine kv_goto C 185 (kdec dk_cX1_performNone 37 rfl) (by decide) ?_
    have e147 : w141 12 1 = x1 := ((f144 12 1 rfl : w141 12 1 = w 12 1).trans e2)
    have e148 : w141 14 1 = x4 := ((f144 14 1 rfl : w141 14 1 = w 14 1).trans e5)
    obtain ⟨x149, e150⟩ : ∃ z : Int32, w 20 10 = z := ⟨_, rfl⟩
    have b151 : (0 : Int) ≤ x149.toInt ∧ x149.toInt ≤ 4 := by rw [← e150]; exact hI 20 10
    have e152 : w141 20 10 = x149 := ((f144 20 10 rfl : w141 20 10 = w 20 10).trans e150)
    exact kv_vret C hr hlk (kdec dk_cX1_performNone 59 rfl) ⟨rfl, I143, F146, (by rw [e2, e5, e147, e148]; try omega), (by rw [e150, e152]; try omega)⟩
  by_cases d153 : a1.toInt = 8
  · skip
    refine kv_tableIn C 8 140 (kdec dk_cX1_performNone 1 rfl) d153 (by decide) (by decide) rfl (by decide) ?_
    refine kv_aload_n C 141 rfl 0 (kdec dk_cX1_performNone 38 rfl) rfl rfl ?_
    refine kv_aload_n C 142 rfl 0 (kdec dk_cX1_performNone 39 rfl) rfl rfl ?_
    refine kv_getr C 145 rfl 20 2 rfl rfl inX1 (by decide) mfl_TaleMachine_Engine_32 rfl rfl (kdec dk_cX1_performNone 40 rfl) ?_
    refine kv_callVNi (As := []) (rest := [.ref (ρ 20)]) C 148 rfl 21 (k_pop l D τ ρ σ w  hI ) rfl rfl mmn_TaleMachine_Engine_246 mim_yX8_pop mse_yX8_pop mcd_yX8_pop min_yX8_pop hd_yX8_pop rfl rfl rfl (by decide) rfl (Nat.le_of_ble_eq_true rfl) (kdec dk_cX1_performNone 41 rfl) (fun x158 w154 h155 => ?_)
    obtain ⟨I156, f157⟩ := h155
    have F159 : kF [(2, some 9), (3, none), (5, some 6), (5, some 7), (6, none), (7, none), (8, none), (9, none), (12, some 1), (13, none), (14, some 1), (15, none), (16, some 1), (16, some 2), (16, some 3), (16, some 4), (16, some 5), (16, some 6), (16, some 7), (16, some 8), (16, some 9), (16, some 10), (16, some 11), (16, some 12), (16, some 13), (20, some 9), (20, some 10), (20, some 16)] w w154 := kF_call hF0 f157 (by decide)
    have g160 := kf_rng x158
    refine kv_callVv (As := [.int x158]) (rest := []) C 151 rfl 20 (k_e_giveBack l D τ ρ σ w154 x158 I156 ) rfl rfl mml_TaleMachine_Engine_167 mim_yX1_giveBack mse_yX1_giveBack mcd_yX1_giveBack min_yX1_giveBack hd_yX1_giveBack rfl rfl rfl (by decide) rfl (Nat.le_of_ble_eq_true rfl) (kdec dk_cX1_performNone 42 rfl) (fun w161 h162 => ?_)
    obtain ⟨I163, f164⟩ := h162
    have F166 : kF [(2, some 9), (3, none), (5, some 6), (5, some 7), (6, none), (7, none), (8, none), (9, none), (12, some 1), (13, none), (14, some 1), (15, none), (16, some 1), (16, some 2), (16, some 3), (16, some 4), (16, some 5), (16, some 6), (16, some 7), (16, some 8), (16, some 9), (16, some 10), (16, some 11), (16, some 12), (16, some 13), (20, some 9), (20, some 10), (20, some 16)] w w161 := kF_call F159 f164 (by decide)
    refine kv_goto C 185 (kdec dk_cX1_performNone 43 rfl) (by decide) ?_
    have e167 : w161 12 1 = x1 := ((f164 12 1 rfl : w161 12 1 = w154 12 1).trans ((f157 12 1 rfl : w154 12 1 = w 12 1).trans e2))
    have e168 : w161 14 1 = x4 := ((f164 14 1 rfl : w161 14 1 = w154 14 1).trans ((f157 14 1 rfl : w154 14 1 = w 14 1).trans e5))
    obtain ⟨x169, e170⟩ : ∃ z : Int32, w 20 10 = z := ⟨_, rfl⟩
    have b171 : (0 : Int) ≤ x169.toInt ∧ x169.toInt ≤ 4 := by rw [← e170]; exact hI 20 10
    have e172 : w161 20 10 = x169 := ((f164 20 10 rfl : w161 20 10 = w154 20 10).trans ((f157 20 10 rfl : w154 20 10 = w 20 10).trans e170))
    exact kv_vret C hr hlk (kdec dk_cX1_performNone 59 rfl) ⟨rfl, I163, F166, (by rw [e2, e5, e167, e168]; try omega), (by rw [e170, e172]; try omega)⟩
  by_cases d173 : a1.toInt = 9
  · skip
    refine kv_tableIn C 9 154 (kdec dk_cX1_performNone 1 rfl) d173 (by decide) (by decide) rfl (by decide) ?_
    refine kv_aload_n C 155 rfl 0 (kdec dk_cX1_performNone 44 rfl) rfl rfl ?_
    refine kv_getr C 158 rfl 20 2 rfl rfl inX1 (by decide) mfl_TaleMachine_Engine_32 rfl rfl (kdec dk_cX1_performNone 45 rfl) ?_
    refine kv_callVNi (As := []) (rest := []) C 161 rfl 21 (k_pop l D τ ρ σ w  hI ) rfl rfl mmn_TaleMachine_Engine_246 mim_yX8_pop mse_yX8_pop mcd_yX8_pop min_yX8_pop hd_yX8_pop rfl rfl rfl (by decide) rfl (Nat.le_of_ble_eq_true rfl) (kdec dk_cX1_performNone 46 rfl) (fun x178 w174 h175 => ?_)
    obtain ⟨I176, f177⟩ := h175
    have F179 : kF [(2, some 9), (3, none), (5, some 6), (5, some 7), (6, none), (7, none), (8, none), (9, none), (12, some 1), (13, none), (14, some 1), (15, none), (16, some 1), (16, some 2), (16, some 3), (16, some 4), (16, some 5), (16, some 6), (16, some 7), (16, some 8), (16, some 9), (16, some 10), (16, some 11), (16, some 12), (16, some 13), (20, some 9), (20, some 10), (20, some 16)] w w174 := kF_call hF0 f177 (by decide)
    have g180 := kf_rng x178
    refine kv_pop C 162 rfl (kdec dk_cX1_performNone 47 rfl) rfl ?_
    refine kv_goto C 185 (kdec dk_cX1_performNone 48 rfl) (by decide) ?_
    have e181 : w174 12 1 = x1 := ((f177 12 1 rfl : w174 12 1 = w 12 1).trans e2)
    have e182 : w174 14 1 = x4 := ((f177 14 1 rfl : w174 14 1 = w 14 1).trans e5)
    obtain ⟨x183, e184⟩ : ∃ z : Int32, w 20 10 = z := ⟨_, rfl⟩
    have b185 : (0 : Int) ≤ x183.toInt ∧ x183.toInt ≤ 4 := by rw [← e184]; exact hI 20 10
    have e186 : w174 20 10 = x183 := ((f177 20 10 rfl : w174 20 10 = w 20 10).trans e184)
    exact kv_vret C hr hlk (kdec dk_cX1_performNone 59 rfl) ⟨rfl, I176, F179, (by rw [e2, e5, e181, e182]; try omega), (by rw [e184, e186]; try omega)⟩
  by_cases d187 : a1.toInt = 10
  · skip
    refine kv_tableIn C 10 165 (kdec dk_cX1_performNone 1 rfl) d187 (by decide) (by decide) rfl (by decide) ?_
    refine kv_aload_n C 166 rfl 0 (kdec dk_cX1_performNone 49 rfl) rfl rfl ?_
    refine kv_iconst C 167 rfl 2 (kdec dk_cX1_performNone 50 rfl) rfl ?_
    refine kv_put C 170 rfl 20 10 rfl rfl inX1 (by decide) mfl_TaleMachine_Engine_49 rfl tyX1 tyX1_ok nmX1 rfl rfl (kdec dk_cX1_performNone 51 rfl) rfl rfl (fun w188 u189 => ?_)
    have I190 : kI true w188 := kI_put u189 hI (show (0 : Int) ≤ (2 : Int32).toInt by omega) (show (2 : Int32).toInt ≤ 4 by omega)
    have F191 : kF [(2, some 9), (3, none), (5, some 6), (5, some 7), (6, none), (7, none), (8, none), (9, none), (12, some 1), (13, none), (14, some 1), (15, none), (16, some 1), (16, some 2), (16, some 3), (16, some 4), (16, some 5), (16, some 6), (16, some 7), (16, some 8), (16, some 9), (16, some 10), (16, some 11), (16, some 12), (16, some 13), (20, some 9), (20, some 10), (20, some 16)] w w188 := kF_put u189 hF0 rfl
    refine kv_goto C 185 (kdec dk_cX1_performNone 52 rfl) (by decide) ?_
    have e192 : w188 12 1 = x1 := ((kup_ne u189 rfl : w188 12 1 = w 12 1).trans e2)
    have e193 : w188 14 1 = x4 := ((kup_ne u189 rfl : w188 14 1 = w 14 1).trans e5)
    obtain ⟨x194, e195⟩ : ∃ z : Int32, w 20 10 = z := ⟨_, rfl⟩
    have b196 : (0 : Int) ≤ x194.toInt ∧ x194.toInt ≤ 4 := by rw [← e195]; exact hI 20 10
    exact kv_vret C hr hlk (kdec dk_cX1_performNone 59 rfl) ⟨rfl, I190, F191, (by rw [e2, e5, e192, e193]; try omega), (by rw [e195, (kup_eq u189)]; try omega)⟩
  by_cases d197 : a1.toInt = 11
  · skip
    refine kv_tableIn C 11 173 (kdec dk_cX1_performNone 1 rfl) d197 (by decide) (by decide) rfl (by decide) ?_
    refine kv_aload_n C 174 rfl 0 (kdec dk_cX1_performNone 53 rfl) rfl rfl ?_
    refine kv_callVv (As := []) (rest := []) C 177 rfl 20 (k_e_newLine l D τ ρ σ w  hI (by rw [e2]; try omega)) rfl rfl mml_TaleMachine_Engine_243 mim_yX1_newLine mse_yX1_newLine mcd_yX1_newLine min_yX1_newLine hd_yX1_newLine rfl rfl rfl (by decide) rfl (Nat.le_of_ble_eq_true rfl) (kdec dk_cX1_performNone 54 rfl) (fun w198 h199 => ?_)
    obtain ⟨I200, f201, p203⟩ := h199
    have F204 : kF [(2, some 9), (3, none), (5, some 6), (5, some 7), (6, none), (7, none), (8, none), (9, none), (12, some 1), (13, none), (14, some 1), (15, none), (16, some 1), (16, some 2), (16, some 3), (16, some 4), (16, some 5), (16, some 6), (16, some 7), (16, some 8), (16, some 9), (16, some 10), (16, some 11), (16, some 12), (16, some 13), (20, some 9), (20, some 10), (20, some 16)] w w198 := kF_call hF0 f201 (by decide)
    obtain ⟨x205, e206⟩ : ∃ z : Int32, w198 12 1 = z := ⟨_, rfl⟩
    have b207 : (0 : Int) ≤ x205.toInt ∧ x205.toInt ≤ 2147483647 := by rw [← e206]; exact I200 12 1
    rw [e2, e206] at p203
    refine kv_goto C 185 (kdec dk_cX1_performNone 55 rfl) (by decide) ?_
    have e208 : w198 14 1 = x4 := ((f201 14 1 rfl : w198 14 1 = w 14 1).trans e5)
    obtain ⟨x209, e210⟩ : ∃ z : Int32, w 20 10 = z := ⟨_, rfl⟩
    have b211 : (0 : Int) ≤ x209.toInt ∧ x209.toInt ≤ 4 := by rw [← e210]; exact hI 20 10
    have e212 : w198 20 10 = x209 := ((f201 20 10 rfl : w198 20 10 = w 20 10).trans e210)
    exact kv_vret C hr hlk (kdec dk_cX1_performNone 59 rfl) ⟨rfl, I200, F204, (by rw [e2, e5, e206, e208]; try omega), (by rw [e210, e212]; try omega)⟩
  refine kv_tableOut C 180 (kdec dk_cX1_performNone 1 rfl) (by omega) (by decide) ?_
  refine kv_aload_n C 181 rfl 0 (kdec dk_cX1_performNone 56 rfl) rfl rfl ?_
  refine kv_iconst C 182 rfl 1 (kdec dk_cX1_performNone 57 rfl) rfl ?_
  refine kv_put C 185 rfl 20 16 rfl rfl inX1 (by decide) mfl_TaleMachine_Engine_160 rfl tyX1 tyX1_ok nmX1 rfl rfl (kdec dk_cX1_performNone 58 rfl) (kf_bool (by decide)) rfl (fun w213 u214 => ?_)
  have I215 : kI true w213 := kI_put u214 hI (show (0 : Int) ≤ (1 : Int32).toInt by omega) (show (1 : Int32).toInt ≤ 1 by omega)
  have F216 : kF [(2, some 9), (3, none), (5, some 6), (5, some 7), (6, none), (7, none), (8, none), (9, none), (12, some 1), (13, none), (14, some 1), (15, none), (16, some 1), (16, some 2), (16, some 3), (16, some 4), (16, some 5), (16, some 6), (16, some 7), (16, some 8), (16, some 9), (16, some 10), (16, some 11), (16, some 12), (16, some 13), (20, some 9), (20, some 10), (20, some 16)] w w213 := kF_put u214 hF0 rfl
  have e217 : w213 12 1 = x1 := ((kup_ne u214 rfl : w213 12 1 = w 12 1).trans e2)
  have e218 : w213 14 1 = x4 := ((kup_ne u214 rfl : w213 14 1 = w 14 1).trans e5)
  obtain ⟨x219, e220⟩ : ∃ z : Int32, w 20 10 = z := ⟨_, rfl⟩
  have b221 : (0 : Int) ≤ x219.toInt ∧ x219.toInt ≤ 4 := by rw [← e220]; exact hI 20 10
  have e222 : w213 20 10 = x219 := ((kup_ne u214 rfl : w213 20 10 = w 20 10).trans e220)
  exact kv_vret C hr hlk (kdec dk_cX1_performNone 59 rfl) ⟨rfl, I215, F216, (by rw [e2, e5, e217, e218]; try omega), (by rw [e220, e222]; try omega)⟩

set_option maxHeartbeats 4000000 in
set_option maxRecDepth 100000 in
theorem k_e_performVar (l : Launch) (D : va_G) (τ : Nat → ClassId) (ρ σ : Nat → Nat) (w : kw) (a1 : Int32) (hI : kI true w) (hp0 : (w 12 1).toInt ≤ 2147481000 ∧ (w 14 1).toInt ≤ 2147481000) :
    kM l D τ ρ σ yX1_performVar cX1_performVar 3 none { frames := 5, cells := 0, slots := 0, locals := 180 } [.ref (ρ 20), .int a1] w
      (fun o w' => o = none ∧ kI true w' ∧ kF [(2, some 9), (3, none), (5, some 6), (5, some 7), (6, none), (7, none), (8, none), (9, none), (10, none), (11, none), (12, some 1), (13, none), (20, some 9), (20, some 10), (20, some 12), (20, some 13), (20, some 14), (20, some 15)] w w' ∧ ((w' 12 1).toInt ≤ (w 12 1).toInt + 501 ∧ (w' 14 1).toInt ≤ (w 14 1).toInt + 501) ∧ ((w 20 10).toInt = 0 ∨ 1 ≤ (w' 20 10).toInt)) := by
  refine kM_of (own := "TaleMachine$Engine") rfl (by decide) (Nat.le_of_ble_eq_true rfl) ?_
  intro p e s m args below meth c C hr hlk
  have hF0 : kF [(2, some 9), (3, none), (5, some 6), (5, some 7), (6, none), (7, none), (8, none), (9, none), (10, none), (11, none), (12, some 1), (13, none), (20, some 9), (20, some 10), (20, some 12), (20, some 13), (20, some 14), (20, some 15)] w w := kF.rf
  have c_0 : (0 : Int32).toInt = 0 := by decide
  have c_1 : (1 : Int32).toInt = 1 := by decide
  have c_2 : (2 : Int32).toInt = 2 := by decide
  have c_3 : (3 : Int32).toInt = 3 := by decide
  refine kV.L (L' := [(0, .ref (ρ 20)), (1, .int a1)]) rfl ?_
  obtain ⟨x1, e2⟩ : ∃ z : Int32, w 12 1 = z := ⟨_, rfl⟩
  have b3 : (0 : Int) ≤ x1.toInt ∧ x1.toInt ≤ 2147483647 := by rw [← e2]; exact hI 12 1
  obtain ⟨x4, e5⟩ : ∃ z : Int32, w 14 1 = z := ⟨_, rfl⟩
  have b6 : (0 : Int) ≤ x4.toInt ∧ x4.toInt ≤ 2147483647 := by rw [← e5]; exact hI 14 1
  rw [e2, e5] at hp0
  have g7 := kf_rng a1
  refine kv_aload_n C 1 rfl 0 (kdec dk_cX1_performVar 0 rfl) rfl rfl ?_
  refine kv_getr C 4 rfl 20 6 rfl rfl inX1 (by decide) mfl_TaleMachine_Engine_45 rfl rfl (kdec dk_cX1_performVar 1 rfl) ?_
  refine kv_iconst C 5 rfl 0 (kdec dk_cX1_performVar 2 rfl) rfl ?_
  obtain ⟨x8, e9⟩ : ∃ z : Int32, w 23 0 = z := ⟨_, rfl⟩
  have b10 : (-2147483648 : Int) ≤ x8.toInt ∧ x8.toInt ≤ 2147483647 := by rw [← e9]; exact hI 23 0
  refine kv_iald C 6 rfl 23 rfl (by omega) (by omega) (show w 23 (0 : Int32).toNatClampNeg = x8 from e9) (kdec dk_cX1_performVar 3 rfl) ?_
  refine kv_istore_n C 7 rfl 2 [1, 2, 0] [(0, .ref (ρ 20)), (1, .int a1), (2, .int x8)] (kdec dk_cX1_performVar 4 rfl) rfl (by decide) rfl ?_
  refine kv_iload_n C 8 rfl 1 (kdec dk_cX1_performVar 5 rfl) rfl rfl ?_
  by_cases d11 : a1.toInt = 0
  · skip
    refine kv_tableIn C 0 60 (kdec dk_cX1_performVar 6 rfl) d11 (by decide) (by decide) rfl (by decide) ?_
    refine kv_aload_n C 61 rfl 0 (kdec dk_cX1_performVar 7 rfl) rfl rfl ?_
    refine kv_iload_n C 62 rfl 2 (kdec dk_cX1_performVar 8 rfl) rfl rfl ?_
    refine kv_callVv (As := [.int x8]) (rest := []) C 65 rfl 20 (k_e_call l D τ ρ σ w x8 hI ) rfl rfl mml_TaleMachine_Engine_252 mim_yX1_call mse_yX1_call mcd_yX1_call min_yX1_call hd_yX1_call rfl rfl rfl (by decide) rfl (Nat.le_of_ble_eq_true rfl) (kdec dk_cX1_performVar 9 rfl) (fun w12 h13 => ?_)
    obtain ⟨I14, f15⟩ := h13
    have F17 : kF [(2, some 9), (3, none), (5, some 6), (5, some 7), (6, none), (7, none), (8, none), (9, none), (10, none), (11, none), (12, some 1), (13, none), (20, some 9), (20, some 10), (20, some 12), (20, some 13), (20, some 14), (20, some 15)] w w12 := kF_call hF0 f15 (by decide)
    refine kv_goto C 230 (kdec dk_cX1_performVar 10 rfl) (by decide) ?_
    have e18 : w12 12 1 = x1 := ((f15 12 1 rfl : w12 12 1 = w 12 1).trans e2)
    have e19 : w12 14 1 = x4 := ((f15 14 1 rfl : w12 14 1 = w 14 1).trans e5)
    obtain ⟨x20, e21⟩ : ∃ z : Int32, w 20 10 = z := ⟨_, rfl⟩
    have b22 : (0 : Int) ≤ x20.toInt ∧ x20.toInt ≤ 4 := by rw [← e21]; exact hI 20 10
    have e23 : w12 20 10 = x20 := ((f15 20 10 rfl : w12 20 10 = w 20 10).trans e21)
    exact kv_vret C hr hlk (kdec dk_cX1_performVar 97 rfl) ⟨rfl, I14, F17, (by rw [e2, e5, e18, e19]; try omega), (by rw [e21, e23]; try omega)⟩
  by_cases d24 : a1.toInt = 1
  · skip
    refine kv_tableIn C 1 68 (kdec dk_cX1_performVar 6 rfl) d24 (by decide) (by decide) rfl (by decide) ?_
    refine kv_aload_n C 69 rfl 0 (kdec dk_cX1_performVar 11 rfl) rfl rfl ?_
    refine kv_getr C 72 rfl 20 0 rfl rfl inX1 (by decide) mfl_TaleMachine_Engine_9 rfl rfl (kdec dk_cX1_performVar 12 rfl) ?_
    refine kv_iload_n C 73 rfl 2 (kdec dk_cX1_performVar 13 rfl) rfl rfl ?_
    refine kv_iconst C 74 rfl 2 (kdec dk_cX1_performVar 14 rfl) rfl ?_
    refine kv_aload_n C 75 rfl 0 (kdec dk_cX1_performVar 15 rfl) rfl rfl ?_
    refine kv_getr C 78 rfl 20 6 rfl rfl inX1 (by decide) mfl_TaleMachine_Engine_45 rfl rfl (kdec dk_cX1_performVar 16 rfl) ?_
    refine kv_iconst C 79 rfl 1 (kdec dk_cX1_performVar 17 rfl) rfl ?_
    obtain ⟨x25, e26⟩ : ∃ z : Int32, w 23 1 = z := ⟨_, rfl⟩
    have b27 : (-2147483648 : Int) ≤ x25.toInt ∧ x25.toInt ≤ 2147483647 := by rw [← e26]; exact hI 23 1
    refine kv_iald C 80 rfl 23 rfl (by omega) (by omega) (show w 23 (1 : Int32).toNatClampNeg = x25 from e26) (kdec dk_cX1_performVar 18 rfl) ?_
    refine kv_imul C 81 rfl (kdec dk_cX1_performVar 19 rfl) (fun x28 h29e h29l h29u => ?_)
    obtain ⟨q30, g31⟩ := kf_mul 2 x25
    rw [← h29e, c_2] at g31
    try have h29n : x28.toInt = 2 * x25.toInt := by omega
    clear g31 q30
    refine kv_iadd C 82 rfl (kdec dk_cX1_performVar 20 rfl) (fun x32 q34 h33e h33 h33l h33u => ?_)
    try have h33n : x32.toInt = x8.toInt + x28.toInt := by omega
    clear h33 q34
    refine kv_aload_n C 83 rfl 0 (kdec dk_cX1_performVar 21 rfl) rfl rfl ?_
    refine kv_getr C 86 rfl 20 6 rfl rfl inX1 (by decide) mfl_TaleMachine_Engine_45 rfl rfl (kdec dk_cX1_performVar 22 rfl) ?_
    refine kv_iconst C 87 rfl 2 (kdec dk_cX1_performVar 23 rfl) rfl ?_
    obtain ⟨x35, e36⟩ : ∃ z : Int32, w 23 2 = z := ⟨_, rfl⟩
    have b37 : (-2147483648 : Int) ≤ x35.toInt ∧ x35.toInt ≤ 2147483647 := by rw [← e36]; exact hI 23 2
    refine kv_iald C 88 rfl 23 rfl (by omega) (by omega) (show w 23 (2 : Int32).toNatClampNeg = x35 from e36) (kdec dk_cX1_performVar 24 rfl) ?_
    refine kv_callVNv (As := [.int x32, .int x35]) (rest := []) C 91 rfl 2 (k_putWord l D τ ρ σ w x32 x35 hI ) rfl rfl mmn_TaleMachine_Engine_255 mim_yX6_putWord mse_yX6_putWord mcd_yX6_putWord min_yX6_putWord hd_yX6_putWord rfl rfl rfl (by decide) rfl (Nat.le_of_ble_eq_true rfl) (kdec dk_cX1_performVar 25 rfl) (fun w38 h39 => ?_)
    obtain ⟨I40, f41, p43⟩ := h39
    have F44 : kF [(2, some 9), (3, none), (5, some 6), (5, some 7), (6, none), (7, none), (8, none), (9, none), (10, none), (11, none), (12, some 1), (13, none), (20, some 9), (20, some 10), (20, some 12), (20, some 13), (20, some 14), (20, some 15)] w w38 := kF_call hF0 f41 (by decide)
    obtain ⟨x45, e46⟩ : ∃ z : Int32, w 2 9 = z := ⟨_, rfl⟩
    have b47 : (0 : Int) ≤ x45.toInt ∧ x45.toInt ≤ 13 := by rw [← e46]; exact hI 2 9
    obtain ⟨x48, e49⟩ : ∃ z : Int32, w38 2 9 = z := ⟨_, rfl⟩
    have b50 : (0 : Int) ≤ x48.toInt ∧ x48.toInt ≤ 13 := by rw [← e49]; exact I40 2 9
    rw [e46, e49] at p43
    refine kv_goto C 230 (kdec dk_cX1_performVar 26 rfl) (by decide) ?_
    have e51 : w38 12 1 = x1 := ((f41 12 1 rfl : w38 12 1 = w 12 1).trans e2)
    have e52 : w38 14 1 = x4 := ((f41 14 1 rfl : w38 14 1 = w 14 1).trans e5)
    obtain ⟨x53, e54⟩ : ∃ z : Int32, w 20 10 = z := ⟨_, rfl⟩
    have b55 : (0 : Int) ≤ x53.toInt ∧ x53.toInt ≤ 4 := by rw [← e54]; exact hI 20 10
    have e56 : w38 20 10 = x53 := ((f41 20 10 rfl : w38 20 10 = w 20 10).trans e54)
    exact kv_vret C hr hlk (kdec dk_cX1_performVar 97 rfl) ⟨rfl, I40, F44, (by rw [e2, e5, e51, e52]; try omega), (by rw [e54, e56]; try omega)⟩
  by_cases d57 : a1.toInt = 2
  · skip
    refine kv_tableIn C 2 94 (kdec dk_cX1_performVar 6 rfl) d57 (by decide) (by decide) rfl (by decide) ?_
    refine kv_aload_n C 95 rfl 0 (kdec dk_cX1_performVar 27 rfl) rfl rfl ?_
    refine kv_getr C 98 rfl 20 0 rfl rfl inX1 (by decide) mfl_TaleMachine_Engine_9 rfl rfl (kdec dk_cX1_performVar 28 rfl) ?_
    refine kv_iload_n C 99 rfl 2 (kdec dk_cX1_performVar 29 rfl) rfl rfl ?_
    refine kv_aload_n C 100 rfl 0 (kdec dk_cX1_performVar 30 rfl) rfl rfl ?_
    refine kv_getr C 103 rfl 20 6 rfl rfl inX1 (by decide) mfl_TaleMachine_Engine_45 rfl rfl (kdec dk_cX1_performVar 31 rfl) ?_
    refine kv_iconst C 104 rfl 1 (kdec dk_cX1_performVar 32 rfl) rfl ?_
    obtain ⟨x58, e59⟩ : ∃ z : Int32, w 23 1 = z := ⟨_, rfl⟩
    have b60 : (-2147483648 : Int) ≤ x58.toInt ∧ x58.toInt ≤ 2147483647 := by rw [← e59]; exact hI 23 1
    refine kv_iald C 105 rfl 23 rfl (by omega) (by omega) (show w 23 (1 : Int32).toNatClampNeg = x58 from e59) (kdec dk_cX1_performVar 33 rfl) ?_
    refine kv_iadd C 106 rfl (kdec dk_cX1_performVar 34 rfl) (fun x61 q63 h62e h62 h62l h62u => ?_)
    try have h62n : x61.toInt = x8.toInt + x58.toInt := by omega
    clear h62 q63
    refine kv_aload_n C 107 rfl 0 (kdec dk_cX1_performVar 35 rfl) rfl rfl ?_
    refine kv_getr C 110 rfl 20 6 rfl rfl inX1 (by decide) mfl_TaleMachine_Engine_45 rfl rfl (kdec dk_cX1_performVar 36 rfl) ?_
    refine kv_iconst C 111 rfl 2 (kdec dk_cX1_performVar 37 rfl) rfl ?_
    obtain ⟨x64, e65⟩ : ∃ z : Int32, w 23 2 = z := ⟨_, rfl⟩
    have b66 : (-2147483648 : Int) ≤ x64.toInt ∧ x64.toInt ≤ 2147483647 := by rw [← e65]; exact hI 23 2
    refine kv_iald C 112 rfl 23 rfl (by omega) (by omega) (show w 23 (2 : Int32).toNatClampNeg = x64 from e65) (kdec dk_cX1_performVar 38 rfl) ?_
    refine kv_callVNv (As := [.int x61, .int x64]) (rest := []) C 115 rfl 2 (k_putByte l D τ ρ σ w x61 x64 hI ) rfl rfl mmn_TaleMachine_Engine_258 mim_yX6_putByte mse_yX6_putByte mcd_yX6_putByte min_yX6_putByte hd_yX6_putByte rfl rfl rfl (by decide) rfl (Nat.le_of_ble_eq_true rfl) (kdec dk_cX1_performVar 39 rfl) (fun w67 h68 => ?_)
    obtain ⟨I69, f70, p72⟩ := h68
    have F73 : kF [(2, some 9), (3, none), (5, some 6), (5, some 7), (6, none), (7, none), (8, none), (9, none), (10, none), (11, none), (12, some 1), (13, none), (20, some 9), (20, some 10), (20, some 12), (20, some 13), (20, some 14), (20, some 15)] w w67 := kF_call hF0 f70 (by decide)
    obtain ⟨x74, e75⟩ : ∃ z : Int32, w 2 9 = z := ⟨_, rfl⟩
    have b76 : (0 : Int) ≤ x74.toInt ∧ x74.toInt ≤ 13 := by rw [← e75]; exact hI 2 9
    obtain ⟨x77, e78⟩ : ∃ z : Int32, w67 2 9 = z := ⟨_, rfl⟩
    have b79 : (0 : Int) ≤ x77.toInt ∧ x77.toInt ≤ 13 := by rw [← e78]; exact I69 2 9
    rw [e75, e78] at p72
    refine kv_goto C 230 (kdec dk_cX1_performVar 40 rfl) (by decide) ?_
    have e80 : w67 12 1 = x1 := ((f70 12 1 rfl : w67 12 1 = w 12 1).trans e2)
    have e81 : w67 14 1 = x4 := ((f70 14 1 rfl : w67 14 1 = w 14 1).trans e5)
    obtain ⟨x82, e83⟩ : ∃ z : Int32, w 20 10 = z := ⟨_, rfl⟩
    have b84 : (0 : Int) ≤ x82.toInt ∧ x82.toInt ≤ 4 := by rw [← e83]; exact hI 20 10
    have e85 : w67 20 10 = x82 := ((f70 20 10 rfl : w67 20 10 = w 20 10).trans e83)
    exact kv_vret C hr hlk (kdec dk_cX1_performVar 97 rfl) ⟨rfl, I69, F73, (by rw [e2, e5, e80, e81]; try omega), (by rw [e83, e85]; try omega)⟩
  by_cases d86 : a1.toInt = 3
  · skip
    refine kv_tableIn C 3 118 (kdec dk_cX1_performVar 6 rfl) d86 (by decide) (by decide) rfl (by decide) ?_
    refine kv_aload_n C 119 rfl 0 (kdec dk_cX1_performVar 41 rfl) rfl rfl ?_
    refine kv_getr C 122 rfl 20 3 rfl rfl inX1 (by decide) mfl_TaleMachine_Engine_41 rfl rfl (kdec dk_cX1_performVar 42 rfl) ?_
    refine kv_iload_n C 123 rfl 2 (kdec dk_cX1_performVar 43 rfl) rfl rfl ?_
    refine kv_aload_n C 124 rfl 0 (kdec dk_cX1_performVar 44 rfl) rfl rfl ?_
    refine kv_getr C 127 rfl 20 6 rfl rfl inX1 (by decide) mfl_TaleMachine_Engine_45 rfl rfl (kdec dk_cX1_performVar 45 rfl) ?_
    refine kv_iconst C 128 rfl 1 (kdec dk_cX1_performVar 46 rfl) rfl ?_
    obtain ⟨x87, e88⟩ : ∃ z : Int32, w 23 1 = z := ⟨_, rfl⟩
    have b89 : (-2147483648 : Int) ≤ x87.toInt ∧ x87.toInt ≤ 2147483647 := by rw [← e88]; exact hI 23 1
    refine kv_iald C 129 rfl 23 rfl (by omega) (by omega) (show w 23 (1 : Int32).toNatClampNeg = x87 from e88) (kdec dk_cX1_performVar 47 rfl) ?_
    refine kv_aload_n C 130 rfl 0 (kdec dk_cX1_performVar 48 rfl) rfl rfl ?_
    refine kv_getr C 133 rfl 20 6 rfl rfl inX1 (by decide) mfl_TaleMachine_Engine_45 rfl rfl (kdec dk_cX1_performVar 49 rfl) ?_
    refine kv_iconst C 134 rfl 2 (kdec dk_cX1_performVar 50 rfl) rfl ?_
    obtain ⟨x90, e91⟩ : ∃ z : Int32, w 23 2 = z := ⟨_, rfl⟩
    have b92 : (-2147483648 : Int) ≤ x90.toInt ∧ x90.toInt ≤ 2147483647 := by rw [← e91]; exact hI 23 2
    refine kv_iald C 135 rfl 23 rfl (by omega) (by omega) (show w 23 (2 : Int32).toNatClampNeg = x90 from e91) (kdec dk_cX1_performVar 51 rfl) ?_
    refine kv_callVNv (As := [.int x8, .int x87, .int x90]) (rest := []) C 138 rfl 22 (k_setProperty l D τ ρ σ w x8 x87 x90 hI ) rfl rfl mmn_TaleMachine_Engine_261 mim_yX2_setProperty mse_yX2_setProperty mcd_yX2_setProperty min_yX2_setProperty hd_yX2_setProperty rfl rfl rfl (by decide) rfl (Nat.le_of_ble_eq_true rfl) (kdec dk_cX1_performVar 52 rfl) (fun w93 h94 => ?_)
    obtain ⟨I95, f96⟩ := h94
    have F98 : kF [(2, some 9), (3, none), (5, some 6), (5, some 7), (6, none), (7, none), (8, none), (9, none), (10, none), (11, none), (12, some 1), (13, none), (20, some 9), (20, some 10), (20, some 12), (20, some 13), (20, some 14), (20, some 15)] w w93 := kF_call hF0 f96 (by decide)
    refine kv_goto C 230 (kdec dk_cX1_performVar 53 rfl) (by decide) ?_
    have e99 : w93 12 1 = x1 := ((f96 12 1 rfl : w93 12 1 = w 12 1).trans e2)
    have e100 : w93 14 1 = x4 := ((f96 14 1 rfl : w93 14 1 = w 14 1).trans e5)
    obtain ⟨x101, e102⟩ : ∃ z : Int32, w 20 10 = z := ⟨_, rfl⟩
    have b103 : (0 : Int) ≤ x101.toInt ∧ x101.toInt ≤ 4 := by rw [← e102]; exact hI 20 10
    have e104 : w93 20 10 = x101 := ((f96 20 10 rfl : w93 20 10 = w 20 10).trans e102)
    exact kv_vret C hr hlk (kdec dk_cX1_performVar 97 rfl) ⟨rfl, I95, F98, (by rw [e2, e5, e99, e100]; try omega), (by rw [e102, e104]; try omega)⟩
  by_cases d105 : a1.toInt = 4
  · skip
    refine kv_tableIn C 4 141 (kdec dk_cX1_performVar 6 rfl) d105 (by decide) (by decide) rfl (by decide) ?_
    refine kv_aload_n C 142 rfl 0 (kdec dk_cX1_performVar 54 rfl) rfl rfl ?_
    refine kv_iload_n C 143 rfl 2 (kdec dk_cX1_performVar 55 rfl) rfl rfl ?_
    refine kv_put C 146 rfl 20 13 rfl rfl inX1 (by decide) mfl_TaleMachine_Engine_264 rfl tyX1 tyX1_ok nmX1 rfl rfl (kdec dk_cX1_performVar 56 rfl) rfl rfl (fun w106 u107 => ?_)
    have I108 : kI true w106 := kI_put u107 hI (kf_rng _).1 (kf_rng _).2
    have F109 : kF [(2, some 9), (3, none), (5, some 6), (5, some 7), (6, none), (7, none), (8, none), (9, none), (10, none), (11, none), (12, some 1), (13, none), (20, some 9), (20, some 10), (20, some 12), (20, some 13), (20, some 14), (20, some 15)] w w106 := kF_put u107 hF0 rfl
    refine kv_aload_n C 147 rfl 0 (kdec dk_cX1_performVar 57 rfl) rfl rfl ?_
    refine kv_aload_n C 148 rfl 0 (kdec dk_cX1_performVar 58 rfl) rfl rfl ?_
    refine kv_getr C 151 rfl 20 6 rfl rfl inX1 (by decide) mfl_TaleMachine_Engine_45 rfl rfl (kdec dk_cX1_performVar 59 rfl) ?_
    refine kv_iconst C 152 rfl 1 (kdec dk_cX1_performVar 60 rfl) rfl ?_
    obtain ⟨x110, e111⟩ : ∃ z : Int32, w 23 1 = z := ⟨_, rfl⟩
    have b112 : (-2147483648 : Int) ≤ x110.toInt ∧ x110.toInt ≤ 2147483647 := by rw [← e111]; exact hI 23 1
    have e113 : w106 23 1 = x110 := ((kup_ne u107 rfl : w106 23 1 = w 23 1).trans e111)
    refine kv_iald C 153 rfl 23 rfl (by omega) (by omega) (show w106 23 (1 : Int32).toNatClampNeg = x110 from e113) (kdec dk_cX1_performVar 61 rfl) ?_
    refine kv_put C 156 rfl 20 14 rfl rfl inX1 (by decide) mfl_TaleMachine_Engine_267 rfl tyX1 tyX1_ok nmX1 rfl rfl (kdec dk_cX1_performVar 62 rfl) rfl rfl (fun w114 u115 => ?_)
    have I116 : kI true w114 := kI_put u115 I108 (kf_rng _).1 (kf_rng _).2
    have F117 : kF [(2, some 9), (3, none), (5, some 6), (5, some 7), (6, none), (7, none), (8, none), (9, none), (10, none), (11, none), (12, some 1), (13, none), (20, some 9), (20, some 10), (20, some 12), (20, some 13), (20, some 14), (20, some 15)] w w114 := kF_put u115 F109 rfl
    refine kv_aload_n C 157 rfl 0 (kdec dk_cX1_performVar 63 rfl) rfl rfl ?_
    refine kv_iconst C 158 rfl 3 (kdec dk_cX1_performVar 64 rfl) rfl ?_
    refine kv_put C 161 rfl 20 10 rfl rfl inX1 (by decide) mfl_TaleMachine_Engine_49 rfl tyX1 tyX1_ok nmX1 rfl rfl (kdec dk_cX1_performVar 65 rfl) rfl rfl (fun w118 u119 => ?_)
    have I120 : kI true w118 := kI_put u119 I116 (show (0 : Int) ≤ (3 : Int32).toInt by omega) (show (3 : Int32).toInt ≤ 4 by omega)
    have F121 : kF [(2, some 9), (3, none), (5, some 6), (5, some 7), (6, none), (7, none), (8, none), (9, none), (10, none), (11, none), (12, some 1), (13, none), (20, some 9), (20, some 10), (20, some 12), (20, some 13), (20, some 14), (20, some 15)] w w118 := kF_put u119 F117 rfl
    refine kv_goto C 230 (kdec dk_cX1_performVar 66 rfl) (by decide) ?_
    have e122 : w118 12 1 = x1 := ((kup_ne u119 rfl : w118 12 1 = w114 12 1).trans ((kup_ne u115 rfl : w114 12 1 = w106 12 1).trans ((kup_ne u107 rfl : w106 12 1 = w 12 1).trans e2)))
    have e123 : w118 14 1 = x4 := ((kup_ne u119 rfl : w118 14 1 = w114 14 1).trans ((kup_ne u115 rfl : w114 14 1 = w106 14 1).trans ((kup_ne u107 rfl : w106 14 1 = w 14 1).trans e5)))
    obtain ⟨x124, e125⟩ : ∃ z : Int32, w 20 10 = z := ⟨_, rfl⟩
    have b126 : (0 : Int) ≤ x124.toInt ∧ x124.toInt ≤ 4 := by rw [← e125]; exact hI 20 10
    exact kv_vret C hr hlk (kdec dk_cX1_performVar 97 rfl) ⟨rfl, I120, F121, (by rw [e2, e5, e122, e123]; try omega), (by rw [e125, (kup_eq u119)]; try omega)⟩
  by_cases d127 : a1.toInt = 5
  · skip
    refine kv_tableIn C 5 164 (kdec dk_cX1_performVar 6 rfl) d127 (by decide) (by decide) rfl (by decide) ?_
    refine kv_aload_n C 165 rfl 0 (kdec dk_cX1_performVar 67 rfl) rfl rfl ?_
    refine kv_getr C 168 rfl 20 5 rfl rfl inX1 (by decide) mfl_TaleMachine_Engine_19 rfl rfl (kdec dk_cX1_performVar 68 rfl) ?_
    refine kv_iload_n C 169 rfl 2 (kdec dk_cX1_performVar 69 rfl) rfl rfl ?_
    refine kv_callVNv (As := [.int x8]) (rest := []) C 172 rfl 12 (k_addO l D τ ρ σ w x8 hI (by rw [e2]; try omega)) rfl rfl mmn_TaleMachine_Engine_249 mim_yX0_add mse_yX0_add mcd_yX0_add min_yX0_add hd_yX0_add rfl rfl rfl (by decide) rfl (Nat.le_of_ble_eq_true rfl) (kdec dk_cX1_performVar 70 rfl) (fun w128 h129 => ?_)
    obtain ⟨I130, f131, p133⟩ := h129
    have F134 : kF [(2, some 9), (3, none), (5, some 6), (5, some 7), (6, none), (7, none), (8, none), (9, none), (10, none), (11, none), (12, some 1), (13, none), (20, some 9), (20, some 10), (20, some 12), (20, some 13), (20, some 14), (20, some 15)] w w128 := kF_call hF0 f131 (by decide)
    obtain ⟨x135, e136⟩ : ∃ z : Int32, w128 12 1 = z := ⟨_, rfl⟩
    have b137 : (0 : Int) ≤ x135.toInt ∧ x135.toInt ≤ 2147483647 := by rw [← e136]; exact I130 12 1
    rw [e2, e136] at p133
    refine kv_goto C 230 (kdec dk_cX1_performVar 71 rfl) (by decide) ?_
    have e138 : w128 14 1 = x4 := ((f131 14 1 rfl : w128 14 1 = w 14 1).trans e5)
    obtain ⟨x139, e140⟩ : ∃ z : Int32, w 20 10 = z := ⟨_, rfl⟩
    have b141 : (0 : Int) ≤ x139.toInt ∧ x139.toInt ≤ 4 := by rw [← e140]; exact hI 20 10
    have e142 : w128 20 10 = x139 := ((f131 20 10 rfl : w128 20 10 = w 20 10).trans e140)
    exact kv_vret C hr hlk (kdec dk_cX1_performVar 97 rfl) ⟨rfl, I130, F134, (by rw [e2, e5, e136, e138]; try omega), (by rw [e140, e142]; try omega)⟩
  by_cases d143 : a1.toInt = 6
  · skip
    refine kv_tableIn C 6 175 (kdec dk_cX1_performVar 6 rfl) d143 (by decide) (by decide) rfl (by decide) ?_
    refine kv_aload_n C 176 rfl 0 (kdec dk_cX1_performVar 72 rfl) rfl rfl ?_
    refine kv_getr C 179 rfl 20 5 rfl rfl inX1 (by decide) mfl_TaleMachine_Engine_19 rfl rfl (kdec dk_cX1_performVar 73 rfl) ?_
    refine kv_iload_n C 180 rfl 2 (kdec dk_cX1_performVar 74 rfl) rfl rfl ?_
    refine kv_callSNi (As := [.int x8]) (rest := [.ref (ρ 12)]) C 183 rfl (k_signed l D τ ρ σ w x8 hI ) mmn_TaleMachine_Engine_186 mst_yX9_signed mcd_yX9_signed min_yX9_signed hd_yX9_signed rfl rfl rfl (by decide) rfl (Nat.le_of_ble_eq_true rfl) (kdec dk_cX1_performVar 75 rfl) (fun x148 w144 h145 => ?_)
    obtain ⟨I146, f147⟩ := h145
    have F149 : kF [(2, some 9), (3, none), (5, some 6), (5, some 7), (6, none), (7, none), (8, none), (9, none), (10, none), (11, none), (12, some 1), (13, none), (20, some 9), (20, some 10), (20, some 12), (20, some 13), (20, some 14), (20, some 15)] w w144 := kF_call hF0 f147 (by decide)
    have g150 := kf_rng x148
    have e151 : w144 12 1 = x1 := ((f147 12 1 rfl : w144 12 1 = w 12 1).trans e2)
    refine kv_callVNv (As := [.int x148]) (rest := []) C 186 rfl 12 (k_addNumber l D τ ρ σ w144 x148 I146 (by rw [e151]; try omega)) rfl rfl mmn_TaleMachine_Engine_270 mim_yX0_addNumber mse_yX0_addNumber mcd_yX0_addNumber min_yX0_addNumber hd_yX0_addNumber rfl rfl rfl (by decide) rfl (Nat.le_of_ble_eq_true rfl) (kdec dk_cX1_performVar 76 rfl) (fun w152 h153 => ?_)
    obtain ⟨I154, f155, p157⟩ := h153
    have F158 : kF [(2, some 9), (3, none), (5, some 6), (5, some 7), (6, none), (7, none), (8, none), (9, none), (10, none), (11, none), (12, some 1), (13, none), (20, some 9), (20, some 10), (20, some 12), (20, some 13), (20, some 14), (20, some 15)] w w152 := kF_call F149 f155 (by decide)
    obtain ⟨x159, e160⟩ : ∃ z : Int32, w152 12 1 = z := ⟨_, rfl⟩
    have b161 : (0 : Int) ≤ x159.toInt ∧ x159.toInt ≤ 2147483647 := by rw [← e160]; exact I154 12 1
    rw [e151, e160] at p157
    refine kv_goto C 230 (kdec dk_cX1_performVar 77 rfl) (by decide) ?_
    have e162 : w152 14 1 = x4 := ((f155 14 1 rfl : w152 14 1 = w144 14 1).trans ((f147 14 1 rfl : w144 14 1 = w 14 1).trans e5))
    obtain ⟨x163, e164⟩ : ∃ z : Int32, w 20 10 = z := ⟨_, rfl⟩
    have b165 : (0 : Int) ≤ x163.toInt ∧ x163.toInt ≤ 4 := by rw [← e164]; exact hI 20 10
    have e166 : w152 20 10 = x163 := ((f155 20 10 rfl : w152 20 10 = w144 20 10).trans ((f147 20 10 rfl : w144 20 10 = w 20 10).trans e164))
    exact kv_vret C hr hlk (kdec dk_cX1_performVar 97 rfl) ⟨rfl, I154, F158, (by rw [e2, e5, e160, e162]; try omega), (by rw [e164, e166]; try omega)⟩
  by_cases d167 : a1.toInt = 7
  · skip
    refine kv_tableIn C 7 189 (kdec dk_cX1_performVar 6 rfl) d167 (by decide) (by decide) rfl (by decide) ?_
    refine kv_aload_n C 190 rfl 0 (kdec dk_cX1_performVar 78 rfl) rfl rfl ?_
    refine kv_aload_n C 191 rfl 0 (kdec dk_cX1_performVar 79 rfl) rfl rfl ?_
    refine kv_iload_n C 192 rfl 2 (kdec dk_cX1_performVar 80 rfl) rfl rfl ?_
    refine kv_callSNi (As := [.int x8]) (rest := [.ref (ρ 20), .ref (ρ 20)]) C 195 rfl (k_signed l D τ ρ σ w x8 hI ) mmn_TaleMachine_Engine_186 mst_yX9_signed mcd_yX9_signed min_yX9_signed hd_yX9_signed rfl rfl rfl (by decide) rfl (Nat.le_of_ble_eq_true rfl) (kdec dk_cX1_performVar 81 rfl) (fun x172 w168 h169 => ?_)
    obtain ⟨I170, f171⟩ := h169
    have F173 : kF [(2, some 9), (3, none), (5, some 6), (5, some 7), (6, none), (7, none), (8, none), (9, none), (10, none), (11, none), (12, some 1), (13, none), (20, some 9), (20, some 10), (20, some 12), (20, some 13), (20, some 14), (20, some 15)] w w168 := kF_call hF0 f171 (by decide)
    have g174 := kf_rng x172
    refine kv_callVi (As := [.int x172]) (rest := [.ref (ρ 20)]) C 198 rfl 20 (k_e_drawn l D τ ρ σ w168 x172 I170 ) rfl rfl mml_TaleMachine_Engine_273 mim_yX1_drawn mse_yX1_drawn mcd_yX1_drawn min_yX1_drawn hd_yX1_drawn rfl rfl rfl (by decide) rfl (Nat.le_of_ble_eq_true rfl) (kdec dk_cX1_performVar 82 rfl) (fun x179 w175 h176 => ?_)
    obtain ⟨I177, f178⟩ := h176
    have F180 : kF [(2, some 9), (3, none), (5, some 6), (5, some 7), (6, none), (7, none), (8, none), (9, none), (10, none), (11, none), (12, some 1), (13, none), (20, some 9), (20, some 10), (20, some 12), (20, some 13), (20, some 14), (20, some 15)] w w175 := kF_call F173 f178 (by decide)
    have g181 := kf_rng x179
    refine kv_put C 201 rfl 20 15 rfl rfl inX1 (by decide) mfl_TaleMachine_Engine_120 rfl tyX1 tyX1_ok nmX1 rfl rfl (kdec dk_cX1_performVar 83 rfl) rfl rfl (fun w182 u183 => ?_)
    have I184 : kI true w182 := kI_put u183 I177 (kf_rng _).1 (kf_rng _).2
    have F185 : kF [(2, some 9), (3, none), (5, some 6), (5, some 7), (6, none), (7, none), (8, none), (9, none), (10, none), (11, none), (12, some 1), (13, none), (20, some 9), (20, some 10), (20, some 12), (20, some 13), (20, some 14), (20, some 15)] w w182 := kF_put u183 F180 rfl
    refine kv_goto C 230 (kdec dk_cX1_performVar 84 rfl) (by decide) ?_
    have e186 : w182 12 1 = x1 := ((kup_ne u183 rfl : w182 12 1 = w175 12 1).trans ((f178 12 1 rfl : w175 12 1 = w168 12 1).trans ((f171 12 1 rfl : w168 12 1 = w 12 1).trans e2)))
    have e187 : w182 14 1 = x4 := ((kup_ne u183 rfl : w182 14 1 = w175 14 1).trans ((f178 14 1 rfl : w175 14 1 = w168 14 1).trans ((f171 14 1 rfl : w168 14 1 = w 14 1).trans e5)))
    obtain ⟨x188, e189⟩ : ∃ z : Int32, w 20 10 = z := ⟨_, rfl⟩
    have b190 : (0 : Int) ≤ x188.toInt ∧ x188.toInt ≤ 4 := by rw [← e189]; exact hI 20 10
    have e191 : w182 20 10 = x188 := ((kup_ne u183 rfl : w182 20 10 = w175 20 10).trans ((f178 20 10 rfl : w175 20 10 = w168 20 10).trans ((f171 20 10 rfl : w168 20 10 = w 20 10).trans e189)))
    exact kv_vret C hr hlk (kdec dk_cX1_performVar 97 rfl) ⟨rfl, I184, F185, (by rw [e2, e5, e186, e187]; try omega), (by rw [e189, e191]; try omega)⟩
  by_cases d192 : a1.toInt = 8
  · skip
    refine kv_tableIn C 8 204 (kdec dk_cX1_performVar 6 rfl) d192 (by decide) (by decide) rfl (by decide) ?_
    refine kv_aload_n C 205 rfl 0 (kdec dk_cX1_performVar 85 rfl) rfl rfl ?_
    refine kv_getr C 208 rfl 20 2 rfl rfl inX1 (by decide) mfl_TaleMachine_Engine_32 rfl rfl (kdec dk_cX1_performVar 86 rfl) ?_
    refine kv_iload_n C 209 rfl 2 (kdec dk_cX1_performVar 87 rfl) rfl rfl ?_
    refine kv_callVNv (As := [.int x8]) (rest := []) C 212 rfl 21 (k_push l D τ ρ σ w x8 hI ) rfl rfl mmn_TaleMachine_Engine_276 mim_yX8_push mse_yX8_push mcd_yX8_push min_yX8_push hd_yX8_push rfl rfl rfl (by decide) rfl (Nat.le_of_ble_eq_true rfl) (kdec dk_cX1_performVar 88 rfl) (fun w193 h194 => ?_)
    obtain ⟨I195, f196⟩ := h194
    have F198 : kF [(2, some 9), (3, none), (5, some 6), (5, some 7), (6, none), (7, none), (8, none), (9, none), (10, none), (11, none), (12, some 1), (13, none), (20, some 9), (20, some 10), (20, some 12), (20, some 13), (20, some 14), (20, some 15)] w w193 := kF_call hF0 f196 (by decide)
    refine kv_goto C 230 (kdec dk_cX1_performVar 89 rfl) (by decide) ?_
    have e199 : w193 12 1 = x1 := ((f196 12 1 rfl : w193 12 1 = w 12 1).trans e2)
    have e200 : w193 14 1 = x4 := ((f196 14 1 rfl : w193 14 1 = w 14 1).trans e5)
    obtain ⟨x201, e202⟩ : ∃ z : Int32, w 20 10 = z := ⟨_, rfl⟩
    have b203 : (0 : Int) ≤ x201.toInt ∧ x201.toInt ≤ 4 := by rw [← e202]; exact hI 20 10
    have e204 : w193 20 10 = x201 := ((f196 20 10 rfl : w193 20 10 = w 20 10).trans e202)
    exact kv_vret C hr hlk (kdec dk_cX1_performVar 97 rfl) ⟨rfl, I195, F198, (by rw [e2, e5, e199, e200]; try omega), (by rw [e202, e204]; try omega)⟩
  refine kv_tableOut C 215 (kdec dk_cX1_performVar 6 rfl) (by omega) (by decide) ?_
  refine kv_aload_n C 216 rfl 0 (kdec dk_cX1_performVar 90 rfl) rfl rfl ?_
  refine kv_getr C 219 rfl 20 2 rfl rfl inX1 (by decide) mfl_TaleMachine_Engine_32 rfl rfl (kdec dk_cX1_performVar 91 rfl) ?_
  refine kv_iload_n C 220 rfl 2 (kdec dk_cX1_performVar 92 rfl) rfl rfl ?_
  refine kv_aload_n C 221 rfl 0 (kdec dk_cX1_performVar 93 rfl) rfl rfl ?_
  refine kv_getr C 224 rfl 20 2 rfl rfl inX1 (by decide) mfl_TaleMachine_Engine_32 rfl rfl (kdec dk_cX1_performVar 94 rfl) ?_
  refine kv_callVNi (As := []) (rest := [.int x8, .ref (ρ 21)]) C 227 rfl 21 (k_pop l D τ ρ σ w  hI ) rfl rfl mmn_TaleMachine_Engine_246 mim_yX8_pop mse_yX8_pop mcd_yX8_pop min_yX8_pop hd_yX8_pop rfl rfl rfl (by decide) rfl (Nat.le_of_ble_eq_true rfl) (kdec dk_cX1_performVar 95 rfl) (fun x209 w205 h206 => ?_)
  obtain ⟨I207, f208⟩ := h206
  have F210 : kF [(2, some 9), (3, none), (5, some 6), (5, some 7), (6, none), (7, none), (8, none), (9, none), (10, none), (11, none), (12, some 1), (13, none), (20, some 9), (20, some 10), (20, some 12), (20, some 13), (20, some 14), (20, some 15)] w w205 := kF_call hF0 f208 (by decide)
  have g211 := kf_rng x209
  refine kv_callVNv (As := [.int x8, .int x209]) (rest := []) C 230 rfl 21 (k_assignNamed l D τ ρ σ w205 x8 x209 I207 ) rfl rfl mmn_TaleMachine_Engine_204 mim_yX8_assignNamed mse_yX8_assignNamed mcd_yX8_assignNamed min_yX8_assignNamed hd_yX8_assignNamed rfl rfl rfl (by decide) rfl (Nat.le_of_ble_eq_true rfl) (kdec dk_cX1_performVar 96 rfl) (fun w212 h213 => ?_)
  obtain ⟨I214, f215⟩ := h213
  have F217 : kF [(2, some 9), (3, none), (5, some 6), (5, some 7), (6, none), (7, none), (8, none), (9, none), (10, none), (11, none), (12, some 1), (13, none), (20, some 9), (20, some 10), (20, some 12), (20, some 13), (20, some 14), (20, some 15)] w w212 := kF_call F210 f215 (by decide)
  have e218 : w212 12 1 = x1 := ((f215 12 1 rfl : w212 12 1 = w205 12 1).trans ((f208 12 1 rfl : w205 12 1 = w 12 1).trans e2))
  have e219 : w212 14 1 = x4 := ((f215 14 1 rfl : w212 14 1 = w205 14 1).trans ((f208 14 1 rfl : w205 14 1 = w 14 1).trans e5))
  obtain ⟨x220, e221⟩ : ∃ z : Int32, w 20 10 = z := ⟨_, rfl⟩
  have b222 : (0 : Int) ≤ x220.toInt ∧ x220.toInt ≤ 4 := by rw [← e221]; exact hI 20 10
  have e223 : w212 20 10 = x220 := ((f215 20 10 rfl : w212 20 10 = w205 20 10).trans ((f208 20 10 rfl : w205 20 10 = w 20 10).trans e221))
  exact kv_vret C hr hlk (kdec dk_cX1_performVar 97 rfl) ⟨rfl, I214, F217, (by rw [e2, e5, e218, e219]; try omega), (by rw [e221, e223]; try omega)⟩

set_option maxHeartbeats 4000000 in
set_option maxRecDepth 100000 in
theorem k_e_obey (l : Launch) (D : va_G) (τ : Nat → ClassId) (ρ σ : Nat → Nat) (w : kw)  (hI : kI true w) (hp0 : (w 12 1).toInt ≤ 2147481000 ∧ (w 14 1).toInt ≤ 2147481000) :
    kM l D τ ρ σ yX1_obey cX1_obey 3 none { frames := 9, cells := 0, slots := 0, locals := 324 } [.ref (ρ 20)] w
      (fun o w' => o = none ∧ kI true w' ∧ kF [(2, some 9), (3, none), (5, some 6), (5, some 7), (6, none), (7, none), (8, none), (9, none), (10, none), (11, none), (12, some 1), (13, none), (14, some 1), (15, none), (16, some 1), (16, some 2), (16, some 3), (16, some 4), (16, some 5), (16, some 6), (16, some 7), (16, some 8), (16, some 9), (16, some 10), (16, some 11), (16, some 12), (16, some 13), (20, some 7), (20, some 8), (20, some 9), (20, some 10), (20, some 11), (20, some 12), (20, some 13), (20, some 14), (20, some 15), (20, some 16), (23, none)] w w' ∧ ((w' 12 1).toInt ≤ (w 12 1).toInt + 501 ∧ (w' 14 1).toInt ≤ (w 14 1).toInt + 501) ∧ ((w 20 10).toInt = 0 ∨ 1 ≤ (w' 20 10).toInt)) := by
  refine kM_of (own := "TaleMachine$Engine") rfl (by decide) (Nat.le_of_ble_eq_true rfl) ?_
  intro p e s m args below meth c C hr hlk
  have hF0 : kF [(2, some 9), (3, none), (5, some 6), (5, some 7), (6, none), (7, none), (8, none), (9, none), (10, none), (11, none), (12, some 1), (13, none), (14, some 1), (15, none), (16, some 1), (16, some 2), (16, some 3), (16, some 4), (16, some 5), (16, some 6), (16, some 7), (16, some 8), (16, some 9), (16, some 10), (16, some 11), (16, some 12), (16, some 13), (20, some 7), (20, some 8), (20, some 9), (20, some 10), (20, some 11), (20, some 12), (20, some 13), (20, some 14), (20, some 15), (20, some 16), (23, none)] w w := kF.rf
  have c_0 : (0 : Int32).toInt = 0 := by decide
  have c_1 : (1 : Int32).toInt = 1 := by decide
  have c_2 : (2 : Int32).toInt = 2 := by decide
  have c_4 : (4 : Int32).toInt = 4 := by decide
  have c_6 : (6 : Int32).toInt = 6 := by decide
  have c_15 : (15 : Int32).toInt = 15 := by decide
  have c_31 : (31 : Int32).toInt = 31 := by decide
  have c_224 : (224 : Int32).toInt = 224 := by decide
  have c_65535 : (65535 : Int32).toInt = 65535 := by decide
  refine kV.L (L' := [(0, .ref (ρ 20))]) rfl ?_
  obtain ⟨x1, e2⟩ : ∃ z : Int32, w 12 1 = z := ⟨_, rfl⟩
  have b3 : (0 : Int) ≤ x1.toInt ∧ x1.toInt ≤ 2147483647 := by rw [← e2]; exact hI 12 1
  obtain ⟨x4, e5⟩ : ∃ z : Int32, w 14 1 = z := ⟨_, rfl⟩
  have b6 : (0 : Int) ≤ x4.toInt ∧ x4.toInt ≤ 2147483647 := by rw [← e5]; exact hI 14 1
  rw [e2, e5] at hp0
  have cut195 : ∀ (w_195 : kw), kI true w_195 → kF [(2, some 9), (3, none), (5, some 6), (5, some 7), (6, none), (7, none), (8, none), (9, none), (10, none), (11, none), (12, some 1), (13, none), (14, some 1), (15, none), (16, some 1), (16, some 2), (16, some 3), (16, some 4), (16, some 5), (16, some 6), (16, some 7), (16, some 8), (16, some 9), (16, some 10), (16, some 11), (16, some 12), (16, some 13), (20, some 7), (20, some 8), (20, some 9), (20, some 10), (20, some 11), (20, some 12), (20, some 13), (20, some 14), (20, some 15), (20, some 16), (23, none)] w w_195 → ((w_195 12 1).toInt ≤ (w 12 1).toInt + 501 ∧ (w_195 14 1).toInt ≤ (w 14 1).toInt + 501) → ((w 20 10).toInt = 0 ∨ 1 ≤ (w_195 20 10).toInt) → kV p l e { frames := 9, cells := 0, slots := 0, locals := 324 } s m args below meth c (kQ below args s D τ ρ (fun o w' => o = none ∧ kI true w' ∧ kF [(2, some 9), (3, none), (5, some 6), (5, some 7), (6, none), (7, none), (8, none), (9, none), (10, none), (11, none), (12, some 1), (13, none), (14, some 1), (15, none), (16, some 1), (16, some 2), (16, some 3), (16, some 4), (16, some 5), (16, some 6), (16, some 7), (16, some 8), (16, some 9), (16, some 10), (16, some 11), (16, some 12), (16, some 13), (20, some 7), (20, some 8), (20, some 9), (20, some 10), (20, some 11), (20, some 12), (20, some 13), (20, some 14), (20, some 15), (20, some 16), (23, none)] w w' ∧ ((w' 12 1).toInt ≤ (w 12 1).toInt + 501 ∧ (w' 14 1).toInt ≤ (w 14 1).toInt + 501) ∧ ((w 20 10).toInt = 0 ∨ 1 ≤ (w' 20 10).toInt))) 3 D τ ρ 195 [(0, .ref (ρ 20))] [] w_195 := by
    intro w_195  I_195 F_195 k195_0 k195_1
    obtain ⟨x7, e8⟩ : ∃ z : Int32, w_195 12 1 = z := ⟨_, rfl⟩
    have b9 : (0 : Int) ≤ x7.toInt ∧ x7.toInt ≤ 2147483647 := by rw [← e8]; exact I_195 12 1
    obtain ⟨x10, e11⟩ : ∃ z : Int32, w_195 14 1 = z := ⟨_, rfl⟩
    have b12 : (0 : Int) ≤ x10.toInt ∧ x10.toInt ≤ 2147483647 := by rw [← e11]; exact I_195 14 1
    rw [e2, e5, e8, e11] at k195_0
    obtain ⟨x13, e14⟩ : ∃ z : Int32, w 20 10 = z := ⟨_, rfl⟩
    have b15 : (0 : Int) ≤ x13.toInt ∧ x13.toInt ≤ 4 := by rw [← e14]; exact hI 20 10
    obtain ⟨x16, e17⟩ : ∃ z : Int32, w_195 20 10 = z := ⟨_, rfl⟩
    have b18 : (0 : Int) ≤ x16.toInt ∧ x16.toInt ≤ 4 := by rw [← e17]; exact I_195 20 10
    rw [e14, e17] at k195_1
    refine kv_aload_n C 196 rfl 0 (kdec dk_cX1_obey 110 rfl) rfl rfl ?_
    refine kv_getr C 199 rfl 20 0 rfl rfl inX1 (by decide) mfl_TaleMachine_Engine_9 rfl rfl (kdec dk_cX1_obey 111 rfl) ?_
    obtain ⟨x19, e20⟩ : ∃ z : Int32, w_195 2 9 = z := ⟨_, rfl⟩
    have b21 : (0 : Int) ≤ x19.toInt ∧ x19.toInt ≤ 13 := by rw [← e20]; exact I_195 2 9
    refine kv_getN C 202 rfl 2 9 rfl rfl inX6 (by decide) mfn_TaleMachine_Engine_67 rfl rfl (kdec dk_cX1_obey 112 rfl) e20 ?_
    refine kv_if_ne C 205 rfl 216 (kdec dk_cX1_obey 113 rfl) (by decide) (fun d22 => ?_) (fun d22 => ?_)
    · skip
      refine kv_aload_n C 217 rfl 0 (kdec dk_cX1_obey 119 rfl) rfl rfl ?_
      refine kv_iconst C 218 rfl 4 (kdec dk_cX1_obey 120 rfl) rfl ?_
      refine kv_put C 221 rfl 20 10 rfl rfl inX1 (by decide) mfl_TaleMachine_Engine_49 rfl tyX1 tyX1_ok nmX1 rfl rfl (kdec dk_cX1_obey 121 rfl) rfl rfl (fun w23 u24 => ?_)
      have I25 : kI true w23 := kI_put u24 I_195 (show (0 : Int) ≤ (4 : Int32).toInt by omega) (show (4 : Int32).toInt ≤ 4 by omega)
      have F26 : kF [(2, some 9), (3, none), (5, some 6), (5, some 7), (6, none), (7, none), (8, none), (9, none), (10, none), (11, none), (12, some 1), (13, none), (14, some 1), (15, none), (16, some 1), (16, some 2), (16, some 3), (16, some 4), (16, some 5), (16, some 6), (16, some 7), (16, some 8), (16, some 9), (16, some 10), (16, some 11), (16, some 12), (16, some 13), (20, some 7), (20, some 8), (20, some 9), (20, some 10), (20, some 11), (20, some 12), (20, some 13), (20, some 14), (20, some 15), (20, some 16), (23, none)] w w23 := kF_put u24 F_195 rfl
      have e27 : w23 12 1 = x7 := ((kup_ne u24 rfl : w23 12 1 = w_195 12 1).trans e8)
      have e28 : w23 14 1 = x10 := ((kup_ne u24 rfl : w23 14 1 = w_195 14 1).trans e11)
      exact kv_vret C hr hlk (kdec dk_cX1_obey 122 rfl) ⟨rfl, I25, F26, (by rw [e2, e5, e27, e28]; try omega), (by rw [e14, (kup_eq u24)]; try omega)⟩
    · skip
      refine kv_aload_n C 206 rfl 0 (kdec dk_cX1_obey 114 rfl) rfl rfl ?_
      refine kv_aload_n C 207 rfl 0 (kdec dk_cX1_obey 115 rfl) rfl rfl ?_
      obtain ⟨x29, e30⟩ : ∃ z : Int32, w_195 20 9 = z := ⟨_, rfl⟩
      have b31 : (-2147483648 : Int) ≤ x29.toInt ∧ x29.toInt ≤ 2147483647 := by rw [← e30]; exact I_195 20 9
      refine kv_get C 210 rfl 20 9 rfl rfl inX1 (by decide) mfl_TaleMachine_Engine_56 rfl rfl (kdec dk_cX1_obey 116 rfl) e30 ?_
      refine kv_put C 213 rfl 20 8 rfl rfl inX1 (by decide) mfl_TaleMachine_Engine_59 rfl tyX1 tyX1_ok nmX1 rfl rfl (kdec dk_cX1_obey 117 rfl) rfl rfl (fun w32 u33 => ?_)
      have I34 : kI true w32 := kI_put u33 I_195 (kf_rng _).1 (kf_rng _).2
      have F35 : kF [(2, some 9), (3, none), (5, some 6), (5, some 7), (6, none), (7, none), (8, none), (9, none), (10, none), (11, none), (12, some 1), (13, none), (14, some 1), (15, none), (16, some 1), (16, some 2), (16, some 3), (16, some 4), (16, some 5), (16, some 6), (16, some 7), (16, some 8), (16, some 9), (16, some 10), (16, some 11), (16, some 12), (16, some 13), (20, some 7), (20, some 8), (20, some 9), (20, some 10), (20, some 11), (20, some 12), (20, some 13), (20, some 14), (20, some 15), (20, some 16), (23, none)] w w32 := kF_put u33 F_195 rfl
      refine kv_goto C 221 (kdec dk_cX1_obey 118 rfl) (by decide) ?_
      have e36 : w32 12 1 = x7 := ((kup_ne u33 rfl : w32 12 1 = w_195 12 1).trans e8)
      have e37 : w32 14 1 = x10 := ((kup_ne u33 rfl : w32 14 1 = w_195 14 1).trans e11)
      have e38 : w32 20 10 = x16 := ((kup_ne u33 rfl : w32 20 10 = w_195 20 10).trans e17)
      exact kv_vret C hr hlk (kdec dk_cX1_obey 122 rfl) ⟨rfl, I34, F35, (by rw [e2, e5, e36, e37]; try omega), (by rw [e14, e38]; try omega)⟩
  have cut185 : ∀ (w_185 : kw) (l2_185 : Int32), kI true w_185 → kF [(2, some 9), (3, none), (5, some 6), (5, some 7), (6, none), (7, none), (8, none), (9, none), (10, none), (11, none), (12, some 1), (13, none), (14, some 1), (15, none), (16, some 1), (16, some 2), (16, some 3), (16, some 4), (16, some 5), (16, some 6), (16, some 7), (16, some 8), (16, some 9), (16, some 10), (16, some 11), (16, some 12), (16, some 13), (20, some 7), (20, some 8), (20, some 9), (20, some 10), (20, some 11), (20, some 12), (20, some 13), (20, some 14), (20, some 15), (20, some 16), (23, none)] w w_185 → ((w_185 12 1).toInt ≤ (w 12 1).toInt + 501 ∧ (w_185 14 1).toInt ≤ (w 14 1).toInt + 501) → ((w 20 10).toInt = 0 ∨ 1 ≤ (w_185 20 10).toInt) → kV p l e { frames := 9, cells := 0, slots := 0, locals := 324 } s m args below meth c (kQ below args s D τ ρ (fun o w' => o = none ∧ kI true w' ∧ kF [(2, some 9), (3, none), (5, some 6), (5, some 7), (6, none), (7, none), (8, none), (9, none), (10, none), (11, none), (12, some 1), (13, none), (14, some 1), (15, none), (16, some 1), (16, some 2), (16, some 3), (16, some 4), (16, some 5), (16, some 6), (16, some 7), (16, some 8), (16, some 9), (16, some 10), (16, some 11), (16, some 12), (16, some 13), (20, some 7), (20, some 8), (20, some 9), (20, some 10), (20, some 11), (20, some 12), (20, some 13), (20, some 14), (20, some 15), (20, some 16), (23, none)] w w' ∧ ((w' 12 1).toInt ≤ (w 12 1).toInt + 501 ∧ (w' 14 1).toInt ≤ (w 14 1).toInt + 501) ∧ ((w 20 10).toInt = 0 ∨ 1 ≤ (w' 20 10).toInt))) 3 D τ ρ 185 [(0, .ref (ρ 20)), (2, .int l2_185)] [] w_185 := by
    intro w_185 l2_185 I_185 F_185 k185_0 k185_1
    have gl2_185 := kf_rng l2_185
    obtain ⟨x39, e40⟩ : ∃ z : Int32, w_185 12 1 = z := ⟨_, rfl⟩
    have b41 : (0 : Int) ≤ x39.toInt ∧ x39.toInt ≤ 2147483647 := by rw [← e40]; exact I_185 12 1
    obtain ⟨x42, e43⟩ : ∃ z : Int32, w_185 14 1 = z := ⟨_, rfl⟩
    have b44 : (0 : Int) ≤ x42.toInt ∧ x42.toInt ≤ 2147483647 := by rw [← e43]; exact I_185 14 1
    rw [e2, e5, e40, e43] at k185_0
    obtain ⟨x45, e46⟩ : ∃ z : Int32, w 20 10 = z := ⟨_, rfl⟩
    have b47 : (0 : Int) ≤ x45.toInt ∧ x45.toInt ≤ 4 := by rw [← e46]; exact hI 20 10
    obtain ⟨x48, e49⟩ : ∃ z : Int32, w_185 20 10 = z := ⟨_, rfl⟩
    have b50 : (0 : Int) ≤ x48.toInt ∧ x48.toInt ≤ 4 := by rw [← e49]; exact I_185 20 10
    rw [e46, e49] at k185_1
    refine kv_iload_n C 186 rfl 1 (kdec dk_cX1_obey 104 rfl) rfl rfl ?_
    refine kv_iconst C 187 rfl 2 (kdec dk_cX1_obey 105 rfl) rfl ?_
    refine kv_iand C 188 rfl (kdec dk_cX1_obey 106 rfl) (fun x51 h52e h52l h52u => ?_)
    refine kv_if_eq C 191 rfl 195 (kdec dk_cX1_obey 107 rfl) (by decide) (fun d53 => ?_) (fun d53 => ?_)
    · skip
      refine kV.sub [0] (L' := [(0, .ref (ρ 20))]) rfl ?_
      exact cut195 w_185  I_185 F_185 (by rw [e2, e5, e40, e43]; try omega) (by rw [e46, e49]; try omega)
    · skip
      refine kv_aload_n C 192 rfl 0 (kdec dk_cX1_obey 108 rfl) rfl rfl ?_
      refine kv_callVv (As := []) (rest := []) C 195 rfl 20 (k_e_branch l D τ ρ σ w_185  I_185 ) rfl rfl mml_TaleMachine_Engine_130 mim_yX1_branch mse_yX1_branch mcd_yX1_branch min_yX1_branch hd_yX1_branch rfl rfl rfl (by decide) rfl (Nat.le_of_ble_eq_true rfl) (kdec dk_cX1_obey 109 rfl) (fun w54 h55 => ?_)
      obtain ⟨I56, f57⟩ := h55
      have F59 : kF [(2, some 9), (3, none), (5, some 6), (5, some 7), (6, none), (7, none), (8, none), (9, none), (10, none), (11, none), (12, some 1), (13, none), (14, some 1), (15, none), (16, some 1), (16, some 2), (16, some 3), (16, some 4), (16, some 5), (16, some 6), (16, some 7), (16, some 8), (16, some 9), (16, some 10), (16, some 11), (16, some 12), (16, some 13), (20, some 7), (20, some 8), (20, some 9), (20, some 10), (20, some 11), (20, some 12), (20, some 13), (20, some 14), (20, some 15), (20, some 16), (23, none)] w w54 := kF_call F_185 f57 (by decide)
      have e60 : w54 12 1 = x39 := ((f57 12 1 rfl : w54 12 1 = w_185 12 1).trans e40)
      have e61 : w54 14 1 = x42 := ((f57 14 1 rfl : w54 14 1 = w_185 14 1).trans e43)
      have e62 : w54 20 10 = x48 := ((f57 20 10 rfl : w54 20 10 = w_185 20 10).trans e49)
      refine kV.sub [0] (L' := [(0, .ref (ρ 20))]) rfl ?_
      exact cut195 w54  I56 F59 (by rw [e2, e5, e60, e61]; try omega) (by rw [e46, e62]; try omega)
  have cut175 : ∀ (w_175 : kw) (l2_175 : Int32), kI true w_175 → kF [(2, some 9), (3, none), (5, some 6), (5, some 7), (6, none), (7, none), (8, none), (9, none), (10, none), (11, none), (12, some 1), (13, none), (14, some 1), (15, none), (16, some 1), (16, some 2), (16, some 3), (16, some 4), (16, some 5), (16, some 6), (16, some 7), (16, some 8), (16, some 9), (16, some 10), (16, some 11), (16, some 12), (16, some 13), (20, some 7), (20, some 8), (20, some 9), (20, some 10), (20, some 11), (20, some 12), (20, some 13), (20, some 14), (20, some 15), (20, some 16), (23, none)] w w_175 → ((w_175 12 1).toInt ≤ (w 12 1).toInt + 501 ∧ (w_175 14 1).toInt ≤ (w 14 1).toInt + 501) → ((w 20 10).toInt = 0 ∨ 1 ≤ (w_175 20 10).toInt) → kV p l e { frames := 9, cells := 0, slots := 0, locals := 324 } s m args below meth c (kQ below args s D τ ρ (fun o w' => o = none ∧ kI true w' ∧ kF [(2, some 9), (3, none), (5, some 6), (5, some 7), (6, none), (7, none), (8, none), (9, none), (10, none), (11, none), (12, some 1), (13, none), (14, some 1), (15, none), (16, some 1), (16, some 2), (16, some 3), (16, some 4), (16, some 5), (16, some 6), (16, some 7), (16, some 8), (16, some 9), (16, some 10), (16, some 11), (16, some 12), (16, some 13), (20, some 7), (20, some 8), (20, some 9), (20, some 10), (20, some 11), (20, some 12), (20, some 13), (20, some 14), (20, some 15), (20, some 16), (23, none)] w w' ∧ ((w' 12 1).toInt ≤ (w 12 1).toInt + 501 ∧ (w' 14 1).toInt ≤ (w 14 1).toInt + 501) ∧ ((w 20 10).toInt = 0 ∨ 1 ≤ (w' 20 10).toInt))) 3 D τ ρ 175 [(0, .ref (ρ 20)), (2, .int l2_175)] [] w_175 := by
    intro w_175 l2_175 I_175 F_175 k175_0 k175_1
    have gl2_175 := kf_rng l2_175
    obtain ⟨x63, e64⟩ : ∃ z : Int32, w_175 12 1 = z := ⟨_, rfl⟩
    have b65 : (0 : Int) ≤ x63.toInt ∧ x63.toInt ≤ 2147483647 := by rw [← e64]; exact I_175 12 1
    obtain ⟨x66, e67⟩ : ∃ z : Int32, w_175 14 1 = z := ⟨_, rfl⟩
    have b68 : (0 : Int) ≤ x66.toInt ∧ x66.toInt ≤ 2147483647 := by rw [← e67]; exact I_175 14 1
    rw [e2, e5, e64, e67] at k175_0
    obtain ⟨x69, e70⟩ : ∃ z : Int32, w 20 10 = z := ⟨_, rfl⟩
    have b71 : (0 : Int) ≤ x69.toInt ∧ x69.toInt ≤ 4 := by rw [← e70]; exact hI 20 10
    obtain ⟨x72, e73⟩ : ∃ z : Int32, w_175 20 10 = z := ⟨_, rfl⟩
    have b74 : (0 : Int) ≤ x72.toInt ∧ x72.toInt ≤ 4 := by rw [← e73]; exact I_175 20 10
    rw [e70, e73] at k175_1
    refine kv_iload_n C 176 rfl 1 (kdec dk_cX1_obey 98 rfl) rfl rfl ?_
    refine kv_iconst C 177 rfl 1 (kdec dk_cX1_obey 99 rfl) rfl ?_
    refine kv_iand C 178 rfl (kdec dk_cX1_obey 100 rfl) (fun x75 h76e h76l h76u => ?_)
    have g77 := kf_and1 h76e
    refine kv_if_eq C 181 rfl 185 (kdec dk_cX1_obey 101 rfl) (by decide) (fun d78 => ?_) (fun d78 => ?_)
    · skip
      exact cut185 w_175 l2_175 I_175 F_175 (by rw [e2, e5, e64, e67]; try omega) (by rw [e70, e73]; try omega)
    · skip
      refine kv_aload_n C 182 rfl 0 (kdec dk_cX1_obey 102 rfl) rfl rfl ?_
      refine kv_callVv (As := []) (rest := []) C 185 rfl 20 (k_e_answer l D τ ρ σ w_175  I_175 ) rfl rfl mml_TaleMachine_Engine_127 mim_yX1_answer mse_yX1_answer mcd_yX1_answer min_yX1_answer hd_yX1_answer rfl rfl rfl (by decide) rfl (Nat.le_of_ble_eq_true rfl) (kdec dk_cX1_obey 103 rfl) (fun w79 h80 => ?_)
      obtain ⟨I81, f82⟩ := h80
      have F84 : kF [(2, some 9), (3, none), (5, some 6), (5, some 7), (6, none), (7, none), (8, none), (9, none), (10, none), (11, none), (12, some 1), (13, none), (14, some 1), (15, none), (16, some 1), (16, some 2), (16, some 3), (16, some 4), (16, some 5), (16, some 6), (16, some 7), (16, some 8), (16, some 9), (16, some 10), (16, some 11), (16, some 12), (16, some 13), (20, some 7), (20, some 8), (20, some 9), (20, some 10), (20, some 11), (20, some 12), (20, some 13), (20, some 14), (20, some 15), (20, some 16), (23, none)] w w79 := kF_call F_175 f82 (by decide)
      have e85 : w79 12 1 = x63 := ((f82 12 1 rfl : w79 12 1 = w_175 12 1).trans e64)
      have e86 : w79 14 1 = x66 := ((f82 14 1 rfl : w79 14 1 = w_175 14 1).trans e67)
      have e87 : w79 20 10 = x72 := ((f82 20 10 rfl : w79 20 10 = w_175 20 10).trans e73)
      exact cut185 w79 l2_175 I81 F84 (by rw [e2, e5, e85, e86]; try omega) (by rw [e70, e87]; try omega)
  have cut48 : ∀ (w_48 : kw) (l1_48 l2_48 : Int32), kI true w_48 → kF [(2, some 9), (3, none), (5, some 6), (5, some 7), (6, none), (7, none), (8, none), (9, none), (10, none), (11, none), (12, some 1), (13, none), (14, some 1), (15, none), (16, some 1), (16, some 2), (16, some 3), (16, some 4), (16, some 5), (16, some 6), (16, some 7), (16, some 8), (16, some 9), (16, some 10), (16, some 11), (16, some 12), (16, some 13), (20, some 7), (20, some 8), (20, some 9), (20, some 10), (20, some 11), (20, some 12), (20, some 13), (20, some 14), (20, some 15), (20, some 16), (23, none)] w w_48 → ((w_48 12 1).toInt ≤ (w 12 1).toInt + 0 ∧ (w_48 14 1).toInt ≤ (w 14 1).toInt + 0) → (0 ≤ l1_48.toInt ∧ l1_48.toInt ≤ 255) → ((w 20 10).toInt = 0 ∨ 1 ≤ (w_48 20 10).toInt) → kV p l e { frames := 9, cells := 0, slots := 0, locals := 324 } s m args below meth c (kQ below args s D τ ρ (fun o w' => o = none ∧ kI true w' ∧ kF [(2, some 9), (3, none), (5, some 6), (5, some 7), (6, none), (7, none), (8, none), (9, none), (10, none), (11, none), (12, some 1), (13, none), (14, some 1), (15, none), (16, some 1), (16, some 2), (16, some 3), (16, some 4), (16, some 5), (16, some 6), (16, some 7), (16, some 8), (16, some 9), (16, some 10), (16, some 11), (16, some 12), (16, some 13), (20, some 7), (20, some 8), (20, some 9), (20, some 10), (20, some 11), (20, some 12), (20, some 13), (20, some 14), (20, some 15), (20, some 16), (23, none)] w w' ∧ ((w' 12 1).toInt ≤ (w 12 1).toInt + 501 ∧ (w' 14 1).toInt ≤ (w 14 1).toInt + 501) ∧ ((w 20 10).toInt = 0 ∨ 1 ≤ (w' 20 10).toInt))) 3 D τ ρ 48 [(0, .ref (ρ 20)), (1, .int l1_48), (2, .int l2_48)] [] w_48 := by
    intro w_48 l1_48 l2_48 I_48 F_48 k48_0 k48_1 k48_2
    have gl1_48 := kf_rng l1_48
    have gl2_48 := kf_rng l2_48
    obtain ⟨x88, e89⟩ : ∃ z : Int32, w_48 12 1 = z := ⟨_, rfl⟩
    have b90 : (0 : Int) ≤ x88.toInt ∧ x88.toInt ≤ 2147483647 := by rw [← e89]; exact I_48 12 1
    obtain ⟨x91, e92⟩ : ∃ z : Int32, w_48 14 1 = z := ⟨_, rfl⟩
    have b93 : (0 : Int) ≤ x91.toInt ∧ x91.toInt ≤ 2147483647 := by rw [← e92]; exact I_48 14 1
    rw [e2, e5, e89, e92] at k48_0
    obtain ⟨x94, e95⟩ : ∃ z : Int32, w 20 10 = z := ⟨_, rfl⟩
    have b96 : (0 : Int) ≤ x94.toInt ∧ x94.toInt ≤ 4 := by rw [← e95]; exact hI 20 10
    obtain ⟨x97, e98⟩ : ∃ z : Int32, w_48 20 10 = z := ⟨_, rfl⟩
    have b99 : (0 : Int) ≤ x97.toInt ∧ x97.toInt ≤ 4 := by rw [← e98]; exact I_48 20 10
    rw [e95, e98] at k48_2
    refine kv_aload_n C 49 rfl 0 (kdec dk_cX1_obey 27 rfl) rfl rfl ?_
    refine kv_getr C 52 rfl 20 0 rfl rfl inX1 (by decide) mfl_TaleMachine_Engine_9 rfl rfl (kdec dk_cX1_obey 28 rfl) ?_
    obtain ⟨x100, e101⟩ : ∃ z : Int32, w_48 2 9 = z := ⟨_, rfl⟩
    have b102 : (0 : Int) ≤ x100.toInt ∧ x100.toInt ≤ 13 := by rw [← e101]; exact I_48 2 9
    refine kv_getN C 55 rfl 2 9 rfl rfl inX6 (by decide) mfn_TaleMachine_Engine_67 rfl rfl (kdec dk_cX1_obey 29 rfl) e101 ?_
    refine kv_if_ne C 58 rfl 175 (kdec dk_cX1_obey 30 rfl) (by decide) (fun d103 => ?_) (fun d103 => ?_)
    · skip
      refine kV.sub [0, 2] (L' := [(0, .ref (ρ 20)), (2, .int l2_48)]) rfl ?_
      exact cut175 w_48 l2_48 I_48 F_48 (by rw [e2, e5, e89, e92]; try omega) (by rw [e95, e98]; try omega)
    · skip
      refine kv_iload_n C 59 rfl 1 (kdec dk_cX1_obey 31 rfl) rfl rfl ?_
      refine kv_sipush C 62 rfl 224 (kdec dk_cX1_obey 32 rfl) rfl ?_
      refine kv_icmp_lt C 65 rfl 76 (kdec dk_cX1_obey 33 rfl) (by decide) (fun d104 => ?_) (fun d104 => ?_)
      · skip
        refine kv_aload_n C 77 rfl 0 (kdec dk_cX1_obey 40 rfl) rfl rfl ?_
        obtain ⟨x105, e106⟩ : ∃ z : Int32, w_48 20 7 = z := ⟨_, rfl⟩
        have b107 : (0 : Int) ≤ x105.toInt ∧ x105.toInt ≤ 4 := by rw [← e106]; exact I_48 20 7
        refine kv_get C 80 rfl 20 7 rfl rfl inX1 (by decide) mfl_TaleMachine_Engine_105 rfl rfl (kdec dk_cX1_obey 41 rfl) e106 ?_
        refine kv_if_ne C 83 rfl 94 (kdec dk_cX1_obey 42 rfl) (by decide) (fun d108 => ?_) (fun d108 => ?_)
        · skip
          refine kv_aload_n C 95 rfl 0 (kdec dk_cX1_obey 49 rfl) rfl rfl ?_
          refine kv_get C 98 rfl 20 7 rfl rfl inX1 (by decide) mfl_TaleMachine_Engine_105 rfl rfl (kdec dk_cX1_obey 50 rfl) e106 ?_
          refine kv_iconst C 99 rfl 1 (kdec dk_cX1_obey 51 rfl) rfl ?_
          refine kv_icmp_ne C 102 rfl 119 (kdec dk_cX1_obey 52 rfl) (by decide) (fun d109 => ?_) (fun d109 => ?_)
          · skip
            refine kv_iload_n C 120 rfl 2 (kdec dk_cX1_obey 63 rfl) rfl rfl ?_
            refine kv_iconst C 121 rfl 1 (kdec dk_cX1_obey 64 rfl) rfl ?_
            refine kv_iand C 122 rfl (kdec dk_cX1_obey 65 rfl) (fun x110 h111e h111l h111u => ?_)
            have g112 := kf_and1 h111e
            refine kv_if_eq C 125 rfl 155 (kdec dk_cX1_obey 66 rfl) (by decide) (fun d113 => ?_) (fun d113 => ?_)
            · skip
              refine kv_aload_n C 156 rfl 0 (kdec dk_cX1_obey 85 rfl) rfl rfl ?_
              refine kv_iload_n C 157 rfl 1 (kdec dk_cX1_obey 86 rfl) rfl rfl ?_
              refine kv_bipush C 159 rfl 31 (kdec dk_cX1_obey 87 rfl) rfl ?_
              refine kv_iand C 160 rfl (kdec dk_cX1_obey 88 rfl) (fun x114 h115e h115l h115u => ?_)
              have g116 := kf_and31 h115e
              refine kv_aload_n C 161 rfl 0 (kdec dk_cX1_obey 89 rfl) rfl rfl ?_
              refine kv_getr C 164 rfl 20 6 rfl rfl inX1 (by decide) mfl_TaleMachine_Engine_45 rfl rfl (kdec dk_cX1_obey 90 rfl) ?_
              refine kv_iconst C 165 rfl 0 (kdec dk_cX1_obey 91 rfl) rfl ?_
              obtain ⟨x117, e118⟩ : ∃ z : Int32, w_48 23 0 = z := ⟨_, rfl⟩
              have b119 : (-2147483648 : Int) ≤ x117.toInt ∧ x117.toInt ≤ 2147483647 := by rw [← e118]; exact I_48 23 0
              refine kv_iald C 166 rfl 23 rfl (by omega) (by omega) (show w_48 23 (0 : Int32).toNatClampNeg = x117 from e118) (kdec dk_cX1_obey 92 rfl) ?_
              refine kv_aload_n C 167 rfl 0 (kdec dk_cX1_obey 93 rfl) rfl rfl ?_
              refine kv_getr C 170 rfl 20 6 rfl rfl inX1 (by decide) mfl_TaleMachine_Engine_45 rfl rfl (kdec dk_cX1_obey 94 rfl) ?_
              refine kv_iconst C 171 rfl 1 (kdec dk_cX1_obey 95 rfl) rfl ?_
              obtain ⟨x120, e121⟩ : ∃ z : Int32, w_48 23 1 = z := ⟨_, rfl⟩
              have b122 : (-2147483648 : Int) ≤ x120.toInt ∧ x120.toInt ≤ 2147483647 := by rw [← e121]; exact I_48 23 1
              refine kv_iald C 172 rfl 23 rfl (by omega) (by omega) (show w_48 23 (1 : Int32).toNatClampNeg = x120 from e121) (kdec dk_cX1_obey 96 rfl) ?_
              refine kv_callVv (As := [.int x114, .int x117, .int x120]) (rest := []) C 175 rfl 20 (k_e_performTwo l D τ ρ σ w_48 x114 x117 x120 I_48 ) rfl rfl mml_TaleMachine_Engine_123 mim_yX1_performTwo mse_yX1_performTwo mcd_yX1_performTwo min_yX1_performTwo hd_yX1_performTwo rfl rfl rfl (by decide) rfl (Nat.le_of_ble_eq_true rfl) (kdec dk_cX1_obey 97 rfl) (fun w123 h124 => ?_)
              obtain ⟨I125, f126⟩ := h124
              have F128 : kF [(2, some 9), (3, none), (5, some 6), (5, some 7), (6, none), (7, none), (8, none), (9, none), (10, none), (11, none), (12, some 1), (13, none), (14, some 1), (15, none), (16, some 1), (16, some 2), (16, some 3), (16, some 4), (16, some 5), (16, some 6), (16, some 7), (16, some 8), (16, some 9), (16, some 10), (16, some 11), (16, some 12), (16, some 13), (20, some 7), (20, some 8), (20, some 9), (20, some 10), (20, some 11), (20, some 12), (20, some 13), (20, some 14), (20, some 15), (20, some 16), (23, none)] w w123 := kF_call F_48 f126 (by decide)
              have e129 : w123 12 1 = x88 := ((f126 12 1 rfl : w123 12 1 = w_48 12 1).trans e89)
              have e130 : w123 14 1 = x91 := ((f126 14 1 rfl : w123 14 1 = w_48 14 1).trans e92)
              have e131 : w123 20 10 = x97 := ((f126 20 10 rfl : w123 20 10 = w_48 20 10).trans e98)
              refine kV.sub [0, 2] (L' := [(0, .ref (ρ 20)), (2, .int l2_48)]) rfl ?_
              exact cut175 w123 l2_48 I125 F128 (by rw [e2, e5, e129, e130]; try omega) (by rw [e95, e131]; try omega)
            · skip
              refine kv_aload_n C 126 rfl 0 (kdec dk_cX1_obey 67 rfl) rfl rfl ?_
              refine kv_aload_n C 127 rfl 0 (kdec dk_cX1_obey 68 rfl) rfl rfl ?_
              refine kv_iload_n C 128 rfl 1 (kdec dk_cX1_obey 69 rfl) rfl rfl ?_
              refine kv_bipush C 130 rfl 31 (kdec dk_cX1_obey 70 rfl) rfl ?_
              refine kv_iand C 131 rfl (kdec dk_cX1_obey 71 rfl) (fun x132 h133e h133l h133u => ?_)
              have g134 := kf_and31 h133e
              refine kv_aload_n C 132 rfl 0 (kdec dk_cX1_obey 72 rfl) rfl rfl ?_
              refine kv_getr C 135 rfl 20 6 rfl rfl inX1 (by decide) mfl_TaleMachine_Engine_45 rfl rfl (kdec dk_cX1_obey 73 rfl) ?_
              refine kv_iconst C 136 rfl 0 (kdec dk_cX1_obey 74 rfl) rfl ?_
              obtain ⟨x135, e136⟩ : ∃ z : Int32, w_48 23 0 = z := ⟨_, rfl⟩
              have b137 : (-2147483648 : Int) ≤ x135.toInt ∧ x135.toInt ≤ 2147483647 := by rw [← e136]; exact I_48 23 0
              refine kv_iald C 137 rfl 23 rfl (by omega) (by omega) (show w_48 23 (0 : Int32).toNatClampNeg = x135 from e136) (kdec dk_cX1_obey 75 rfl) ?_
              refine kv_aload_n C 138 rfl 0 (kdec dk_cX1_obey 76 rfl) rfl rfl ?_
              refine kv_getr C 141 rfl 20 6 rfl rfl inX1 (by decide) mfl_TaleMachine_Engine_45 rfl rfl (kdec dk_cX1_obey 77 rfl) ?_
              refine kv_iconst C 142 rfl 1 (kdec dk_cX1_obey 78 rfl) rfl ?_
              obtain ⟨x138, e139⟩ : ∃ z : Int32, w_48 23 1 = z := ⟨_, rfl⟩
              have b140 : (-2147483648 : Int) ≤ x138.toInt ∧ x138.toInt ≤ 2147483647 := by rw [← e139]; exact I_48 23 1
              refine kv_iald C 143 rfl 23 rfl (by omega) (by omega) (show w_48 23 (1 : Int32).toNatClampNeg = x138 from e139) (kdec dk_cX1_obey 79 rfl) ?_
              refine kv_callVi (As := [.int x132, .int x135, .int x138]) (rest := [.ref (ρ 20)]) C 146 rfl 20 (k_e_answerOfTwo l D τ ρ σ w_48 x132 x135 x138 I_48 ) rfl rfl mml_TaleMachine_Engine_115 mim_yX1_answerOfTwo mse_yX1_answerOfTwo mcd_yX1_answerOfTwo min_yX1_answerOfTwo hd_yX1_answerOfTwo rfl rfl rfl (by decide) rfl (Nat.le_of_ble_eq_true rfl) (kdec dk_cX1_obey 80 rfl) (fun x145 w141 h142 => ?_)
              obtain ⟨I143, f144⟩ := h142
              have F146 : kF [(2, some 9), (3, none), (5, some 6), (5, some 7), (6, none), (7, none), (8, none), (9, none), (10, none), (11, none), (12, some 1), (13, none), (14, some 1), (15, none), (16, some 1), (16, some 2), (16, some 3), (16, some 4), (16, some 5), (16, some 6), (16, some 7), (16, some 8), (16, some 9), (16, some 10), (16, some 11), (16, some 12), (16, some 13), (20, some 7), (20, some 8), (20, some 9), (20, some 10), (20, some 11), (20, some 12), (20, some 13), (20, some 14), (20, some 15), (20, some 16), (23, none)] w w141 := kF_call F_48 f144 (by decide)
              have g147 := kf_rng x145
              refine kv_ldc C 148 rfl 65535 (kdec dk_cX1_obey 81 rfl) mco_TaleMachine_Engine_119 ?_
              refine kv_iand C 149 rfl (kdec dk_cX1_obey 82 rfl) (fun x148 h149e h149l h149u => ?_)
              have g150 := kf_and65535 h149e
              refine kv_put C 152 rfl 20 15 rfl rfl inX1 (by decide) mfl_TaleMachine_Engine_120 rfl tyX1 tyX1_ok nmX1 rfl rfl (kdec dk_cX1_obey 83 rfl) rfl rfl (fun w151 u152 => ?_)
              have I153 : kI true w151 := kI_put u152 I143 (kf_rng _).1 (kf_rng _).2
              have F154 : kF [(2, some 9), (3, none), (5, some 6), (5, some 7), (6, none), (7, none), (8, none), (9, none), (10, none), (11, none), (12, some 1), (13, none), (14, some 1), (15, none), (16, some 1), (16, some 2), (16, some 3), (16, some 4), (16, some 5), (16, some 6), (16, some 7), (16, some 8), (16, some 9), (16, some 10), (16, some 11), (16, some 12), (16, some 13), (20, some 7), (20, some 8), (20, some 9), (20, some 10), (20, some 11), (20, some 12), (20, some 13), (20, some 14), (20, some 15), (20, some 16), (23, none)] w w151 := kF_put u152 F146 rfl
              refine kv_goto C 175 (kdec dk_cX1_obey 84 rfl) (by decide) ?_
              have e155 : w151 12 1 = x88 := ((kup_ne u152 rfl : w151 12 1 = w141 12 1).trans ((f144 12 1 rfl : w141 12 1 = w_48 12 1).trans e89))
              have e156 : w151 14 1 = x91 := ((kup_ne u152 rfl : w151 14 1 = w141 14 1).trans ((f144 14 1 rfl : w141 14 1 = w_48 14 1).trans e92))
              have e157 : w151 20 10 = x97 := ((kup_ne u152 rfl : w151 20 10 = w141 20 10).trans ((f144 20 10 rfl : w141 20 10 = w_48 20 10).trans e98))
              refine kV.sub [0, 2] (L' := [(0, .ref (ρ 20)), (2, .int l2_48)]) rfl ?_
              exact cut175 w151 l2_48 I153 F154 (by rw [e2, e5, e155, e156]; try omega) (by rw [e95, e157]; try omega)
          · skip
            refine kv_aload_n C 103 rfl 0 (kdec dk_cX1_obey 53 rfl) rfl rfl ?_
            refine kv_iload_n C 104 rfl 1 (kdec dk_cX1_obey 54 rfl) rfl rfl ?_
            refine kv_bipush C 106 rfl 15 (kdec dk_cX1_obey 55 rfl) rfl ?_
            refine kv_iand C 107 rfl (kdec dk_cX1_obey 56 rfl) (fun x158 h159e h159l h159u => ?_)
            have g160 := kf_and15 h159e
            refine kv_aload_n C 108 rfl 0 (kdec dk_cX1_obey 57 rfl) rfl rfl ?_
            refine kv_getr C 111 rfl 20 6 rfl rfl inX1 (by decide) mfl_TaleMachine_Engine_45 rfl rfl (kdec dk_cX1_obey 58 rfl) ?_
            refine kv_iconst C 112 rfl 0 (kdec dk_cX1_obey 59 rfl) rfl ?_
            obtain ⟨x161, e162⟩ : ∃ z : Int32, w_48 23 0 = z := ⟨_, rfl⟩
            have b163 : (-2147483648 : Int) ≤ x161.toInt ∧ x161.toInt ≤ 2147483647 := by rw [← e162]; exact I_48 23 0
            refine kv_iald C 113 rfl 23 rfl (by omega) (by omega) (show w_48 23 (0 : Int32).toNatClampNeg = x161 from e162) (kdec dk_cX1_obey 60 rfl) ?_
            refine kv_callVv (As := [.int x158, .int x161]) (rest := []) C 116 rfl 20 (k_e_performOne l D τ ρ σ w_48 x158 x161 I_48 (by rw [e89, e92]; try omega)) rfl rfl mml_TaleMachine_Engine_111 mim_yX1_performOne mse_yX1_performOne mcd_yX1_performOne min_yX1_performOne hd_yX1_performOne rfl rfl rfl (by decide) rfl (Nat.le_of_ble_eq_true rfl) (kdec dk_cX1_obey 61 rfl) (fun w164 h165 => ?_)
            obtain ⟨I166, f167, p169⟩ := h165
            have F170 : kF [(2, some 9), (3, none), (5, some 6), (5, some 7), (6, none), (7, none), (8, none), (9, none), (10, none), (11, none), (12, some 1), (13, none), (14, some 1), (15, none), (16, some 1), (16, some 2), (16, some 3), (16, some 4), (16, some 5), (16, some 6), (16, some 7), (16, some 8), (16, some 9), (16, some 10), (16, some 11), (16, some 12), (16, some 13), (20, some 7), (20, some 8), (20, some 9), (20, some 10), (20, some 11), (20, some 12), (20, some 13), (20, some 14), (20, some 15), (20, some 16), (23, none)] w w164 := kF_call F_48 f167 (by decide)
            obtain ⟨x171, e172⟩ : ∃ z : Int32, w164 12 1 = z := ⟨_, rfl⟩
            have b173 : (0 : Int) ≤ x171.toInt ∧ x171.toInt ≤ 2147483647 := by rw [← e172]; exact I166 12 1
            obtain ⟨x174, e175⟩ : ∃ z : Int32, w164 14 1 = z := ⟨_, rfl⟩
            have b176 : (0 : Int) ≤ x174.toInt ∧ x174.toInt ≤ 2147483647 := by rw [← e175]; exact I166 14 1
            rw [e89, e92, e172, e175] at p169
            refine kv_goto C 175 (kdec dk_cX1_obey 62 rfl) (by decide) ?_
            have e177 : w164 20 10 = x97 := ((f167 20 10 rfl : w164 20 10 = w_48 20 10).trans e98)
            refine kV.sub [0, 2] (L' := [(0, .ref (ρ 20)), (2, .int l2_48)]) rfl ?_
            exact cut175 w164 l2_48 I166 F170 (by rw [e2, e5, e172, e175]; try omega) (by rw [e95, e177]; try omega)
        · skip
          refine kv_aload_n C 84 rfl 0 (kdec dk_cX1_obey 43 rfl) rfl rfl ?_
          refine kv_iload_n C 85 rfl 1 (kdec dk_cX1_obey 44 rfl) rfl rfl ?_
          refine kv_bipush C 87 rfl 15 (kdec dk_cX1_obey 45 rfl) rfl ?_
          refine kv_iand C 88 rfl (kdec dk_cX1_obey 46 rfl) (fun x178 h179e h179l h179u => ?_)
          have g180 := kf_and15 h179e
          refine kv_callVv (As := [.int x178]) (rest := []) C 91 rfl 20 (k_e_performNone l D τ ρ σ w_48 x178 I_48 (by rw [e89, e92]; try omega)) rfl rfl mml_TaleMachine_Engine_108 mim_yX1_performNone mse_yX1_performNone mcd_yX1_performNone min_yX1_performNone hd_yX1_performNone rfl rfl rfl (by decide) rfl (Nat.le_of_ble_eq_true rfl) (kdec dk_cX1_obey 47 rfl) (fun w181 h182 => ?_)
          obtain ⟨I183, f184, p186, p187⟩ := h182
          have F188 : kF [(2, some 9), (3, none), (5, some 6), (5, some 7), (6, none), (7, none), (8, none), (9, none), (10, none), (11, none), (12, some 1), (13, none), (14, some 1), (15, none), (16, some 1), (16, some 2), (16, some 3), (16, some 4), (16, some 5), (16, some 6), (16, some 7), (16, some 8), (16, some 9), (16, some 10), (16, some 11), (16, some 12), (16, some 13), (20, some 7), (20, some 8), (20, some 9), (20, some 10), (20, some 11), (20, some 12), (20, some 13), (20, some 14), (20, some 15), (20, some 16), (23, none)] w w181 := kF_call F_48 f184 (by decide)
          obtain ⟨x189, e190⟩ : ∃ z : Int32, w181 12 1 = z := ⟨_, rfl⟩
          have b191 : (0 : Int) ≤ x189.toInt ∧ x189.toInt ≤ 2147483647 := by rw [← e190]; exact I183 12 1
          obtain ⟨x192, e193⟩ : ∃ z : Int32, w181 14 1 = z := ⟨_, rfl⟩
          have b194 : (0 : Int) ≤ x192.toInt ∧ x192.toInt ≤ 2147483647 := by rw [← e193]; exact I183 14 1
          rw [e89, e92, e190, e193] at p186
          obtain ⟨x195, e196⟩ : ∃ z : Int32, w181 20 10 = z := ⟨_, rfl⟩
          have b197 : (0 : Int) ≤ x195.toInt ∧ x195.toInt ≤ 4 := by rw [← e196]; exact I183 20 10
          rw [e98, e196] at p187
          refine kv_goto C 175 (kdec dk_cX1_obey 48 rfl) (by decide) ?_
          refine kV.sub [0, 2] (L' := [(0, .ref (ρ 20)), (2, .int l2_48)]) rfl ?_
          exact cut175 w181 l2_48 I183 F188 (by rw [e2, e5, e190, e193]; try omega) (by rw [e95, e196]; try omega)
      · skip
        refine kv_aload_n C 66 rfl 0 (kdec dk_cX1_obey 34 rfl) rfl rfl ?_
        refine kv_iload_n C 67 rfl 1 (kdec dk_cX1_obey 35 rfl) rfl rfl ?_
        refine kv_bipush C 69 rfl 31 (kdec dk_cX1_obey 36 rfl) rfl ?_
        refine kv_iand C 70 rfl (kdec dk_cX1_obey 37 rfl) (fun x198 h199e h199l h199u => ?_)
        have g200 := kf_and31 h199e
        refine kv_callVv (As := [.int x198]) (rest := []) C 73 rfl 20 (k_e_performVar l D τ ρ σ w_48 x198 I_48 (by rw [e89, e92]; try omega)) rfl rfl mml_TaleMachine_Engine_102 mim_yX1_performVar mse_yX1_performVar mcd_yX1_performVar min_yX1_performVar hd_yX1_performVar rfl rfl rfl (by decide) rfl (Nat.le_of_ble_eq_true rfl) (kdec dk_cX1_obey 38 rfl) (fun w201 h202 => ?_)
        obtain ⟨I203, f204, p206, p207⟩ := h202
        have F208 : kF [(2, some 9), (3, none), (5, some 6), (5, some 7), (6, none), (7, none), (8, none), (9, none), (10, none), (11, none), (12, some 1), (13, none), (14, some 1), (15, none), (16, some 1), (16, some 2), (16, some 3), (16, some 4), (16, some 5), (16, some 6), (16, some 7), (16, some 8), (16, some 9), (16, some 10), (16, some 11), (16, some 12), (16, some 13), (20, some 7), (20, some 8), (20, some 9), (20, some 10), (20, some 11), (20, some 12), (20, some 13), (20, some 14), (20, some 15), (20, some 16), (23, none)] w w201 := kF_call F_48 f204 (by decide)
        obtain ⟨x209, e210⟩ : ∃ z : Int32, w201 12 1 = z := ⟨_, rfl⟩
        have b211 : (0 : Int) ≤ x209.toInt ∧ x209.toInt ≤ 2147483647 := by rw [← e210]; exact I203 12 1
        have e212 : w201 14 1 = x91 := ((f204 14 1 rfl : w201 14 1 = w_48 14 1).trans e92)
        rw [e89, e92, e210, e212] at p206
        obtain ⟨x213, e214⟩ : ∃ z : Int32, w201 20 10 = z := ⟨_, rfl⟩
        have b215 : (0 : Int) ≤ x213.toInt ∧ x213.toInt ≤ 4 := by rw [← e214]; exact I203 20 10
        rw [e98, e214] at p207
        refine kv_goto C 175 (kdec dk_cX1_obey 39 rfl) (by decide) ?_
        refine kV.sub [0, 2] (L' := [(0, .ref (ρ 20)), (2, .int l2_48)]) rfl ?_
        exact cut175 w201 l2_48 I203 F208 (by rw [e2, e5, e210, e212]; try omega) (by rw [e95, e214]; try omega)
  refine kv_aload_n C 1 rfl 0 (kdec dk_cX1_obey 0 rfl) rfl rfl ?_
  refine kv_dup C 2 rfl (kdec dk_cX1_obey 1 rfl) rfl ?_
  obtain ⟨x216, e217⟩ : ∃ z : Int32, w 20 11 = z := ⟨_, rfl⟩
  have b218 : (-2147483648 : Int) ≤ x216.toInt ∧ x216.toInt ≤ 2147483647 := by rw [← e217]; exact hI 20 11
  refine kv_get C 5 rfl 20 11 rfl rfl inX1 (by decide) mfl_TaleMachine_Engine_72 rfl rfl (kdec dk_cX1_obey 2 rfl) e217 ?_
  refine kv_iconst C 6 rfl 1 (kdec dk_cX1_obey 3 rfl) rfl ?_
  refine kv_iadd C 7 rfl (kdec dk_cX1_obey 4 rfl) (fun x219 q221 h220e h220 h220l h220u => ?_)
  try have h220n : x219.toInt = x216.toInt + (1 : Int32).toInt := by omega
  clear h220 q221
  refine kv_put C 10 rfl 20 11 rfl rfl inX1 (by decide) mfl_TaleMachine_Engine_72 rfl tyX1 tyX1_ok nmX1 rfl rfl (kdec dk_cX1_obey 5 rfl) rfl rfl (fun w222 u223 => ?_)
  have I224 : kI true w222 := kI_put u223 hI (kf_rng _).1 (kf_rng _).2
  have F225 : kF [(2, some 9), (3, none), (5, some 6), (5, some 7), (6, none), (7, none), (8, none), (9, none), (10, none), (11, none), (12, some 1), (13, none), (14, some 1), (15, none), (16, some 1), (16, some 2), (16, some 3), (16, some 4), (16, some 5), (16, some 6), (16, some 7), (16, some 8), (16, some 9), (16, some 10), (16, some 11), (16, some 12), (16, some 13), (20, some 7), (20, some 8), (20, some 9), (20, some 10), (20, some 11), (20, some 12), (20, some 13), (20, some 14), (20, some 15), (20, some 16), (23, none)] w w222 := kF_put u223 hF0 rfl
  refine kv_aload_n C 11 rfl 0 (kdec dk_cX1_obey 6 rfl) rfl rfl ?_
  refine kv_aload_n C 12 rfl 0 (kdec dk_cX1_obey 7 rfl) rfl rfl ?_
  obtain ⟨x226, e227⟩ : ∃ z : Int32, w 20 8 = z := ⟨_, rfl⟩
  have b228 : (-2147483648 : Int) ≤ x226.toInt ∧ x226.toInt ≤ 2147483647 := by rw [← e227]; exact hI 20 8
  have e229 : w222 20 8 = x226 := ((kup_ne u223 rfl : w222 20 8 = w 20 8).trans e227)
  refine kv_get C 15 rfl 20 8 rfl rfl inX1 (by decide) mfl_TaleMachine_Engine_59 rfl rfl (kdec dk_cX1_obey 8 rfl) e229 ?_
  refine kv_put C 18 rfl 20 9 rfl rfl inX1 (by decide) mfl_TaleMachine_Engine_56 rfl tyX1 tyX1_ok nmX1 rfl rfl (kdec dk_cX1_obey 9 rfl) rfl rfl (fun w230 u231 => ?_)
  have I232 : kI true w230 := kI_put u231 I224 (kf_rng _).1 (kf_rng _).2
  have F233 : kF [(2, some 9), (3, none), (5, some 6), (5, some 7), (6, none), (7, none), (8, none), (9, none), (10, none), (11, none), (12, some 1), (13, none), (14, some 1), (15, none), (16, some 1), (16, some 2), (16, some 3), (16, some 4), (16, some 5), (16, some 6), (16, some 7), (16, some 8), (16, some 9), (16, some 10), (16, some 11), (16, some 12), (16, some 13), (20, some 7), (20, some 8), (20, some 9), (20, some 10), (20, some 11), (20, some 12), (20, some 13), (20, some 14), (20, some 15), (20, some 16), (23, none)] w w230 := kF_put u231 F225 rfl
  refine kv_aload_n C 19 rfl 0 (kdec dk_cX1_obey 10 rfl) rfl rfl ?_
  refine kv_callVi (As := []) (rest := []) C 22 rfl 20 (k_e_fetch l D τ ρ σ w230  I232 ) rfl rfl mml_TaleMachine_Engine_87 mim_yX1_fetch mse_yX1_fetch mcd_yX1_fetch min_yX1_fetch hd_yX1_fetch rfl rfl rfl (by decide) rfl (Nat.le_of_ble_eq_true rfl) (kdec dk_cX1_obey 11 rfl) (fun x238 w234 h235 => ?_)
  obtain ⟨I236, f237, p239, p240⟩ := h235
  have F241 : kF [(2, some 9), (3, none), (5, some 6), (5, some 7), (6, none), (7, none), (8, none), (9, none), (10, none), (11, none), (12, some 1), (13, none), (14, some 1), (15, none), (16, some 1), (16, some 2), (16, some 3), (16, some 4), (16, some 5), (16, some 6), (16, some 7), (16, some 8), (16, some 9), (16, some 10), (16, some 11), (16, some 12), (16, some 13), (20, some 7), (20, some 8), (20, some 9), (20, some 10), (20, some 11), (20, some 12), (20, some 13), (20, some 14), (20, some 15), (20, some 16), (23, none)] w w234 := kF_call F233 f237 (by decide)
  have g242 := kf_rng x238
  obtain ⟨x243, e244⟩ : ∃ z : Int32, w 2 9 = z := ⟨_, rfl⟩
  have b245 : (0 : Int) ≤ x243.toInt ∧ x243.toInt ≤ 13 := by rw [← e244]; exact hI 2 9
  have e246 : w230 2 9 = x243 := ((kup_ne u231 rfl : w230 2 9 = w222 2 9).trans ((kup_ne u223 rfl : w222 2 9 = w 2 9).trans e244))
  obtain ⟨x247, e248⟩ : ∃ z : Int32, w234 2 9 = z := ⟨_, rfl⟩
  have b249 : (0 : Int) ≤ x247.toInt ∧ x247.toInt ≤ 13 := by rw [← e248]; exact I236 2 9
  rw [e246, e248] at p240
  refine kv_istore_n C 23 rfl 1 [1, 0] [(0, .ref (ρ 20)), (1, .int x238)] (kdec dk_cX1_obey 12 rfl) rfl (by decide) rfl ?_
  refine kv_aload_n C 24 rfl 0 (kdec dk_cX1_obey 13 rfl) rfl rfl ?_
  refine kv_iload_n C 25 rfl 1 (kdec dk_cX1_obey 14 rfl) rfl rfl ?_
  refine kv_callVv (As := [.int x238]) (rest := []) C 28 rfl 20 (k_e_readOperands l D τ ρ σ w234 x238 I236 ) rfl rfl mml_TaleMachine_Engine_91 mim_yX1_readOperands mse_yX1_readOperands mcd_yX1_readOperands min_yX1_readOperands hd_yX1_readOperands rfl rfl rfl (by decide) rfl (Nat.le_of_ble_eq_true rfl) (kdec dk_cX1_obey 15 rfl) (fun w250 h251 => ?_)
  obtain ⟨I252, f253⟩ := h251
  have F255 : kF [(2, some 9), (3, none), (5, some 6), (5, some 7), (6, none), (7, none), (8, none), (9, none), (10, none), (11, none), (12, some 1), (13, none), (14, some 1), (15, none), (16, some 1), (16, some 2), (16, some 3), (16, some 4), (16, some 5), (16, some 6), (16, some 7), (16, some 8), (16, some 9), (16, some 10), (16, some 11), (16, some 12), (16, some 13), (20, some 7), (20, some 8), (20, some 9), (20, some 10), (20, some 11), (20, some 12), (20, some 13), (20, some 14), (20, some 15), (20, some 16), (23, none)] w w250 := kF_call F241 f253 (by decide)
  refine kv_aload_n C 29 rfl 0 (kdec dk_cX1_obey 16 rfl) rfl rfl ?_
  refine kv_iload_n C 30 rfl 1 (kdec dk_cX1_obey 17 rfl) rfl rfl ?_
  refine kv_callVi (As := [.int x238]) (rest := []) C 33 rfl 20 (k_e_afterOf l D τ ρ σ w250 x238 I252 ) rfl rfl mml_TaleMachine_Engine_95 mim_yX1_afterOf mse_yX1_afterOf mcd_yX1_afterOf min_yX1_afterOf hd_yX1_afterOf rfl rfl rfl (by decide) rfl (Nat.le_of_ble_eq_true rfl) (kdec dk_cX1_obey 18 rfl) (fun x260 w256 h257 => ?_)
  obtain ⟨I258, f259⟩ := h257
  have F261 : kF [(2, some 9), (3, none), (5, some 6), (5, some 7), (6, none), (7, none), (8, none), (9, none), (10, none), (11, none), (12, some 1), (13, none), (14, some 1), (15, none), (16, some 1), (16, some 2), (16, some 3), (16, some 4), (16, some 5), (16, some 6), (16, some 7), (16, some 8), (16, some 9), (16, some 10), (16, some 11), (16, some 12), (16, some 13), (20, some 7), (20, some 8), (20, some 9), (20, some 10), (20, some 11), (20, some 12), (20, some 13), (20, some 14), (20, some 15), (20, some 16), (23, none)] w w256 := kF_call F255 f259 (by decide)
  have g262 := kf_rng x260
  refine kv_istore_n C 34 rfl 2 [1, 2, 0] [(0, .ref (ρ 20)), (1, .int x238), (2, .int x260)] (kdec dk_cX1_obey 19 rfl) rfl (by decide) rfl ?_
  refine kv_iload_n C 35 rfl 2 (kdec dk_cX1_obey 20 rfl) rfl rfl ?_
  refine kv_iconst C 36 rfl 4 (kdec dk_cX1_obey 21 rfl) rfl ?_
  refine kv_icmp_ne C 39 rfl 48 (kdec dk_cX1_obey 22 rfl) (by decide) (fun d263 => ?_) (fun d263 => ?_)
  · skip
    have e264 : w256 12 1 = x1 := ((f259 12 1 rfl : w256 12 1 = w250 12 1).trans ((f253 12 1 rfl : w250 12 1 = w234 12 1).trans ((f237 12 1 rfl : w234 12 1 = w230 12 1).trans ((kup_ne u231 rfl : w230 12 1 = w222 12 1).trans ((kup_ne u223 rfl : w222 12 1 = w 12 1).trans e2)))))
    have e265 : w256 14 1 = x4 := ((f259 14 1 rfl : w256 14 1 = w250 14 1).trans ((f253 14 1 rfl : w250 14 1 = w234 14 1).trans ((f237 14 1 rfl : w234 14 1 = w230 14 1).trans ((kup_ne u231 rfl : w230 14 1 = w222 14 1).trans ((kup_ne u223 rfl : w222 14 1 = w 14 1).trans e5)))))
    obtain ⟨x266, e267⟩ : ∃ z : Int32, w 20 10 = z := ⟨_, rfl⟩
    have b268 : (0 : Int) ≤ x266.toInt ∧ x266.toInt ≤ 4 := by rw [← e267]; exact hI 20 10
    have e269 : w256 20 10 = x266 := ((f259 20 10 rfl : w256 20 10 = w250 20 10).trans ((f253 20 10 rfl : w250 20 10 = w234 20 10).trans ((f237 20 10 rfl : w234 20 10 = w230 20 10).trans ((kup_ne u231 rfl : w230 20 10 = w222 20 10).trans ((kup_ne u223 rfl : w222 20 10 = w 20 10).trans e267)))))
    exact cut48 w256 x238 x260 I258 F261 (by rw [e2, e5, e264, e265]; try omega) (by omega) (by rw [e267, e269]; try omega)
  · skip
    refine kv_aload_n C 40 rfl 0 (kdec dk_cX1_obey 23 rfl) rfl rfl ?_
    refine kv_getr C 43 rfl 20 0 rfl rfl inX1 (by decide) mfl_TaleMachine_Engine_9 rfl rfl (kdec dk_cX1_obey 24 rfl) ?_
    refine kv_bipush C 45 rfl 6 (kdec dk_cX1_obey 25 rfl) rfl ?_
    refine kv_callVNv (As := [.int 6]) (rest := []) C 48 rfl 2 (k_raise l D τ ρ σ w256 6 I258 (by omega)) rfl rfl mmn_TaleMachine_Engine_99 mim_yX6_raise mse_yX6_raise mcd_yX6_raise min_yX6_raise hd_yX6_raise rfl rfl rfl (by decide) rfl (Nat.le_of_ble_eq_true rfl) (kdec dk_cX1_obey 26 rfl) (fun w270 h271 => ?_)
    obtain ⟨I272, f273, p275⟩ := h271
    have F276 : kF [(2, some 9), (3, none), (5, some 6), (5, some 7), (6, none), (7, none), (8, none), (9, none), (10, none), (11, none), (12, some 1), (13, none), (14, some 1), (15, none), (16, some 1), (16, some 2), (16, some 3), (16, some 4), (16, some 5), (16, some 6), (16, some 7), (16, some 8), (16, some 9), (16, some 10), (16, some 11), (16, some 12), (16, some 13), (20, some 7), (20, some 8), (20, some 9), (20, some 10), (20, some 11), (20, some 12), (20, some 13), (20, some 14), (20, some 15), (20, some 16), (23, none)] w w270 := kF_call F261 f273 (by decide)
    obtain ⟨x277, e278⟩ : ∃ z : Int32, w250 2 9 = z := ⟨_, rfl⟩
    have b279 : (0 : Int) ≤ x277.toInt ∧ x277.toInt ≤ 13 := by rw [← e278]; exact I252 2 9
    have e280 : w256 2 9 = x277 := ((f259 2 9 rfl : w256 2 9 = w250 2 9).trans e278)
    obtain ⟨x281, e282⟩ : ∃ z : Int32, w270 2 9 = z := ⟨_, rfl⟩
    have b283 : (0 : Int) ≤ x281.toInt ∧ x281.toInt ≤ 13 := by rw [← e282]; exact I272 2 9
    rw [e280, e282] at p275
    have e284 : w270 12 1 = x1 := ((f273 12 1 rfl : w270 12 1 = w256 12 1).trans ((f259 12 1 rfl : w256 12 1 = w250 12 1).trans ((f253 12 1 rfl : w250 12 1 = w234 12 1).trans ((f237 12 1 rfl : w234 12 1 = w230 12 1).trans ((kup_ne u231 rfl : w230 12 1 = w222 12 1).trans ((kup_ne u223 rfl : w222 12 1 = w 12 1).trans e2))))))
    have e285 : w270 14 1 = x4 := ((f273 14 1 rfl : w270 14 1 = w256 14 1).trans ((f259 14 1 rfl : w256 14 1 = w250 14 1).trans ((f253 14 1 rfl : w250 14 1 = w234 14 1).trans ((f237 14 1 rfl : w234 14 1 = w230 14 1).trans ((kup_ne u231 rfl : w230 14 1 = w222 14 1).trans ((kup_ne u223 rfl : w222 14 1 = w 14 1).trans e5))))))
    obtain ⟨x286, e287⟩ : ∃ z : Int32, w 20 10 = z := ⟨_, rfl⟩
    have b288 : (0 : Int) ≤ x286.toInt ∧ x286.toInt ≤ 4 := by rw [← e287]; exact hI 20 10
    have e289 : w270 20 10 = x286 := ((f273 20 10 rfl : w270 20 10 = w256 20 10).trans ((f259 20 10 rfl : w256 20 10 = w250 20 10).trans ((f253 20 10 rfl : w250 20 10 = w234 20 10).trans ((f237 20 10 rfl : w234 20 10 = w230 20 10).trans ((kup_ne u231 rfl : w230 20 10 = w222 20 10).trans ((kup_ne u223 rfl : w222 20 10 = w 20 10).trans e287))))))
    exact cut48 w270 x238 x260 I272 F276 (by rw [e2, e5, e284, e285]; try omega) (by omega) (by rw [e287, e289]; try omega)
