set_option maxHeartbeats 4000000 in
set_option maxRecDepth 100000 in
theorem k_headerFault (l : Launch) (D : va_G) (τ : Nat → ClassId) (ρ σ : Nat → Nat) (w : kw)  (hI : kI false w) (hp0 : 64 ≤ (w 2 2).toInt) :
    kM l D τ ρ σ yX6_headerFault cX6_headerFault 3 (some .int) { frames := 1, cells := 0, slots := 0, locals := 36 } [.ref (ρ 2)] w
      (fun o w' => ∃ r : Int32, o = some (.int r) ∧ kI false w' ∧ kF [] w w' ∧ (0 ≤ r.toInt ∧ r.toInt ≤ 7) ∧ (¬ r.toInt = 0 ∨ (w 2 3).toInt ≤ 1024)) := by
  refine kM_of (own := "TaleMachine$Store") rfl (by decide) (Nat.le_of_ble_eq_true rfl) ?_
  intro p e s m args below meth c C hr hlk
  have hF0 : kF [] w w := kF.rf
  have c_0 : (0 : Int32).toInt = 0 := by decide
  have c_2 : (2 : Int32).toInt = 2 := by decide
  have c_3 : (3 : Int32).toInt = 3 := by decide
  have c_4 : (4 : Int32).toInt = 4 := by decide
  have c_5 : (5 : Int32).toInt = 5 := by decide
  have c_6 : (6 : Int32).toInt = 6 := by decide
  have c_7 : (7 : Int32).toInt = 7 := by decide
  have c_26 : (26 : Int32).toInt = 26 := by decide
  have c_28 : (28 : Int32).toInt = 28 := by decide
  have c_64 : (64 : Int32).toInt = 64 := by decide
  refine kV.L (L' := [(0, .ref (ρ 2))]) rfl ?_
  obtain ⟨x1, e2⟩ : ∃ z : Int32, w 2 2 = z := ⟨_, rfl⟩
  have b3 : (0 : Int) ≤ x1.toInt ∧ x1.toInt ≤ 1024 := by rw [← e2]; exact hI 2 2
  rw [e2] at hp0
  refine kv_aload_n C 1 rfl 0 (kdec dk_cX6_headerFault 0 rfl) rfl rfl ?_
  refine kv_getr C 4 rfl 2 1 rfl rfl inX6 (by decide) mfl_TaleMachine_Store_15 rfl rfl (kdec dk_cX6_headerFault 1 rfl) ?_
  refine kv_iconst C 5 rfl 0 (kdec dk_cX6_headerFault 2 rfl) rfl ?_
  obtain ⟨x4, e5⟩ : ∃ z : Int32, w 4 0 = z := ⟨_, rfl⟩
  have b6 : (0 : Int) ≤ x4.toInt ∧ x4.toInt ≤ 255 := by rw [← e5]; exact hI 4 0
  refine kv_iald C 6 rfl 4 rfl (by omega) (by omega) (show w 4 (0 : Int32).toNatClampNeg = x4 from e5) (kdec dk_cX6_headerFault 3 rfl) ?_
  refine kv_iconst C 7 rfl 3 (kdec dk_cX6_headerFault 4 rfl) rfl ?_
  refine kv_icmp_eq C 10 rfl 12 (kdec dk_cX6_headerFault 5 rfl) (by decide) (fun d7 => ?_) (fun d7 => ?_)
  · skip
    refine kv_aload_n C 13 rfl 0 (kdec dk_cX6_headerFault 8 rfl) rfl rfl ?_
    obtain ⟨x8, e9⟩ : ∃ z : Int32, w 2 3 = z := ⟨_, rfl⟩
    have b10 : (0 : Int) ≤ x8.toInt ∧ x8.toInt ≤ 65535 := by rw [← e9]; exact hI 2 3
    refine kv_get C 16 rfl 2 3 rfl rfl inX6 (by decide) mfl_TaleMachine_Store_44 rfl rfl (kdec dk_cX6_headerFault 9 rfl) e9 ?_
    refine kv_bipush C 18 rfl 64 (kdec dk_cX6_headerFault 10 rfl) rfl ?_
    refine kv_icmp_lt C 21 rfl 32 (kdec dk_cX6_headerFault 11 rfl) (by decide) (fun d11 => ?_) (fun d11 => ?_)
    · skip
      refine kv_iconst C 33 rfl 3 (kdec dk_cX6_headerFault 17 rfl) rfl ?_
      exact kv_iret C hr hlk (kdec dk_cX6_headerFault 18 rfl) ⟨_, rfl, hI, hF0, (by omega), (by rw [e9]; try omega)⟩
    · skip
      refine kv_aload_n C 22 rfl 0 (kdec dk_cX6_headerFault 12 rfl) rfl rfl ?_
      refine kv_get C 25 rfl 2 3 rfl rfl inX6 (by decide) mfl_TaleMachine_Store_44 rfl rfl (kdec dk_cX6_headerFault 13 rfl) e9 ?_
      refine kv_aload_n C 26 rfl 0 (kdec dk_cX6_headerFault 14 rfl) rfl rfl ?_
      refine kv_get C 29 rfl 2 2 rfl rfl inX6 (by decide) mfl_TaleMachine_Store_27 rfl rfl (kdec dk_cX6_headerFault 15 rfl) e2 ?_
      refine kv_icmp_le C 32 rfl 34 (kdec dk_cX6_headerFault 16 rfl) (by decide) (fun d12 => ?_) (fun d12 => ?_)
      · skip
        refine kv_aload_n C 35 rfl 0 (kdec dk_cX6_headerFault 19 rfl) rfl rfl ?_
        refine kv_iconst C 36 rfl 4 (kdec dk_cX6_headerFault 20 rfl) rfl ?_
        refine kv_callVi (As := [.int 4]) (rest := []) C 39 rfl 2 (k_loadedWord l D τ ρ σ w 4 hI (by omega)) rfl rfl mml_TaleMachine_Store_40 mim_yX6_loadedWord mse_yX6_loadedWord mcd_yX6_loadedWord min_yX6_loadedWord hd_yX6_loadedWord rfl rfl rfl (by decide) rfl (Nat.le_of_ble_eq_true rfl) (kdec dk_cX6_headerFault 21 rfl) (fun x17 w13 h14 => ?_)
        obtain ⟨I15, f16, p18⟩ := h14
        have F19 : kF [] w w13 := kF_call hF0 f16 (by decide)
        have g20 := kf_rng x17
        refine kv_istore_n C 40 rfl 1 [1, 0] [(0, .ref (ρ 2)), (1, .int x17)] (kdec dk_cX6_headerFault 22 rfl) rfl (by decide) rfl ?_
        refine kv_iload_n C 41 rfl 1 (kdec dk_cX6_headerFault 23 rfl) rfl rfl ?_
        refine kv_aload_n C 42 rfl 0 (kdec dk_cX6_headerFault 24 rfl) rfl rfl ?_
        have e21 : w13 2 3 = x8 := ((f16 2 3 rfl : w13 2 3 = w 2 3).trans e9)
        refine kv_get C 45 rfl 2 3 rfl rfl inX6 (by decide) mfl_TaleMachine_Store_44 rfl rfl (kdec dk_cX6_headerFault 25 rfl) e21 ?_
        refine kv_icmp_lt C 48 rfl 56 (kdec dk_cX6_headerFault 26 rfl) (by decide) (fun d22 => ?_) (fun d22 => ?_)
        · skip
          refine kv_iconst C 57 rfl 4 (kdec dk_cX6_headerFault 31 rfl) rfl ?_
          exact kv_iret C hr hlk (kdec dk_cX6_headerFault 32 rfl) ⟨_, rfl, I15, F19, (by omega), (by rw [e9]; try omega)⟩
        · skip
          refine kv_iload_n C 49 rfl 1 (kdec dk_cX6_headerFault 27 rfl) rfl rfl ?_
          refine kv_aload_n C 50 rfl 0 (kdec dk_cX6_headerFault 28 rfl) rfl rfl ?_
          have e23 : w13 2 2 = x1 := ((f16 2 2 rfl : w13 2 2 = w 2 2).trans e2)
          refine kv_get C 53 rfl 2 2 rfl rfl inX6 (by decide) mfl_TaleMachine_Store_27 rfl rfl (kdec dk_cX6_headerFault 29 rfl) e23 ?_
          refine kv_icmp_le C 56 rfl 58 (kdec dk_cX6_headerFault 30 rfl) (by decide) (fun d24 => ?_) (fun d24 => ?_)
          · skip
            refine kv_aload_n C 59 rfl 0 (kdec dk_cX6_headerFault 33 rfl) rfl rfl ?_
            obtain ⟨x25, e26⟩ : ∃ z : Int32, w 2 4 = z := ⟨_, rfl⟩
            have b27 : (0 : Int) ≤ x25.toInt ∧ x25.toInt ≤ 65535 := by rw [← e26]; exact hI 2 4
            have e28 : w13 2 4 = x25 := ((f16 2 4 rfl : w13 2 4 = w 2 4).trans e26)
            refine kv_get C 62 rfl 2 4 rfl rfl inX6 (by decide) mfl_TaleMachine_Store_47 rfl rfl (kdec dk_cX6_headerFault 34 rfl) e28 ?_
            refine kv_aload_n C 63 rfl 0 (kdec dk_cX6_headerFault 35 rfl) rfl rfl ?_
            refine kv_get C 66 rfl 2 2 rfl rfl inX6 (by decide) mfl_TaleMachine_Store_27 rfl rfl (kdec dk_cX6_headerFault 36 rfl) e23 ?_
            refine kv_icmp_lt C 69 rfl 71 (kdec dk_cX6_headerFault 37 rfl) (by decide) (fun d29 => ?_) (fun d29 => ?_)
            · skip
              refine kv_iconst C 72 rfl 2 (kdec dk_cX6_headerFault 40 rfl) rfl ?_
              refine kv_aload_n C 73 rfl 0 (kdec dk_cX6_headerFault 41 rfl) rfl rfl ?_
              refine kv_bipush C 75 rfl 26 (kdec dk_cX6_headerFault 42 rfl) rfl ?_
              refine kv_callVi (As := [.int 26]) (rest := [.int 2]) C 78 rfl 2 (k_loadedWord l D τ ρ σ w13 26 I15 (by omega)) rfl rfl mml_TaleMachine_Store_40 mim_yX6_loadedWord mse_yX6_loadedWord mcd_yX6_loadedWord min_yX6_loadedWord hd_yX6_loadedWord rfl rfl rfl (by decide) rfl (Nat.le_of_ble_eq_true rfl) (kdec dk_cX6_headerFault 43 rfl) (fun x34 w30 h31 => ?_)
              obtain ⟨I32, f33, p35⟩ := h31
              have F36 : kF [] w w30 := kF_call F19 f33 (by decide)
              have g37 := kf_rng x34
              refine kv_imul C 79 rfl (kdec dk_cX6_headerFault 44 rfl) (fun x38 h39e h39l h39u => ?_)
              obtain ⟨q40, g41⟩ := kf_mul 2 x34
              rw [← h39e, c_2] at g41
              try have h39n : x38.toInt = 2 * x34.toInt := by omega
              clear g41 q40
              refine kv_istore_n C 80 rfl 2 [1, 2, 0] [(0, .ref (ρ 2)), (1, .int x17), (2, .int x38)] (kdec dk_cX6_headerFault 45 rfl) rfl (by decide) rfl ?_
              refine kv_iload_n C 81 rfl 2 (kdec dk_cX6_headerFault 46 rfl) rfl rfl ?_
              refine kv_if_eq C 84 rfl 95 (kdec dk_cX6_headerFault 47 rfl) (by decide) (fun d42 => ?_) (fun d42 => ?_)
              · skip
                refine kv_iload_n C 96 rfl 2 (kdec dk_cX6_headerFault 54 rfl) rfl rfl ?_
                refine kv_if_eq C 99 rfl 117 (kdec dk_cX6_headerFault 55 rfl) (by decide) (fun d43 => ?_) (fun d43 => ?_)
                · skip
                  refine kv_iconst C 118 rfl 0 (kdec dk_cX6_headerFault 64 rfl) rfl ?_
                  exact kv_iret C hr hlk (kdec dk_cX6_headerFault 65 rfl) ⟨_, rfl, I32, F36, (by omega), (by rw [e9]; try omega)⟩
                · skip
                  refine kv_aload_n C 100 rfl 0 (kdec dk_cX6_headerFault 56 rfl) rfl rfl ?_
                  refine kv_bipush C 102 rfl 28 (kdec dk_cX6_headerFault 57 rfl) rfl ?_
                  refine kv_callVi (As := [.int 28]) (rest := []) C 105 rfl 2 (k_loadedWord l D τ ρ σ w30 28 I32 (by omega)) rfl rfl mml_TaleMachine_Store_40 mim_yX6_loadedWord mse_yX6_loadedWord mcd_yX6_loadedWord min_yX6_loadedWord hd_yX6_loadedWord rfl rfl rfl (by decide) rfl (Nat.le_of_ble_eq_true rfl) (kdec dk_cX6_headerFault 58 rfl) (fun x48 w44 h45 => ?_)
                  obtain ⟨I46, f47, p49⟩ := h45
                  have F50 : kF [] w w44 := kF_call F36 f47 (by decide)
                  have g51 := kf_rng x48
                  refine kv_aload_n C 106 rfl 0 (kdec dk_cX6_headerFault 59 rfl) rfl rfl ?_
                  refine kv_callVi (As := []) (rest := [.int x48]) C 109 rfl 2 (k_loadedSum l D τ ρ σ w44  I46 ) rfl rfl mml_TaleMachine_Store_66 mim_yX6_loadedSum mse_yX6_loadedSum mcd_yX6_loadedSum min_yX6_loadedSum hd_yX6_loadedSum rfl rfl rfl (by decide) rfl (Nat.le_of_ble_eq_true rfl) (kdec dk_cX6_headerFault 60 rfl) (fun x56 w52 h53 => ?_)
                  obtain ⟨I54, f55⟩ := h53
                  have F57 : kF [] w w52 := kF_call F50 f55 (by decide)
                  have g58 := kf_rng x56
                  refine kv_icmp_eq C 112 rfl 117 (kdec dk_cX6_headerFault 61 rfl) (by decide) (fun d59 => ?_) (fun d59 => ?_)
                  · skip
                    refine kv_iconst C 118 rfl 0 (kdec dk_cX6_headerFault 64 rfl) rfl ?_
                    exact kv_iret C hr hlk (kdec dk_cX6_headerFault 65 rfl) ⟨_, rfl, I54, F57, (by omega), (by rw [e9]; try omega)⟩
                  · skip
                    refine kv_bipush C 114 rfl 7 (kdec dk_cX6_headerFault 62 rfl) rfl ?_
                    refine kv_goto C 118 (kdec dk_cX6_headerFault 63 rfl) (by decide) ?_
                    exact kv_iret C hr hlk (kdec dk_cX6_headerFault 65 rfl) ⟨_, rfl, I54, F57, (by omega), (by rw [e9]; try omega)⟩
              · skip
                refine kv_iload_n C 85 rfl 2 (kdec dk_cX6_headerFault 48 rfl) rfl rfl ?_
                refine kv_aload_n C 86 rfl 0 (kdec dk_cX6_headerFault 49 rfl) rfl rfl ?_
                have e60 : w30 2 2 = x1 := ((f33 2 2 rfl : w30 2 2 = w13 2 2).trans e23)
                refine kv_get C 89 rfl 2 2 rfl rfl inX6 (by decide) mfl_TaleMachine_Store_27 rfl rfl (kdec dk_cX6_headerFault 50 rfl) e60 ?_
                refine kv_icmp_eq C 92 rfl 95 (kdec dk_cX6_headerFault 51 rfl) (by decide) (fun d61 => ?_) (fun d61 => ?_)
                · skip
                  refine kv_iload_n C 96 rfl 2 (kdec dk_cX6_headerFault 54 rfl) rfl rfl ?_
                  refine kv_if_eq C 99 rfl 117 (kdec dk_cX6_headerFault 55 rfl) (by decide) (fun d62 => ?_) (fun d62 => ?_)
                  · skip
                    refine kv_iconst C 118 rfl 0 (kdec dk_cX6_headerFault 64 rfl) rfl ?_
                    exact kv_iret C hr hlk (kdec dk_cX6_headerFault 65 rfl) ⟨_, rfl, I32, F36, (by omega), (by rw [e9]; try omega)⟩
                  · skip
                    refine kv_aload_n C 100 rfl 0 (kdec dk_cX6_headerFault 56 rfl) rfl rfl ?_
                    refine kv_bipush C 102 rfl 28 (kdec dk_cX6_headerFault 57 rfl) rfl ?_
                    refine kv_callVi (As := [.int 28]) (rest := []) C 105 rfl 2 (k_loadedWord l D τ ρ σ w30 28 I32 (by omega)) rfl rfl mml_TaleMachine_Store_40 mim_yX6_loadedWord mse_yX6_loadedWord mcd_yX6_loadedWord min_yX6_loadedWord hd_yX6_loadedWord rfl rfl rfl (by decide) rfl (Nat.le_of_ble_eq_true rfl) (kdec dk_cX6_headerFault 58 rfl) (fun x67 w63 h64 => ?_)
                    obtain ⟨I65, f66, p68⟩ := h64
                    have F69 : kF [] w w63 := kF_call F36 f66 (by decide)
                    have g70 := kf_rng x67
                    refine kv_aload_n C 106 rfl 0 (kdec dk_cX6_headerFault 59 rfl) rfl rfl ?_
                    refine kv_callVi (As := []) (rest := [.int x67]) C 109 rfl 2 (k_loadedSum l D τ ρ σ w63  I65 ) rfl rfl mml_TaleMachine_Store_66 mim_yX6_loadedSum mse_yX6_loadedSum mcd_yX6_loadedSum min_yX6_loadedSum hd_yX6_loadedSum rfl rfl rfl (by decide) rfl (Nat.le_of_ble_eq_true rfl) (kdec dk_cX6_headerFault 60 rfl) (fun x75 w71 h72 => ?_)
                    obtain ⟨I73, f74⟩ := h72
                    have F76 : kF [] w w71 := kF_call F69 f74 (by decide)
                    have g77 := kf_rng x75
                    refine kv_icmp_eq C 112 rfl 117 (kdec dk_cX6_headerFault 61 rfl) (by decide) (fun d78 => ?_) (fun d78 => ?_)
                    · skip
                      refine kv_iconst C 118 rfl 0 (kdec dk_cX6_headerFault 64 rfl) rfl ?_
                      exact kv_iret C hr hlk (kdec dk_cX6_headerFault 65 rfl) ⟨_, rfl, I73, F76, (by omega), (by rw [e9]; try omega)⟩
                    · skip
                      refine kv_bipush C 114 rfl 7 (kdec dk_cX6_headerFault 62 rfl) rfl ?_
                      refine kv_goto C 118 (kdec dk_cX6_headerFault 63 rfl) (by decide) ?_
                      exact kv_iret C hr hlk (kdec dk_cX6_headerFault 65 rfl) ⟨_, rfl, I73, F76, (by omega), (by rw [e9]; try omega)⟩
                · skip
                  refine kv_bipush C 94 rfl 6 (kdec dk_cX6_headerFault 52 rfl) rfl ?_
                  exact kv_iret C hr hlk (kdec dk_cX6_headerFault 53 rfl) ⟨_, rfl, I32, F36, (by omega), (by rw [e9]; try omega)⟩
            · skip
              refine kv_iconst C 70 rfl 5 (kdec dk_cX6_headerFault 38 rfl) rfl ?_
              exact kv_iret C hr hlk (kdec dk_cX6_headerFault 39 rfl) ⟨_, rfl, I15, F19, (by omega), (by rw [e9]; try omega)⟩
          · skip
            refine kv_iconst C 57 rfl 4 (kdec dk_cX6_headerFault 31 rfl) rfl ?_
            exact kv_iret C hr hlk (kdec dk_cX6_headerFault 32 rfl) ⟨_, rfl, I15, F19, (by omega), (by rw [e9]; try omega)⟩
      · skip
        refine kv_iconst C 33 rfl 3 (kdec dk_cX6_headerFault 17 rfl) rfl ?_
        exact kv_iret C hr hlk (kdec dk_cX6_headerFault 18 rfl) ⟨_, rfl, hI, hF0, (by omega), (by rw [e9]; try omega)⟩
  · skip
    refine kv_iconst C 11 rfl 2 (kdec dk_cX6_headerFault 6 rfl) rfl ?_
    obtain ⟨x79, e80⟩ : ∃ z : Int32, w 2 3 = z := ⟨_, rfl⟩
    have b81 : (0 : Int) ≤ x79.toInt ∧ x79.toInt ≤ 65535 := by rw [← e80]; exact hI 2 3
    exact kv_iret C hr hlk (kdec dk_cX6_headerFault 7 rfl) ⟨_, rfl, hI, hF0, (by omega), (by rw [e80]; try omega)⟩

set_option maxHeartbeats 4000000 in
set_option maxRecDepth 100000 in
theorem k_take (l : Launch) (D : va_G) (τ : Nat → ClassId) (ρ σ : Nat → Nat) (w : kw) (a2 : Int32) (hI : kI false w) (hp0 : 0 ≤ a2.toInt ∧ a2.toInt ≤ 1024) :
    kM l D τ ρ σ yX6_take cX6_take 3 (some .int) { frames := 2, cells := 0, slots := 0, locals := 72 } [.ref (ρ 2), .ref (ρ 1), .int a2] w
      (fun o w' => ∃ r : Int32, o = some (.int r) ∧ kI false w' ∧ kF [(2, some 2), (2, some 3), (2, some 4), (2, some 5), (2, some 6), (2, some 7), (2, some 8), (2, some 9), (4, none)] w w' ∧ (0 ≤ r.toInt ∧ r.toInt ≤ 7) ∧ (¬ r.toInt = 0 ∨ (w' 2 3).toInt ≤ 1024) ∧ (64 ≤ a2.toInt ∨ r.toInt = 1)) := by
  refine kM_of (own := "TaleMachine$Store") rfl (by decide) (Nat.le_of_ble_eq_true rfl) ?_
  intro p e s m args below meth c C hr hlk
  have hF0 : kF [(2, some 2), (2, some 3), (2, some 4), (2, some 5), (2, some 6), (2, some 7), (2, some 8), (2, some 9), (4, none)] w w := kF.rf
  have c_0 : (0 : Int32).toInt = 0 := by decide
  have c_1 : (1 : Int32).toInt = 1 := by decide
  have c_6 : (6 : Int32).toInt = 6 := by decide
  have c_8 : (8 : Int32).toInt = 8 := by decide
  have c_10 : (10 : Int32).toInt = 10 := by decide
  have c_12 : (12 : Int32).toInt = 12 := by decide
  have c_14 : (14 : Int32).toInt = 14 := by decide
  have c_24 : (24 : Int32).toInt = 24 := by decide
  have c_64 : (64 : Int32).toInt = 64 := by decide
  have c_1024 : (1024 : Int32).toInt = 1024 := by decide
  refine kV.L (L' := [(0, .ref (ρ 2)), (1, .ref (ρ 1)), (2, .int a2)]) rfl ?_
  have g1 := kf_rng a2
  refine kv_aload_n C 1 rfl 0 (kdec dk_cX6_take 0 rfl) rfl rfl ?_
  refine kv_iconst C 2 rfl 0 (kdec dk_cX6_take 1 rfl) rfl ?_
  refine kv_iload_n C 3 rfl 2 (kdec dk_cX6_take 2 rfl) rfl rfl ?_
  refine kv_aload_n C 4 rfl 1 (kdec dk_cX6_take 3 rfl) rfl rfl ?_
  refine kv_alen C 5 rfl 1 1024 rfl (by decide) rfl (kdec dk_cX6_take 4 rfl) ?_
  refine kv_sipush C 8 rfl 1024 (kdec dk_cX6_take 5 rfl) rfl ?_
  refine kv_min C 11 rfl mml_TaleMachine_Store_18 jm_min_s jm_init jm_min_c (by decide) (Nat.le_of_ble_eq_true rfl) (kdec dk_cX6_take 6 rfl) (fun x2 h3 => ?_)
  have g4 := kf_rng x2
  refine kv_min C 14 rfl mml_TaleMachine_Store_18 jm_min_s jm_init jm_min_c (by decide) (Nat.le_of_ble_eq_true rfl) (kdec dk_cX6_take 7 rfl) (fun x5 h6 => ?_)
  have g7 := kf_rng x5
  refine kv_max C 17 rfl mml_TaleMachine_Store_24 jm_max_s jm_init jm_max_c (by decide) (Nat.le_of_ble_eq_true rfl) (kdec dk_cX6_take 8 rfl) (fun x8 h9 => ?_)
  have g10 := kf_rng x8
  refine kv_put C 20 rfl 2 2 rfl rfl inX6 (by decide) mfl_TaleMachine_Store_27 rfl tyX6 tyX6_ok nmX6 rfl rfl (kdec dk_cX6_take 9 rfl) rfl rfl (fun w11 u12 => ?_)
  have I13 : kI false w11 := kI_put u12 hI (show (0 : Int) ≤ (x8 : Int32).toInt by omega) (show (x8 : Int32).toInt ≤ 1024 by omega)
  have F14 : kF [(2, some 2), (2, some 3), (2, some 4), (2, some 5), (2, some 6), (2, some 7), (2, some 8), (2, some 9), (4, none)] w w11 := kF_put u12 hF0 rfl
  refine kv_aload_n C 21 rfl 1 (kdec dk_cX6_take 10 rfl) rfl rfl ?_
  refine kv_iconst C 22 rfl 0 (kdec dk_cX6_take 11 rfl) rfl ?_
  refine kv_aload_n C 23 rfl 0 (kdec dk_cX6_take 12 rfl) rfl rfl ?_
  refine kv_getr C 26 rfl 2 1 rfl rfl inX6 (by decide) mfl_TaleMachine_Store_15 rfl rfl (kdec dk_cX6_take 13 rfl) ?_
  refine kv_iconst C 27 rfl 0 (kdec dk_cX6_take 14 rfl) rfl ?_
  refine kv_aload_n C 28 rfl 0 (kdec dk_cX6_take 15 rfl) rfl rfl ?_
  refine kv_get C 31 rfl 2 2 rfl rfl inX6 (by decide) mfl_TaleMachine_Store_27 rfl rfl (kdec dk_cX6_take 16 rfl) (kup_eq u12) ?_
  refine kv_copy C 34 rfl 1 4 rfl rfl mml_TaleMachine_Store_31 jc_n jc_s jc_i (by omega) (by omega) (by omega) (by omega) (by omega) (by decide) (Nat.le_of_ble_eq_true rfl) (kdec dk_cX6_take 17 rfl) (fun w15 u16 => ?_)
  have I17 : kI false w15 := kI_cpy u16 I13 (fun _ => rfl) (fun _ _ => rfl)
  have F18 : kF [(2, some 2), (2, some 3), (2, some 4), (2, some 5), (2, some 6), (2, some 7), (2, some 8), (2, some 9), (4, none)] w w15 := kF_row u16 F14 (fun _ => rfl)
  refine kv_aload_n C 35 rfl 0 (kdec dk_cX6_take 18 rfl) rfl rfl ?_
  refine kv_iconst C 36 rfl 0 (kdec dk_cX6_take 19 rfl) rfl ?_
  refine kv_put C 39 rfl 2 9 rfl rfl inX6 (by decide) mfl_TaleMachine_Store_37 rfl tyX6 tyX6_ok nmX6 rfl rfl (kdec dk_cX6_take 20 rfl) rfl rfl (fun w19 u20 => ?_)
  have I21 : kI false w19 := kI_put u20 I17 (show (0 : Int) ≤ (0 : Int32).toInt by omega) (show (0 : Int32).toInt ≤ 13 by omega)
  have F22 : kF [(2, some 2), (2, some 3), (2, some 4), (2, some 5), (2, some 6), (2, some 7), (2, some 8), (2, some 9), (4, none)] w w19 := kF_put u20 F18 rfl
  refine kv_aload_n C 40 rfl 0 (kdec dk_cX6_take 21 rfl) rfl rfl ?_
  have e23 : w19 2 2 = x8 := ((kup_ne u20 rfl : w19 2 2 = w15 2 2).trans ((kur_ne u16 rfl : w15 2 2 = w11 2 2).trans (kup_eq u12)))
  refine kv_get C 43 rfl 2 2 rfl rfl inX6 (by decide) mfl_TaleMachine_Store_27 rfl rfl (kdec dk_cX6_take 22 rfl) e23 ?_
  refine kv_bipush C 45 rfl 64 (kdec dk_cX6_take 23 rfl) rfl ?_
  refine kv_icmp_ge C 48 rfl 50 (kdec dk_cX6_take 24 rfl) (by decide) (fun d24 => ?_) (fun d24 => ?_)
  · skip
    refine kv_aload_n C 51 rfl 0 (kdec dk_cX6_take 27 rfl) rfl rfl ?_
    refine kv_aload_n C 52 rfl 0 (kdec dk_cX6_take 28 rfl) rfl rfl ?_
    refine kv_bipush C 54 rfl 14 (kdec dk_cX6_take 29 rfl) rfl ?_
    refine kv_callVi (As := [.int 14]) (rest := [.ref (ρ 2)]) C 57 rfl 2 (k_loadedWord l D τ ρ σ w19 14 I21 (by omega)) rfl rfl mml_TaleMachine_Store_40 mim_yX6_loadedWord mse_yX6_loadedWord mcd_yX6_loadedWord min_yX6_loadedWord hd_yX6_loadedWord rfl rfl rfl (by decide) rfl (Nat.le_of_ble_eq_true rfl) (kdec dk_cX6_take 30 rfl) (fun x29 w25 h26 => ?_)
    obtain ⟨I27, f28, p30⟩ := h26
    have F31 : kF [(2, some 2), (2, some 3), (2, some 4), (2, some 5), (2, some 6), (2, some 7), (2, some 8), (2, some 9), (4, none)] w w25 := kF_call F22 f28 (by decide)
    have g32 := kf_rng x29
    refine kv_put C 60 rfl 2 3 rfl rfl inX6 (by decide) mfl_TaleMachine_Store_44 rfl tyX6 tyX6_ok nmX6 rfl rfl (kdec dk_cX6_take 31 rfl) rfl rfl (fun w33 u34 => ?_)
    have I35 : kI false w33 := kI_put u34 I27 (show (0 : Int) ≤ (x29 : Int32).toInt by omega) (show (x29 : Int32).toInt ≤ 65535 by omega)
    have F36 : kF [(2, some 2), (2, some 3), (2, some 4), (2, some 5), (2, some 6), (2, some 7), (2, some 8), (2, some 9), (4, none)] w w33 := kF_put u34 F31 rfl
    refine kv_aload_n C 61 rfl 0 (kdec dk_cX6_take 32 rfl) rfl rfl ?_
    refine kv_aload_n C 62 rfl 0 (kdec dk_cX6_take 33 rfl) rfl rfl ?_
    refine kv_bipush C 64 rfl 6 (kdec dk_cX6_take 34 rfl) rfl ?_
    refine kv_callVi (As := [.int 6]) (rest := [.ref (ρ 2)]) C 67 rfl 2 (k_loadedWord l D τ ρ σ w33 6 I35 (by omega)) rfl rfl mml_TaleMachine_Store_40 mim_yX6_loadedWord mse_yX6_loadedWord mcd_yX6_loadedWord min_yX6_loadedWord hd_yX6_loadedWord rfl rfl rfl (by decide) rfl (Nat.le_of_ble_eq_true rfl) (kdec dk_cX6_take 35 rfl) (fun x41 w37 h38 => ?_)
    obtain ⟨I39, f40, p42⟩ := h38
    have F43 : kF [(2, some 2), (2, some 3), (2, some 4), (2, some 5), (2, some 6), (2, some 7), (2, some 8), (2, some 9), (4, none)] w w37 := kF_call F36 f40 (by decide)
    have g44 := kf_rng x41
    refine kv_put C 70 rfl 2 4 rfl rfl inX6 (by decide) mfl_TaleMachine_Store_47 rfl tyX6 tyX6_ok nmX6 rfl rfl (kdec dk_cX6_take 36 rfl) rfl rfl (fun w45 u46 => ?_)
    have I47 : kI false w45 := kI_put u46 I39 (show (0 : Int) ≤ (x41 : Int32).toInt by omega) (show (x41 : Int32).toInt ≤ 65535 by omega)
    have F48 : kF [(2, some 2), (2, some 3), (2, some 4), (2, some 5), (2, some 6), (2, some 7), (2, some 8), (2, some 9), (4, none)] w w45 := kF_put u46 F43 rfl
    refine kv_aload_n C 71 rfl 0 (kdec dk_cX6_take 37 rfl) rfl rfl ?_
    refine kv_aload_n C 72 rfl 0 (kdec dk_cX6_take 38 rfl) rfl rfl ?_
    refine kv_bipush C 74 rfl 8 (kdec dk_cX6_take 39 rfl) rfl ?_
    refine kv_callVi (As := [.int 8]) (rest := [.ref (ρ 2)]) C 77 rfl 2 (k_loadedWord l D τ ρ σ w45 8 I47 (by omega)) rfl rfl mml_TaleMachine_Store_40 mim_yX6_loadedWord mse_yX6_loadedWord mcd_yX6_loadedWord min_yX6_loadedWord hd_yX6_loadedWord rfl rfl rfl (by decide) rfl (Nat.le_of_ble_eq_true rfl) (kdec dk_cX6_take 40 rfl) (fun x53 w49 h50 => ?_)
    obtain ⟨I51, f52, p54⟩ := h50
    have F55 : kF [(2, some 2), (2, some 3), (2, some 4), (2, some 5), (2, some 6), (2, some 7), (2, some 8), (2, some 9), (4, none)] w w49 := kF_call F48 f52 (by decide)
    have g56 := kf_rng x53
    refine kv_put C 80 rfl 2 5 rfl rfl inX6 (by decide) mfl_TaleMachine_Store_50 rfl tyX6 tyX6_ok nmX6 rfl rfl (kdec dk_cX6_take 41 rfl) rfl rfl (fun w57 u58 => ?_)
    have I59 : kI false w57 := kI_put u58 I51 (show (0 : Int) ≤ (x53 : Int32).toInt by omega) (show (x53 : Int32).toInt ≤ 65535 by omega)
    have F60 : kF [(2, some 2), (2, some 3), (2, some 4), (2, some 5), (2, some 6), (2, some 7), (2, some 8), (2, some 9), (4, none)] w w57 := kF_put u58 F55 rfl
    refine kv_aload_n C 81 rfl 0 (kdec dk_cX6_take 42 rfl) rfl rfl ?_
    refine kv_aload_n C 82 rfl 0 (kdec dk_cX6_take 43 rfl) rfl rfl ?_
    refine kv_bipush C 84 rfl 10 (kdec dk_cX6_take 44 rfl) rfl ?_
    refine kv_callVi (As := [.int 10]) (rest := [.ref (ρ 2)]) C 87 rfl 2 (k_loadedWord l D τ ρ σ w57 10 I59 (by omega)) rfl rfl mml_TaleMachine_Store_40 mim_yX6_loadedWord mse_yX6_loadedWord mcd_yX6_loadedWord min_yX6_loadedWord hd_yX6_loadedWord rfl rfl rfl (by decide) rfl (Nat.le_of_ble_eq_true rfl) (kdec dk_cX6_take 45 rfl) (fun x65 w61 h62 => ?_)
    obtain ⟨I63, f64, p66⟩ := h62
    have F67 : kF [(2, some 2), (2, some 3), (2, some 4), (2, some 5), (2, some 6), (2, some 7), (2, some 8), (2, some 9), (4, none)] w w61 := kF_call F60 f64 (by decide)
    have g68 := kf_rng x65
    refine kv_put C 90 rfl 2 6 rfl rfl inX6 (by decide) mfl_TaleMachine_Store_53 rfl tyX6 tyX6_ok nmX6 rfl rfl (kdec dk_cX6_take 46 rfl) rfl rfl (fun w69 u70 => ?_)
    have I71 : kI false w69 := kI_put u70 I63 (show (0 : Int) ≤ (x65 : Int32).toInt by omega) (show (x65 : Int32).toInt ≤ 65535 by omega)
    have F72 : kF [(2, some 2), (2, some 3), (2, some 4), (2, some 5), (2, some 6), (2, some 7), (2, some 8), (2, some 9), (4, none)] w w69 := kF_put u70 F67 rfl
    refine kv_aload_n C 91 rfl 0 (kdec dk_cX6_take 47 rfl) rfl rfl ?_
    refine kv_aload_n C 92 rfl 0 (kdec dk_cX6_take 48 rfl) rfl rfl ?_
    refine kv_bipush C 94 rfl 12 (kdec dk_cX6_take 49 rfl) rfl ?_
    refine kv_callVi (As := [.int 12]) (rest := [.ref (ρ 2)]) C 97 rfl 2 (k_loadedWord l D τ ρ σ w69 12 I71 (by omega)) rfl rfl mml_TaleMachine_Store_40 mim_yX6_loadedWord mse_yX6_loadedWord mcd_yX6_loadedWord min_yX6_loadedWord hd_yX6_loadedWord rfl rfl rfl (by decide) rfl (Nat.le_of_ble_eq_true rfl) (kdec dk_cX6_take 50 rfl) (fun x77 w73 h74 => ?_)
    obtain ⟨I75, f76, p78⟩ := h74
    have F79 : kF [(2, some 2), (2, some 3), (2, some 4), (2, some 5), (2, some 6), (2, some 7), (2, some 8), (2, some 9), (4, none)] w w73 := kF_call F72 f76 (by decide)
    have g80 := kf_rng x77
    refine kv_put C 100 rfl 2 7 rfl rfl inX6 (by decide) mfl_TaleMachine_Store_56 rfl tyX6 tyX6_ok nmX6 rfl rfl (kdec dk_cX6_take 51 rfl) rfl rfl (fun w81 u82 => ?_)
    have I83 : kI false w81 := kI_put u82 I75 (show (0 : Int) ≤ (x77 : Int32).toInt by omega) (show (x77 : Int32).toInt ≤ 65535 by omega)
    have F84 : kF [(2, some 2), (2, some 3), (2, some 4), (2, some 5), (2, some 6), (2, some 7), (2, some 8), (2, some 9), (4, none)] w w81 := kF_put u82 F79 rfl
    refine kv_aload_n C 101 rfl 0 (kdec dk_cX6_take 52 rfl) rfl rfl ?_
    refine kv_aload_n C 102 rfl 0 (kdec dk_cX6_take 53 rfl) rfl rfl ?_
    refine kv_bipush C 104 rfl 24 (kdec dk_cX6_take 54 rfl) rfl ?_
    refine kv_callVi (As := [.int 24]) (rest := [.ref (ρ 2)]) C 107 rfl 2 (k_loadedWord l D τ ρ σ w81 24 I83 (by omega)) rfl rfl mml_TaleMachine_Store_40 mim_yX6_loadedWord mse_yX6_loadedWord mcd_yX6_loadedWord min_yX6_loadedWord hd_yX6_loadedWord rfl rfl rfl (by decide) rfl (Nat.le_of_ble_eq_true rfl) (kdec dk_cX6_take 55 rfl) (fun x89 w85 h86 => ?_)
    obtain ⟨I87, f88, p90⟩ := h86
    have F91 : kF [(2, some 2), (2, some 3), (2, some 4), (2, some 5), (2, some 6), (2, some 7), (2, some 8), (2, some 9), (4, none)] w w85 := kF_call F84 f88 (by decide)
    have g92 := kf_rng x89
    refine kv_put C 110 rfl 2 8 rfl rfl inX6 (by decide) mfl_TaleMachine_Store_59 rfl tyX6 tyX6_ok nmX6 rfl rfl (kdec dk_cX6_take 56 rfl) rfl rfl (fun w93 u94 => ?_)
    have I95 : kI false w93 := kI_put u94 I87 (show (0 : Int) ≤ (x89 : Int32).toInt by omega) (show (x89 : Int32).toInt ≤ 65535 by omega)
    have F96 : kF [(2, some 2), (2, some 3), (2, some 4), (2, some 5), (2, some 6), (2, some 7), (2, some 8), (2, some 9), (4, none)] w w93 := kF_put u94 F91 rfl
    refine kv_aload_n C 111 rfl 0 (kdec dk_cX6_take 57 rfl) rfl rfl ?_
    have e97 : w93 2 2 = x8 := ((kup_ne u94 rfl : w93 2 2 = w85 2 2).trans ((f88 2 2 rfl : w85 2 2 = w81 2 2).trans ((kup_ne u82 rfl : w81 2 2 = w73 2 2).trans ((f76 2 2 rfl : w73 2 2 = w69 2 2).trans ((kup_ne u70 rfl : w69 2 2 = w61 2 2).trans ((f64 2 2 rfl : w61 2 2 = w57 2 2).trans ((kup_ne u58 rfl : w57 2 2 = w49 2 2).trans ((f52 2 2 rfl : w49 2 2 = w45 2 2).trans ((kup_ne u46 rfl : w45 2 2 = w37 2 2).trans ((f40 2 2 rfl : w37 2 2 = w33 2 2).trans ((kup_ne u34 rfl : w33 2 2 = w25 2 2).trans ((f28 2 2 rfl : w25 2 2 = w19 2 2).trans e23))))))))))))
    refine kv_callVi (As := []) (rest := []) C 114 rfl 2 (k_headerFault l D τ ρ σ w93  I95 (by rw [e97]; try omega)) rfl rfl mml_TaleMachine_Store_62 mim_yX6_headerFault mse_yX6_headerFault mcd_yX6_headerFault min_yX6_headerFault hd_yX6_headerFault rfl rfl rfl (by decide) rfl (Nat.le_of_ble_eq_true rfl) (kdec dk_cX6_take 58 rfl) (fun x102 w98 h99 => ?_)
    obtain ⟨I100, f101, p103, p104⟩ := h99
    have F105 : kF [(2, some 2), (2, some 3), (2, some 4), (2, some 5), (2, some 6), (2, some 7), (2, some 8), (2, some 9), (4, none)] w w98 := kF_call F96 f101 (by decide)
    have g106 := kf_rng x102
    have e107 : w93 2 3 = x29 := ((kup_ne u94 rfl : w93 2 3 = w85 2 3).trans ((f88 2 3 rfl : w85 2 3 = w81 2 3).trans ((kup_ne u82 rfl : w81 2 3 = w73 2 3).trans ((f76 2 3 rfl : w73 2 3 = w69 2 3).trans ((kup_ne u70 rfl : w69 2 3 = w61 2 3).trans ((f64 2 3 rfl : w61 2 3 = w57 2 3).trans ((kup_ne u58 rfl : w57 2 3 = w49 2 3).trans ((f52 2 3 rfl : w49 2 3 = w45 2 3).trans ((kup_ne u46 rfl : w45 2 3 = w37 2 3).trans ((f40 2 3 rfl : w37 2 3 = w33 2 3).trans (kup_eq u34)))))))))))
    rw [e107] at p104
    have e108 : w98 2 3 = x29 := ((f101 2 3 rfl : w98 2 3 = w93 2 3).trans e107)
    exact kv_iret C hr hlk (kdec dk_cX6_take 59 rfl) ⟨_, rfl, I100, F105, (by omega), (by rw [e108]; try omega), (by omega)⟩
  · skip
    refine kv_iconst C 49 rfl 1 (kdec dk_cX6_take 25 rfl) rfl ?_
    obtain ⟨x109, e110⟩ : ∃ z : Int32, w 2 3 = z := ⟨_, rfl⟩
    have b111 : (0 : Int) ≤ x109.toInt ∧ x109.toInt ≤ 65535 := by rw [← e110]; exact hI 2 3
    have e112 : w19 2 3 = x109 := ((kup_ne u20 rfl : w19 2 3 = w15 2 3).trans ((kur_ne u16 rfl : w15 2 3 = w11 2 3).trans ((kup_ne u12 rfl : w11 2 3 = w 2 3).trans e110)))
    exact kv_iret C hr hlk (kdec dk_cX6_take 26 rfl) ⟨_, rfl, I21, F22, (by omega), (by rw [e112]; try omega), (by omega)⟩

set_option maxHeartbeats 4000000 in
set_option maxRecDepth 100000 in
theorem k_m_layOnTape (l : Launch) (D : va_G) (τ : Nat → ClassId) (ρ σ : Nat → Nat) (w : kw) (a1 : Int32) (hI : kI false w) (hp0 : (w 0 9).toInt ≤ 1020) :
    kM l D τ ρ σ yX9_layOnTape cX9_layOnTape 3 none { frames := 0, cells := 0, slots := 0, locals := 0 } [.ref (ρ 0), .int a1] w
      (fun o w' => o = none ∧ kI false w' ∧ kF [(0, some 9), (1, none)] w w' ∧ ((w' 0 9).toInt = (w 0 9).toInt + 4)) := by
  refine kM_of (own := "TaleMachine") rfl (by decide) (Nat.le_of_ble_eq_true rfl) ?_
  intro p e s m args below meth c C hr hlk
  have hF0 : kF [(0, some 9), (1, none)] w w := kF.rf
  have c_1 : (1 : Int32).toInt = 1 := by decide
  have c_24 : (24 : Int32).toInt = 24 := by decide
  have c_255 : (255 : Int32).toInt = 255 := by decide
  have c_1024 : (1024 : Int32).toInt = 1024 := by decide
  refine kV.L (L' := [(0, .ref (ρ 0)), (1, .int a1)]) rfl ?_
  obtain ⟨x1, e2⟩ : ∃ z : Int32, w 0 9 = z := ⟨_, rfl⟩
  have b3 : (0 : Int) ≤ x1.toInt ∧ x1.toInt ≤ 1024 := by rw [← e2]; exact hI 0 9
  rw [e2] at hp0
  have g4 := kf_rng a1
  have cut3 : ∀ (n_3 : Nat) (w_3 : kw) (l1_3 l2_3 : Int32), kI false w_3 → kF [(0, some 9), (1, none)] w w_3 → (-8 ≤ l2_3.toInt ∧ l2_3.toInt ≤ 24) → (8 * ((w_3 0 9).toInt - (w 0 9).toInt) = 24 - l2_3.toInt) → ((l2_3.toInt + 8) : Int) < (n_3 : Int) → kV p l e { frames := 0, cells := 0, slots := 0, locals := 0 } s m args below meth c (kQ below args s D τ ρ (fun o w' => o = none ∧ kI false w' ∧ kF [(0, some 9), (1, none)] w w' ∧ ((w' 0 9).toInt = (w 0 9).toInt + 4))) 3 D τ ρ 3 [(0, .ref (ρ 0)), (1, .int l1_3), (2, .int l2_3)] [] w_3 := by
    intro n_3
    induction n_3 with
    | zero => intro w_3 l1_3 l2_3 I_3 F_3 k3_0 k3_1 hmz; exfalso; omega
    | succ n_3 ih3 =>
      intro w_3 l1_3 l2_3 I_3 F_3 k3_0 k3_1 hm3
      have gl1_3 := kf_rng l1_3
      have gl2_3 := kf_rng l2_3
      obtain ⟨x5, e6⟩ : ∃ z : Int32, w_3 0 9 = z := ⟨_, rfl⟩
      have b7 : (0 : Int) ≤ x5.toInt ∧ x5.toInt ≤ 1024 := by rw [← e6]; exact I_3 0 9
      rw [e2, e6] at k3_1
      refine kv_iload_n C 4 rfl 2 (kdec dk_cX9_layOnTape 2 rfl) rfl rfl ?_
      refine kv_if_lt C 7 rfl 51 (kdec dk_cX9_layOnTape 3 rfl) (by decide) (fun d8 => ?_) (fun d8 => ?_)
      · skip
        exact kv_vret C hr hlk (kdec dk_cX9_layOnTape 28 rfl) ⟨rfl, I_3, F_3, (by rw [e2, e6]; try omega)⟩
      · skip
        refine kv_aload_n C 8 rfl 0 (kdec dk_cX9_layOnTape 4 rfl) rfl rfl ?_
        refine kv_get C 11 rfl 0 9 rfl rfl inX9 (by decide) mfl_TaleMachine_71 rfl rfl (kdec dk_cX9_layOnTape 5 rfl) e6 ?_
        refine kv_aload_n C 12 rfl 0 (kdec dk_cX9_layOnTape 6 rfl) rfl rfl ?_
        refine kv_getr C 15 rfl 0 0 rfl rfl inX9 (by decide) mfl_TaleMachine_9 rfl rfl (kdec dk_cX9_layOnTape 7 rfl) ?_
        refine kv_alen C 16 rfl 1 1024 rfl (by decide) rfl (kdec dk_cX9_layOnTape 8 rfl) ?_
        refine kv_icmp_ge C 19 rfl 45 (kdec dk_cX9_layOnTape 9 rfl) (by decide) (fun d9 => ?_) (fun d9 => ?_)
        · exfalso; omega
        · skip
          refine kv_aload_n C 20 rfl 0 (kdec dk_cX9_layOnTape 10 rfl) rfl rfl ?_
          refine kv_getr C 23 rfl 0 0 rfl rfl inX9 (by decide) mfl_TaleMachine_9 rfl rfl (kdec dk_cX9_layOnTape 11 rfl) ?_
          refine kv_aload_n C 24 rfl 0 (kdec dk_cX9_layOnTape 12 rfl) rfl rfl ?_
          refine kv_get C 27 rfl 0 9 rfl rfl inX9 (by decide) mfl_TaleMachine_71 rfl rfl (kdec dk_cX9_layOnTape 13 rfl) e6 ?_
          refine kv_iload_n C 28 rfl 1 (kdec dk_cX9_layOnTape 14 rfl) rfl rfl ?_
          refine kv_iload_n C 29 rfl 2 (kdec dk_cX9_layOnTape 15 rfl) rfl rfl ?_
          refine kv_iushr C 30 rfl (kdec dk_cX9_layOnTape 16 rfl) (fun x10 h11e h11l h11u => ?_)
          refine kv_sipush C 33 rfl 255 (kdec dk_cX9_layOnTape 17 rfl) rfl ?_
          refine kv_iand C 34 rfl (kdec dk_cX9_layOnTape 18 rfl) (fun x12 h13e h13l h13u => ?_)
          have g14 := kf_and255 h13e
          refine kv_iast C 35 rfl 1 rfl (by omega) (by omega) (kdec dk_cX9_layOnTape 19 rfl) (fun w15 u16 => ?_)
          have I17 : kI false w15 := kI_put u16 I_3 (show (0 : Int) ≤ (x12 : Int32).toInt by omega) (show (x12 : Int32).toInt ≤ 255 by omega)
          have F18 : kF [(0, some 9), (1, none)] w w15 := kF_put u16 F_3 rfl
          refine kv_aload_n C 36 rfl 0 (kdec dk_cX9_layOnTape 20 rfl) rfl rfl ?_
          refine kv_dup C 37 rfl (kdec dk_cX9_layOnTape 21 rfl) rfl ?_
          have e19 : w15 0 9 = x5 := ((kup_ne u16 rfl : w15 0 9 = w_3 0 9).trans e6)
          refine kv_get C 40 rfl 0 9 rfl rfl inX9 (by decide) mfl_TaleMachine_71 rfl rfl (kdec dk_cX9_layOnTape 22 rfl) e19 ?_
          refine kv_iconst C 41 rfl 1 (kdec dk_cX9_layOnTape 23 rfl) rfl ?_
          refine kv_iadd C 42 rfl (kdec dk_cX9_layOnTape 24 rfl) (fun x20 q22 h21e h21 h21l h21u => ?_)
          try have h21n : x20.toInt = x5.toInt + (1 : Int32).toInt := by omega
          clear h21 q22
          refine kv_put C 45 rfl 0 9 rfl rfl inX9 (by decide) mfl_TaleMachine_71 rfl tyX9 tyX9_ok nmX9 rfl rfl (kdec dk_cX9_layOnTape 25 rfl) rfl rfl (fun w23 u24 => ?_)
          have I25 : kI false w23 := kI_put u24 I17 (show (0 : Int) ≤ (x20 : Int32).toInt by omega) (show (x20 : Int32).toInt ≤ 1024 by omega)
          have F26 : kF [(0, some 9), (1, none)] w w23 := kF_put u24 F18 rfl
          refine kv_iinc C 48 rfl 2 2 [1, 2, 0] (fun v9 => [(0, .ref (ρ 0)), (1, .int l1_3), (2, .int v9)]) (kdec dk_cX9_layOnTape 26 rfl) rfl (by decide) (fun _ => rfl) (-8) rfl (fun x27 q28 h29e h29 h29l h29u => ?_)
          try have h29n : x27.toInt = l2_3.toInt + (-8) := by omega
          clear h29 q28
          refine kv_goto C 3 (kdec dk_cX9_layOnTape 27 rfl) (by decide) ?_
          exact ih3 w23 l1_3 x27 I25 F26 (by omega) (by rw [e2, (kup_eq u24)]; try omega) (by omega)
  refine kv_bipush C 2 rfl 24 (kdec dk_cX9_layOnTape 0 rfl) rfl ?_
  refine kv_istore_n C 3 rfl 2 [1, 2, 0] [(0, .ref (ρ 0)), (1, .int a1), (2, .int 24)] (kdec dk_cX9_layOnTape 1 rfl) rfl (by decide) rfl ?_
  exact cut3 (((((24 : Int32).toInt + 8)) : Int).toNat + 1) w a1 24 hI hF0 (by omega) (by rw [e2]; try omega) (by omega)

set_option maxHeartbeats 4000000 in
set_option maxRecDepth 100000 in
theorem k_m_feed (l : Launch) (D : va_G) (τ : Nat → ClassId) (ρ σ : Nat → Nat) (w : kw) (a1 : Int32) (a2 : Int32) (a3 : Int32) (a4 : Int32) (a5 : Int32) (a6 : Int32) (a7 : Int32) (a8 : Int32) (hI : kI false w)  :
    kM l D τ ρ σ yX9_feed cX9_feed 9 (some .int) { frames := 1, cells := 0, slots := 0, locals := 36 } [.ref (ρ 0), .int a1, .int a2, .int a3, .int a4, .int a5, .int a6, .int a7, .int a8] w
      (fun o w' => ∃ r : Int32, o = some (.int r) ∧ kI false w' ∧ kF [(0, some 9), (1, none)] w w' ∧ ((w 0 9).toInt ≤ 992 ∧ (w' 0 9).toInt = (w 0 9).toInt + 32 ∧ r.toInt = (w 0 9).toInt + 32 ∨ 992 < (w 0 9).toInt ∧ (w' 0 9).toInt = (w 0 9).toInt ∧ r.toInt = -3)) := by
  refine kM_of (own := "TaleMachine") rfl (by decide) (Nat.le_of_ble_eq_true rfl) ?_
  intro p e s m args below meth c C hr hlk
  have hF0 : kF [(0, some 9), (1, none)] w w := kF.rf
  have c_m3 : (-3 : Int32).toInt = -3 := by decide
  have c_32 : (32 : Int32).toInt = 32 := by decide
  have c_1024 : (1024 : Int32).toInt = 1024 := by decide
  refine kV.L (L' := [(0, .ref (ρ 0)), (1, .int a1), (2, .int a2), (3, .int a3), (4, .int a4), (5, .int a5), (6, .int a6), (7, .int a7), (8, .int a8)]) rfl ?_
  have g1 := kf_rng a1
  have g2 := kf_rng a2
  have g3 := kf_rng a3
  have g4 := kf_rng a4
  have g5 := kf_rng a5
  have g6 := kf_rng a6
  have g7 := kf_rng a7
  have g8 := kf_rng a8
  refine kv_aload_n C 1 rfl 0 (kdec dk_cX9_feed 0 rfl) rfl rfl ?_
  obtain ⟨x9, e10⟩ : ∃ z : Int32, w 0 9 = z := ⟨_, rfl⟩
  have b11 : (0 : Int) ≤ x9.toInt ∧ x9.toInt ≤ 1024 := by rw [← e10]; exact hI 0 9
  refine kv_get C 4 rfl 0 9 rfl rfl inX9 (by decide) mfl_TaleMachine_71 rfl rfl (kdec dk_cX9_feed 1 rfl) e10 ?_
  refine kv_bipush C 6 rfl 32 (kdec dk_cX9_feed 2 rfl) rfl ?_
  refine kv_iadd C 7 rfl (kdec dk_cX9_feed 3 rfl) (fun x12 q14 h13e h13 h13l h13u => ?_)
  try have h13n : x12.toInt = x9.toInt + (32 : Int32).toInt := by omega
  clear h13 q14
  refine kv_sipush C 10 rfl 1024 (kdec dk_cX9_feed 4 rfl) rfl ?_
  refine kv_icmp_le C 13 rfl 16 (kdec dk_cX9_feed 5 rfl) (by decide) (fun d15 => ?_) (fun d15 => ?_)
  · skip
    refine kv_aload_n C 17 rfl 0 (kdec dk_cX9_feed 8 rfl) rfl rfl ?_
    refine kv_iload_n C 18 rfl 1 (kdec dk_cX9_feed 9 rfl) rfl rfl ?_
    refine kv_callVv (As := [.int a1]) (rest := []) C 21 rfl 0 (k_m_layOnTape l D τ ρ σ w a1 hI (by rw [e10]; try omega)) rfl rfl mml_TaleMachine_75 mim_yX9_layOnTape mse_yX9_layOnTape mcd_yX9_layOnTape min_yX9_layOnTape hd_yX9_layOnTape rfl rfl rfl (by decide) rfl (Nat.le_of_ble_eq_true rfl) (kdec dk_cX9_feed 10 rfl) (fun w16 h17 => ?_)
    obtain ⟨I18, f19, p21⟩ := h17
    have F22 : kF [(0, some 9), (1, none)] w w16 := kF_call hF0 f19 (by decide)
    obtain ⟨x23, e24⟩ : ∃ z : Int32, w16 0 9 = z := ⟨_, rfl⟩
    have b25 : (0 : Int) ≤ x23.toInt ∧ x23.toInt ≤ 1024 := by rw [← e24]; exact I18 0 9
    rw [e10, e24] at p21
    refine kv_aload_n C 22 rfl 0 (kdec dk_cX9_feed 11 rfl) rfl rfl ?_
    refine kv_iload_n C 23 rfl 2 (kdec dk_cX9_feed 12 rfl) rfl rfl ?_
    refine kv_callVv (As := [.int a2]) (rest := []) C 26 rfl 0 (k_m_layOnTape l D τ ρ σ w16 a2 I18 (by rw [e24]; try omega)) rfl rfl mml_TaleMachine_75 mim_yX9_layOnTape mse_yX9_layOnTape mcd_yX9_layOnTape min_yX9_layOnTape hd_yX9_layOnTape rfl rfl rfl (by decide) rfl (Nat.le_of_ble_eq_true rfl) (kdec dk_cX9_feed 13 rfl) (fun w26 h27 => ?_)
    obtain ⟨I28, f29, p31⟩ := h27
    have F32 : kF [(0, some 9), (1, none)] w w26 := kF_call F22 f29 (by decide)
    obtain ⟨x33, e34⟩ : ∃ z : Int32, w26 0 9 = z := ⟨_, rfl⟩
    have b35 : (0 : Int) ≤ x33.toInt ∧ x33.toInt ≤ 1024 := by rw [← e34]; exact I28 0 9
    rw [e24, e34] at p31
    refine kv_aload_n C 27 rfl 0 (kdec dk_cX9_feed 14 rfl) rfl rfl ?_
    refine kv_iload_n C 28 rfl 3 (kdec dk_cX9_feed 15 rfl) rfl rfl ?_
    refine kv_callVv (As := [.int a3]) (rest := []) C 31 rfl 0 (k_m_layOnTape l D τ ρ σ w26 a3 I28 (by rw [e34]; try omega)) rfl rfl mml_TaleMachine_75 mim_yX9_layOnTape mse_yX9_layOnTape mcd_yX9_layOnTape min_yX9_layOnTape hd_yX9_layOnTape rfl rfl rfl (by decide) rfl (Nat.le_of_ble_eq_true rfl) (kdec dk_cX9_feed 16 rfl) (fun w36 h37 => ?_)
    obtain ⟨I38, f39, p41⟩ := h37
    have F42 : kF [(0, some 9), (1, none)] w w36 := kF_call F32 f39 (by decide)
    obtain ⟨x43, e44⟩ : ∃ z : Int32, w36 0 9 = z := ⟨_, rfl⟩
    have b45 : (0 : Int) ≤ x43.toInt ∧ x43.toInt ≤ 1024 := by rw [← e44]; exact I38 0 9
    rw [e34, e44] at p41
    refine kv_aload_n C 32 rfl 0 (kdec dk_cX9_feed 17 rfl) rfl rfl ?_
    refine kv_iload C 34 rfl 4 (kdec dk_cX9_feed 18 rfl) rfl ?_
    refine kv_callVv (As := [.int a4]) (rest := []) C 37 rfl 0 (k_m_layOnTape l D τ ρ σ w36 a4 I38 (by rw [e44]; try omega)) rfl rfl mml_TaleMachine_75 mim_yX9_layOnTape mse_yX9_layOnTape mcd_yX9_layOnTape min_yX9_layOnTape hd_yX9_layOnTape rfl rfl rfl (by decide) rfl (Nat.le_of_ble_eq_true rfl) (kdec dk_cX9_feed 19 rfl) (fun w46 h47 => ?_)
    obtain ⟨I48, f49, p51⟩ := h47
    have F52 : kF [(0, some 9), (1, none)] w w46 := kF_call F42 f49 (by decide)
    obtain ⟨x53, e54⟩ : ∃ z : Int32, w46 0 9 = z := ⟨_, rfl⟩
    have b55 : (0 : Int) ≤ x53.toInt ∧ x53.toInt ≤ 1024 := by rw [← e54]; exact I48 0 9
    rw [e44, e54] at p51
    refine kv_aload_n C 38 rfl 0 (kdec dk_cX9_feed 20 rfl) rfl rfl ?_
    refine kv_iload C 40 rfl 5 (kdec dk_cX9_feed 21 rfl) rfl ?_
    refine kv_callVv (As := [.int a5]) (rest := []) C 43 rfl 0 (k_m_layOnTape l D τ ρ σ w46 a5 I48 (by rw [e54]; try omega)) rfl rfl mml_TaleMachine_75 mim_yX9_layOnTape mse_yX9_layOnTape mcd_yX9_layOnTape min_yX9_layOnTape hd_yX9_layOnTape rfl rfl rfl (by decide) rfl (Nat.le_of_ble_eq_true rfl) (kdec dk_cX9_feed 22 rfl) (fun w56 h57 => ?_)
    obtain ⟨I58, f59, p61⟩ := h57
    have F62 : kF [(0, some 9), (1, none)] w w56 := kF_call F52 f59 (by decide)
    obtain ⟨x63, e64⟩ : ∃ z : Int32, w56 0 9 = z := ⟨_, rfl⟩
    have b65 : (0 : Int) ≤ x63.toInt ∧ x63.toInt ≤ 1024 := by rw [← e64]; exact I58 0 9
    rw [e54, e64] at p61
    refine kv_aload_n C 44 rfl 0 (kdec dk_cX9_feed 23 rfl) rfl rfl ?_
    refine kv_iload C 46 rfl 6 (kdec dk_cX9_feed 24 rfl) rfl ?_
    refine kv_callVv (As := [.int a6]) (rest := []) C 49 rfl 0 (k_m_layOnTape l D τ ρ σ w56 a6 I58 (by rw [e64]; try omega)) rfl rfl mml_TaleMachine_75 mim_yX9_layOnTape mse_yX9_layOnTape mcd_yX9_layOnTape min_yX9_layOnTape hd_yX9_layOnTape rfl rfl rfl (by decide) rfl (Nat.le_of_ble_eq_true rfl) (kdec dk_cX9_feed 25 rfl) (fun w66 h67 => ?_)
    obtain ⟨I68, f69, p71⟩ := h67
    have F72 : kF [(0, some 9), (1, none)] w w66 := kF_call F62 f69 (by decide)
    obtain ⟨x73, e74⟩ : ∃ z : Int32, w66 0 9 = z := ⟨_, rfl⟩
    have b75 : (0 : Int) ≤ x73.toInt ∧ x73.toInt ≤ 1024 := by rw [← e74]; exact I68 0 9
    rw [e64, e74] at p71
    refine kv_aload_n C 50 rfl 0 (kdec dk_cX9_feed 26 rfl) rfl rfl ?_
    refine kv_iload C 52 rfl 7 (kdec dk_cX9_feed 27 rfl) rfl ?_
    refine kv_callVv (As := [.int a7]) (rest := []) C 55 rfl 0 (k_m_layOnTape l D τ ρ σ w66 a7 I68 (by rw [e74]; try omega)) rfl rfl mml_TaleMachine_75 mim_yX9_layOnTape mse_yX9_layOnTape mcd_yX9_layOnTape min_yX9_layOnTape hd_yX9_layOnTape rfl rfl rfl (by decide) rfl (Nat.le_of_ble_eq_true rfl) (kdec dk_cX9_feed 28 rfl) (fun w76 h77 => ?_)
    obtain ⟨I78, f79, p81⟩ := h77
    have F82 : kF [(0, some 9), (1, none)] w w76 := kF_call F72 f79 (by decide)
    obtain ⟨x83, e84⟩ : ∃ z : Int32, w76 0 9 = z := ⟨_, rfl⟩
    have b85 : (0 : Int) ≤ x83.toInt ∧ x83.toInt ≤ 1024 := by rw [← e84]; exact I78 0 9
    rw [e74, e84] at p81
    refine kv_aload_n C 56 rfl 0 (kdec dk_cX9_feed 29 rfl) rfl rfl ?_
    refine kv_iload C 58 rfl 8 (kdec dk_cX9_feed 30 rfl) rfl ?_
    refine kv_callVv (As := [.int a8]) (rest := []) C 61 rfl 0 (k_m_layOnTape l D τ ρ σ w76 a8 I78 (by rw [e84]; try omega)) rfl rfl mml_TaleMachine_75 mim_yX9_layOnTape mse_yX9_layOnTape mcd_yX9_layOnTape min_yX9_layOnTape hd_yX9_layOnTape rfl rfl rfl (by decide) rfl (Nat.le_of_ble_eq_true rfl) (kdec dk_cX9_feed 31 rfl) (fun w86 h87 => ?_)
    obtain ⟨I88, f89, p91⟩ := h87
    have F92 : kF [(0, some 9), (1, none)] w w86 := kF_call F82 f89 (by decide)
    obtain ⟨x93, e94⟩ : ∃ z : Int32, w86 0 9 = z := ⟨_, rfl⟩
    have b95 : (0 : Int) ≤ x93.toInt ∧ x93.toInt ≤ 1024 := by rw [← e94]; exact I88 0 9
    rw [e84, e94] at p91
    refine kv_aload_n C 62 rfl 0 (kdec dk_cX9_feed 32 rfl) rfl rfl ?_
    refine kv_get C 65 rfl 0 9 rfl rfl inX9 (by decide) mfl_TaleMachine_71 rfl rfl (kdec dk_cX9_feed 33 rfl) e94 ?_
    exact kv_iret C hr hlk (kdec dk_cX9_feed 34 rfl) ⟨_, rfl, I88, F92, (by rw [e10, e94]; try omega)⟩
  · skip
    refine kv_bipush C 15 rfl (-3) (kdec dk_cX9_feed 6 rfl) rfl ?_
    exact kv_iret C hr hlk (kdec dk_cX9_feed 7 rfl) ⟨_, rfl, hI, hF0, (by rw [e10]; try omega)⟩

set_option maxHeartbeats 4000000 in
set_option maxRecDepth 100000 in
theorem k_m_end (l : Launch) (D : va_G) (τ : Nat → ClassId) (ρ σ : Nat → Nat) (w : kw) (a1 : Int32) (hI : kI false w)  :
    kM l D τ ρ σ yX9_end cX9_end 3 (some .int) { frames := 0, cells := 0, slots := 0, locals := 0 } [.ref (ρ 0), .int a1] w
      (fun o w' => ∃ r : Int32, o = some (.int r) ∧ kI false w' ∧ kF [(0, some 9)] w w' ∧ (0 ≤ a1.toInt ∧ a1.toInt ≤ (w 0 9).toInt ∧ (w' 0 9).toInt = a1.toInt ∧ r.toInt = (w 0 9).toInt ∨ (a1.toInt < 0 ∨ (w 0 9).toInt < a1.toInt) ∧ (w' 0 9).toInt = (w 0 9).toInt ∧ r.toInt = -1)) := by
  refine kM_of (own := "TaleMachine") rfl (by decide) (Nat.le_of_ble_eq_true rfl) ?_
  intro p e s m args below meth c C hr hlk
  have hF0 : kF [(0, some 9)] w w := kF.rf
  have c_m1 : (-1 : Int32).toInt = -1 := by decide
  refine kV.L (L' := [(0, .ref (ρ 0)), (1, .int a1)]) rfl ?_
  have g1 := kf_rng a1
  refine kv_iload_n C 1 rfl 1 (kdec dk_cX9_end 0 rfl) rfl rfl ?_
  refine kv_if_lt C 4 rfl 12 (kdec dk_cX9_end 1 rfl) (by decide) (fun d2 => ?_) (fun d2 => ?_)
  · skip
    refine kv_iconst C 13 rfl (-1) (kdec dk_cX9_end 6 rfl) rfl ?_
    obtain ⟨x3, e4⟩ : ∃ z : Int32, w 0 9 = z := ⟨_, rfl⟩
    have b5 : (0 : Int) ≤ x3.toInt ∧ x3.toInt ≤ 1024 := by rw [← e4]; exact hI 0 9
    exact kv_iret C hr hlk (kdec dk_cX9_end 7 rfl) ⟨_, rfl, hI, hF0, (by rw [e4]; try omega)⟩
  · skip
    refine kv_iload_n C 5 rfl 1 (kdec dk_cX9_end 2 rfl) rfl rfl ?_
    refine kv_aload_n C 6 rfl 0 (kdec dk_cX9_end 3 rfl) rfl rfl ?_
    obtain ⟨x6, e7⟩ : ∃ z : Int32, w 0 9 = z := ⟨_, rfl⟩
    have b8 : (0 : Int) ≤ x6.toInt ∧ x6.toInt ≤ 1024 := by rw [← e7]; exact hI 0 9
    refine kv_get C 9 rfl 0 9 rfl rfl inX9 (by decide) mfl_TaleMachine_71 rfl rfl (kdec dk_cX9_end 4 rfl) e7 ?_
    refine kv_icmp_le C 12 rfl 14 (kdec dk_cX9_end 5 rfl) (by decide) (fun d9 => ?_) (fun d9 => ?_)
    · skip
      refine kv_aload_n C 15 rfl 0 (kdec dk_cX9_end 8 rfl) rfl rfl ?_
      refine kv_get C 18 rfl 0 9 rfl rfl inX9 (by decide) mfl_TaleMachine_71 rfl rfl (kdec dk_cX9_end 9 rfl) e7 ?_
      refine kv_istore_n C 19 rfl 2 [1, 2, 0] [(0, .ref (ρ 0)), (1, .int a1), (2, .int x6)] (kdec dk_cX9_end 10 rfl) rfl (by decide) rfl ?_
      refine kv_aload_n C 20 rfl 0 (kdec dk_cX9_end 11 rfl) rfl rfl ?_
      refine kv_iload_n C 21 rfl 1 (kdec dk_cX9_end 12 rfl) rfl rfl ?_
      refine kv_put C 24 rfl 0 9 rfl rfl inX9 (by decide) mfl_TaleMachine_71 rfl tyX9 tyX9_ok nmX9 rfl rfl (kdec dk_cX9_end 13 rfl) rfl rfl (fun w10 u11 => ?_)
      have I12 : kI false w10 := kI_put u11 hI (show (0 : Int) ≤ (a1 : Int32).toInt by omega) (show (a1 : Int32).toInt ≤ 1024 by omega)
      have F13 : kF [(0, some 9)] w w10 := kF_put u11 hF0 rfl
      refine kv_iload_n C 25 rfl 2 (kdec dk_cX9_end 14 rfl) rfl rfl ?_
      exact kv_iret C hr hlk (kdec dk_cX9_end 15 rfl) ⟨_, rfl, I12, F13, (by rw [e7, (kup_eq u11)]; try omega)⟩
    · skip
      refine kv_iconst C 13 rfl (-1) (kdec dk_cX9_end 6 rfl) rfl ?_
      exact kv_iret C hr hlk (kdec dk_cX9_end 7 rfl) ⟨_, rfl, hI, hF0, (by rw [e7]; try omega)⟩

set_option maxHeartbeats 4000000 in
set_option maxRecDepth 100000 in
theorem k_m_load (l : Launch) (D : va_G) (τ : Nat → ClassId) (ρ σ : Nat → Nat) (w : kw)  (hI : kI false w)  :
    kM l D τ ρ σ yX9_load cX9_load 3 (some .int) { frames := 5, cells := 0, slots := 0, locals := 180 } [.ref (ρ 0)] w
      (fun o w' => ∃ r : Int32, o = some (.int r) ∧ kI false w' ∧ kF [(0, some 9), (2, some 2), (2, some 3), (2, some 4), (2, some 5), (2, some 6), (2, some 7), (2, some 8), (2, some 9), (3, none), (4, none), (5, some 6), (5, some 7), (8, none), (9, none), (12, some 1), (20, some 8), (20, some 9), (20, some 10), (20, some 11), (20, some 12), (25, some 2), (34, some 2), (43, some 2), (52, some 2)] w w' ∧ ((w' 0 9).toInt = 0) ∧ ((w' 20 10).toInt = 0 ∨ (w' 2 3).toInt ≤ 1024) ∧ (64 ≤ (w 0 9).toInt ∨ r.toInt = -11) ∧ ((w' 12 1).toInt ≤ (w 12 1).toInt + 0 ∧ (w' 14 1).toInt ≤ (w 14 1).toInt + 0)) := by
  refine kM_of (own := "TaleMachine") rfl (by decide) (Nat.le_of_ble_eq_true rfl) ?_
  intro p e s m args below meth c C hr hlk
  have hF0 : kF [(0, some 9), (2, some 2), (2, some 3), (2, some 4), (2, some 5), (2, some 6), (2, some 7), (2, some 8), (2, some 9), (3, none), (4, none), (5, some 6), (5, some 7), (8, none), (9, none), (12, some 1), (20, some 8), (20, some 9), (20, some 10), (20, some 11), (20, some 12), (25, some 2), (34, some 2), (43, some 2), (52, some 2)] w w := kF.rf
  have c_m10 : (-10 : Int32).toInt = -10 := by decide
  have c_0 : (0 : Int32).toInt = 0 := by decide
  have c_4 : (4 : Int32).toInt = 4 := by decide
  refine kV.L (L' := [(0, .ref (ρ 0))]) rfl ?_
  have cut23 : ∀ (n_23 : Nat) (w_23 : kw) (l1_23 l2_23 : Int32), kI false w_23 → kF [(0, some 9), (2, some 2), (2, some 3), (2, some 4), (2, some 5), (2, some 6), (2, some 7), (2, some 8), (2, some 9), (3, none), (4, none), (5, some 6), (5, some 7), (8, none), (9, none), (12, some 1), (20, some 8), (20, some 9), (20, some 10), (20, some 11), (20, some 12), (25, some 2), (34, some 2), (43, some 2), (52, some 2)] w w_23 → (0 ≤ l2_23.toInt ∧ l2_23.toInt ≤ 4) → (0 ≤ l1_23.toInt ∧ l1_23.toInt ≤ 7) → (¬ l1_23.toInt = 0 ∨ (w_23 2 3).toInt ≤ 1024) → ((w_23 0 9).toInt = 0) → (64 ≤ (w 0 9).toInt ∨ l1_23.toInt = 1) → ((w_23 12 1).toInt ≤ (w 12 1).toInt + 0 ∧ (w_23 14 1).toInt ≤ (w 14 1).toInt + 0) → ((5 - l2_23.toInt) : Int) < (n_23 : Int) → kV p l e { frames := 5, cells := 0, slots := 0, locals := 180 } s m args below meth c (kQ below args s D τ ρ (fun o w' => ∃ r : Int32, o = some (.int r) ∧ kI false w' ∧ kF [(0, some 9), (2, some 2), (2, some 3), (2, some 4), (2, some 5), (2, some 6), (2, some 7), (2, some 8), (2, some 9), (3, none), (4, none), (5, some 6), (5, some 7), (8, none), (9, none), (12, some 1), (20, some 8), (20, some 9), (20, some 10), (20, some 11), (20, some 12), (25, some 2), (34, some 2), (43, some 2), (52, some 2)] w w' ∧ ((w' 0 9).toInt = 0) ∧ ((w' 20 10).toInt = 0 ∨ (w' 2 3).toInt ≤ 1024) ∧ (64 ≤ (w 0 9).toInt ∨ r.toInt = -11) ∧ ((w' 12 1).toInt ≤ (w 12 1).toInt + 0 ∧ (w' 14 1).toInt ≤ (w 14 1).toInt + 0))) 3 D τ ρ 23 [(0, .ref (ρ 0)), (1, .int l1_23), (2, .int l2_23)] [] w_23 := by
    intro n_23
    induction n_23 with
    | zero => intro w_23 l1_23 l2_23 I_23 F_23 k23_0 k23_1 k23_2 k23_3 k23_4 k23_5 hmz; exfalso; omega
    | succ n_23 ih23 =>
      intro w_23 l1_23 l2_23 I_23 F_23 k23_0 k23_1 k23_2 k23_3 k23_4 k23_5 hm23
      have gl1_23 := kf_rng l1_23
      have gl2_23 := kf_rng l2_23
      obtain ⟨x1, e2⟩ : ∃ z : Int32, w_23 2 3 = z := ⟨_, rfl⟩
      have b3 : (0 : Int) ≤ x1.toInt ∧ x1.toInt ≤ 65535 := by rw [← e2]; exact I_23 2 3
      rw [e2] at k23_2
      obtain ⟨x4, e5⟩ : ∃ z : Int32, w_23 0 9 = z := ⟨_, rfl⟩
      have b6 : (0 : Int) ≤ x4.toInt ∧ x4.toInt ≤ 1024 := by rw [← e5]; exact I_23 0 9
      rw [e5] at k23_3
      obtain ⟨x7, e8⟩ : ∃ z : Int32, w 0 9 = z := ⟨_, rfl⟩
      have b9 : (0 : Int) ≤ x7.toInt ∧ x7.toInt ≤ 1024 := by rw [← e8]; exact hI 0 9
      rw [e8] at k23_4
      obtain ⟨x10, e11⟩ : ∃ z : Int32, w 12 1 = z := ⟨_, rfl⟩
      have b12 : (0 : Int) ≤ x10.toInt ∧ x10.toInt ≤ 2147483647 := by rw [← e11]; exact hI 12 1
      obtain ⟨x13, e14⟩ : ∃ z : Int32, w 14 1 = z := ⟨_, rfl⟩
      have b15 : (0 : Int) ≤ x13.toInt ∧ x13.toInt ≤ 2147483647 := by rw [← e14]; exact hI 14 1
      obtain ⟨x16, e17⟩ : ∃ z : Int32, w_23 12 1 = z := ⟨_, rfl⟩
      have b18 : (0 : Int) ≤ x16.toInt ∧ x16.toInt ≤ 2147483647 := by rw [← e17]; exact I_23 12 1
      have e19 : w_23 14 1 = x13 := ((F_23 14 1 rfl : w_23 14 1 = w 14 1).trans e14)
      rw [e11, e14, e17, e19] at k23_5
      refine kv_iload_n C 24 rfl 2 (kdec dk_cX9_load 13 rfl) rfl rfl ?_
      refine kv_aload_n C 25 rfl 0 (kdec dk_cX9_load 14 rfl) rfl rfl ?_
      refine kv_getr C 28 rfl 0 8 rfl rfl inX9 (by decide) mfl_TaleMachine_66 rfl rfl (kdec dk_cX9_load 15 rfl) ?_
      refine kv_alenq C 29 rfl 24 4 rfl rfl (kdec dk_cX9_load 16 rfl) ?_
      refine kv_icmp_ge C 32 rfl 48 (kdec dk_cX9_load 17 rfl) (by decide) (fun d20 => ?_) (fun d20 => ?_)
      · skip
        refine kv_iload_n C 49 rfl 1 (kdec dk_cX9_load 26 rfl) rfl rfl ?_
        refine kv_if_eq C 52 rfl 65 (kdec dk_cX9_load 27 rfl) (by decide) (fun d21 => ?_) (fun d21 => ?_)
        · skip
          refine kv_aload_n C 66 rfl 0 (kdec dk_cX9_load 36 rfl) rfl rfl ?_
          refine kv_getr C 69 rfl 0 7 rfl rfl inX9 (by decide) mfl_TaleMachine_60 rfl rfl (kdec dk_cX9_load 37 rfl) ?_
          refine kv_callVNv (As := []) (rest := []) C 72 rfl 20 (k_e_begin l D τ ρ σ w_23  (kI_strong I_23 (by rw [e2]; omega)) ) rfl rfl mmn_TaleMachine_89 mim_yX1_begin mse_yX1_begin mcd_yX1_begin min_yX1_begin hd_yX1_begin rfl rfl rfl (by decide) rfl (Nat.le_of_ble_eq_true rfl) (kdec dk_cX9_load 38 rfl) (fun w22 h23 => ?_)
          obtain ⟨I24, f25, p27, p28⟩ := h23
          have I30 := kI_weak I24
          have F29 : kF [(0, some 9), (2, some 2), (2, some 3), (2, some 4), (2, some 5), (2, some 6), (2, some 7), (2, some 8), (2, some 9), (3, none), (4, none), (5, some 6), (5, some 7), (8, none), (9, none), (12, some 1), (20, some 8), (20, some 9), (20, some 10), (20, some 11), (20, some 12), (25, some 2), (34, some 2), (43, some 2), (52, some 2)] w w22 := kF_call F_23 f25 (by decide)
          obtain ⟨x31, e32⟩ : ∃ z : Int32, w22 12 1 = z := ⟨_, rfl⟩
          have b33 : (0 : Int) ≤ x31.toInt ∧ x31.toInt ≤ 2147483647 := by rw [← e32]; exact I30 12 1
          rw [e32] at p27
          obtain ⟨x34, e35⟩ : ∃ z : Int32, w22 20 10 = z := ⟨_, rfl⟩
          have b36 : (0 : Int) ≤ x34.toInt ∧ x34.toInt ≤ 4 := by rw [← e35]; exact I30 20 10
          rw [e35] at p28
          refine kv_iconst C 73 rfl 0 (kdec dk_cX9_load 39 rfl) rfl ?_
          have e37 : w22 0 9 = x4 := ((f25 0 9 rfl : w22 0 9 = w_23 0 9).trans e5)
          have e38 : w22 2 3 = x1 := ((f25 2 3 rfl : w22 2 3 = w_23 2 3).trans e2)
          have e39 : w22 14 1 = x13 := ((f25 14 1 rfl : w22 14 1 = w_23 14 1).trans e19)
          exact kv_iret C hr hlk (kdec dk_cX9_load 40 rfl) ⟨_, rfl, I30, F29, (by rw [e37]; try omega), (by rw [e35, e38]; try omega), (by rw [e8]; try omega), (by rw [e11, e14, e32, e39]; try omega)⟩
        · skip
          refine kv_aload_n C 53 rfl 0 (kdec dk_cX9_load 28 rfl) rfl rfl ?_
          refine kv_getr C 56 rfl 0 7 rfl rfl inX9 (by decide) mfl_TaleMachine_60 rfl rfl (kdec dk_cX9_load 29 rfl) ?_
          refine kv_iconst C 57 rfl 0 (kdec dk_cX9_load 30 rfl) rfl ?_
          refine kv_putN C 60 rfl 20 10 rfl rfl inX1 (by decide) mfn_TaleMachine_86 rfl tyX1 tyX1_ok nmX1 rfl rfl (kdec dk_cX9_load 31 rfl) rfl rfl (fun w40 u41 => ?_)
          have I42 : kI false w40 := kI_put u41 I_23 (show (0 : Int) ≤ (0 : Int32).toInt by omega) (show (0 : Int32).toInt ≤ 4 by omega)
          have F43 : kF [(0, some 9), (2, some 2), (2, some 3), (2, some 4), (2, some 5), (2, some 6), (2, some 7), (2, some 8), (2, some 9), (3, none), (4, none), (5, some 6), (5, some 7), (8, none), (9, none), (12, some 1), (20, some 8), (20, some 9), (20, some 10), (20, some 11), (20, some 12), (25, some 2), (34, some 2), (43, some 2), (52, some 2)] w w40 := kF_put u41 F_23 rfl
          refine kv_bipush C 62 rfl (-10) (kdec dk_cX9_load 32 rfl) rfl ?_
          refine kv_iload_n C 63 rfl 1 (kdec dk_cX9_load 33 rfl) rfl rfl ?_
          refine kv_isub C 64 rfl (kdec dk_cX9_load 34 rfl) (fun x44 q46 h45e h45 h45l h45u => ?_)
          try have h45n : x44.toInt = ((-10) : Int32).toInt - l1_23.toInt := by omega
          clear h45 q46
          have e47 : w40 0 9 = x4 := ((kup_ne u41 rfl : w40 0 9 = w_23 0 9).trans e5)
          have e48 : w40 2 3 = x1 := ((kup_ne u41 rfl : w40 2 3 = w_23 2 3).trans e2)
          have e49 : w40 12 1 = x16 := ((kup_ne u41 rfl : w40 12 1 = w_23 12 1).trans e17)
          have e50 : w40 14 1 = x13 := ((kup_ne u41 rfl : w40 14 1 = w_23 14 1).trans e19)
          exact kv_iret C hr hlk (kdec dk_cX9_load 35 rfl) ⟨_, rfl, I42, F43, (by rw [e47]; try omega), (by rw [(kup_eq u41), e48]; try omega), (by rw [e8]; try omega), (by rw [e11, e14, e49, e50]; try omega)⟩
      · skip
        refine kv_aload_n C 33 rfl 0 (kdec dk_cX9_load 18 rfl) rfl rfl ?_
        refine kv_getr C 36 rfl 0 8 rfl rfl inX9 (by decide) mfl_TaleMachine_66 rfl rfl (kdec dk_cX9_load 19 rfl) ?_
        refine kv_iload_n C 37 rfl 2 (kdec dk_cX9_load 20 rfl) rfl rfl ?_
        have d51 : (l2_23 : Int32).toInt = 0 ∨ (l2_23 : Int32).toInt = 1 ∨ (l2_23 : Int32).toInt = 2 ∨ (l2_23 : Int32).toInt = 3 := by omega
        rcases d51 with d51 | d51 | d51 | d51
        · skip
          refine kv_aldq C 38 rfl 24 0 rfl d51 rfl (by decide) (kdec dk_cX9_load 21 rfl) ?_
          refine kv_iconst C 39 rfl 0 (kdec dk_cX9_load 22 rfl) rfl ?_
          refine kv_putN C 42 rfl 25 2 rfl rfl inX5 (by decide) mfn_TaleMachine_82 rfl tyX5 tyX5_ok nmX5 rfl rfl (kdec dk_cX9_load 23 rfl) (kf_bool (by decide)) rfl (fun w52 u53 => ?_)
          have I54 : kI false w52 := kI_put u53 I_23 (show (0 : Int) ≤ (0 : Int32).toInt by omega) (show (0 : Int32).toInt ≤ 1 by omega)
          have F55 : kF [(0, some 9), (2, some 2), (2, some 3), (2, some 4), (2, some 5), (2, some 6), (2, some 7), (2, some 8), (2, some 9), (3, none), (4, none), (5, some 6), (5, some 7), (8, none), (9, none), (12, some 1), (20, some 8), (20, some 9), (20, some 10), (20, some 11), (20, some 12), (25, some 2), (34, some 2), (43, some 2), (52, some 2)] w w52 := kF_put u53 F_23 rfl
          refine kv_iinc C 45 rfl 2 2 [1, 2, 0] (fun v9 => [(0, .ref (ρ 0)), (1, .int l1_23), (2, .int v9)]) (kdec dk_cX9_load 24 rfl) rfl (by decide) (fun _ => rfl) 1 rfl (fun x56 q57 h58e h58 h58l h58u => ?_)
          try have h58n : x56.toInt = l2_23.toInt + 1 := by omega
          clear h58 q57
          refine kv_goto C 23 (kdec dk_cX9_load 25 rfl) (by decide) ?_
          have e59 : w52 2 3 = x1 := ((kup_ne u53 rfl : w52 2 3 = w_23 2 3).trans e2)
          have e60 : w52 0 9 = x4 := ((kup_ne u53 rfl : w52 0 9 = w_23 0 9).trans e5)
          have e61 : w52 12 1 = x16 := ((kup_ne u53 rfl : w52 12 1 = w_23 12 1).trans e17)
          have e62 : w52 14 1 = x13 := ((kup_ne u53 rfl : w52 14 1 = w_23 14 1).trans e19)
          exact ih23 w52 l1_23 x56 I54 F55 (by omega) (by omega) (by rw [e59]; try omega) (by rw [e60]; try omega) (by rw [e8]; try omega) (by rw [e11, e14, e61, e62]; try omega) (by omega)
        · skip
          refine kv_aldq C 38 rfl 24 1 rfl d51 rfl (by decide) (kdec dk_cX9_load 21 rfl) ?_
          refine kv_iconst C 39 rfl 0 (kdec dk_cX9_load 22 rfl) rfl ?_
          refine kv_putN C 42 rfl 34 2 rfl rfl inX5 (by decide) mfn_TaleMachine_82 rfl tyX5 tyX5_ok nmX5 rfl rfl (kdec dk_cX9_load 23 rfl) (kf_bool (by decide)) rfl (fun w63 u64 => ?_)
          have I65 : kI false w63 := kI_put u64 I_23 (show (0 : Int) ≤ (0 : Int32).toInt by omega) (show (0 : Int32).toInt ≤ 1 by omega)
          have F66 : kF [(0, some 9), (2, some 2), (2, some 3), (2, some 4), (2, some 5), (2, some 6), (2, some 7), (2, some 8), (2, some 9), (3, none), (4, none), (5, some 6), (5, some 7), (8, none), (9, none), (12, some 1), (20, some 8), (20, some 9), (20, some 10), (20, some 11), (20, some 12), (25, some 2), (34, some 2), (43, some 2), (52, some 2)] w w63 := kF_put u64 F_23 rfl
          refine kv_iinc C 45 rfl 2 2 [1, 2, 0] (fun v9 => [(0, .ref (ρ 0)), (1, .int l1_23), (2, .int v9)]) (kdec dk_cX9_load 24 rfl) rfl (by decide) (fun _ => rfl) 1 rfl (fun x67 q68 h69e h69 h69l h69u => ?_)
          try have h69n : x67.toInt = l2_23.toInt + 1 := by omega
          clear h69 q68
          refine kv_goto C 23 (kdec dk_cX9_load 25 rfl) (by decide) ?_
          have e70 : w63 2 3 = x1 := ((kup_ne u64 rfl : w63 2 3 = w_23 2 3).trans e2)
          have e71 : w63 0 9 = x4 := ((kup_ne u64 rfl : w63 0 9 = w_23 0 9).trans e5)
          have e72 : w63 12 1 = x16 := ((kup_ne u64 rfl : w63 12 1 = w_23 12 1).trans e17)
          have e73 : w63 14 1 = x13 := ((kup_ne u64 rfl : w63 14 1 = w_23 14 1).trans e19)
          exact ih23 w63 l1_23 x67 I65 F66 (by omega) (by omega) (by rw [e70]; try omega) (by rw [e71]; try omega) (by rw [e8]; try omega) (by rw [e11, e14, e72, e73]; try omega) (by omega)
        · skip
          refine kv_aldq C 38 rfl 24 2 rfl d51 rfl (by decide) (kdec dk_cX9_load 21 rfl) ?_
          refine kv_iconst C 39 rfl 0 (kdec dk_cX9_load 22 rfl) rfl ?_
          refine kv_putN C 42 rfl 43 2 rfl rfl inX5 (by decide) mfn_TaleMachine_82 rfl tyX5 tyX5_ok nmX5 rfl rfl (kdec dk_cX9_load 23 rfl) (kf_bool (by decide)) rfl (fun w74 u75 => ?_)
          have I76 : kI false w74 := kI_put u75 I_23 (show (0 : Int) ≤ (0 : Int32).toInt by omega) (show (0 : Int32).toInt ≤ 1 by omega)
          have F77 : kF [(0, some 9), (2, some 2), (2, some 3), (2, some 4), (2, some 5), (2, some 6), (2, some 7), (2, some 8), (2, some 9), (3, none), (4, none), (5, some 6), (5, some 7), (8, none), (9, none), (12, some 1), (20, some 8), (20, some 9), (20, some 10), (20, some 11), (20, some 12), (25, some 2), (34, some 2), (43, some 2), (52, some 2)] w w74 := kF_put u75 F_23 rfl
          refine kv_iinc C 45 rfl 2 2 [1, 2, 0] (fun v9 => [(0, .ref (ρ 0)), (1, .int l1_23), (2, .int v9)]) (kdec dk_cX9_load 24 rfl) rfl (by decide) (fun _ => rfl) 1 rfl (fun x78 q79 h80e h80 h80l h80u => ?_)
          try have h80n : x78.toInt = l2_23.toInt + 1 := by omega
          clear h80 q79
          refine kv_goto C 23 (kdec dk_cX9_load 25 rfl) (by decide) ?_
          have e81 : w74 2 3 = x1 := ((kup_ne u75 rfl : w74 2 3 = w_23 2 3).trans e2)
          have e82 : w74 0 9 = x4 := ((kup_ne u75 rfl : w74 0 9 = w_23 0 9).trans e5)
          have e83 : w74 12 1 = x16 := ((kup_ne u75 rfl : w74 12 1 = w_23 12 1).trans e17)
          have e84 : w74 14 1 = x13 := ((kup_ne u75 rfl : w74 14 1 = w_23 14 1).trans e19)
          exact ih23 w74 l1_23 x78 I76 F77 (by omega) (by omega) (by rw [e81]; try omega) (by rw [e82]; try omega) (by rw [e8]; try omega) (by rw [e11, e14, e83, e84]; try omega) (by omega)
        · skip
          refine kv_aldq C 38 rfl 24 3 rfl d51 rfl (by decide) (kdec dk_cX9_load 21 rfl) ?_
          refine kv_iconst C 39 rfl 0 (kdec dk_cX9_load 22 rfl) rfl ?_
          refine kv_putN C 42 rfl 52 2 rfl rfl inX5 (by decide) mfn_TaleMachine_82 rfl tyX5 tyX5_ok nmX5 rfl rfl (kdec dk_cX9_load 23 rfl) (kf_bool (by decide)) rfl (fun w85 u86 => ?_)
          have I87 : kI false w85 := kI_put u86 I_23 (show (0 : Int) ≤ (0 : Int32).toInt by omega) (show (0 : Int32).toInt ≤ 1 by omega)
          have F88 : kF [(0, some 9), (2, some 2), (2, some 3), (2, some 4), (2, some 5), (2, some 6), (2, some 7), (2, some 8), (2, some 9), (3, none), (4, none), (5, some 6), (5, some 7), (8, none), (9, none), (12, some 1), (20, some 8), (20, some 9), (20, some 10), (20, some 11), (20, some 12), (25, some 2), (34, some 2), (43, some 2), (52, some 2)] w w85 := kF_put u86 F_23 rfl
          refine kv_iinc C 45 rfl 2 2 [1, 2, 0] (fun v9 => [(0, .ref (ρ 0)), (1, .int l1_23), (2, .int v9)]) (kdec dk_cX9_load 24 rfl) rfl (by decide) (fun _ => rfl) 1 rfl (fun x89 q90 h91e h91 h91l h91u => ?_)
          try have h91n : x89.toInt = l2_23.toInt + 1 := by omega
          clear h91 q90
          refine kv_goto C 23 (kdec dk_cX9_load 25 rfl) (by decide) ?_
          have e92 : w85 2 3 = x1 := ((kup_ne u86 rfl : w85 2 3 = w_23 2 3).trans e2)
          have e93 : w85 0 9 = x4 := ((kup_ne u86 rfl : w85 0 9 = w_23 0 9).trans e5)
          have e94 : w85 12 1 = x16 := ((kup_ne u86 rfl : w85 12 1 = w_23 12 1).trans e17)
          have e95 : w85 14 1 = x13 := ((kup_ne u86 rfl : w85 14 1 = w_23 14 1).trans e19)
          exact ih23 w85 l1_23 x89 I87 F88 (by omega) (by omega) (by rw [e92]; try omega) (by rw [e93]; try omega) (by rw [e8]; try omega) (by rw [e11, e14, e94, e95]; try omega) (by omega)
  refine kv_aload_n C 1 rfl 0 (kdec dk_cX9_load 0 rfl) rfl rfl ?_
  refine kv_getr C 4 rfl 0 1 rfl rfl inX9 (by decide) mfl_TaleMachine_16 rfl rfl (kdec dk_cX9_load 1 rfl) ?_
  refine kv_aload_n C 5 rfl 0 (kdec dk_cX9_load 2 rfl) rfl rfl ?_
  refine kv_getr C 8 rfl 0 0 rfl rfl inX9 (by decide) mfl_TaleMachine_9 rfl rfl (kdec dk_cX9_load 3 rfl) ?_
  refine kv_aload_n C 9 rfl 0 (kdec dk_cX9_load 4 rfl) rfl rfl ?_
  obtain ⟨x96, e97⟩ : ∃ z : Int32, w 0 9 = z := ⟨_, rfl⟩
  have b98 : (0 : Int) ≤ x96.toInt ∧ x96.toInt ≤ 1024 := by rw [← e97]; exact hI 0 9
  refine kv_get C 12 rfl 0 9 rfl rfl inX9 (by decide) mfl_TaleMachine_71 rfl rfl (kdec dk_cX9_load 5 rfl) e97 ?_
  refine kv_callVNi (As := [.ref (ρ 1), .int x96]) (rest := []) C 15 rfl 2 (k_take l D τ ρ σ w x96 hI (by omega)) rfl rfl mmn_TaleMachine_78 mim_yX6_take mse_yX6_take mcd_yX6_take min_yX6_take hd_yX6_take rfl rfl rfl (by decide) rfl (Nat.le_of_ble_eq_true rfl) (kdec dk_cX9_load 6 rfl) (fun x103 w99 h100 => ?_)
  obtain ⟨I101, f102, p104, p105, p106⟩ := h100
  have F107 : kF [(0, some 9), (2, some 2), (2, some 3), (2, some 4), (2, some 5), (2, some 6), (2, some 7), (2, some 8), (2, some 9), (3, none), (4, none), (5, some 6), (5, some 7), (8, none), (9, none), (12, some 1), (20, some 8), (20, some 9), (20, some 10), (20, some 11), (20, some 12), (25, some 2), (34, some 2), (43, some 2), (52, some 2)] w w99 := kF_call hF0 f102 (by decide)
  have g108 := kf_rng x103
  obtain ⟨x109, e110⟩ : ∃ z : Int32, w99 2 3 = z := ⟨_, rfl⟩
  have b111 : (0 : Int) ≤ x109.toInt ∧ x109.toInt ≤ 65535 := by rw [← e110]; exact I101 2 3
  rw [e110] at p105
  refine kv_istore_n C 16 rfl 1 [1, 0] [(0, .ref (ρ 0)), (1, .int x103)] (kdec dk_cX9_load 7 rfl) rfl (by decide) rfl ?_
  refine kv_aload_n C 17 rfl 0 (kdec dk_cX9_load 8 rfl) rfl rfl ?_
  refine kv_iconst C 18 rfl 0 (kdec dk_cX9_load 9 rfl) rfl ?_
  refine kv_put C 21 rfl 0 9 rfl rfl inX9 (by decide) mfl_TaleMachine_71 rfl tyX9 tyX9_ok nmX9 rfl rfl (kdec dk_cX9_load 10 rfl) rfl rfl (fun w112 u113 => ?_)
  have I114 : kI false w112 := kI_put u113 I101 (show (0 : Int) ≤ (0 : Int32).toInt by omega) (show (0 : Int32).toInt ≤ 1024 by omega)
  have F115 : kF [(0, some 9), (2, some 2), (2, some 3), (2, some 4), (2, some 5), (2, some 6), (2, some 7), (2, some 8), (2, some 9), (3, none), (4, none), (5, some 6), (5, some 7), (8, none), (9, none), (12, some 1), (20, some 8), (20, some 9), (20, some 10), (20, some 11), (20, some 12), (25, some 2), (34, some 2), (43, some 2), (52, some 2)] w w112 := kF_put u113 F107 rfl
  refine kv_iconst C 22 rfl 0 (kdec dk_cX9_load 11 rfl) rfl ?_
  refine kv_istore_n C 23 rfl 2 [1, 2, 0] [(0, .ref (ρ 0)), (1, .int x103), (2, .int 0)] (kdec dk_cX9_load 12 rfl) rfl (by decide) rfl ?_
  have e116 : w112 2 3 = x109 := ((kup_ne u113 rfl : w112 2 3 = w99 2 3).trans e110)
  obtain ⟨x117, e118⟩ : ∃ z : Int32, w 12 1 = z := ⟨_, rfl⟩
  have b119 : (0 : Int) ≤ x117.toInt ∧ x117.toInt ≤ 2147483647 := by rw [← e118]; exact hI 12 1
  obtain ⟨x120, e121⟩ : ∃ z : Int32, w 14 1 = z := ⟨_, rfl⟩
  have b122 : (0 : Int) ≤ x120.toInt ∧ x120.toInt ≤ 2147483647 := by rw [← e121]; exact hI 14 1
  have e123 : w112 12 1 = x117 := ((kup_ne u113 rfl : w112 12 1 = w99 12 1).trans ((f102 12 1 rfl : w99 12 1 = w 12 1).trans e118))
  have e124 : w112 14 1 = x120 := ((kup_ne u113 rfl : w112 14 1 = w99 14 1).trans ((f102 14 1 rfl : w99 14 1 = w 14 1).trans e121))
  exact cut23 ((((5 - (0 : Int32).toInt)) : Int).toNat + 1) w112 x103 0 I114 F115 (by omega) (by omega) (by rw [e116]; try omega) (by rw [(kup_eq u113)]; try omega) (by rw [e97]; try omega) (by rw [e118, e121, e123, e124]; try omega) (by omega)

set_option maxHeartbeats 4000000 in
set_option maxRecDepth 100000 in
theorem k_m_run (l : Launch) (D : va_G) (τ : Nat → ClassId) (ρ σ : Nat → Nat) (w : kw) (a1 : Int32) (hI : kI false w) (hp0 : (w 20 10).toInt = 0 ∨ (w 2 3).toInt ≤ 1024) (hp1 : (w 12 1).toInt ≤ 2000000000 ∧ (w 14 1).toInt ≤ 2000000000) :
    kM l D τ ρ σ yX9_run cX9_run 3 (some .int) { frames := 10, cells := 0, slots := 0, locals := 360 } [.ref (ρ 0), .int a1] w
      (fun o w' => ∃ r : Int32, o = some (.int r) ∧ kI false w' ∧ kF [(2, some 9), (3, none), (5, some 6), (5, some 7), (6, none), (7, none), (8, none), (9, none), (10, none), (11, none), (12, some 1), (13, none), (14, some 1), (15, none), (16, some 1), (16, some 2), (16, some 3), (16, some 4), (16, some 5), (16, some 6), (16, some 7), (16, some 8), (16, some 9), (16, some 10), (16, some 11), (16, some 12), (16, some 13), (20, some 7), (20, some 8), (20, some 9), (20, some 10), (20, some 11), (20, some 12), (20, some 13), (20, some 14), (20, some 15), (20, some 16), (23, none)] w w' ∧ ((w' 20 10).toInt = 0 ∨ (w' 2 3).toInt ≤ 1024) ∧ ((w' 12 1).toInt ≤ (w 12 1).toInt + 150300 ∧ (w' 14 1).toInt ≤ (w 14 1).toInt + 150300) ∧ (¬ (w 20 10).toInt = 0 ∨ (a1.toInt < 0 ∨ 300 < a1.toInt) ∧ r.toInt = -1 ∨ 0 ≤ a1.toInt ∧ a1.toInt ≤ 300 ∧ r.toInt = -2)) := by
  refine kM_of (own := "TaleMachine") rfl (by decide) (Nat.le_of_ble_eq_true rfl) ?_
  intro p e s m args below meth c C hr hlk
  have hF0 : kF [(2, some 9), (3, none), (5, some 6), (5, some 7), (6, none), (7, none), (8, none), (9, none), (10, none), (11, none), (12, some 1), (13, none), (14, some 1), (15, none), (16, some 1), (16, some 2), (16, some 3), (16, some 4), (16, some 5), (16, some 6), (16, some 7), (16, some 8), (16, some 9), (16, some 10), (16, some 11), (16, some 12), (16, some 13), (20, some 7), (20, some 8), (20, some 9), (20, some 10), (20, some 11), (20, some 12), (20, some 13), (20, some 14), (20, some 15), (20, some 16), (23, none)] w w := kF.rf
  have c_m2 : (-2 : Int32).toInt = -2 := by decide
  have c_m1 : (-1 : Int32).toInt = -1 := by decide
  have c_0 : (0 : Int32).toInt = 0 := by decide
  have c_1 : (1 : Int32).toInt = 1 := by decide
  have c_300 : (300 : Int32).toInt = 300 := by decide
  refine kV.L (L' := [(0, .ref (ρ 0)), (1, .int a1)]) rfl ?_
  obtain ⟨x1, e2⟩ : ∃ z : Int32, w 20 10 = z := ⟨_, rfl⟩
  have b3 : (0 : Int) ≤ x1.toInt ∧ x1.toInt ≤ 4 := by rw [← e2]; exact hI 20 10
  obtain ⟨x4, e5⟩ : ∃ z : Int32, w 2 3 = z := ⟨_, rfl⟩
  have b6 : (0 : Int) ≤ x4.toInt ∧ x4.toInt ≤ 65535 := by rw [← e5]; exact hI 2 3
  rw [e2, e5] at hp0
  obtain ⟨x7, e8⟩ : ∃ z : Int32, w 12 1 = z := ⟨_, rfl⟩
  have b9 : (0 : Int) ≤ x7.toInt ∧ x7.toInt ≤ 2147483647 := by rw [← e8]; exact hI 12 1
  obtain ⟨x10, e11⟩ : ∃ z : Int32, w 14 1 = z := ⟨_, rfl⟩
  have b12 : (0 : Int) ≤ x10.toInt ∧ x10.toInt ≤ 2147483647 := by rw [← e11]; exact hI 14 1
  rw [e8, e11] at hp1
  have g13 := kf_rng a1
  have cut29 : ∀ (n_29 : Nat) (w_29 : kw) (l1_29 l2_29 : Int32), kI false w_29 → kF [(2, some 9), (3, none), (5, some 6), (5, some 7), (6, none), (7, none), (8, none), (9, none), (10, none), (11, none), (12, some 1), (13, none), (14, some 1), (15, none), (16, some 1), (16, some 2), (16, some 3), (16, some 4), (16, some 5), (16, some 6), (16, some 7), (16, some 8), (16, some 9), (16, some 10), (16, some 11), (16, some 12), (16, some 13), (20, some 7), (20, some 8), (20, some 9), (20, some 10), (20, some 11), (20, some 12), (20, some 13), (20, some 14), (20, some 15), (20, some 16), (23, none)] w w_29 → (0 ≤ l2_29.toInt ∧ l2_29.toInt ≤ 300) → (l1_29.toInt ≤ 300) → ((w_29 2 3).toInt ≤ 1024) → ((w_29 12 1).toInt ≤ (w 12 1).toInt + 501 * l2_29.toInt ∧ (w_29 14 1).toInt ≤ (w 14 1).toInt + 501 * l2_29.toInt) → ((w 20 10).toInt = 1) → ((301 - l2_29.toInt) : Int) < (n_29 : Int) → kV p l e { frames := 10, cells := 0, slots := 0, locals := 360 } s m args below meth c (kQ below args s D τ ρ (fun o w' => ∃ r : Int32, o = some (.int r) ∧ kI false w' ∧ kF [(2, some 9), (3, none), (5, some 6), (5, some 7), (6, none), (7, none), (8, none), (9, none), (10, none), (11, none), (12, some 1), (13, none), (14, some 1), (15, none), (16, some 1), (16, some 2), (16, some 3), (16, some 4), (16, some 5), (16, some 6), (16, some 7), (16, some 8), (16, some 9), (16, some 10), (16, some 11), (16, some 12), (16, some 13), (20, some 7), (20, some 8), (20, some 9), (20, some 10), (20, some 11), (20, some 12), (20, some 13), (20, some 14), (20, some 15), (20, some 16), (23, none)] w w' ∧ ((w' 20 10).toInt = 0 ∨ (w' 2 3).toInt ≤ 1024) ∧ ((w' 12 1).toInt ≤ (w 12 1).toInt + 150300 ∧ (w' 14 1).toInt ≤ (w 14 1).toInt + 150300) ∧ (¬ (w 20 10).toInt = 0 ∨ (a1.toInt < 0 ∨ 300 < a1.toInt) ∧ r.toInt = -1 ∨ 0 ≤ a1.toInt ∧ a1.toInt ≤ 300 ∧ r.toInt = -2))) 3 D τ ρ 29 [(0, .ref (ρ 0)), (1, .int l1_29), (2, .int l2_29)] [] w_29 := by
    intro n_29
    induction n_29 with
    | zero => intro w_29 l1_29 l2_29 I_29 F_29 k29_0 k29_1 k29_2 k29_3 k29_4 hmz; exfalso; omega
    | succ n_29 ih29 =>
      intro w_29 l1_29 l2_29 I_29 F_29 k29_0 k29_1 k29_2 k29_3 k29_4 hm29
      have gl1_29 := kf_rng l1_29
      have gl2_29 := kf_rng l2_29
      have e14 : w_29 2 3 = x4 := ((F_29 2 3 rfl : w_29 2 3 = w 2 3).trans e5)
      rw [e14] at k29_2
      obtain ⟨x15, e16⟩ : ∃ z : Int32, w_29 12 1 = z := ⟨_, rfl⟩
      have b17 : (0 : Int) ≤ x15.toInt ∧ x15.toInt ≤ 2147483647 := by rw [← e16]; exact I_29 12 1
      obtain ⟨x18, e19⟩ : ∃ z : Int32, w_29 14 1 = z := ⟨_, rfl⟩
      have b20 : (0 : Int) ≤ x18.toInt ∧ x18.toInt ≤ 2147483647 := by rw [← e19]; exact I_29 14 1
      rw [e8, e11, e16, e19] at k29_3
      rw [e2] at k29_4
      refine kv_iload_n C 30 rfl 2 (kdec dk_cX9_run 16 rfl) rfl rfl ?_
      refine kv_iload_n C 31 rfl 1 (kdec dk_cX9_run 17 rfl) rfl rfl ?_
      refine kv_icmp_ge C 34 rfl 58 (kdec dk_cX9_run 18 rfl) (by decide) (fun d21 => ?_) (fun d21 => ?_)
      · skip
        refine kv_aload_n C 59 rfl 0 (kdec dk_cX9_run 29 rfl) rfl rfl ?_
        refine kv_getr C 62 rfl 0 7 rfl rfl inX9 (by decide) mfl_TaleMachine_60 rfl rfl (kdec dk_cX9_run 30 rfl) ?_
        obtain ⟨x22, e23⟩ : ∃ z : Int32, w_29 20 10 = z := ⟨_, rfl⟩
        have b24 : (0 : Int) ≤ x22.toInt ∧ x22.toInt ≤ 4 := by rw [← e23]; exact I_29 20 10
        refine kv_getN C 65 rfl 20 10 rfl rfl inX1 (by decide) mfn_TaleMachine_86 rfl rfl (kdec dk_cX9_run 31 rfl) e23 ?_
        exact kv_iret C hr hlk (kdec dk_cX9_run 32 rfl) ⟨_, rfl, I_29, F_29, (by rw [e23, e14]; try omega), (by rw [e8, e11, e16, e19]; try omega), (by rw [e2]; try omega)⟩
      · skip
        refine kv_aload_n C 35 rfl 0 (kdec dk_cX9_run 19 rfl) rfl rfl ?_
        refine kv_getr C 38 rfl 0 7 rfl rfl inX9 (by decide) mfl_TaleMachine_60 rfl rfl (kdec dk_cX9_run 20 rfl) ?_
        obtain ⟨x25, e26⟩ : ∃ z : Int32, w_29 20 10 = z := ⟨_, rfl⟩
        have b27 : (0 : Int) ≤ x25.toInt ∧ x25.toInt ≤ 4 := by rw [← e26]; exact I_29 20 10
        refine kv_getN C 41 rfl 20 10 rfl rfl inX1 (by decide) mfn_TaleMachine_86 rfl rfl (kdec dk_cX9_run 21 rfl) e26 ?_
        refine kv_iconst C 42 rfl 1 (kdec dk_cX9_run 22 rfl) rfl ?_
        refine kv_icmp_ne C 45 rfl 58 (kdec dk_cX9_run 23 rfl) (by decide) (fun d28 => ?_) (fun d28 => ?_)
        · skip
          refine kv_aload_n C 59 rfl 0 (kdec dk_cX9_run 29 rfl) rfl rfl ?_
          refine kv_getr C 62 rfl 0 7 rfl rfl inX9 (by decide) mfl_TaleMachine_60 rfl rfl (kdec dk_cX9_run 30 rfl) ?_
          refine kv_getN C 65 rfl 20 10 rfl rfl inX1 (by decide) mfn_TaleMachine_86 rfl rfl (kdec dk_cX9_run 31 rfl) e26 ?_
          exact kv_iret C hr hlk (kdec dk_cX9_run 32 rfl) ⟨_, rfl, I_29, F_29, (by rw [e26, e14]; try omega), (by rw [e8, e11, e16, e19]; try omega), (by rw [e2]; try omega)⟩
        · skip
          refine kv_aload_n C 46 rfl 0 (kdec dk_cX9_run 24 rfl) rfl rfl ?_
          refine kv_getr C 49 rfl 0 7 rfl rfl inX9 (by decide) mfl_TaleMachine_60 rfl rfl (kdec dk_cX9_run 25 rfl) ?_
          refine kv_callVNv (As := []) (rest := []) C 52 rfl 20 (k_e_obey l D τ ρ σ w_29  (kI_strong I_29 (by rw [e14]; omega)) (by rw [e16, e19]; try omega)) rfl rfl mmn_TaleMachine_92 mim_yX1_obey mse_yX1_obey mcd_yX1_obey min_yX1_obey hd_yX1_obey rfl rfl rfl (by decide) rfl (Nat.le_of_ble_eq_true rfl) (kdec dk_cX9_run 26 rfl) (fun w29 h30 => ?_)
          obtain ⟨I31, f32, p34⟩ := h30
          have I36 := kI_weak I31
          have F35 : kF [(2, some 9), (3, none), (5, some 6), (5, some 7), (6, none), (7, none), (8, none), (9, none), (10, none), (11, none), (12, some 1), (13, none), (14, some 1), (15, none), (16, some 1), (16, some 2), (16, some 3), (16, some 4), (16, some 5), (16, some 6), (16, some 7), (16, some 8), (16, some 9), (16, some 10), (16, some 11), (16, some 12), (16, some 13), (20, some 7), (20, some 8), (20, some 9), (20, some 10), (20, some 11), (20, some 12), (20, some 13), (20, some 14), (20, some 15), (20, some 16), (23, none)] w w29 := kF_call F_29 f32 (by decide)
          obtain ⟨x37, e38⟩ : ∃ z : Int32, w29 12 1 = z := ⟨_, rfl⟩
          have b39 : (0 : Int) ≤ x37.toInt ∧ x37.toInt ≤ 2147483647 := by rw [← e38]; exact I36 12 1
          obtain ⟨x40, e41⟩ : ∃ z : Int32, w29 14 1 = z := ⟨_, rfl⟩
          have b42 : (0 : Int) ≤ x40.toInt ∧ x40.toInt ≤ 2147483647 := by rw [← e41]; exact I36 14 1
          rw [e16, e19, e38, e41] at p34
          refine kv_iinc C 55 rfl 2 2 [1, 2, 0] (fun v9 => [(0, .ref (ρ 0)), (1, .int l1_29), (2, .int v9)]) (kdec dk_cX9_run 27 rfl) rfl (by decide) (fun _ => rfl) 1 rfl (fun x43 q44 h45e h45 h45l h45u => ?_)
          try have h45n : x43.toInt = l2_29.toInt + 1 := by omega
          clear h45 q44
          refine kv_goto C 29 (kdec dk_cX9_run 28 rfl) (by decide) ?_
          have e46 : w29 2 3 = x4 := ((f32 2 3 rfl : w29 2 3 = w_29 2 3).trans e14)
          exact ih29 w29 l1_29 x43 I36 F35 (by omega) (by omega) (by rw [e46]; try omega) (by rw [e8, e11, e38, e41]; try omega) (by rw [e2]; try omega) (by omega)
  refine kv_iload_n C 1 rfl 1 (kdec dk_cX9_run 0 rfl) rfl rfl ?_
  refine kv_if_lt C 4 rfl 11 (kdec dk_cX9_run 1 rfl) (by decide) (fun d47 => ?_) (fun d47 => ?_)
  · skip
    refine kv_iconst C 12 rfl (-1) (kdec dk_cX9_run 5 rfl) rfl ?_
    exact kv_iret C hr hlk (kdec dk_cX9_run 6 rfl) ⟨_, rfl, hI, hF0, (by rw [e2, e5]; try omega), (by rw [e8, e11]; try omega), (by rw [e2]; try omega)⟩
  · skip
    refine kv_iload_n C 5 rfl 1 (kdec dk_cX9_run 2 rfl) rfl rfl ?_
    refine kv_sipush C 8 rfl 300 (kdec dk_cX9_run 3 rfl) rfl ?_
    refine kv_icmp_le C 11 rfl 13 (kdec dk_cX9_run 4 rfl) (by decide) (fun d48 => ?_) (fun d48 => ?_)
    · skip
      refine kv_aload_n C 14 rfl 0 (kdec dk_cX9_run 7 rfl) rfl rfl ?_
      refine kv_getr C 17 rfl 0 7 rfl rfl inX9 (by decide) mfl_TaleMachine_60 rfl rfl (kdec dk_cX9_run 8 rfl) ?_
      refine kv_getN C 20 rfl 20 10 rfl rfl inX1 (by decide) mfn_TaleMachine_86 rfl rfl (kdec dk_cX9_run 9 rfl) e2 ?_
      refine kv_iconst C 21 rfl 1 (kdec dk_cX9_run 10 rfl) rfl ?_
      refine kv_icmp_eq C 24 rfl 27 (kdec dk_cX9_run 11 rfl) (by decide) (fun d49 => ?_) (fun d49 => ?_)
      · skip
        refine kv_iconst C 28 rfl 0 (kdec dk_cX9_run 14 rfl) rfl ?_
        refine kv_istore_n C 29 rfl 2 [1, 2, 0] [(0, .ref (ρ 0)), (1, .int a1), (2, .int 0)] (kdec dk_cX9_run 15 rfl) rfl (by decide) rfl ?_
        exact cut29 ((((301 - (0 : Int32).toInt)) : Int).toNat + 1) w a1 0 hI hF0 (by omega) (by omega) (by rw [e5]; try omega) (by rw [e8, e11]; try omega) (by rw [e2]; try omega) (by omega)
      · skip
        refine kv_bipush C 26 rfl (-2) (kdec dk_cX9_run 12 rfl) rfl ?_
        exact kv_iret C hr hlk (kdec dk_cX9_run 13 rfl) ⟨_, rfl, hI, hF0, (by rw [e2, e5]; try omega), (by rw [e8, e11]; try omega), (by rw [e2]; try omega)⟩
    · skip
      refine kv_iconst C 12 rfl (-1) (kdec dk_cX9_run 5 rfl) rfl ?_
      exact kv_iret C hr hlk (kdec dk_cX9_run 6 rfl) ⟨_, rfl, hI, hF0, (by rw [e2, e5]; try omega), (by rw [e8, e11]; try omega), (by rw [e2]; try omega)⟩

set_option maxHeartbeats 4000000 in
set_option maxRecDepth 100000 in
theorem k_m_state (l : Launch) (D : va_G) (τ : Nat → ClassId) (ρ σ : Nat → Nat) (w : kw)  (hI : kI false w)  :
    kM l D τ ρ σ yX9_state cX9_state 1 (some .int) { frames := 0, cells := 0, slots := 0, locals := 0 } [.ref (ρ 0)] w
      (fun o w' => ∃ r : Int32, o = some (.int r) ∧ kI false w' ∧ kF [] w w' ∧ (r.toInt = (w 20 10).toInt)) := by
  refine kM_of (own := "TaleMachine") rfl (by decide) (Nat.le_of_ble_eq_true rfl) ?_
  intro p e s m args below meth c C hr hlk
  have hF0 : kF [] w w := kF.rf
  refine kV.L (L' := [(0, .ref (ρ 0))]) rfl ?_
  refine kv_aload_n C 1 rfl 0 (kdec dk_cX9_state 0 rfl) rfl rfl ?_
  refine kv_getr C 4 rfl 0 7 rfl rfl inX9 (by decide) mfl_TaleMachine_60 rfl rfl (kdec dk_cX9_state 1 rfl) ?_
  obtain ⟨x1, e2⟩ : ∃ z : Int32, w 20 10 = z := ⟨_, rfl⟩
  have b3 : (0 : Int) ≤ x1.toInt ∧ x1.toInt ≤ 4 := by rw [← e2]; exact hI 20 10
  refine kv_getN C 7 rfl 20 10 rfl rfl inX1 (by decide) mfn_TaleMachine_86 rfl rfl (kdec dk_cX9_state 2 rfl) e2 ?_
  exact kv_iret C hr hlk (kdec dk_cX9_state 3 rfl) ⟨_, rfl, hI, hF0, (by rw [e2]; try omega)⟩

set_option maxHeartbeats 4000000 in
set_option maxRecDepth 100000 in
theorem k_m_line (l : Launch) (D : va_G) (τ : Nat → ClassId) (ρ σ : Nat → Nat) (w : kw) (a1 : Int32) (a2 : Int32) (hI : kI false w) (hp0 : (w 20 10).toInt = 0 ∨ (w 2 3).toInt ≤ 1024) :
    kM l D τ ρ σ yX9_line cX9_line 4 (some .int) { frames := 7, cells := 0, slots := 0, locals := 252 } [.ref (ρ 0), .int a1, .int a2] w
      (fun o w' => ∃ r : Int32, o = some (.int r) ∧ kI false w' ∧ kF [(2, some 9), (3, none), (17, some 3), (17, some 4), (17, some 5), (17, some 6), (17, some 7), (18, none), (19, none), (20, some 10)] w w' ∧ ((w' 20 10).toInt = 0 ∨ (w' 2 3).toInt ≤ 1024) ∧ ((w 20 10).toInt = 3 ∨ r.toInt = -2)) := by
  refine kM_of (own := "TaleMachine") rfl (by decide) (Nat.le_of_ble_eq_true rfl) ?_
  intro p e s m args below meth c C hr hlk
  have hF0 : kF [(2, some 9), (3, none), (17, some 3), (17, some 4), (17, some 5), (17, some 6), (17, some 7), (18, none), (19, none), (20, some 10)] w w := kF.rf
  have c_m10 : (-10 : Int32).toInt = -10 := by decide
  have c_m2 : (-2 : Int32).toInt = -2 := by decide
  have c_1 : (1 : Int32).toInt = 1 := by decide
  have c_3 : (3 : Int32).toInt = 3 := by decide
  have c_4 : (4 : Int32).toInt = 4 := by decide
  refine kV.L (L' := [(0, .ref (ρ 0)), (1, .int a1), (2, .int a2)]) rfl ?_
  obtain ⟨x1, e2⟩ : ∃ z : Int32, w 20 10 = z := ⟨_, rfl⟩
  have b3 : (0 : Int) ≤ x1.toInt ∧ x1.toInt ≤ 4 := by rw [← e2]; exact hI 20 10
  obtain ⟨x4, e5⟩ : ∃ z : Int32, w 2 3 = z := ⟨_, rfl⟩
  have b6 : (0 : Int) ≤ x4.toInt ∧ x4.toInt ≤ 65535 := by rw [← e5]; exact hI 2 3
  rw [e2, e5] at hp0
  have g7 := kf_rng a1
  have g8 := kf_rng a2
  refine kv_aload_n C 1 rfl 0 (kdec dk_cX9_line 0 rfl) rfl rfl ?_
  refine kv_getr C 4 rfl 0 7 rfl rfl inX9 (by decide) mfl_TaleMachine_60 rfl rfl (kdec dk_cX9_line 1 rfl) ?_
  refine kv_getN C 7 rfl 20 10 rfl rfl inX1 (by decide) mfn_TaleMachine_86 rfl rfl (kdec dk_cX9_line 2 rfl) e2 ?_
  refine kv_iconst C 8 rfl 3 (kdec dk_cX9_line 3 rfl) rfl ?_
  refine kv_icmp_eq C 11 rfl 14 (kdec dk_cX9_line 4 rfl) (by decide) (fun d9 => ?_) (fun d9 => ?_)
  · skip
    refine kv_aload_n C 15 rfl 0 (kdec dk_cX9_line 7 rfl) rfl rfl ?_
    refine kv_getr C 18 rfl 0 6 rfl rfl inX9 (by decide) mfl_TaleMachine_51 rfl rfl (kdec dk_cX9_line 8 rfl) ?_
    refine kv_iload_n C 19 rfl 1 (kdec dk_cX9_line 9 rfl) rfl rfl ?_
    refine kv_iload_n C 20 rfl 2 (kdec dk_cX9_line 10 rfl) rfl rfl ?_
    refine kv_callVNv (As := [.int a1, .int a2]) (rest := []) C 23 rfl 17 (k_r_hear l D τ ρ σ w a1 a2 (kI_strong hI (by rw [e5]; omega)) ) rfl rfl mmn_TaleMachine_95 mim_yX4_hear mse_yX4_hear mcd_yX4_hear min_yX4_hear hd_yX4_hear rfl rfl rfl (by decide) rfl (Nat.le_of_ble_eq_true rfl) (kdec dk_cX9_line 11 rfl) (fun w10 h11 => ?_)
    obtain ⟨I12, f13⟩ := h11
    have I16 := kI_weak I12
    have F15 : kF [(2, some 9), (3, none), (17, some 3), (17, some 4), (17, some 5), (17, some 6), (17, some 7), (18, none), (19, none), (20, some 10)] w w10 := kF_call hF0 f13 (by decide)
    refine kv_aload_n C 24 rfl 0 (kdec dk_cX9_line 12 rfl) rfl rfl ?_
    refine kv_getr C 27 rfl 0 6 rfl rfl inX9 (by decide) mfl_TaleMachine_51 rfl rfl (kdec dk_cX9_line 13 rfl) ?_
    refine kv_aload_n C 28 rfl 0 (kdec dk_cX9_line 14 rfl) rfl rfl ?_
    refine kv_getr C 31 rfl 0 7 rfl rfl inX9 (by decide) mfl_TaleMachine_60 rfl rfl (kdec dk_cX9_line 15 rfl) ?_
    obtain ⟨x17, e18⟩ : ∃ z : Int32, w 20 13 = z := ⟨_, rfl⟩
    have b19 : (-2147483648 : Int) ≤ x17.toInt ∧ x17.toInt ≤ 2147483647 := by rw [← e18]; exact hI 20 13
    have e20 : w10 20 13 = x17 := ((f13 20 13 rfl : w10 20 13 = w 20 13).trans e18)
    refine kv_getN C 34 rfl 20 13 rfl rfl inX1 (by decide) mfn_TaleMachine_99 rfl rfl (kdec dk_cX9_line 16 rfl) e20 ?_
    refine kv_aload_n C 35 rfl 0 (kdec dk_cX9_line 17 rfl) rfl rfl ?_
    refine kv_getr C 38 rfl 0 7 rfl rfl inX9 (by decide) mfl_TaleMachine_60 rfl rfl (kdec dk_cX9_line 18 rfl) ?_
    obtain ⟨x21, e22⟩ : ∃ z : Int32, w 20 14 = z := ⟨_, rfl⟩
    have b23 : (-2147483648 : Int) ≤ x21.toInt ∧ x21.toInt ≤ 2147483647 := by rw [← e22]; exact hI 20 14
    have e24 : w10 20 14 = x21 := ((f13 20 14 rfl : w10 20 14 = w 20 14).trans e22)
    refine kv_getN C 41 rfl 20 14 rfl rfl inX1 (by decide) mfn_TaleMachine_102 rfl rfl (kdec dk_cX9_line 19 rfl) e24 ?_
    have e25 : w10 2 3 = x4 := ((f13 2 3 rfl : w10 2 3 = w 2 3).trans e5)
    refine kv_callVNi (As := [.int x17, .int x21]) (rest := []) C 44 rfl 17 (k_r_part l D τ ρ σ w10 x17 x21 (kI_strong I16 (by rw [e25]; omega)) ) rfl rfl mmn_TaleMachine_105 mim_yX4_part mse_yX4_part mcd_yX4_part min_yX4_part hd_yX4_part rfl rfl rfl (by decide) rfl (Nat.le_of_ble_eq_true rfl) (kdec dk_cX9_line 20 rfl) (fun x30 w26 h27 => ?_)
    obtain ⟨I28, f29⟩ := h27
    have I32 := kI_weak I28
    have F31 : kF [(2, some 9), (3, none), (17, some 3), (17, some 4), (17, some 5), (17, some 6), (17, some 7), (18, none), (19, none), (20, some 10)] w w26 := kF_call F15 f29 (by decide)
    have g33 := kf_rng x30
    refine kv_istore_n C 45 rfl 3 [1, 2, 3, 0] [(0, .ref (ρ 0)), (1, .int a1), (2, .int a2), (3, .int x30)] (kdec dk_cX9_line 21 rfl) rfl (by decide) rfl ?_
    refine kv_aload_n C 46 rfl 0 (kdec dk_cX9_line 22 rfl) rfl rfl ?_
    refine kv_getr C 49 rfl 0 1 rfl rfl inX9 (by decide) mfl_TaleMachine_16 rfl rfl (kdec dk_cX9_line 23 rfl) ?_
    obtain ⟨x34, e35⟩ : ∃ z : Int32, w26 2 9 = z := ⟨_, rfl⟩
    have b36 : (0 : Int) ≤ x34.toInt ∧ x34.toInt ≤ 13 := by rw [← e35]; exact I32 2 9
    refine kv_getN C 52 rfl 2 9 rfl rfl inX6 (by decide) mfn_TaleMachine_109 rfl rfl (kdec dk_cX9_line 24 rfl) e35 ?_
    refine kv_if_eq C 55 rfl 74 (kdec dk_cX9_line 25 rfl) (by decide) (fun d37 => ?_) (fun d37 => ?_)
    · skip
      refine kv_aload_n C 75 rfl 0 (kdec dk_cX9_line 36 rfl) rfl rfl ?_
      refine kv_getr C 78 rfl 0 7 rfl rfl inX9 (by decide) mfl_TaleMachine_60 rfl rfl (kdec dk_cX9_line 37 rfl) ?_
      refine kv_iconst C 79 rfl 1 (kdec dk_cX9_line 38 rfl) rfl ?_
      refine kv_putN C 82 rfl 20 10 rfl rfl inX1 (by decide) mfn_TaleMachine_86 rfl tyX1 tyX1_ok nmX1 rfl rfl (kdec dk_cX9_line 39 rfl) rfl rfl (fun w38 u39 => ?_)
      have I40 : kI false w38 := kI_put u39 I32 (show (0 : Int) ≤ (1 : Int32).toInt by omega) (show (1 : Int32).toInt ≤ 4 by omega)
      have F41 : kF [(2, some 9), (3, none), (17, some 3), (17, some 4), (17, some 5), (17, some 6), (17, some 7), (18, none), (19, none), (20, some 10)] w w38 := kF_put u39 F31 rfl
      refine kv_iload_n C 83 rfl 3 (kdec dk_cX9_line 40 rfl) rfl rfl ?_
      have e42 : w38 2 3 = x4 := ((kup_ne u39 rfl : w38 2 3 = w26 2 3).trans ((f29 2 3 rfl : w26 2 3 = w10 2 3).trans e25))
      exact kv_iret C hr hlk (kdec dk_cX9_line 41 rfl) ⟨_, rfl, I40, F41, (by rw [(kup_eq u39), e42]; try omega), (by rw [e2]; try omega)⟩
    · skip
      refine kv_aload_n C 56 rfl 0 (kdec dk_cX9_line 26 rfl) rfl rfl ?_
      refine kv_getr C 59 rfl 0 7 rfl rfl inX9 (by decide) mfl_TaleMachine_60 rfl rfl (kdec dk_cX9_line 27 rfl) ?_
      refine kv_iconst C 60 rfl 4 (kdec dk_cX9_line 28 rfl) rfl ?_
      refine kv_putN C 63 rfl 20 10 rfl rfl inX1 (by decide) mfn_TaleMachine_86 rfl tyX1 tyX1_ok nmX1 rfl rfl (kdec dk_cX9_line 29 rfl) rfl rfl (fun w43 u44 => ?_)
      have I45 : kI false w43 := kI_put u44 I32 (show (0 : Int) ≤ (4 : Int32).toInt by omega) (show (4 : Int32).toInt ≤ 4 by omega)
      have F46 : kF [(2, some 9), (3, none), (17, some 3), (17, some 4), (17, some 5), (17, some 6), (17, some 7), (18, none), (19, none), (20, some 10)] w w43 := kF_put u44 F31 rfl
      refine kv_bipush C 65 rfl (-10) (kdec dk_cX9_line 30 rfl) rfl ?_
      refine kv_aload_n C 66 rfl 0 (kdec dk_cX9_line 31 rfl) rfl rfl ?_
      refine kv_getr C 69 rfl 0 1 rfl rfl inX9 (by decide) mfl_TaleMachine_16 rfl rfl (kdec dk_cX9_line 32 rfl) ?_
      have e47 : w43 2 9 = x34 := ((kup_ne u44 rfl : w43 2 9 = w26 2 9).trans e35)
      refine kv_getN C 72 rfl 2 9 rfl rfl inX6 (by decide) mfn_TaleMachine_109 rfl rfl (kdec dk_cX9_line 33 rfl) e47 ?_
      refine kv_isub C 73 rfl (kdec dk_cX9_line 34 rfl) (fun x48 q50 h49e h49 h49l h49u => ?_)
      try have h49n : x48.toInt = ((-10) : Int32).toInt - x34.toInt := by omega
      clear h49 q50
      have e51 : w43 2 3 = x4 := ((kup_ne u44 rfl : w43 2 3 = w26 2 3).trans ((f29 2 3 rfl : w26 2 3 = w10 2 3).trans e25))
      exact kv_iret C hr hlk (kdec dk_cX9_line 35 rfl) ⟨_, rfl, I45, F46, (by rw [(kup_eq u44), e51]; try omega), (by rw [e2]; try omega)⟩
  · skip
    refine kv_bipush C 13 rfl (-2) (kdec dk_cX9_line 5 rfl) rfl ?_
    exact kv_iret C hr hlk (kdec dk_cX9_line 6 rfl) ⟨_, rfl, hI, hF0, (by rw [e2, e5]; try omega), (by rw [e2]; try omega)⟩

set_option maxHeartbeats 4000000 in
set_option maxRecDepth 100000 in
theorem k_m_start (l : Launch) (D : va_G) (τ : Nat → ClassId) (ρ σ : Nat → Nat) (w : kw)  (hI : kI false w) (hp0 : (w 20 10).toInt = 0 ∨ (w 2 3).toInt ≤ 1024) (hp1 : (w 12 1).toInt ≤ 2000000000 ∧ (w 14 1).toInt ≤ 2000000000) :
    kM l D τ ρ σ yX9_start cX9_start 1 (some .int) { frames := 5, cells := 0, slots := 0, locals := 180 } [.ref (ρ 0)] w
      (fun o w' => ∃ r : Int32, o = some (.int r) ∧ kI false w' ∧ kF [(2, some 9), (3, none), (5, some 6), (5, some 7), (8, none), (9, none), (12, some 1), (20, some 8), (20, some 9), (20, some 10), (20, some 11), (20, some 12)] w w' ∧ ((w' 20 10).toInt = 0 ∨ (w' 2 3).toInt ≤ 1024) ∧ ((w 20 10).toInt = 0 ∧ r.toInt = -2 ∨ ¬ (w 20 10).toInt = 0 ∧ r.toInt = 1) ∧ ((w' 12 1).toInt ≤ (w 12 1).toInt + 0 ∧ (w' 14 1).toInt ≤ (w 14 1).toInt + 0)) := by
  refine kM_of (own := "TaleMachine") rfl (by decide) (Nat.le_of_ble_eq_true rfl) ?_
  intro p e s m args below meth c C hr hlk
  have hF0 : kF [(2, some 9), (3, none), (5, some 6), (5, some 7), (8, none), (9, none), (12, some 1), (20, some 8), (20, some 9), (20, some 10), (20, some 11), (20, some 12)] w w := kF.rf
  have c_m2 : (-2 : Int32).toInt = -2 := by decide
  have c_1 : (1 : Int32).toInt = 1 := by decide
  refine kV.L (L' := [(0, .ref (ρ 0))]) rfl ?_
  obtain ⟨x1, e2⟩ : ∃ z : Int32, w 20 10 = z := ⟨_, rfl⟩
  have b3 : (0 : Int) ≤ x1.toInt ∧ x1.toInt ≤ 4 := by rw [← e2]; exact hI 20 10
  obtain ⟨x4, e5⟩ : ∃ z : Int32, w 2 3 = z := ⟨_, rfl⟩
  have b6 : (0 : Int) ≤ x4.toInt ∧ x4.toInt ≤ 65535 := by rw [← e5]; exact hI 2 3
  rw [e2, e5] at hp0
  obtain ⟨x7, e8⟩ : ∃ z : Int32, w 12 1 = z := ⟨_, rfl⟩
  have b9 : (0 : Int) ≤ x7.toInt ∧ x7.toInt ≤ 2147483647 := by rw [← e8]; exact hI 12 1
  obtain ⟨x10, e11⟩ : ∃ z : Int32, w 14 1 = z := ⟨_, rfl⟩
  have b12 : (0 : Int) ≤ x10.toInt ∧ x10.toInt ≤ 2147483647 := by rw [← e11]; exact hI 14 1
  rw [e8, e11] at hp1
  refine kv_aload_n C 1 rfl 0 (kdec dk_cX9_start 0 rfl) rfl rfl ?_
  refine kv_getr C 4 rfl 0 7 rfl rfl inX9 (by decide) mfl_TaleMachine_60 rfl rfl (kdec dk_cX9_start 1 rfl) ?_
  refine kv_getN C 7 rfl 20 10 rfl rfl inX1 (by decide) mfn_TaleMachine_86 rfl rfl (kdec dk_cX9_start 2 rfl) e2 ?_
  refine kv_if_ne C 10 rfl 13 (kdec dk_cX9_start 3 rfl) (by decide) (fun d13 => ?_) (fun d13 => ?_)
  · skip
    refine kv_aload_n C 14 rfl 0 (kdec dk_cX9_start 6 rfl) rfl rfl ?_
    refine kv_getr C 17 rfl 0 7 rfl rfl inX9 (by decide) mfl_TaleMachine_60 rfl rfl (kdec dk_cX9_start 7 rfl) ?_
    refine kv_callVNv (As := []) (rest := []) C 20 rfl 20 (k_e_begin l D τ ρ σ w  (kI_strong hI (by rw [e5]; omega)) ) rfl rfl mmn_TaleMachine_89 mim_yX1_begin mse_yX1_begin mcd_yX1_begin min_yX1_begin hd_yX1_begin rfl rfl rfl (by decide) rfl (Nat.le_of_ble_eq_true rfl) (kdec dk_cX9_start 8 rfl) (fun w14 h15 => ?_)
    obtain ⟨I16, f17, p19, p20⟩ := h15
    have I22 := kI_weak I16
    have F21 : kF [(2, some 9), (3, none), (5, some 6), (5, some 7), (8, none), (9, none), (12, some 1), (20, some 8), (20, some 9), (20, some 10), (20, some 11), (20, some 12)] w w14 := kF_call hF0 f17 (by decide)
    obtain ⟨x23, e24⟩ : ∃ z : Int32, w14 12 1 = z := ⟨_, rfl⟩
    have b25 : (0 : Int) ≤ x23.toInt ∧ x23.toInt ≤ 2147483647 := by rw [← e24]; exact I22 12 1
    rw [e24] at p19
    obtain ⟨x26, e27⟩ : ∃ z : Int32, w14 20 10 = z := ⟨_, rfl⟩
    have b28 : (0 : Int) ≤ x26.toInt ∧ x26.toInt ≤ 4 := by rw [← e27]; exact I22 20 10
    rw [e27] at p20
    refine kv_iconst C 21 rfl 1 (kdec dk_cX9_start 9 rfl) rfl ?_
    have e29 : w14 2 3 = x4 := ((f17 2 3 rfl : w14 2 3 = w 2 3).trans e5)
    have e30 : w14 14 1 = x10 := ((f17 14 1 rfl : w14 14 1 = w 14 1).trans e11)
    exact kv_iret C hr hlk (kdec dk_cX9_start 10 rfl) ⟨_, rfl, I22, F21, (by rw [e27, e29]; try omega), (by rw [e2]; try omega), (by rw [e8, e11, e24, e30]; try omega)⟩
  · skip
    refine kv_bipush C 12 rfl (-2) (kdec dk_cX9_start 4 rfl) rfl ?_
    exact kv_iret C hr hlk (kdec dk_cX9_start 5 rfl) ⟨_, rfl, hI, hF0, (by rw [e2, e5]; try omega), (by rw [e2]; try omega), (by rw [e8, e11]; try omega)⟩

set_option maxHeartbeats 4000000 in
set_option maxRecDepth 100000 in
theorem k_m_out (l : Launch) (D : va_G) (τ : Nat → ClassId) (ρ σ : Nat → Nat) (w : kw) (a1 : Int32) (hI : kI false w) (hp0 : (w 20 10).toInt = 0 ∨ (w 2 3).toInt ≤ 1024) :
    kM l D τ ρ σ yX9_out cX9_out 2 (some .int) { frames := 1, cells := 0, slots := 0, locals := 36 } [.ref (ρ 0), .int a1] w
      (fun o w' => ∃ r : Int32, o = some (.int r) ∧ kI false w' ∧ kF [] w w' ∧ (¬ (w 20 10).toInt = 0 ∨ r.toInt = -1)) := by
  refine kM_of (own := "TaleMachine") rfl (by decide) (Nat.le_of_ble_eq_true rfl) ?_
  intro p e s m args below meth c C hr hlk
  have hF0 : kF [] w w := kF.rf
  have c_m1 : (-1 : Int32).toInt = -1 := by decide
  refine kV.L (L' := [(0, .ref (ρ 0)), (1, .int a1)]) rfl ?_
  obtain ⟨x1, e2⟩ : ∃ z : Int32, w 20 10 = z := ⟨_, rfl⟩
  have b3 : (0 : Int) ≤ x1.toInt ∧ x1.toInt ≤ 4 := by rw [← e2]; exact hI 20 10
  obtain ⟨x4, e5⟩ : ∃ z : Int32, w 2 3 = z := ⟨_, rfl⟩
  have b6 : (0 : Int) ≤ x4.toInt ∧ x4.toInt ≤ 65535 := by rw [← e5]; exact hI 2 3
  rw [e2, e5] at hp0
  have g7 := kf_rng a1
  refine kv_aload_n C 1 rfl 0 (kdec dk_cX9_out 0 rfl) rfl rfl ?_
  refine kv_getr C 4 rfl 0 7 rfl rfl inX9 (by decide) mfl_TaleMachine_60 rfl rfl (kdec dk_cX9_out 1 rfl) ?_
  refine kv_getN C 7 rfl 20 10 rfl rfl inX1 (by decide) mfn_TaleMachine_86 rfl rfl (kdec dk_cX9_out 2 rfl) e2 ?_
  refine kv_if_ne C 10 rfl 12 (kdec dk_cX9_out 3 rfl) (by decide) (fun d8 => ?_) (fun d8 => ?_)
  · skip
    refine kv_aload_n C 13 rfl 0 (kdec dk_cX9_out 6 rfl) rfl rfl ?_
    refine kv_getr C 16 rfl 0 3 rfl rfl inX9 (by decide) mfl_TaleMachine_32 rfl rfl (kdec dk_cX9_out 7 rfl) ?_
    refine kv_iload_n C 17 rfl 1 (kdec dk_cX9_out 8 rfl) rfl rfl ?_
    refine kv_callVNi (As := [.int a1]) (rest := []) C 20 rfl 12 (k_codeAtO l D τ ρ σ w a1 (kI_strong hI (by rw [e5]; omega)) ) rfl rfl mmn_TaleMachine_112 mim_yX0_codeAt mse_yX0_codeAt mcd_yX0_codeAt min_yX0_codeAt hd_yX0_codeAt rfl rfl rfl (by decide) rfl (Nat.le_of_ble_eq_true rfl) (kdec dk_cX9_out 9 rfl) (fun x13 w9 h10 => ?_)
    obtain ⟨I11, f12⟩ := h10
    have I15 := kI_weak I11
    have F14 : kF [] w w9 := kF_call hF0 f12 (by decide)
    have g16 := kf_rng x13
    exact kv_iret C hr hlk (kdec dk_cX9_out 10 rfl) ⟨_, rfl, I15, F14, (by rw [e2]; try omega)⟩
  · skip
    refine kv_iconst C 11 rfl (-1) (kdec dk_cX9_out 4 rfl) rfl ?_
    exact kv_iret C hr hlk (kdec dk_cX9_out 5 rfl) ⟨_, rfl, hI, hF0, (by rw [e2]; try omega)⟩

set_option maxHeartbeats 4000000 in
set_option maxRecDepth 100000 in
theorem k_m_count (l : Launch) (D : va_G) (τ : Nat → ClassId) (ρ σ : Nat → Nat) (w : kw) (a1 : Int32) (hI : kI false w) (hp0 : (w 20 10).toInt = 0 ∨ (w 2 3).toInt ≤ 1024) :
    kM l D τ ρ σ yX9_count cX9_count 2 (some .int) { frames := 1, cells := 0, slots := 0, locals := 36 } [.ref (ρ 0), .int a1] w
      (fun o w' => ∃ r : Int32, o = some (.int r) ∧ kI false w' ∧ kF [] w w' ∧ (¬ (w 20 10).toInt = 0 ∨ (a1.toInt < 0 ∨ 9 < a1.toInt) ∧ r.toInt = -1 ∨ a1.toInt = 9 ∧ r.toInt = (w 0 9).toInt ∨ 0 ≤ a1.toInt ∧ a1.toInt ≤ 8 ∧ r.toInt = -2)) := by
  refine kM_of (own := "TaleMachine") rfl (by decide) (Nat.le_of_ble_eq_true rfl) ?_
  intro p e s m args below meth c C hr hlk
  have hF0 : kF [] w w := kF.rf
  have c_m2 : (-2 : Int32).toInt = -2 := by decide
  have c_m1 : (-1 : Int32).toInt = -1 := by decide
  have c_9 : (9 : Int32).toInt = 9 := by decide
  refine kV.L (L' := [(0, .ref (ρ 0)), (1, .int a1)]) rfl ?_
  obtain ⟨x1, e2⟩ : ∃ z : Int32, w 20 10 = z := ⟨_, rfl⟩
  have b3 : (0 : Int) ≤ x1.toInt ∧ x1.toInt ≤ 4 := by rw [← e2]; exact hI 20 10
  obtain ⟨x4, e5⟩ : ∃ z : Int32, w 2 3 = z := ⟨_, rfl⟩
  have b6 : (0 : Int) ≤ x4.toInt ∧ x4.toInt ≤ 65535 := by rw [← e5]; exact hI 2 3
  rw [e2, e5] at hp0
  have g7 := kf_rng a1
  refine kv_iload_n C 1 rfl 1 (kdec dk_cX9_count 0 rfl) rfl rfl ?_
  refine kv_if_lt C 4 rfl 10 (kdec dk_cX9_count 1 rfl) (by decide) (fun d8 => ?_) (fun d8 => ?_)
  · skip
    refine kv_iconst C 11 rfl (-1) (kdec dk_cX9_count 5 rfl) rfl ?_
    obtain ⟨x9, e10⟩ : ∃ z : Int32, w 0 9 = z := ⟨_, rfl⟩
    have b11 : (0 : Int) ≤ x9.toInt ∧ x9.toInt ≤ 1024 := by rw [← e10]; exact hI 0 9
    exact kv_iret C hr hlk (kdec dk_cX9_count 6 rfl) ⟨_, rfl, hI, hF0, (by rw [e2, e10]; try omega)⟩
  · skip
    refine kv_iload_n C 5 rfl 1 (kdec dk_cX9_count 2 rfl) rfl rfl ?_
    refine kv_bipush C 7 rfl 9 (kdec dk_cX9_count 3 rfl) rfl ?_
    refine kv_icmp_le C 10 rfl 12 (kdec dk_cX9_count 4 rfl) (by decide) (fun d12 => ?_) (fun d12 => ?_)
    · skip
      refine kv_iload_n C 13 rfl 1 (kdec dk_cX9_count 7 rfl) rfl rfl ?_
      refine kv_bipush C 15 rfl 9 (kdec dk_cX9_count 8 rfl) rfl ?_
      refine kv_icmp_ne C 18 rfl 23 (kdec dk_cX9_count 9 rfl) (by decide) (fun d13 => ?_) (fun d13 => ?_)
      · skip
        refine kv_aload_n C 24 rfl 0 (kdec dk_cX9_count 13 rfl) rfl rfl ?_
        refine kv_getr C 27 rfl 0 7 rfl rfl inX9 (by decide) mfl_TaleMachine_60 rfl rfl (kdec dk_cX9_count 14 rfl) ?_
        refine kv_getN C 30 rfl 20 10 rfl rfl inX1 (by decide) mfn_TaleMachine_86 rfl rfl (kdec dk_cX9_count 15 rfl) e2 ?_
        refine kv_if_ne C 33 rfl 36 (kdec dk_cX9_count 16 rfl) (by decide) (fun d14 => ?_) (fun d14 => ?_)
        · skip
          refine kv_iload_n C 37 rfl 1 (kdec dk_cX9_count 19 rfl) rfl rfl ?_
          by_cases d15 : a1.toInt = 0
          · skip
            refine kv_tableIn C 0 84 (kdec dk_cX9_count 20 rfl) d15 (by decide) (by decide) rfl (by decide) ?_
            refine kv_aload_n C 85 rfl 0 (kdec dk_cX9_count 21 rfl) rfl rfl ?_
            refine kv_getr C 88 rfl 0 3 rfl rfl inX9 (by decide) mfl_TaleMachine_32 rfl rfl (kdec dk_cX9_count 22 rfl) ?_
            obtain ⟨x16, e17⟩ : ∃ z : Int32, w 12 1 = z := ⟨_, rfl⟩
            have b18 : (0 : Int) ≤ x16.toInt ∧ x16.toInt ≤ 2147483647 := by rw [← e17]; exact hI 12 1
            refine kv_getN C 91 rfl 12 1 rfl rfl inX0 (by decide) mfn_TaleMachine_116 rfl rfl (kdec dk_cX9_count 23 rfl) e17 ?_
            obtain ⟨x19, e20⟩ : ∃ z : Int32, w 0 9 = z := ⟨_, rfl⟩
            have b21 : (0 : Int) ≤ x19.toInt ∧ x19.toInt ≤ 1024 := by rw [← e20]; exact hI 0 9
            exact kv_iret C hr hlk (kdec dk_cX9_count 24 rfl) ⟨_, rfl, hI, hF0, (by rw [e2, e20]; try omega)⟩
          by_cases d22 : a1.toInt = 1
          · skip
            refine kv_tableIn C 1 92 (kdec dk_cX9_count 20 rfl) d22 (by decide) (by decide) rfl (by decide) ?_
            refine kv_aload_n C 93 rfl 0 (kdec dk_cX9_count 25 rfl) rfl rfl ?_
            refine kv_getr C 96 rfl 0 7 rfl rfl inX9 (by decide) mfl_TaleMachine_60 rfl rfl (kdec dk_cX9_count 26 rfl) ?_
            obtain ⟨x23, e24⟩ : ∃ z : Int32, w 20 11 = z := ⟨_, rfl⟩
            have b25 : (-2147483648 : Int) ≤ x23.toInt ∧ x23.toInt ≤ 2147483647 := by rw [← e24]; exact hI 20 11
            refine kv_getN C 99 rfl 20 11 rfl rfl inX1 (by decide) mfn_TaleMachine_119 rfl rfl (kdec dk_cX9_count 27 rfl) e24 ?_
            obtain ⟨x26, e27⟩ : ∃ z : Int32, w 0 9 = z := ⟨_, rfl⟩
            have b28 : (0 : Int) ≤ x26.toInt ∧ x26.toInt ≤ 1024 := by rw [← e27]; exact hI 0 9
            exact kv_iret C hr hlk (kdec dk_cX9_count 28 rfl) ⟨_, rfl, hI, hF0, (by rw [e2, e27]; try omega)⟩
          by_cases d29 : a1.toInt = 2
          · skip
            refine kv_tableIn C 2 100 (kdec dk_cX9_count 20 rfl) d29 (by decide) (by decide) rfl (by decide) ?_
            refine kv_aload_n C 101 rfl 0 (kdec dk_cX9_count 29 rfl) rfl rfl ?_
            refine kv_getr C 104 rfl 0 2 rfl rfl inX9 (by decide) mfl_TaleMachine_23 rfl rfl (kdec dk_cX9_count 30 rfl) ?_
            obtain ⟨x30, e31⟩ : ∃ z : Int32, w 5 6 = z := ⟨_, rfl⟩
            have b32 : (0 : Int) ≤ x30.toInt ∧ x30.toInt ≤ 120 := by rw [← e31]; exact hI 5 6
            refine kv_getN C 107 rfl 5 6 rfl rfl inX3 (by decide) mfn_TaleMachine_122 rfl rfl (kdec dk_cX9_count 31 rfl) e31 ?_
            obtain ⟨x33, e34⟩ : ∃ z : Int32, w 0 9 = z := ⟨_, rfl⟩
            have b35 : (0 : Int) ≤ x33.toInt ∧ x33.toInt ≤ 1024 := by rw [← e34]; exact hI 0 9
            exact kv_iret C hr hlk (kdec dk_cX9_count 32 rfl) ⟨_, rfl, hI, hF0, (by rw [e2, e34]; try omega)⟩
          by_cases d36 : a1.toInt = 3
          · skip
            refine kv_tableIn C 3 108 (kdec dk_cX9_count 20 rfl) d36 (by decide) (by decide) rfl (by decide) ?_
            refine kv_aload_n C 109 rfl 0 (kdec dk_cX9_count 33 rfl) rfl rfl ?_
            refine kv_getr C 112 rfl 0 2 rfl rfl inX9 (by decide) mfl_TaleMachine_23 rfl rfl (kdec dk_cX9_count 34 rfl) ?_
            obtain ⟨x37, e38⟩ : ∃ z : Int32, w 5 7 = z := ⟨_, rfl⟩
            have b39 : (1 : Int) ≤ x37.toInt ∧ x37.toInt ≤ 20 := by rw [← e38]; exact hI 5 7
            refine kv_getN C 115 rfl 5 7 rfl rfl inX3 (by decide) mfn_TaleMachine_125 rfl rfl (kdec dk_cX9_count 35 rfl) e38 ?_
            obtain ⟨x40, e41⟩ : ∃ z : Int32, w 0 9 = z := ⟨_, rfl⟩
            have b42 : (0 : Int) ≤ x40.toInt ∧ x40.toInt ≤ 1024 := by rw [← e41]; exact hI 0 9
            exact kv_iret C hr hlk (kdec dk_cX9_count 36 rfl) ⟨_, rfl, hI, hF0, (by rw [e2, e41]; try omega)⟩
          by_cases d43 : a1.toInt = 4
          · skip
            refine kv_tableIn C 4 116 (kdec dk_cX9_count 20 rfl) d43 (by decide) (by decide) rfl (by decide) ?_
            refine kv_aload_n C 117 rfl 0 (kdec dk_cX9_count 37 rfl) rfl rfl ?_
            refine kv_getr C 120 rfl 0 7 rfl rfl inX9 (by decide) mfl_TaleMachine_60 rfl rfl (kdec dk_cX9_count 38 rfl) ?_
            obtain ⟨x44, e45⟩ : ∃ z : Int32, w 20 8 = z := ⟨_, rfl⟩
            have b46 : (-2147483648 : Int) ≤ x44.toInt ∧ x44.toInt ≤ 2147483647 := by rw [← e45]; exact hI 20 8
            refine kv_getN C 123 rfl 20 8 rfl rfl inX1 (by decide) mfn_TaleMachine_128 rfl rfl (kdec dk_cX9_count 39 rfl) e45 ?_
            obtain ⟨x47, e48⟩ : ∃ z : Int32, w 0 9 = z := ⟨_, rfl⟩
            have b49 : (0 : Int) ≤ x47.toInt ∧ x47.toInt ≤ 1024 := by rw [← e48]; exact hI 0 9
            exact kv_iret C hr hlk (kdec dk_cX9_count 40 rfl) ⟨_, rfl, hI, hF0, (by rw [e2, e48]; try omega)⟩
          by_cases d50 : a1.toInt = 5
          · skip
            refine kv_tableIn C 5 124 (kdec dk_cX9_count 20 rfl) d50 (by decide) (by decide) rfl (by decide) ?_
            refine kv_aload_n C 125 rfl 0 (kdec dk_cX9_count 41 rfl) rfl rfl ?_
            refine kv_getr C 128 rfl 0 1 rfl rfl inX9 (by decide) mfl_TaleMachine_16 rfl rfl (kdec dk_cX9_count 42 rfl) ?_
            obtain ⟨x51, e52⟩ : ∃ z : Int32, w 2 9 = z := ⟨_, rfl⟩
            have b53 : (0 : Int) ≤ x51.toInt ∧ x51.toInt ≤ 13 := by rw [← e52]; exact hI 2 9
            refine kv_getN C 131 rfl 2 9 rfl rfl inX6 (by decide) mfn_TaleMachine_109 rfl rfl (kdec dk_cX9_count 43 rfl) e52 ?_
            obtain ⟨x54, e55⟩ : ∃ z : Int32, w 0 9 = z := ⟨_, rfl⟩
            have b56 : (0 : Int) ≤ x54.toInt ∧ x54.toInt ≤ 1024 := by rw [← e55]; exact hI 0 9
            exact kv_iret C hr hlk (kdec dk_cX9_count 44 rfl) ⟨_, rfl, hI, hF0, (by rw [e2, e55]; try omega)⟩
          by_cases d57 : a1.toInt = 6
          · skip
            refine kv_tableIn C 6 132 (kdec dk_cX9_count 20 rfl) d57 (by decide) (by decide) rfl (by decide) ?_
            refine kv_aload_n C 133 rfl 0 (kdec dk_cX9_count 45 rfl) rfl rfl ?_
            refine kv_getr C 136 rfl 0 2 rfl rfl inX9 (by decide) mfl_TaleMachine_23 rfl rfl (kdec dk_cX9_count 46 rfl) ?_
            refine kv_callVNi (As := []) (rest := []) C 139 rfl 5 (k_localCount l D τ ρ σ w  (kI_strong hI (by rw [e5]; omega)) ) rfl rfl mmn_TaleMachine_131 mim_yX3_localCount mse_yX3_localCount mcd_yX3_localCount min_yX3_localCount hd_yX3_localCount rfl rfl rfl (by decide) rfl (Nat.le_of_ble_eq_true rfl) (kdec dk_cX9_count 47 rfl) (fun x62 w58 h59 => ?_)
            obtain ⟨I60, f61, p63⟩ := h59
            have I65 := kI_weak I60
            have F64 : kF [] w w58 := kF_call hF0 f61 (by decide)
            have g66 := kf_rng x62
            obtain ⟨x67, e68⟩ : ∃ z : Int32, w 0 9 = z := ⟨_, rfl⟩
            have b69 : (0 : Int) ≤ x67.toInt ∧ x67.toInt ≤ 1024 := by rw [← e68]; exact hI 0 9
            exact kv_iret C hr hlk (kdec dk_cX9_count 48 rfl) ⟨_, rfl, I65, F64, (by rw [e2, e68]; try omega)⟩
          by_cases d70 : a1.toInt = 7
          · skip
            refine kv_tableIn C 7 140 (kdec dk_cX9_count 20 rfl) d70 (by decide) (by decide) rfl (by decide) ?_
            refine kv_aload_n C 141 rfl 0 (kdec dk_cX9_count 49 rfl) rfl rfl ?_
            refine kv_getr C 144 rfl 0 1 rfl rfl inX9 (by decide) mfl_TaleMachine_16 rfl rfl (kdec dk_cX9_count 50 rfl) ?_
            obtain ⟨x71, e72⟩ : ∃ z : Int32, w 2 2 = z := ⟨_, rfl⟩
            have b73 : (0 : Int) ≤ x71.toInt ∧ x71.toInt ≤ 1024 := by rw [← e72]; exact hI 2 2
            refine kv_getN C 147 rfl 2 2 rfl rfl inX6 (by decide) mfn_TaleMachine_135 rfl rfl (kdec dk_cX9_count 51 rfl) e72 ?_
            obtain ⟨x74, e75⟩ : ∃ z : Int32, w 0 9 = z := ⟨_, rfl⟩
            have b76 : (0 : Int) ≤ x74.toInt ∧ x74.toInt ≤ 1024 := by rw [← e75]; exact hI 0 9
            exact kv_iret C hr hlk (kdec dk_cX9_count 52 rfl) ⟨_, rfl, hI, hF0, (by rw [e2, e75]; try omega)⟩
          refine kv_tableOut C 148 (kdec dk_cX9_count 20 rfl) (by omega) (by decide) ?_
          refine kv_aload_n C 149 rfl 0 (kdec dk_cX9_count 53 rfl) rfl rfl ?_
          refine kv_getr C 152 rfl 0 1 rfl rfl inX9 (by decide) mfl_TaleMachine_16 rfl rfl (kdec dk_cX9_count 54 rfl) ?_
          refine kv_getN C 155 rfl 2 3 rfl rfl inX6 (by decide) mfn_TaleMachine_138 rfl rfl (kdec dk_cX9_count 55 rfl) e5 ?_
          obtain ⟨x77, e78⟩ : ∃ z : Int32, w 0 9 = z := ⟨_, rfl⟩
          have b79 : (0 : Int) ≤ x77.toInt ∧ x77.toInt ≤ 1024 := by rw [← e78]; exact hI 0 9
          exact kv_iret C hr hlk (kdec dk_cX9_count 56 rfl) ⟨_, rfl, hI, hF0, (by rw [e2, e78]; try omega)⟩
        · skip
          refine kv_bipush C 35 rfl (-2) (kdec dk_cX9_count 17 rfl) rfl ?_
          obtain ⟨x80, e81⟩ : ∃ z : Int32, w 0 9 = z := ⟨_, rfl⟩
          have b82 : (0 : Int) ≤ x80.toInt ∧ x80.toInt ≤ 1024 := by rw [← e81]; exact hI 0 9
          exact kv_iret C hr hlk (kdec dk_cX9_count 18 rfl) ⟨_, rfl, hI, hF0, (by rw [e2, e81]; try omega)⟩
      · skip
        refine kv_aload_n C 19 rfl 0 (kdec dk_cX9_count 10 rfl) rfl rfl ?_
        obtain ⟨x83, e84⟩ : ∃ z : Int32, w 0 9 = z := ⟨_, rfl⟩
        have b85 : (0 : Int) ≤ x83.toInt ∧ x83.toInt ≤ 1024 := by rw [← e84]; exact hI 0 9
        refine kv_get C 22 rfl 0 9 rfl rfl inX9 (by decide) mfl_TaleMachine_71 rfl rfl (kdec dk_cX9_count 11 rfl) e84 ?_
        exact kv_iret C hr hlk (kdec dk_cX9_count 12 rfl) ⟨_, rfl, hI, hF0, (by rw [e2, e84]; try omega)⟩
    · skip
      refine kv_iconst C 11 rfl (-1) (kdec dk_cX9_count 5 rfl) rfl ?_
      obtain ⟨x86, e87⟩ : ∃ z : Int32, w 0 9 = z := ⟨_, rfl⟩
      have b88 : (0 : Int) ≤ x86.toInt ∧ x86.toInt ≤ 1024 := by rw [← e87]; exact hI 0 9
      exact kv_iret C hr hlk (kdec dk_cX9_count 6 rfl) ⟨_, rfl, hI, hF0, (by rw [e2, e87]; try omega)⟩

set_option maxHeartbeats 4000000 in
set_option maxRecDepth 100000 in
theorem k_m_peek (l : Launch) (D : va_G) (τ : Nat → ClassId) (ρ σ : Nat → Nat) (w : kw) (a1 : Int32) (hI : kI false w)  :
    kM l D τ ρ σ yX9_peek cX9_peek 2 (some .int) { frames := 0, cells := 0, slots := 0, locals := 0 } [.ref (ρ 0), .int a1] w
      (fun o w' => ∃ r : Int32, o = some (.int r) ∧ kI false w' ∧ kF [] w w' ∧ (¬ (w 20 10).toInt = 0 ∨ r.toInt = -1)) := by
  refine kM_of (own := "TaleMachine") rfl (by decide) (Nat.le_of_ble_eq_true rfl) ?_
  intro p e s m args below meth c C hr hlk
  have hF0 : kF [] w w := kF.rf
  have c_m1 : (-1 : Int32).toInt = -1 := by decide
  refine kV.L (L' := [(0, .ref (ρ 0)), (1, .int a1)]) rfl ?_
  have g1 := kf_rng a1
  refine kv_aload_n C 1 rfl 0 (kdec dk_cX9_peek 0 rfl) rfl rfl ?_
  refine kv_getr C 4 rfl 0 7 rfl rfl inX9 (by decide) mfl_TaleMachine_60 rfl rfl (kdec dk_cX9_peek 1 rfl) ?_
  obtain ⟨x2, e3⟩ : ∃ z : Int32, w 20 10 = z := ⟨_, rfl⟩
  have b4 : (0 : Int) ≤ x2.toInt ∧ x2.toInt ≤ 4 := by rw [← e3]; exact hI 20 10
  refine kv_getN C 7 rfl 20 10 rfl rfl inX1 (by decide) mfn_TaleMachine_86 rfl rfl (kdec dk_cX9_peek 2 rfl) e3 ?_
  refine kv_if_eq C 10 rfl 25 (kdec dk_cX9_peek 3 rfl) (by decide) (fun d5 => ?_) (fun d5 => ?_)
  · skip
    refine kv_iconst C 26 rfl (-1) (kdec dk_cX9_peek 11 rfl) rfl ?_
    exact kv_iret C hr hlk (kdec dk_cX9_peek 12 rfl) ⟨_, rfl, hI, hF0, (by rw [e3]; try omega)⟩
  · skip
    refine kv_iload_n C 11 rfl 1 (kdec dk_cX9_peek 4 rfl) rfl rfl ?_
    refine kv_if_lt C 14 rfl 25 (kdec dk_cX9_peek 5 rfl) (by decide) (fun d6 => ?_) (fun d6 => ?_)
    · skip
      refine kv_iconst C 26 rfl (-1) (kdec dk_cX9_peek 11 rfl) rfl ?_
      exact kv_iret C hr hlk (kdec dk_cX9_peek 12 rfl) ⟨_, rfl, hI, hF0, (by rw [e3]; try omega)⟩
    · skip
      refine kv_iload_n C 15 rfl 1 (kdec dk_cX9_peek 6 rfl) rfl rfl ?_
      refine kv_aload_n C 16 rfl 0 (kdec dk_cX9_peek 7 rfl) rfl rfl ?_
      refine kv_getr C 19 rfl 0 1 rfl rfl inX9 (by decide) mfl_TaleMachine_16 rfl rfl (kdec dk_cX9_peek 8 rfl) ?_
      obtain ⟨x7, e8⟩ : ∃ z : Int32, w 2 2 = z := ⟨_, rfl⟩
      have b9 : (0 : Int) ≤ x7.toInt ∧ x7.toInt ≤ 1024 := by rw [← e8]; exact hI 2 2
      refine kv_getN C 22 rfl 2 2 rfl rfl inX6 (by decide) mfn_TaleMachine_135 rfl rfl (kdec dk_cX9_peek 9 rfl) e8 ?_
      refine kv_icmp_lt C 25 rfl 27 (kdec dk_cX9_peek 10 rfl) (by decide) (fun d10 => ?_) (fun d10 => ?_)
      · skip
        refine kv_aload_n C 28 rfl 0 (kdec dk_cX9_peek 13 rfl) rfl rfl ?_
        refine kv_getr C 31 rfl 0 1 rfl rfl inX9 (by decide) mfl_TaleMachine_16 rfl rfl (kdec dk_cX9_peek 14 rfl) ?_
        refine kv_getrN C 34 rfl 2 0 rfl rfl inX6 (by decide) mfn_TaleMachine_141 rfl rfl (kdec dk_cX9_peek 15 rfl) ?_
        refine kv_iload_n C 35 rfl 1 (kdec dk_cX9_peek 16 rfl) rfl rfl ?_
        obtain ⟨x11, e12⟩ : ∃ z : Int32, w 3 (a1 : Int32).toNatClampNeg = z := ⟨_, rfl⟩
        have b13 : (0 : Int) ≤ x11.toInt ∧ x11.toInt ≤ 255 := by rw [← e12]; exact hI 3 _
        refine kv_iald C 36 rfl 3 rfl (by omega) (by omega) e12 (kdec dk_cX9_peek 17 rfl) ?_
        exact kv_iret C hr hlk (kdec dk_cX9_peek 18 rfl) ⟨_, rfl, hI, hF0, (by rw [e3]; try omega)⟩
      · skip
        refine kv_iconst C 26 rfl (-1) (kdec dk_cX9_peek 11 rfl) rfl ?_
        exact kv_iret C hr hlk (kdec dk_cX9_peek 12 rfl) ⟨_, rfl, hI, hF0, (by rw [e3]; try omega)⟩

set_option maxHeartbeats 4000000 in
set_option maxRecDepth 100000 in
theorem k_m_word (l : Launch) (D : va_G) (τ : Nat → ClassId) (ρ σ : Nat → Nat) (w : kw) (a1 : Int32) (a2 : Int32) (hI : kI false w) (hp0 : (w 20 10).toInt = 0 ∨ (w 2 3).toInt ≤ 1024) :
    kM l D τ ρ σ yX9_word cX9_word 3 (some .int) { frames := 1, cells := 0, slots := 0, locals := 36 } [.ref (ρ 0), .int a1, .int a2] w
      (fun o w' => ∃ r : Int32, o = some (.int r) ∧ kI false w' ∧ kF [] w w' ∧ (¬ (w 20 10).toInt = 0 ∨ r.toInt = -1)) := by
  refine kM_of (own := "TaleMachine") rfl (by decide) (Nat.le_of_ble_eq_true rfl) ?_
  intro p e s m args below meth c C hr hlk
  have hF0 : kF [] w w := kF.rf
  have c_m1 : (-1 : Int32).toInt = -1 := by decide
  have c_1 : (1 : Int32).toInt = 1 := by decide
  refine kV.L (L' := [(0, .ref (ρ 0)), (1, .int a1), (2, .int a2)]) rfl ?_
  obtain ⟨x1, e2⟩ : ∃ z : Int32, w 20 10 = z := ⟨_, rfl⟩
  have b3 : (0 : Int) ≤ x1.toInt ∧ x1.toInt ≤ 4 := by rw [← e2]; exact hI 20 10
  obtain ⟨x4, e5⟩ : ∃ z : Int32, w 2 3 = z := ⟨_, rfl⟩
  have b6 : (0 : Int) ≤ x4.toInt ∧ x4.toInt ≤ 65535 := by rw [← e5]; exact hI 2 3
  rw [e2, e5] at hp0
  have g7 := kf_rng a1
  have g8 := kf_rng a2
  refine kv_aload_n C 1 rfl 0 (kdec dk_cX9_word 0 rfl) rfl rfl ?_
  refine kv_getr C 4 rfl 0 7 rfl rfl inX9 (by decide) mfl_TaleMachine_60 rfl rfl (kdec dk_cX9_word 1 rfl) ?_
  refine kv_getN C 7 rfl 20 10 rfl rfl inX1 (by decide) mfn_TaleMachine_86 rfl rfl (kdec dk_cX9_word 2 rfl) e2 ?_
  refine kv_if_ne C 10 rfl 12 (kdec dk_cX9_word 3 rfl) (by decide) (fun d9 => ?_) (fun d9 => ?_)
  · skip
    refine kv_iload_n C 13 rfl 2 (kdec dk_cX9_word 6 rfl) rfl rfl ?_
    refine kv_if_eq C 16 rfl 45 (kdec dk_cX9_word 7 rfl) (by decide) (fun d10 => ?_) (fun d10 => ?_)
    · skip
      refine kv_iload_n C 46 rfl 1 (kdec dk_cX9_word 23 rfl) rfl rfl ?_
      refine kv_if_lt C 49 rfl 72 (kdec dk_cX9_word 24 rfl) (by decide) (fun d11 => ?_) (fun d11 => ?_)
      · skip
        refine kv_iconst C 73 rfl (-1) (kdec dk_cX9_word 36 rfl) rfl ?_
        exact kv_iret C hr hlk (kdec dk_cX9_word 37 rfl) ⟨_, rfl, hI, hF0, (by rw [e2]; try omega)⟩
      · skip
        refine kv_iload_n C 50 rfl 1 (kdec dk_cX9_word 25 rfl) rfl rfl ?_
        refine kv_aload_n C 51 rfl 0 (kdec dk_cX9_word 26 rfl) rfl rfl ?_
        refine kv_getr C 54 rfl 0 2 rfl rfl inX9 (by decide) mfl_TaleMachine_23 rfl rfl (kdec dk_cX9_word 27 rfl) ?_
        obtain ⟨x12, e13⟩ : ∃ z : Int32, w 5 6 = z := ⟨_, rfl⟩
        have b14 : (0 : Int) ≤ x12.toInt ∧ x12.toInt ≤ 120 := by rw [← e13]; exact hI 5 6
        refine kv_getN C 57 rfl 5 6 rfl rfl inX3 (by decide) mfn_TaleMachine_122 rfl rfl (kdec dk_cX9_word 28 rfl) e13 ?_
        refine kv_icmp_ge C 60 rfl 72 (kdec dk_cX9_word 29 rfl) (by decide) (fun d15 => ?_) (fun d15 => ?_)
        · skip
          refine kv_iconst C 73 rfl (-1) (kdec dk_cX9_word 36 rfl) rfl ?_
          exact kv_iret C hr hlk (kdec dk_cX9_word 37 rfl) ⟨_, rfl, hI, hF0, (by rw [e2]; try omega)⟩
        · skip
          refine kv_aload_n C 61 rfl 0 (kdec dk_cX9_word 30 rfl) rfl rfl ?_
          refine kv_getr C 64 rfl 0 2 rfl rfl inX9 (by decide) mfl_TaleMachine_23 rfl rfl (kdec dk_cX9_word 31 rfl) ?_
          refine kv_getrN C 67 rfl 5 0 rfl rfl inX3 (by decide) mfn_TaleMachine_147 rfl rfl (kdec dk_cX9_word 32 rfl) ?_
          refine kv_iload_n C 68 rfl 1 (kdec dk_cX9_word 33 rfl) rfl rfl ?_
          obtain ⟨x16, e17⟩ : ∃ z : Int32, w 6 (a1 : Int32).toNatClampNeg = z := ⟨_, rfl⟩
          have b18 : (-2147483648 : Int) ≤ x16.toInt ∧ x16.toInt ≤ 2147483647 := by rw [← e17]; exact hI 6 _
          refine kv_iald C 69 rfl 6 rfl (by omega) (by omega) e17 (kdec dk_cX9_word 34 rfl) ?_
          refine kv_goto C 73 (kdec dk_cX9_word 35 rfl) (by decide) ?_
          exact kv_iret C hr hlk (kdec dk_cX9_word 37 rfl) ⟨_, rfl, hI, hF0, (by rw [e2]; try omega)⟩
    · skip
      refine kv_iload_n C 17 rfl 1 (kdec dk_cX9_word 8 rfl) rfl rfl ?_
      refine kv_iconst C 18 rfl 1 (kdec dk_cX9_word 9 rfl) rfl ?_
      refine kv_icmp_lt C 21 rfl 43 (kdec dk_cX9_word 10 rfl) (by decide) (fun d19 => ?_) (fun d19 => ?_)
      · skip
        refine kv_iconst C 44 rfl (-1) (kdec dk_cX9_word 21 rfl) rfl ?_
        exact kv_iret C hr hlk (kdec dk_cX9_word 22 rfl) ⟨_, rfl, hI, hF0, (by rw [e2]; try omega)⟩
      · skip
        refine kv_iload_n C 22 rfl 1 (kdec dk_cX9_word 11 rfl) rfl rfl ?_
        refine kv_aload_n C 23 rfl 0 (kdec dk_cX9_word 12 rfl) rfl rfl ?_
        refine kv_getr C 26 rfl 0 2 rfl rfl inX9 (by decide) mfl_TaleMachine_23 rfl rfl (kdec dk_cX9_word 13 rfl) ?_
        refine kv_callVNi (As := []) (rest := [.int a1]) C 29 rfl 5 (k_localCount l D τ ρ σ w  (kI_strong hI (by rw [e5]; omega)) ) rfl rfl mmn_TaleMachine_131 mim_yX3_localCount mse_yX3_localCount mcd_yX3_localCount min_yX3_localCount hd_yX3_localCount rfl rfl rfl (by decide) rfl (Nat.le_of_ble_eq_true rfl) (kdec dk_cX9_word 14 rfl) (fun x24 w20 h21 => ?_)
        obtain ⟨I22, f23, p25⟩ := h21
        have I27 := kI_weak I22
        have F26 : kF [] w w20 := kF_call hF0 f23 (by decide)
        have g28 := kf_rng x24
        refine kv_icmp_gt C 32 rfl 43 (kdec dk_cX9_word 15 rfl) (by decide) (fun d29 => ?_) (fun d29 => ?_)
        · skip
          refine kv_iconst C 44 rfl (-1) (kdec dk_cX9_word 21 rfl) rfl ?_
          exact kv_iret C hr hlk (kdec dk_cX9_word 22 rfl) ⟨_, rfl, I27, F26, (by rw [e2]; try omega)⟩
        · skip
          refine kv_aload_n C 33 rfl 0 (kdec dk_cX9_word 16 rfl) rfl rfl ?_
          refine kv_getr C 36 rfl 0 2 rfl rfl inX9 (by decide) mfl_TaleMachine_23 rfl rfl (kdec dk_cX9_word 17 rfl) ?_
          refine kv_iload_n C 37 rfl 1 (kdec dk_cX9_word 18 rfl) rfl rfl ?_
          have e30 : w20 2 3 = x4 := ((f23 2 3 rfl : w20 2 3 = w 2 3).trans e5)
          refine kv_callVNi (As := [.int a1]) (rest := []) C 40 rfl 5 (k_localAt l D τ ρ σ w20 a1 (kI_strong I27 (by rw [e30]; omega)) (by omega)) rfl rfl mmn_TaleMachine_144 mim_yX3_localAt mse_yX3_localAt mcd_yX3_localAt min_yX3_localAt hd_yX3_localAt rfl rfl rfl (by decide) rfl (Nat.le_of_ble_eq_true rfl) (kdec dk_cX9_word 19 rfl) (fun x35 w31 h32 => ?_)
          obtain ⟨I33, f34⟩ := h32
          have I37 := kI_weak I33
          have F36 : kF [] w w31 := kF_call F26 f34 (by decide)
          have g38 := kf_rng x35
          refine kv_goto C 44 (kdec dk_cX9_word 20 rfl) (by decide) ?_
          exact kv_iret C hr hlk (kdec dk_cX9_word 22 rfl) ⟨_, rfl, I37, F36, (by rw [e2]; try omega)⟩
  · skip
    refine kv_iconst C 11 rfl (-1) (kdec dk_cX9_word 4 rfl) rfl ?_
    exact kv_iret C hr hlk (kdec dk_cX9_word 5 rfl) ⟨_, rfl, hI, hF0, (by rw [e2]; try omega)⟩

set_option maxHeartbeats 4000000 in
set_option maxRecDepth 100000 in
theorem k_m_text (l : Launch) (D : va_G) (τ : Nat → ClassId) (ρ σ : Nat → Nat) (w : kw) (a1 : Int32) (a2 : Int32) (hI : kI false w) (hp0 : (w 20 10).toInt = 0 ∨ (w 2 3).toInt ≤ 1024) (hp1 : (w 12 1).toInt ≤ 2000000000 ∧ (w 14 1).toInt ≤ 2000000000) :
    kM l D τ ρ σ yX9_text cX9_text 5 (some .int) { frames := 8, cells := 0, slots := 0, locals := 288 } [.ref (ρ 0), .int a1, .int a2] w
      (fun o w' => ∃ r : Int32, o = some (.int r) ∧ kI false w' ∧ kF [(2, some 9), (12, some 1), (13, none), (14, some 1), (15, none), (16, some 1), (16, some 2), (16, some 3), (16, some 4), (16, some 5), (16, some 6), (16, some 7), (16, some 8), (16, some 9), (16, some 10), (16, some 11), (16, some 12), (16, some 13)] w w' ∧ ((w' 20 10).toInt = 0 ∨ (w' 2 3).toInt ≤ 1024) ∧ ((w' 12 1).toInt ≤ (w 12 1).toInt + 500 ∧ (w' 14 1).toInt ≤ (w 14 1).toInt + 500) ∧ (¬ (w 20 10).toInt = 0 ∨ r.toInt = -1)) := by
  refine kM_of (own := "TaleMachine") rfl (by decide) (Nat.le_of_ble_eq_true rfl) ?_
  intro p e s m args below meth c C hr hlk
  have hF0 : kF [(2, some 9), (12, some 1), (13, none), (14, some 1), (15, none), (16, some 1), (16, some 2), (16, some 3), (16, some 4), (16, some 5), (16, some 6), (16, some 7), (16, some 8), (16, some 9), (16, some 10), (16, some 11), (16, some 12), (16, some 13)] w w := kF.rf
  have c_m10 : (-10 : Int32).toInt = -10 := by decide
  have c_m4 : (-4 : Int32).toInt = -4 := by decide
  have c_m1 : (-1 : Int32).toInt = -1 := by decide
  have c_0 : (0 : Int32).toInt = 0 := by decide
  have c_200 : (200 : Int32).toInt = 200 := by decide
  refine kV.L (L' := [(0, .ref (ρ 0)), (1, .int a1), (2, .int a2)]) rfl ?_
  obtain ⟨x1, e2⟩ : ∃ z : Int32, w 20 10 = z := ⟨_, rfl⟩
  have b3 : (0 : Int) ≤ x1.toInt ∧ x1.toInt ≤ 4 := by rw [← e2]; exact hI 20 10
  obtain ⟨x4, e5⟩ : ∃ z : Int32, w 2 3 = z := ⟨_, rfl⟩
  have b6 : (0 : Int) ≤ x4.toInt ∧ x4.toInt ≤ 65535 := by rw [← e5]; exact hI 2 3
  rw [e2, e5] at hp0
  obtain ⟨x7, e8⟩ : ∃ z : Int32, w 12 1 = z := ⟨_, rfl⟩
  have b9 : (0 : Int) ≤ x7.toInt ∧ x7.toInt ≤ 2147483647 := by rw [← e8]; exact hI 12 1
  obtain ⟨x10, e11⟩ : ∃ z : Int32, w 14 1 = z := ⟨_, rfl⟩
  have b12 : (0 : Int) ≤ x10.toInt ∧ x10.toInt ≤ 2147483647 := by rw [← e11]; exact hI 14 1
  rw [e8, e11] at hp1
  have g13 := kf_rng a1
  have g14 := kf_rng a2
  refine kv_aload_n C 1 rfl 0 (kdec dk_cX9_text 0 rfl) rfl rfl ?_
  refine kv_getr C 4 rfl 0 7 rfl rfl inX9 (by decide) mfl_TaleMachine_60 rfl rfl (kdec dk_cX9_text 1 rfl) ?_
  refine kv_getN C 7 rfl 20 10 rfl rfl inX1 (by decide) mfn_TaleMachine_86 rfl rfl (kdec dk_cX9_text 2 rfl) e2 ?_
  refine kv_if_eq C 10 rfl 20 (kdec dk_cX9_text 3 rfl) (by decide) (fun d15 => ?_) (fun d15 => ?_)
  · skip
    refine kv_iconst C 21 rfl (-1) (kdec dk_cX9_text 9 rfl) rfl ?_
    exact kv_iret C hr hlk (kdec dk_cX9_text 10 rfl) ⟨_, rfl, hI, hF0, (by rw [e2, e5]; try omega), (by rw [e8, e11]; try omega), (by rw [e2]; try omega)⟩
  · skip
    refine kv_iload_n C 11 rfl 2 (kdec dk_cX9_text 4 rfl) rfl rfl ?_
    refine kv_if_ge C 14 rfl 22 (kdec dk_cX9_text 5 rfl) (by decide) (fun d16 => ?_) (fun d16 => ?_)
    · skip
      refine kv_aload_n C 23 rfl 0 (kdec dk_cX9_text 11 rfl) rfl rfl ?_
      refine kv_getr C 26 rfl 0 1 rfl rfl inX9 (by decide) mfl_TaleMachine_16 rfl rfl (kdec dk_cX9_text 12 rfl) ?_
      obtain ⟨x17, e18⟩ : ∃ z : Int32, w 2 9 = z := ⟨_, rfl⟩
      have b19 : (0 : Int) ≤ x17.toInt ∧ x17.toInt ≤ 13 := by rw [← e18]; exact hI 2 9
      refine kv_getN C 29 rfl 2 9 rfl rfl inX6 (by decide) mfn_TaleMachine_109 rfl rfl (kdec dk_cX9_text 13 rfl) e18 ?_
      refine kv_istore_n C 30 rfl 3 [1, 2, 3, 0] [(0, .ref (ρ 0)), (1, .int a1), (2, .int a2), (3, .int x17)] (kdec dk_cX9_text 14 rfl) rfl (by decide) rfl ?_
      refine kv_aload_n C 31 rfl 0 (kdec dk_cX9_text 15 rfl) rfl rfl ?_
      refine kv_getr C 34 rfl 0 1 rfl rfl inX9 (by decide) mfl_TaleMachine_16 rfl rfl (kdec dk_cX9_text 16 rfl) ?_
      refine kv_iconst C 35 rfl 0 (kdec dk_cX9_text 17 rfl) rfl ?_
      refine kv_putN C 38 rfl 2 9 rfl rfl inX6 (by decide) mfn_TaleMachine_109 rfl tyX6 tyX6_ok nmX6 rfl rfl (kdec dk_cX9_text 18 rfl) rfl rfl (fun w20 u21 => ?_)
      have I22 : kI false w20 := kI_put u21 hI (show (0 : Int) ≤ (0 : Int32).toInt by omega) (show (0 : Int32).toInt ≤ 13 by omega)
      have F23 : kF [(2, some 9), (12, some 1), (13, none), (14, some 1), (15, none), (16, some 1), (16, some 2), (16, some 3), (16, some 4), (16, some 5), (16, some 6), (16, some 7), (16, some 8), (16, some 9), (16, some 10), (16, some 11), (16, some 12), (16, some 13)] w w20 := kF_put u21 hF0 rfl
      refine kv_aload_n C 39 rfl 0 (kdec dk_cX9_text 19 rfl) rfl rfl ?_
      refine kv_getr C 42 rfl 0 4 rfl rfl inX9 (by decide) mfl_TaleMachine_36 rfl rfl (kdec dk_cX9_text 20 rfl) ?_
      have e24 : w20 2 3 = x4 := ((kup_ne u21 rfl : w20 2 3 = w 2 3).trans e5)
      refine kv_callVNv (As := []) (rest := []) C 45 rfl 14 (k_cclearS l D τ ρ σ w20  (kI_strong I22 (by rw [e24]; omega)) ) rfl rfl mmn_TaleMachine_150 mim_yX0_clear mse_yX0_clear mcd_yX0_clear min_yX0_clear hd_yX0_clear rfl rfl rfl (by decide) rfl (Nat.le_of_ble_eq_true rfl) (kdec dk_cX9_text 21 rfl) (fun w25 h26 => ?_)
      obtain ⟨I27, f28, p30⟩ := h26
      have I32 := kI_weak I27
      have F31 : kF [(2, some 9), (12, some 1), (13, none), (14, some 1), (15, none), (16, some 1), (16, some 2), (16, some 3), (16, some 4), (16, some 5), (16, some 6), (16, some 7), (16, some 8), (16, some 9), (16, some 10), (16, some 11), (16, some 12), (16, some 13)] w w25 := kF_call F23 f28 (by decide)
      obtain ⟨x33, e34⟩ : ∃ z : Int32, w25 14 1 = z := ⟨_, rfl⟩
      have b35 : (0 : Int) ≤ x33.toInt ∧ x33.toInt ≤ 2147483647 := by rw [← e34]; exact I32 14 1
      rw [e34] at p30
      refine kv_aload_n C 46 rfl 0 (kdec dk_cX9_text 22 rfl) rfl rfl ?_
      refine kv_getr C 49 rfl 0 5 rfl rfl inX9 (by decide) mfl_TaleMachine_44 rfl rfl (kdec dk_cX9_text 23 rfl) ?_
      refine kv_iload_n C 50 rfl 1 (kdec dk_cX9_text 24 rfl) rfl rfl ?_
      refine kv_aload_n C 51 rfl 0 (kdec dk_cX9_text 25 rfl) rfl rfl ?_
      refine kv_getr C 54 rfl 0 4 rfl rfl inX9 (by decide) mfl_TaleMachine_36 rfl rfl (kdec dk_cX9_text 26 rfl) ?_
      have e36 : w25 12 1 = x7 := ((f28 12 1 rfl : w25 12 1 = w20 12 1).trans ((kup_ne u21 rfl : w20 12 1 = w 12 1).trans e8))
      have e37 : w25 2 3 = x4 := ((f28 2 3 rfl : w25 2 3 = w20 2 3).trans e24)
      refine kv_callVNi (As := [.int a1, .ref (ρ 14)]) (rest := []) C 57 rfl 16 (k_tellS l D τ ρ σ w25 a1 (kI_strong I32 (by rw [e37]; omega)) (by rw [e36, e34]; try omega)) rfl rfl mmn_TaleMachine_153 mim_yX7_tell mse_yX7_tell mcd_yX7_tell min_yX7_tell hd_yX7_tell rfl rfl rfl (by decide) rfl (Nat.le_of_ble_eq_true rfl) (kdec dk_cX9_text 27 rfl) (fun x42 w38 h39 => ?_)
      obtain ⟨I40, f41, p43⟩ := h39
      have I45 := kI_weak I40
      have F44 : kF [(2, some 9), (12, some 1), (13, none), (14, some 1), (15, none), (16, some 1), (16, some 2), (16, some 3), (16, some 4), (16, some 5), (16, some 6), (16, some 7), (16, some 8), (16, some 9), (16, some 10), (16, some 11), (16, some 12), (16, some 13)] w w38 := kF_call F31 f41 (by decide)
      have g46 := kf_rng x42
      obtain ⟨x47, e48⟩ : ∃ z : Int32, w38 12 1 = z := ⟨_, rfl⟩
      have b49 : (0 : Int) ≤ x47.toInt ∧ x47.toInt ≤ 2147483647 := by rw [← e48]; exact I45 12 1
      obtain ⟨x50, e51⟩ : ∃ z : Int32, w38 14 1 = z := ⟨_, rfl⟩
      have b52 : (0 : Int) ≤ x50.toInt ∧ x50.toInt ≤ 2147483647 := by rw [← e51]; exact I45 14 1
      rw [e36, e34, e48, e51] at p43
      refine kv_pop C 58 rfl (kdec dk_cX9_text 28 rfl) rfl ?_
      refine kv_aload_n C 59 rfl 0 (kdec dk_cX9_text 29 rfl) rfl rfl ?_
      refine kv_getr C 62 rfl 0 1 rfl rfl inX9 (by decide) mfl_TaleMachine_16 rfl rfl (kdec dk_cX9_text 30 rfl) ?_
      obtain ⟨x53, e54⟩ : ∃ z : Int32, w38 2 9 = z := ⟨_, rfl⟩
      have b55 : (0 : Int) ≤ x53.toInt ∧ x53.toInt ≤ 13 := by rw [← e54]; exact I45 2 9
      refine kv_getN C 65 rfl 2 9 rfl rfl inX6 (by decide) mfn_TaleMachine_109 rfl rfl (kdec dk_cX9_text 31 rfl) e54 ?_
      refine kv_istore C 67 rfl 4 [1, 2, 3, 4, 0] [(0, .ref (ρ 0)), (1, .int a1), (2, .int a2), (3, .int x17), (4, .int x53)] (kdec dk_cX9_text 32 rfl) (by decide) rfl ?_
      refine kv_aload_n C 68 rfl 0 (kdec dk_cX9_text 33 rfl) rfl rfl ?_
      refine kv_getr C 71 rfl 0 1 rfl rfl inX9 (by decide) mfl_TaleMachine_16 rfl rfl (kdec dk_cX9_text 34 rfl) ?_
      refine kv_iload_n C 72 rfl 3 (kdec dk_cX9_text 35 rfl) rfl rfl ?_
      refine kv_putN C 75 rfl 2 9 rfl rfl inX6 (by decide) mfn_TaleMachine_109 rfl tyX6 tyX6_ok nmX6 rfl rfl (kdec dk_cX9_text 36 rfl) rfl rfl (fun w56 u57 => ?_)
      have I58 : kI false w56 := kI_put u57 I45 (show (0 : Int) ≤ (x17 : Int32).toInt by omega) (show (x17 : Int32).toInt ≤ 13 by omega)
      have F59 : kF [(2, some 9), (12, some 1), (13, none), (14, some 1), (15, none), (16, some 1), (16, some 2), (16, some 3), (16, some 4), (16, some 5), (16, some 6), (16, some 7), (16, some 8), (16, some 9), (16, some 10), (16, some 11), (16, some 12), (16, some 13)] w w56 := kF_put u57 F44 rfl
      refine kv_aload_n C 76 rfl 0 (kdec dk_cX9_text 37 rfl) rfl rfl ?_
      refine kv_getr C 79 rfl 0 4 rfl rfl inX9 (by decide) mfl_TaleMachine_36 rfl rfl (kdec dk_cX9_text 38 rfl) ?_
      have e60 : w56 14 1 = x50 := ((kup_ne u57 rfl : w56 14 1 = w38 14 1).trans e51)
      refine kv_getN C 82 rfl 14 1 rfl rfl inX0 (by decide) mfn_TaleMachine_116 rfl rfl (kdec dk_cX9_text 39 rfl) e60 ?_
      refine kv_sipush C 85 rfl 200 (kdec dk_cX9_text 40 rfl) rfl ?_
      refine kv_icmp_le C 88 rfl 90 (kdec dk_cX9_text 41 rfl) (by decide) (fun d61 => ?_) (fun d61 => ?_)
      · skip
        refine kv_iload C 92 rfl 4 (kdec dk_cX9_text 44 rfl) rfl ?_
        refine kv_if_eq C 95 rfl 101 (kdec dk_cX9_text 45 rfl) (by decide) (fun d62 => ?_) (fun d62 => ?_)
        · skip
          refine kv_iload_n C 102 rfl 2 (kdec dk_cX9_text 50 rfl) rfl rfl ?_
          refine kv_bipush C 104 rfl (-4) (kdec dk_cX9_text 51 rfl) rfl ?_
          refine kv_icmp_ne C 107 rfl 117 (kdec dk_cX9_text 52 rfl) (by decide) (fun d63 => ?_) (fun d63 => ?_)
          · skip
            refine kv_aload_n C 118 rfl 0 (kdec dk_cX9_text 57 rfl) rfl rfl ?_
            refine kv_getr C 121 rfl 0 4 rfl rfl inX9 (by decide) mfl_TaleMachine_36 rfl rfl (kdec dk_cX9_text 58 rfl) ?_
            refine kv_iload_n C 122 rfl 2 (kdec dk_cX9_text 59 rfl) rfl rfl ?_
            have e64 : w56 2 3 = x4 := ((kup_ne u57 rfl : w56 2 3 = w38 2 3).trans ((f41 2 3 rfl : w38 2 3 = w25 2 3).trans e37))
            refine kv_callVNi (As := [.int a2]) (rest := []) C 125 rfl 14 (k_codeAtS l D τ ρ σ w56 a2 (kI_strong I58 (by rw [e64]; omega)) ) rfl rfl mmn_TaleMachine_112 mim_yX0_codeAt mse_yX0_codeAt mcd_yX0_codeAt min_yX0_codeAt hd_yX0_codeAt rfl rfl rfl (by decide) rfl (Nat.le_of_ble_eq_true rfl) (kdec dk_cX9_text 60 rfl) (fun x69 w65 h66 => ?_)
            obtain ⟨I67, f68⟩ := h66
            have I71 := kI_weak I67
            have F70 : kF [(2, some 9), (12, some 1), (13, none), (14, some 1), (15, none), (16, some 1), (16, some 2), (16, some 3), (16, some 4), (16, some 5), (16, some 6), (16, some 7), (16, some 8), (16, some 9), (16, some 10), (16, some 11), (16, some 12), (16, some 13)] w w65 := kF_call F59 f68 (by decide)
            have g72 := kf_rng x69
            have e73 : w65 20 10 = x1 := ((f68 20 10 rfl : w65 20 10 = w56 20 10).trans ((kup_ne u57 rfl : w56 20 10 = w38 20 10).trans ((f41 20 10 rfl : w38 20 10 = w25 20 10).trans ((f28 20 10 rfl : w25 20 10 = w20 20 10).trans ((kup_ne u21 rfl : w20 20 10 = w 20 10).trans e2)))))
            have e74 : w65 2 3 = x4 := ((f68 2 3 rfl : w65 2 3 = w56 2 3).trans e64)
            have e75 : w65 12 1 = x47 := ((f68 12 1 rfl : w65 12 1 = w56 12 1).trans ((kup_ne u57 rfl : w56 12 1 = w38 12 1).trans e48))
            have e76 : w65 14 1 = x50 := ((f68 14 1 rfl : w65 14 1 = w56 14 1).trans e60)
            exact kv_iret C hr hlk (kdec dk_cX9_text 61 rfl) ⟨_, rfl, I71, F70, (by rw [e73, e74]; try omega), (by rw [e8, e11, e75, e76]; try omega), (by rw [e2]; try omega)⟩
          · skip
            refine kv_aload_n C 108 rfl 0 (kdec dk_cX9_text 53 rfl) rfl rfl ?_
            refine kv_getr C 111 rfl 0 4 rfl rfl inX9 (by decide) mfl_TaleMachine_36 rfl rfl (kdec dk_cX9_text 54 rfl) ?_
            refine kv_getN C 114 rfl 14 1 rfl rfl inX0 (by decide) mfn_TaleMachine_116 rfl rfl (kdec dk_cX9_text 55 rfl) e60 ?_
            refine kv_goto C 125 (kdec dk_cX9_text 56 rfl) (by decide) ?_
            have e77 : w56 20 10 = x1 := ((kup_ne u57 rfl : w56 20 10 = w38 20 10).trans ((f41 20 10 rfl : w38 20 10 = w25 20 10).trans ((f28 20 10 rfl : w25 20 10 = w20 20 10).trans ((kup_ne u21 rfl : w20 20 10 = w 20 10).trans e2))))
            have e78 : w56 2 3 = x4 := ((kup_ne u57 rfl : w56 2 3 = w38 2 3).trans ((f41 2 3 rfl : w38 2 3 = w25 2 3).trans e37))
            have e79 : w56 12 1 = x47 := ((kup_ne u57 rfl : w56 12 1 = w38 12 1).trans e48)
            exact kv_iret C hr hlk (kdec dk_cX9_text 61 rfl) ⟨_, rfl, I58, F59, (by rw [e77, e78]; try omega), (by rw [e8, e11, e79, e60]; try omega), (by rw [e2]; try omega)⟩
        · skip
          refine kv_bipush C 97 rfl (-10) (kdec dk_cX9_text 46 rfl) rfl ?_
          refine kv_iload C 99 rfl 4 (kdec dk_cX9_text 47 rfl) rfl ?_
          refine kv_isub C 100 rfl (kdec dk_cX9_text 48 rfl) (fun x80 q82 h81e h81 h81l h81u => ?_)
          try have h81n : x80.toInt = ((-10) : Int32).toInt - x53.toInt := by omega
          clear h81 q82
          have e83 : w56 20 10 = x1 := ((kup_ne u57 rfl : w56 20 10 = w38 20 10).trans ((f41 20 10 rfl : w38 20 10 = w25 20 10).trans ((f28 20 10 rfl : w25 20 10 = w20 20 10).trans ((kup_ne u21 rfl : w20 20 10 = w 20 10).trans e2))))
          have e84 : w56 2 3 = x4 := ((kup_ne u57 rfl : w56 2 3 = w38 2 3).trans ((f41 2 3 rfl : w38 2 3 = w25 2 3).trans e37))
          have e85 : w56 12 1 = x47 := ((kup_ne u57 rfl : w56 12 1 = w38 12 1).trans e48)
          exact kv_iret C hr hlk (kdec dk_cX9_text 49 rfl) ⟨_, rfl, I58, F59, (by rw [e83, e84]; try omega), (by rw [e8, e11, e85, e60]; try omega), (by rw [e2]; try omega)⟩
      · skip
        refine kv_iconst C 89 rfl (-1) (kdec dk_cX9_text 42 rfl) rfl ?_
        have e86 : w56 20 10 = x1 := ((kup_ne u57 rfl : w56 20 10 = w38 20 10).trans ((f41 20 10 rfl : w38 20 10 = w25 20 10).trans ((f28 20 10 rfl : w25 20 10 = w20 20 10).trans ((kup_ne u21 rfl : w20 20 10 = w 20 10).trans e2))))
        have e87 : w56 2 3 = x4 := ((kup_ne u57 rfl : w56 2 3 = w38 2 3).trans ((f41 2 3 rfl : w38 2 3 = w25 2 3).trans e37))
        have e88 : w56 12 1 = x47 := ((kup_ne u57 rfl : w56 12 1 = w38 12 1).trans e48)
        exact kv_iret C hr hlk (kdec dk_cX9_text 43 rfl) ⟨_, rfl, I58, F59, (by rw [e86, e87]; try omega), (by rw [e8, e11, e88, e60]; try omega), (by rw [e2]; try omega)⟩
    · skip
      refine kv_iload_n C 15 rfl 2 (kdec dk_cX9_text 6 rfl) rfl rfl ?_
      refine kv_bipush C 17 rfl (-4) (kdec dk_cX9_text 7 rfl) rfl ?_
      refine kv_icmp_eq C 20 rfl 22 (kdec dk_cX9_text 8 rfl) (by decide) (fun d89 => ?_) (fun d89 => ?_)
      · skip
        refine kv_aload_n C 23 rfl 0 (kdec dk_cX9_text 11 rfl) rfl rfl ?_
        refine kv_getr C 26 rfl 0 1 rfl rfl inX9 (by decide) mfl_TaleMachine_16 rfl rfl (kdec dk_cX9_text 12 rfl) ?_
        obtain ⟨x90, e91⟩ : ∃ z : Int32, w 2 9 = z := ⟨_, rfl⟩
        have b92 : (0 : Int) ≤ x90.toInt ∧ x90.toInt ≤ 13 := by rw [← e91]; exact hI 2 9
        refine kv_getN C 29 rfl 2 9 rfl rfl inX6 (by decide) mfn_TaleMachine_109 rfl rfl (kdec dk_cX9_text 13 rfl) e91 ?_
        refine kv_istore_n C 30 rfl 3 [1, 2, 3, 0] [(0, .ref (ρ 0)), (1, .int a1), (2, .int a2), (3, .int x90)] (kdec dk_cX9_text 14 rfl) rfl (by decide) rfl ?_
        refine kv_aload_n C 31 rfl 0 (kdec dk_cX9_text 15 rfl) rfl rfl ?_
        refine kv_getr C 34 rfl 0 1 rfl rfl inX9 (by decide) mfl_TaleMachine_16 rfl rfl (kdec dk_cX9_text 16 rfl) ?_
        refine kv_iconst C 35 rfl 0 (kdec dk_cX9_text 17 rfl) rfl ?_
        refine kv_putN C 38 rfl 2 9 rfl rfl inX6 (by decide) mfn_TaleMachine_109 rfl tyX6 tyX6_ok nmX6 rfl rfl (kdec dk_cX9_text 18 rfl) rfl rfl (fun w93 u94 => ?_)
        have I95 : kI false w93 := kI_put u94 hI (show (0 : Int) ≤ (0 : Int32).toInt by omega) (show (0 : Int32).toInt ≤ 13 by omega)
        have F96 : kF [(2, some 9), (12, some 1), (13, none), (14, some 1), (15, none), (16, some 1), (16, some 2), (16, some 3), (16, some 4), (16, some 5), (16, some 6), (16, some 7), (16, some 8), (16, some 9), (16, some 10), (16, some 11), (16, some 12), (16, some 13)] w w93 := kF_put u94 hF0 rfl
        refine kv_aload_n C 39 rfl 0 (kdec dk_cX9_text 19 rfl) rfl rfl ?_
        refine kv_getr C 42 rfl 0 4 rfl rfl inX9 (by decide) mfl_TaleMachine_36 rfl rfl (kdec dk_cX9_text 20 rfl) ?_
        have e97 : w93 2 3 = x4 := ((kup_ne u94 rfl : w93 2 3 = w 2 3).trans e5)
        refine kv_callVNv (As := []) (rest := []) C 45 rfl 14 (k_cclearS l D τ ρ σ w93  (kI_strong I95 (by rw [e97]; omega)) ) rfl rfl mmn_TaleMachine_150 mim_yX0_clear mse_yX0_clear mcd_yX0_clear min_yX0_clear hd_yX0_clear rfl rfl rfl (by decide) rfl (Nat.le_of_ble_eq_true rfl) (kdec dk_cX9_text 21 rfl) (fun w98 h99 => ?_)
        obtain ⟨I100, f101, p103⟩ := h99
        have I105 := kI_weak I100
        have F104 : kF [(2, some 9), (12, some 1), (13, none), (14, some 1), (15, none), (16, some 1), (16, some 2), (16, some 3), (16, some 4), (16, some 5), (16, some 6), (16, some 7), (16, some 8), (16, some 9), (16, some 10), (16, some 11), (16, some 12), (16, some 13)] w w98 := kF_call F96 f101 (by decide)
        obtain ⟨x106, e107⟩ : ∃ z : Int32, w98 14 1 = z := ⟨_, rfl⟩
        have b108 : (0 : Int) ≤ x106.toInt ∧ x106.toInt ≤ 2147483647 := by rw [← e107]; exact I105 14 1
        rw [e107] at p103
        refine kv_aload_n C 46 rfl 0 (kdec dk_cX9_text 22 rfl) rfl rfl ?_
        refine kv_getr C 49 rfl 0 5 rfl rfl inX9 (by decide) mfl_TaleMachine_44 rfl rfl (kdec dk_cX9_text 23 rfl) ?_
        refine kv_iload_n C 50 rfl 1 (kdec dk_cX9_text 24 rfl) rfl rfl ?_
        refine kv_aload_n C 51 rfl 0 (kdec dk_cX9_text 25 rfl) rfl rfl ?_
        refine kv_getr C 54 rfl 0 4 rfl rfl inX9 (by decide) mfl_TaleMachine_36 rfl rfl (kdec dk_cX9_text 26 rfl) ?_
        have e109 : w98 12 1 = x7 := ((f101 12 1 rfl : w98 12 1 = w93 12 1).trans ((kup_ne u94 rfl : w93 12 1 = w 12 1).trans e8))
        have e110 : w98 2 3 = x4 := ((f101 2 3 rfl : w98 2 3 = w93 2 3).trans e97)
        refine kv_callVNi (As := [.int a1, .ref (ρ 14)]) (rest := []) C 57 rfl 16 (k_tellS l D τ ρ σ w98 a1 (kI_strong I105 (by rw [e110]; omega)) (by rw [e109, e107]; try omega)) rfl rfl mmn_TaleMachine_153 mim_yX7_tell mse_yX7_tell mcd_yX7_tell min_yX7_tell hd_yX7_tell rfl rfl rfl (by decide) rfl (Nat.le_of_ble_eq_true rfl) (kdec dk_cX9_text 27 rfl) (fun x115 w111 h112 => ?_)
        obtain ⟨I113, f114, p116⟩ := h112
        have I118 := kI_weak I113
        have F117 : kF [(2, some 9), (12, some 1), (13, none), (14, some 1), (15, none), (16, some 1), (16, some 2), (16, some 3), (16, some 4), (16, some 5), (16, some 6), (16, some 7), (16, some 8), (16, some 9), (16, some 10), (16, some 11), (16, some 12), (16, some 13)] w w111 := kF_call F104 f114 (by decide)
        have g119 := kf_rng x115
        obtain ⟨x120, e121⟩ : ∃ z : Int32, w111 12 1 = z := ⟨_, rfl⟩
        have b122 : (0 : Int) ≤ x120.toInt ∧ x120.toInt ≤ 2147483647 := by rw [← e121]; exact I118 12 1
        obtain ⟨x123, e124⟩ : ∃ z : Int32, w111 14 1 = z := ⟨_, rfl⟩
        have b125 : (0 : Int) ≤ x123.toInt ∧ x123.toInt ≤ 2147483647 := by rw [← e124]; exact I118 14 1
        rw [e109, e107, e121, e124] at p116
        refine kv_pop C 58 rfl (kdec dk_cX9_text 28 rfl) rfl ?_
        refine kv_aload_n C 59 rfl 0 (kdec dk_cX9_text 29 rfl) rfl rfl ?_
        refine kv_getr C 62 rfl 0 1 rfl rfl inX9 (by decide) mfl_TaleMachine_16 rfl rfl (kdec dk_cX9_text 30 rfl) ?_
        obtain ⟨x126, e127⟩ : ∃ z : Int32, w111 2 9 = z := ⟨_, rfl⟩
        have b128 : (0 : Int) ≤ x126.toInt ∧ x126.toInt ≤ 13 := by rw [← e127]; exact I118 2 9
        refine kv_getN C 65 rfl 2 9 rfl rfl inX6 (by decide) mfn_TaleMachine_109 rfl rfl (kdec dk_cX9_text 31 rfl) e127 ?_
        refine kv_istore C 67 rfl 4 [1, 2, 3, 4, 0] [(0, .ref (ρ 0)), (1, .int a1), (2, .int a2), (3, .int x90), (4, .int x126)] (kdec dk_cX9_text 32 rfl) (by decide) rfl ?_
        refine kv_aload_n C 68 rfl 0 (kdec dk_cX9_text 33 rfl) rfl rfl ?_
        refine kv_getr C 71 rfl 0 1 rfl rfl inX9 (by decide) mfl_TaleMachine_16 rfl rfl (kdec dk_cX9_text 34 rfl) ?_
        refine kv_iload_n C 72 rfl 3 (kdec dk_cX9_text 35 rfl) rfl rfl ?_
        refine kv_putN C 75 rfl 2 9 rfl rfl inX6 (by decide) mfn_TaleMachine_109 rfl tyX6 tyX6_ok nmX6 rfl rfl (kdec dk_cX9_text 36 rfl) rfl rfl (fun w129 u130 => ?_)
        have I131 : kI false w129 := kI_put u130 I118 (show (0 : Int) ≤ (x90 : Int32).toInt by omega) (show (x90 : Int32).toInt ≤ 13 by omega)
        have F132 : kF [(2, some 9), (12, some 1), (13, none), (14, some 1), (15, none), (16, some 1), (16, some 2), (16, some 3), (16, some 4), (16, some 5), (16, some 6), (16, some 7), (16, some 8), (16, some 9), (16, some 10), (16, some 11), (16, some 12), (16, some 13)] w w129 := kF_put u130 F117 rfl
        refine kv_aload_n C 76 rfl 0 (kdec dk_cX9_text 37 rfl) rfl rfl ?_
        refine kv_getr C 79 rfl 0 4 rfl rfl inX9 (by decide) mfl_TaleMachine_36 rfl rfl (kdec dk_cX9_text 38 rfl) ?_
        have e133 : w129 14 1 = x123 := ((kup_ne u130 rfl : w129 14 1 = w111 14 1).trans e124)
        refine kv_getN C 82 rfl 14 1 rfl rfl inX0 (by decide) mfn_TaleMachine_116 rfl rfl (kdec dk_cX9_text 39 rfl) e133 ?_
        refine kv_sipush C 85 rfl 200 (kdec dk_cX9_text 40 rfl) rfl ?_
        refine kv_icmp_le C 88 rfl 90 (kdec dk_cX9_text 41 rfl) (by decide) (fun d134 => ?_) (fun d134 => ?_)
        · skip
          refine kv_iload C 92 rfl 4 (kdec dk_cX9_text 44 rfl) rfl ?_
          refine kv_if_eq C 95 rfl 101 (kdec dk_cX9_text 45 rfl) (by decide) (fun d135 => ?_) (fun d135 => ?_)
          · skip
            refine kv_iload_n C 102 rfl 2 (kdec dk_cX9_text 50 rfl) rfl rfl ?_
            refine kv_bipush C 104 rfl (-4) (kdec dk_cX9_text 51 rfl) rfl ?_
            refine kv_icmp_ne C 107 rfl 117 (kdec dk_cX9_text 52 rfl) (by decide) (fun d136 => ?_) (fun d136 => ?_)
            · skip
              refine kv_aload_n C 118 rfl 0 (kdec dk_cX9_text 57 rfl) rfl rfl ?_
              refine kv_getr C 121 rfl 0 4 rfl rfl inX9 (by decide) mfl_TaleMachine_36 rfl rfl (kdec dk_cX9_text 58 rfl) ?_
              refine kv_iload_n C 122 rfl 2 (kdec dk_cX9_text 59 rfl) rfl rfl ?_
              have e137 : w129 2 3 = x4 := ((kup_ne u130 rfl : w129 2 3 = w111 2 3).trans ((f114 2 3 rfl : w111 2 3 = w98 2 3).trans e110))
              refine kv_callVNi (As := [.int a2]) (rest := []) C 125 rfl 14 (k_codeAtS l D τ ρ σ w129 a2 (kI_strong I131 (by rw [e137]; omega)) ) rfl rfl mmn_TaleMachine_112 mim_yX0_codeAt mse_yX0_codeAt mcd_yX0_codeAt min_yX0_codeAt hd_yX0_codeAt rfl rfl rfl (by decide) rfl (Nat.le_of_ble_eq_true rfl) (kdec dk_cX9_text 60 rfl) (fun x142 w138 h139 => ?_)
              obtain ⟨I140, f141⟩ := h139
              have I144 := kI_weak I140
              have F143 : kF [(2, some 9), (12, some 1), (13, none), (14, some 1), (15, none), (16, some 1), (16, some 2), (16, some 3), (16, some 4), (16, some 5), (16, some 6), (16, some 7), (16, some 8), (16, some 9), (16, some 10), (16, some 11), (16, some 12), (16, some 13)] w w138 := kF_call F132 f141 (by decide)
              have g145 := kf_rng x142
              have e146 : w138 20 10 = x1 := ((f141 20 10 rfl : w138 20 10 = w129 20 10).trans ((kup_ne u130 rfl : w129 20 10 = w111 20 10).trans ((f114 20 10 rfl : w111 20 10 = w98 20 10).trans ((f101 20 10 rfl : w98 20 10 = w93 20 10).trans ((kup_ne u94 rfl : w93 20 10 = w 20 10).trans e2)))))
              have e147 : w138 2 3 = x4 := ((f141 2 3 rfl : w138 2 3 = w129 2 3).trans e137)
              have e148 : w138 12 1 = x120 := ((f141 12 1 rfl : w138 12 1 = w129 12 1).trans ((kup_ne u130 rfl : w129 12 1 = w111 12 1).trans e121))
              have e149 : w138 14 1 = x123 := ((f141 14 1 rfl : w138 14 1 = w129 14 1).trans e133)
              exact kv_iret C hr hlk (kdec dk_cX9_text 61 rfl) ⟨_, rfl, I144, F143, (by rw [e146, e147]; try omega), (by rw [e8, e11, e148, e149]; try omega), (by rw [e2]; try omega)⟩
            · skip
              refine kv_aload_n C 108 rfl 0 (kdec dk_cX9_text 53 rfl) rfl rfl ?_
              refine kv_getr C 111 rfl 0 4 rfl rfl inX9 (by decide) mfl_TaleMachine_36 rfl rfl (kdec dk_cX9_text 54 rfl) ?_
              refine kv_getN C 114 rfl 14 1 rfl rfl inX0 (by decide) mfn_TaleMachine_116 rfl rfl (kdec dk_cX9_text 55 rfl) e133 ?_
              refine kv_goto C 125 (kdec dk_cX9_text 56 rfl) (by decide) ?_
              have e150 : w129 20 10 = x1 := ((kup_ne u130 rfl : w129 20 10 = w111 20 10).trans ((f114 20 10 rfl : w111 20 10 = w98 20 10).trans ((f101 20 10 rfl : w98 20 10 = w93 20 10).trans ((kup_ne u94 rfl : w93 20 10 = w 20 10).trans e2))))
              have e151 : w129 2 3 = x4 := ((kup_ne u130 rfl : w129 2 3 = w111 2 3).trans ((f114 2 3 rfl : w111 2 3 = w98 2 3).trans e110))
              have e152 : w129 12 1 = x120 := ((kup_ne u130 rfl : w129 12 1 = w111 12 1).trans e121)
              exact kv_iret C hr hlk (kdec dk_cX9_text 61 rfl) ⟨_, rfl, I131, F132, (by rw [e150, e151]; try omega), (by rw [e8, e11, e152, e133]; try omega), (by rw [e2]; try omega)⟩
          · skip
            refine kv_bipush C 97 rfl (-10) (kdec dk_cX9_text 46 rfl) rfl ?_
            refine kv_iload C 99 rfl 4 (kdec dk_cX9_text 47 rfl) rfl ?_
            refine kv_isub C 100 rfl (kdec dk_cX9_text 48 rfl) (fun x153 q155 h154e h154 h154l h154u => ?_)
            try have h154n : x153.toInt = ((-10) : Int32).toInt - x126.toInt := by omega
            clear h154 q155
            have e156 : w129 20 10 = x1 := ((kup_ne u130 rfl : w129 20 10 = w111 20 10).trans ((f114 20 10 rfl : w111 20 10 = w98 20 10).trans ((f101 20 10 rfl : w98 20 10 = w93 20 10).trans ((kup_ne u94 rfl : w93 20 10 = w 20 10).trans e2))))
            have e157 : w129 2 3 = x4 := ((kup_ne u130 rfl : w129 2 3 = w111 2 3).trans ((f114 2 3 rfl : w111 2 3 = w98 2 3).trans e110))
            have e158 : w129 12 1 = x120 := ((kup_ne u130 rfl : w129 12 1 = w111 12 1).trans e121)
            exact kv_iret C hr hlk (kdec dk_cX9_text 49 rfl) ⟨_, rfl, I131, F132, (by rw [e156, e157]; try omega), (by rw [e8, e11, e158, e133]; try omega), (by rw [e2]; try omega)⟩
        · skip
          refine kv_iconst C 89 rfl (-1) (kdec dk_cX9_text 42 rfl) rfl ?_
          have e159 : w129 20 10 = x1 := ((kup_ne u130 rfl : w129 20 10 = w111 20 10).trans ((f114 20 10 rfl : w111 20 10 = w98 20 10).trans ((f101 20 10 rfl : w98 20 10 = w93 20 10).trans ((kup_ne u94 rfl : w93 20 10 = w 20 10).trans e2))))
          have e160 : w129 2 3 = x4 := ((kup_ne u130 rfl : w129 2 3 = w111 2 3).trans ((f114 2 3 rfl : w111 2 3 = w98 2 3).trans e110))
          have e161 : w129 12 1 = x120 := ((kup_ne u130 rfl : w129 12 1 = w111 12 1).trans e121)
          exact kv_iret C hr hlk (kdec dk_cX9_text 43 rfl) ⟨_, rfl, I131, F132, (by rw [e159, e160]; try omega), (by rw [e8, e11, e161, e133]; try omega), (by rw [e2]; try omega)⟩
      · skip
        refine kv_iconst C 21 rfl (-1) (kdec dk_cX9_text 9 rfl) rfl ?_
        exact kv_iret C hr hlk (kdec dk_cX9_text 10 rfl) ⟨_, rfl, hI, hF0, (by rw [e2, e5]; try omega), (by rw [e8, e11]; try omega), (by rw [e2]; try omega)⟩

set_option maxHeartbeats 4000000 in
set_option maxRecDepth 100000 in
theorem k_m_save (l : Launch) (D : va_G) (τ : Nat → ClassId) (ρ σ : Nat → Nat) (w : kw) (a1 : Int32) (hI : kI false w) (hp0 : (w 20 10).toInt = 0 ∨ (w 2 3).toInt ≤ 1024) :
    kM l D τ ρ σ yX9_save cX9_save 2 (some .int) { frames := 4, cells := 0, slots := 0, locals := 144 } [.ref (ρ 0), .int a1] w
      (fun o w' => ∃ r : Int32, o = some (.int r) ∧ kI false w' ∧ kF [(25, some 2), (25, some 3), (25, some 4), (25, some 5), (25, some 6), (25, some 7), (26, none), (27, some 6), (27, some 7), (28, none), (29, none), (30, none), (31, none), (32, none), (33, none), (34, some 2), (34, some 3), (34, some 4), (34, some 5), (34, some 6), (34, some 7), (35, none), (36, some 6), (36, some 7), (37, none), (38, none), (39, none), (40, none), (41, none), (42, none), (43, some 2), (43, some 3), (43, some 4), (43, some 5), (43, some 6), (43, some 7), (44, none), (45, some 6), (45, some 7), (46, none), (47, none), (48, none), (49, none), (50, none), (51, none), (52, some 2), (52, some 3), (52, some 4), (52, some 5), (52, some 6), (52, some 7), (53, none), (54, some 6), (54, some 7), (55, none), (56, none), (57, none), (58, none), (59, none), (60, none)] w w' ∧ ((w' 20 10).toInt = 0 ∨ (w' 2 3).toInt ≤ 1024) ∧ (¬ (w 20 10).toInt = 0 ∨ (a1.toInt < 0 ∨ 3 < a1.toInt) ∧ r.toInt = -1 ∨ 0 ≤ a1.toInt ∧ a1.toInt ≤ 3 ∧ r.toInt = -2)) := by
  refine kM_of (own := "TaleMachine") rfl (by decide) (Nat.le_of_ble_eq_true rfl) ?_
  intro p e s m args below meth c C hr hlk
  have hF0 : kF [(25, some 2), (25, some 3), (25, some 4), (25, some 5), (25, some 6), (25, some 7), (26, none), (27, some 6), (27, some 7), (28, none), (29, none), (30, none), (31, none), (32, none), (33, none), (34, some 2), (34, some 3), (34, some 4), (34, some 5), (34, some 6), (34, some 7), (35, none), (36, some 6), (36, some 7), (37, none), (38, none), (39, none), (40, none), (41, none), (42, none), (43, some 2), (43, some 3), (43, some 4), (43, some 5), (43, some 6), (43, some 7), (44, none), (45, some 6), (45, some 7), (46, none), (47, none), (48, none), (49, none), (50, none), (51, none), (52, some 2), (52, some 3), (52, some 4), (52, some 5), (52, some 6), (52, some 7), (53, none), (54, some 6), (54, some 7), (55, none), (56, none), (57, none), (58, none), (59, none), (60, none)] w w := kF.rf
  have c_m2 : (-2 : Int32).toInt = -2 := by decide
  have c_m1 : (-1 : Int32).toInt = -1 := by decide
  have c_1 : (1 : Int32).toInt = 1 := by decide
  have c_3 : (3 : Int32).toInt = 3 := by decide
  have c_4 : (4 : Int32).toInt = 4 := by decide
  refine kV.L (L' := [(0, .ref (ρ 0)), (1, .int a1)]) rfl ?_
  obtain ⟨x1, e2⟩ : ∃ z : Int32, w 20 10 = z := ⟨_, rfl⟩
  have b3 : (0 : Int) ≤ x1.toInt ∧ x1.toInt ≤ 4 := by rw [← e2]; exact hI 20 10
  obtain ⟨x4, e5⟩ : ∃ z : Int32, w 2 3 = z := ⟨_, rfl⟩
  have b6 : (0 : Int) ≤ x4.toInt ∧ x4.toInt ≤ 65535 := by rw [← e5]; exact hI 2 3
  rw [e2, e5] at hp0
  have g7 := kf_rng a1
  refine kv_iload_n C 1 rfl 1 (kdec dk_cX9_save 0 rfl) rfl rfl ?_
  refine kv_if_lt C 4 rfl 13 (kdec dk_cX9_save 1 rfl) (by decide) (fun d8 => ?_) (fun d8 => ?_)
  · skip
    refine kv_iconst C 14 rfl (-1) (kdec dk_cX9_save 7 rfl) rfl ?_
    exact kv_iret C hr hlk (kdec dk_cX9_save 8 rfl) ⟨_, rfl, hI, hF0, (by rw [e2, e5]; try omega), (by rw [e2]; try omega)⟩
  · skip
    refine kv_iload_n C 5 rfl 1 (kdec dk_cX9_save 2 rfl) rfl rfl ?_
    refine kv_aload_n C 6 rfl 0 (kdec dk_cX9_save 3 rfl) rfl rfl ?_
    refine kv_getr C 9 rfl 0 8 rfl rfl inX9 (by decide) mfl_TaleMachine_66 rfl rfl (kdec dk_cX9_save 4 rfl) ?_
    refine kv_alenq C 10 rfl 24 4 rfl rfl (kdec dk_cX9_save 5 rfl) ?_
    refine kv_icmp_lt C 13 rfl 15 (kdec dk_cX9_save 6 rfl) (by decide) (fun d9 => ?_) (fun d9 => ?_)
    · skip
      refine kv_aload_n C 16 rfl 0 (kdec dk_cX9_save 9 rfl) rfl rfl ?_
      refine kv_getr C 19 rfl 0 7 rfl rfl inX9 (by decide) mfl_TaleMachine_60 rfl rfl (kdec dk_cX9_save 10 rfl) ?_
      refine kv_getN C 22 rfl 20 10 rfl rfl inX1 (by decide) mfn_TaleMachine_86 rfl rfl (kdec dk_cX9_save 11 rfl) e2 ?_
      refine kv_iconst C 23 rfl 1 (kdec dk_cX9_save 12 rfl) rfl ?_
      refine kv_icmp_eq C 26 rfl 40 (kdec dk_cX9_save 13 rfl) (by decide) (fun d10 => ?_) (fun d10 => ?_)
      · skip
        refine kv_aload_n C 41 rfl 0 (kdec dk_cX9_save 21 rfl) rfl rfl ?_
        refine kv_getr C 44 rfl 0 8 rfl rfl inX9 (by decide) mfl_TaleMachine_66 rfl rfl (kdec dk_cX9_save 22 rfl) ?_
        refine kv_iload_n C 45 rfl 1 (kdec dk_cX9_save 23 rfl) rfl rfl ?_
        have d11 : (a1 : Int32).toInt = 0 ∨ (a1 : Int32).toInt = 1 ∨ (a1 : Int32).toInt = 2 ∨ (a1 : Int32).toInt = 3 := by omega
        rcases d11 with d11 | d11 | d11 | d11
        · skip
          refine kv_aldq C 46 rfl 24 0 rfl d11 rfl (by decide) (kdec dk_cX9_save 24 rfl) ?_
          refine kv_aload_n C 47 rfl 0 (kdec dk_cX9_save 25 rfl) rfl rfl ?_
          refine kv_getr C 50 rfl 0 1 rfl rfl inX9 (by decide) mfl_TaleMachine_16 rfl rfl (kdec dk_cX9_save 26 rfl) ?_
          refine kv_aload_n C 51 rfl 0 (kdec dk_cX9_save 27 rfl) rfl rfl ?_
          refine kv_getr C 54 rfl 0 2 rfl rfl inX9 (by decide) mfl_TaleMachine_23 rfl rfl (kdec dk_cX9_save 28 rfl) ?_
          refine kv_aload_n C 55 rfl 0 (kdec dk_cX9_save 29 rfl) rfl rfl ?_
          refine kv_getr C 58 rfl 0 7 rfl rfl inX9 (by decide) mfl_TaleMachine_60 rfl rfl (kdec dk_cX9_save 30 rfl) ?_
          refine kv_callVNv (As := [.ref (ρ 2), .ref (ρ 5), .ref (ρ 20)]) (rest := []) C 61 rfl 25 (k_s_keep0 l D τ ρ σ w  (kI_strong hI (by rw [e5]; omega)) ) rfl rfl mmn_TaleMachine_157 mim_yX5_keep mse_yX5_keep mcd_yX5_keep min_yX5_keep hd_yX5_keep rfl rfl rfl (by decide) rfl (Nat.le_of_ble_eq_true rfl) (kdec dk_cX9_save 31 rfl) (fun w12 h13 => ?_)
          obtain ⟨I14, f15⟩ := h13
          have I18 := kI_weak I14
          have F17 : kF [(25, some 2), (25, some 3), (25, some 4), (25, some 5), (25, some 6), (25, some 7), (26, none), (27, some 6), (27, some 7), (28, none), (29, none), (30, none), (31, none), (32, none), (33, none), (34, some 2), (34, some 3), (34, some 4), (34, some 5), (34, some 6), (34, some 7), (35, none), (36, some 6), (36, some 7), (37, none), (38, none), (39, none), (40, none), (41, none), (42, none), (43, some 2), (43, some 3), (43, some 4), (43, some 5), (43, some 6), (43, some 7), (44, none), (45, some 6), (45, some 7), (46, none), (47, none), (48, none), (49, none), (50, none), (51, none), (52, some 2), (52, some 3), (52, some 4), (52, some 5), (52, some 6), (52, some 7), (53, none), (54, some 6), (54, some 7), (55, none), (56, none), (57, none), (58, none), (59, none), (60, none)] w w12 := kF_call hF0 f15 (by decide)
          refine kv_aload_n C 62 rfl 0 (kdec dk_cX9_save 32 rfl) rfl rfl ?_
          refine kv_getr C 65 rfl 0 8 rfl rfl inX9 (by decide) mfl_TaleMachine_66 rfl rfl (kdec dk_cX9_save 33 rfl) ?_
          refine kv_iload_n C 66 rfl 1 (kdec dk_cX9_save 34 rfl) rfl rfl ?_
          refine kv_aldq C 67 rfl 24 0 rfl d11 rfl (by decide) (kdec dk_cX9_save 35 rfl) ?_
          obtain ⟨x19, e20⟩ : ∃ z : Int32, w12 25 3 = z := ⟨_, rfl⟩
          have b21 : (0 : Int) ≤ x19.toInt ∧ x19.toInt ≤ 1536 := by rw [← e20]; exact I18 25 3
          refine kv_getN C 70 rfl 25 3 rfl rfl inX5 (by decide) mfn_TaleMachine_161 rfl rfl (kdec dk_cX9_save 36 rfl) e20 ?_
          have e22 : w12 20 10 = x1 := ((f15 20 10 rfl : w12 20 10 = w 20 10).trans e2)
          have e23 : w12 2 3 = x4 := ((f15 2 3 rfl : w12 2 3 = w 2 3).trans e5)
          exact kv_iret C hr hlk (kdec dk_cX9_save 37 rfl) ⟨_, rfl, I18, F17, (by rw [e22, e23]; try omega), (by rw [e2]; try omega)⟩
        · skip
          refine kv_aldq C 46 rfl 24 1 rfl d11 rfl (by decide) (kdec dk_cX9_save 24 rfl) ?_
          refine kv_aload_n C 47 rfl 0 (kdec dk_cX9_save 25 rfl) rfl rfl ?_
          refine kv_getr C 50 rfl 0 1 rfl rfl inX9 (by decide) mfl_TaleMachine_16 rfl rfl (kdec dk_cX9_save 26 rfl) ?_
          refine kv_aload_n C 51 rfl 0 (kdec dk_cX9_save 27 rfl) rfl rfl ?_
          refine kv_getr C 54 rfl 0 2 rfl rfl inX9 (by decide) mfl_TaleMachine_23 rfl rfl (kdec dk_cX9_save 28 rfl) ?_
          refine kv_aload_n C 55 rfl 0 (kdec dk_cX9_save 29 rfl) rfl rfl ?_
          refine kv_getr C 58 rfl 0 7 rfl rfl inX9 (by decide) mfl_TaleMachine_60 rfl rfl (kdec dk_cX9_save 30 rfl) ?_
          refine kv_callVNv (As := [.ref (ρ 2), .ref (ρ 5), .ref (ρ 20)]) (rest := []) C 61 rfl 34 (k_s_keep1 l D τ ρ σ w  (kI_strong hI (by rw [e5]; omega)) ) rfl rfl mmn_TaleMachine_157 mim_yX5_keep mse_yX5_keep mcd_yX5_keep min_yX5_keep hd_yX5_keep rfl rfl rfl (by decide) rfl (Nat.le_of_ble_eq_true rfl) (kdec dk_cX9_save 31 rfl) (fun w24 h25 => ?_)
          obtain ⟨I26, f27⟩ := h25
          have I30 := kI_weak I26
          have F29 : kF [(25, some 2), (25, some 3), (25, some 4), (25, some 5), (25, some 6), (25, some 7), (26, none), (27, some 6), (27, some 7), (28, none), (29, none), (30, none), (31, none), (32, none), (33, none), (34, some 2), (34, some 3), (34, some 4), (34, some 5), (34, some 6), (34, some 7), (35, none), (36, some 6), (36, some 7), (37, none), (38, none), (39, none), (40, none), (41, none), (42, none), (43, some 2), (43, some 3), (43, some 4), (43, some 5), (43, some 6), (43, some 7), (44, none), (45, some 6), (45, some 7), (46, none), (47, none), (48, none), (49, none), (50, none), (51, none), (52, some 2), (52, some 3), (52, some 4), (52, some 5), (52, some 6), (52, some 7), (53, none), (54, some 6), (54, some 7), (55, none), (56, none), (57, none), (58, none), (59, none), (60, none)] w w24 := kF_call hF0 f27 (by decide)
          refine kv_aload_n C 62 rfl 0 (kdec dk_cX9_save 32 rfl) rfl rfl ?_
          refine kv_getr C 65 rfl 0 8 rfl rfl inX9 (by decide) mfl_TaleMachine_66 rfl rfl (kdec dk_cX9_save 33 rfl) ?_
          refine kv_iload_n C 66 rfl 1 (kdec dk_cX9_save 34 rfl) rfl rfl ?_
          refine kv_aldq C 67 rfl 24 1 rfl d11 rfl (by decide) (kdec dk_cX9_save 35 rfl) ?_
          obtain ⟨x31, e32⟩ : ∃ z : Int32, w24 34 3 = z := ⟨_, rfl⟩
          have b33 : (0 : Int) ≤ x31.toInt ∧ x31.toInt ≤ 1536 := by rw [← e32]; exact I30 34 3
          refine kv_getN C 70 rfl 34 3 rfl rfl inX5 (by decide) mfn_TaleMachine_161 rfl rfl (kdec dk_cX9_save 36 rfl) e32 ?_
          have e34 : w24 20 10 = x1 := ((f27 20 10 rfl : w24 20 10 = w 20 10).trans e2)
          have e35 : w24 2 3 = x4 := ((f27 2 3 rfl : w24 2 3 = w 2 3).trans e5)
          exact kv_iret C hr hlk (kdec dk_cX9_save 37 rfl) ⟨_, rfl, I30, F29, (by rw [e34, e35]; try omega), (by rw [e2]; try omega)⟩
        · skip
          refine kv_aldq C 46 rfl 24 2 rfl d11 rfl (by decide) (kdec dk_cX9_save 24 rfl) ?_
          refine kv_aload_n C 47 rfl 0 (kdec dk_cX9_save 25 rfl) rfl rfl ?_
          refine kv_getr C 50 rfl 0 1 rfl rfl inX9 (by decide) mfl_TaleMachine_16 rfl rfl (kdec dk_cX9_save 26 rfl) ?_
          refine kv_aload_n C 51 rfl 0 (kdec dk_cX9_save 27 rfl) rfl rfl ?_
          refine kv_getr C 54 rfl 0 2 rfl rfl inX9 (by decide) mfl_TaleMachine_23 rfl rfl (kdec dk_cX9_save 28 rfl) ?_
          refine kv_aload_n C 55 rfl 0 (kdec dk_cX9_save 29 rfl) rfl rfl ?_
          refine kv_getr C 58 rfl 0 7 rfl rfl inX9 (by decide) mfl_TaleMachine_60 rfl rfl (kdec dk_cX9_save 30 rfl) ?_
          refine kv_callVNv (As := [.ref (ρ 2), .ref (ρ 5), .ref (ρ 20)]) (rest := []) C 61 rfl 43 (k_s_keep2 l D τ ρ σ w  (kI_strong hI (by rw [e5]; omega)) ) rfl rfl mmn_TaleMachine_157 mim_yX5_keep mse_yX5_keep mcd_yX5_keep min_yX5_keep hd_yX5_keep rfl rfl rfl (by decide) rfl (Nat.le_of_ble_eq_true rfl) (kdec dk_cX9_save 31 rfl) (fun w36 h37 => ?_)
          obtain ⟨I38, f39⟩ := h37
          have I42 := kI_weak I38
          have F41 : kF [(25, some 2), (25, some 3), (25, some 4), (25, some 5), (25, some 6), (25, some 7), (26, none), (27, some 6), (27, some 7), (28, none), (29, none), (30, none), (31, none), (32, none), (33, none), (34, some 2), (34, some 3), (34, some 4), (34, some 5), (34, some 6), (34, some 7), (35, none), (36, some 6), (36, some 7), (37, none), (38, none), (39, none), (40, none), (41, none), (42, none), (43, some 2), (43, some 3), (43, some 4), (43, some 5), (43, some 6), (43, some 7), (44, none), (45, some 6), (45, some 7), (46, none), (47, none), (48, none), (49, none), (50, none), (51, none), (52, some 2), (52, some 3), (52, some 4), (52, some 5), (52, some 6), (52, some 7), (53, none), (54, some 6), (54, some 7), (55, none), (56, none), (57, none), (58, none), (59, none), (60, none)] w w36 := kF_call hF0 f39 (by decide)
          refine kv_aload_n C 62 rfl 0 (kdec dk_cX9_save 32 rfl) rfl rfl ?_
          refine kv_getr C 65 rfl 0 8 rfl rfl inX9 (by decide) mfl_TaleMachine_66 rfl rfl (kdec dk_cX9_save 33 rfl) ?_
          refine kv_iload_n C 66 rfl 1 (kdec dk_cX9_save 34 rfl) rfl rfl ?_
          refine kv_aldq C 67 rfl 24 2 rfl d11 rfl (by decide) (kdec dk_cX9_save 35 rfl) ?_
          obtain ⟨x43, e44⟩ : ∃ z : Int32, w36 43 3 = z := ⟨_, rfl⟩
          have b45 : (0 : Int) ≤ x43.toInt ∧ x43.toInt ≤ 1536 := by rw [← e44]; exact I42 43 3
          refine kv_getN C 70 rfl 43 3 rfl rfl inX5 (by decide) mfn_TaleMachine_161 rfl rfl (kdec dk_cX9_save 36 rfl) e44 ?_
          have e46 : w36 20 10 = x1 := ((f39 20 10 rfl : w36 20 10 = w 20 10).trans e2)
          have e47 : w36 2 3 = x4 := ((f39 2 3 rfl : w36 2 3 = w 2 3).trans e5)
          exact kv_iret C hr hlk (kdec dk_cX9_save 37 rfl) ⟨_, rfl, I42, F41, (by rw [e46, e47]; try omega), (by rw [e2]; try omega)⟩
        · skip
          refine kv_aldq C 46 rfl 24 3 rfl d11 rfl (by decide) (kdec dk_cX9_save 24 rfl) ?_
          refine kv_aload_n C 47 rfl 0 (kdec dk_cX9_save 25 rfl) rfl rfl ?_
          refine kv_getr C 50 rfl 0 1 rfl rfl inX9 (by decide) mfl_TaleMachine_16 rfl rfl (kdec dk_cX9_save 26 rfl) ?_
          refine kv_aload_n C 51 rfl 0 (kdec dk_cX9_save 27 rfl) rfl rfl ?_
          refine kv_getr C 54 rfl 0 2 rfl rfl inX9 (by decide) mfl_TaleMachine_23 rfl rfl (kdec dk_cX9_save 28 rfl) ?_
          refine kv_aload_n C 55 rfl 0 (kdec dk_cX9_save 29 rfl) rfl rfl ?_
          refine kv_getr C 58 rfl 0 7 rfl rfl inX9 (by decide) mfl_TaleMachine_60 rfl rfl (kdec dk_cX9_save 30 rfl) ?_
          refine kv_callVNv (As := [.ref (ρ 2), .ref (ρ 5), .ref (ρ 20)]) (rest := []) C 61 rfl 52 (k_s_keep3 l D τ ρ σ w  (kI_strong hI (by rw [e5]; omega)) ) rfl rfl mmn_TaleMachine_157 mim_yX5_keep mse_yX5_keep mcd_yX5_keep min_yX5_keep hd_yX5_keep rfl rfl rfl (by decide) rfl (Nat.le_of_ble_eq_true rfl) (kdec dk_cX9_save 31 rfl) (fun w48 h49 => ?_)
          obtain ⟨I50, f51⟩ := h49
          have I54 := kI_weak I50
          have F53 : kF [(25, some 2), (25, some 3), (25, some 4), (25, some 5), (25, some 6), (25, some 7), (26, none), (27, some 6), (27, some 7), (28, none), (29, none), (30, none), (31, none), (32, none), (33, none), (34, some 2), (34, some 3), (34, some 4), (34, some 5), (34, some 6), (34, some 7), (35, none), (36, some 6), (36, some 7), (37, none), (38, none), (39, none), (40, none), (41, none), (42, none), (43, some 2), (43, some 3), (43, some 4), (43, some 5), (43, some 6), (43, some 7), (44, none), (45, some 6), (45, some 7), (46, none), (47, none), (48, none), (49, none), (50, none), (51, none), (52, some 2), (52, some 3), (52, some 4), (52, some 5), (52, some 6), (52, some 7), (53, none), (54, some 6), (54, some 7), (55, none), (56, none), (57, none), (58, none), (59, none), (60, none)] w w48 := kF_call hF0 f51 (by decide)
          refine kv_aload_n C 62 rfl 0 (kdec dk_cX9_save 32 rfl) rfl rfl ?_
          refine kv_getr C 65 rfl 0 8 rfl rfl inX9 (by decide) mfl_TaleMachine_66 rfl rfl (kdec dk_cX9_save 33 rfl) ?_
          refine kv_iload_n C 66 rfl 1 (kdec dk_cX9_save 34 rfl) rfl rfl ?_
          refine kv_aldq C 67 rfl 24 3 rfl d11 rfl (by decide) (kdec dk_cX9_save 35 rfl) ?_
          obtain ⟨x55, e56⟩ : ∃ z : Int32, w48 52 3 = z := ⟨_, rfl⟩
          have b57 : (0 : Int) ≤ x55.toInt ∧ x55.toInt ≤ 1536 := by rw [← e56]; exact I54 52 3
          refine kv_getN C 70 rfl 52 3 rfl rfl inX5 (by decide) mfn_TaleMachine_161 rfl rfl (kdec dk_cX9_save 36 rfl) e56 ?_
          have e58 : w48 20 10 = x1 := ((f51 20 10 rfl : w48 20 10 = w 20 10).trans e2)
          have e59 : w48 2 3 = x4 := ((f51 2 3 rfl : w48 2 3 = w 2 3).trans e5)
          exact kv_iret C hr hlk (kdec dk_cX9_save 37 rfl) ⟨_, rfl, I54, F53, (by rw [e58, e59]; try omega), (by rw [e2]; try omega)⟩
      · skip
        refine kv_aload_n C 27 rfl 0 (kdec dk_cX9_save 14 rfl) rfl rfl ?_
        refine kv_getr C 30 rfl 0 7 rfl rfl inX9 (by decide) mfl_TaleMachine_60 rfl rfl (kdec dk_cX9_save 15 rfl) ?_
        refine kv_getN C 33 rfl 20 10 rfl rfl inX1 (by decide) mfn_TaleMachine_86 rfl rfl (kdec dk_cX9_save 16 rfl) e2 ?_
        refine kv_iconst C 34 rfl 3 (kdec dk_cX9_save 17 rfl) rfl ?_
        refine kv_icmp_eq C 37 rfl 40 (kdec dk_cX9_save 18 rfl) (by decide) (fun d60 => ?_) (fun d60 => ?_)
        · skip
          refine kv_aload_n C 41 rfl 0 (kdec dk_cX9_save 21 rfl) rfl rfl ?_
          refine kv_getr C 44 rfl 0 8 rfl rfl inX9 (by decide) mfl_TaleMachine_66 rfl rfl (kdec dk_cX9_save 22 rfl) ?_
          refine kv_iload_n C 45 rfl 1 (kdec dk_cX9_save 23 rfl) rfl rfl ?_
          have d61 : (a1 : Int32).toInt = 0 ∨ (a1 : Int32).toInt = 1 ∨ (a1 : Int32).toInt = 2 ∨ (a1 : Int32).toInt = 3 := by omega
          rcases d61 with d61 | d61 | d61 | d61
          · skip
            refine kv_aldq C 46 rfl 24 0 rfl d61 rfl (by decide) (kdec dk_cX9_save 24 rfl) ?_
            refine kv_aload_n C 47 rfl 0 (kdec dk_cX9_save 25 rfl) rfl rfl ?_
            refine kv_getr C 50 rfl 0 1 rfl rfl inX9 (by decide) mfl_TaleMachine_16 rfl rfl (kdec dk_cX9_save 26 rfl) ?_
            refine kv_aload_n C 51 rfl 0 (kdec dk_cX9_save 27 rfl) rfl rfl ?_
            refine kv_getr C 54 rfl 0 2 rfl rfl inX9 (by decide) mfl_TaleMachine_23 rfl rfl (kdec dk_cX9_save 28 rfl) ?_
            refine kv_aload_n C 55 rfl 0 (kdec dk_cX9_save 29 rfl) rfl rfl ?_
            refine kv_getr C 58 rfl 0 7 rfl rfl inX9 (by decide) mfl_TaleMachine_60 rfl rfl (kdec dk_cX9_save 30 rfl) ?_
            refine kv_callVNv (As := [.ref (ρ 2), .ref (ρ 5), .ref (ρ 20)]) (rest := []) C 61 rfl 25 (k_s_keep0 l D τ ρ σ w  (kI_strong hI (by rw [e5]; omega)) ) rfl rfl mmn_TaleMachine_157 mim_yX5_keep mse_yX5_keep mcd_yX5_keep min_yX5_keep hd_yX5_keep rfl rfl rfl (by decide) rfl (Nat.le_of_ble_eq_true rfl) (kdec dk_cX9_save 31 rfl) (fun w62 h63 => ?_)
            obtain ⟨I64, f65⟩ := h63
            have I68 := kI_weak I64
            have F67 : kF [(25, some 2), (25, some 3), (25, some 4), (25, some 5), (25, some 6), (25, some 7), (26, none), (27, some 6), (27, some 7), (28, none), (29, none), (30, none), (31, none), (32, none), (33, none), (34, some 2), (34, some 3), (34, some 4), (34, some 5), (34, some 6), (34, some 7), (35, none), (36, some 6), (36, some 7), (37, none), (38, none), (39, none), (40, none), (41, none), (42, none), (43, some 2), (43, some 3), (43, some 4), (43, some 5), (43, some 6), (43, some 7), (44, none), (45, some 6), (45, some 7), (46, none), (47, none), (48, none), (49, none), (50, none), (51, none), (52, some 2), (52, some 3), (52, some 4), (52, some 5), (52, some 6), (52, some 7), (53, none), (54, some 6), (54, some 7), (55, none), (56, none), (57, none), (58, none), (59, none), (60, none)] w w62 := kF_call hF0 f65 (by decide)
            refine kv_aload_n C 62 rfl 0 (kdec dk_cX9_save 32 rfl) rfl rfl ?_
            refine kv_getr C 65 rfl 0 8 rfl rfl inX9 (by decide) mfl_TaleMachine_66 rfl rfl (kdec dk_cX9_save 33 rfl) ?_
            refine kv_iload_n C 66 rfl 1 (kdec dk_cX9_save 34 rfl) rfl rfl ?_
            refine kv_aldq C 67 rfl 24 0 rfl d61 rfl (by decide) (kdec dk_cX9_save 35 rfl) ?_
            obtain ⟨x69, e70⟩ : ∃ z : Int32, w62 25 3 = z := ⟨_, rfl⟩
            have b71 : (0 : Int) ≤ x69.toInt ∧ x69.toInt ≤ 1536 := by rw [← e70]; exact I68 25 3
            refine kv_getN C 70 rfl 25 3 rfl rfl inX5 (by decide) mfn_TaleMachine_161 rfl rfl (kdec dk_cX9_save 36 rfl) e70 ?_
            have e72 : w62 20 10 = x1 := ((f65 20 10 rfl : w62 20 10 = w 20 10).trans e2)
            have e73 : w62 2 3 = x4 := ((f65 2 3 rfl : w62 2 3 = w 2 3).trans e5)
            exact kv_iret C hr hlk (kdec dk_cX9_save 37 rfl) ⟨_, rfl, I68, F67, (by rw [e72, e73]; try omega), (by rw [e2]; try omega)⟩
          · skip
            refine kv_aldq C 46 rfl 24 1 rfl d61 rfl (by decide) (kdec dk_cX9_save 24 rfl) ?_
            refine kv_aload_n C 47 rfl 0 (kdec dk_cX9_save 25 rfl) rfl rfl ?_
            refine kv_getr C 50 rfl 0 1 rfl rfl inX9 (by decide) mfl_TaleMachine_16 rfl rfl (kdec dk_cX9_save 26 rfl) ?_
            refine kv_aload_n C 51 rfl 0 (kdec dk_cX9_save 27 rfl) rfl rfl ?_
            refine kv_getr C 54 rfl 0 2 rfl rfl inX9 (by decide) mfl_TaleMachine_23 rfl rfl (kdec dk_cX9_save 28 rfl) ?_
            refine kv_aload_n C 55 rfl 0 (kdec dk_cX9_save 29 rfl) rfl rfl ?_
            refine kv_getr C 58 rfl 0 7 rfl rfl inX9 (by decide) mfl_TaleMachine_60 rfl rfl (kdec dk_cX9_save 30 rfl) ?_
            refine kv_callVNv (As := [.ref (ρ 2), .ref (ρ 5), .ref (ρ 20)]) (rest := []) C 61 rfl 34 (k_s_keep1 l D τ ρ σ w  (kI_strong hI (by rw [e5]; omega)) ) rfl rfl mmn_TaleMachine_157 mim_yX5_keep mse_yX5_keep mcd_yX5_keep min_yX5_keep hd_yX5_keep rfl rfl rfl (by decide) rfl (Nat.le_of_ble_eq_true rfl) (kdec dk_cX9_save 31 rfl) (fun w74 h75 => ?_)
            obtain ⟨I76, f77⟩ := h75
            have I80 := kI_weak I76
            have F79 : kF [(25, some 2), (25, some 3), (25, some 4), (25, some 5), (25, some 6), (25, some 7), (26, none), (27, some 6), (27, some 7), (28, none), (29, none), (30, none), (31, none), (32, none), (33, none), (34, some 2), (34, some 3), (34, some 4), (34, some 5), (34, some 6), (34, some 7), (35, none), (36, some 6), (36, some 7), (37, none), (38, none), (39, none), (40, none), (41, none), (42, none), (43, some 2), (43, some 3), (43, some 4), (43, some 5), (43, some 6), (43, some 7), (44, none), (45, some 6), (45, some 7), (46, none), (47, none), (48, none), (49, none), (50, none), (51, none), (52, some 2), (52, some 3), (52, some 4), (52, some 5), (52, some 6), (52, some 7), (53, none), (54, some 6), (54, some 7), (55, none), (56, none), (57, none), (58, none), (59, none), (60, none)] w w74 := kF_call hF0 f77 (by decide)
            refine kv_aload_n C 62 rfl 0 (kdec dk_cX9_save 32 rfl) rfl rfl ?_
            refine kv_getr C 65 rfl 0 8 rfl rfl inX9 (by decide) mfl_TaleMachine_66 rfl rfl (kdec dk_cX9_save 33 rfl) ?_
            refine kv_iload_n C 66 rfl 1 (kdec dk_cX9_save 34 rfl) rfl rfl ?_
            refine kv_aldq C 67 rfl 24 1 rfl d61 rfl (by decide) (kdec dk_cX9_save 35 rfl) ?_
            obtain ⟨x81, e82⟩ : ∃ z : Int32, w74 34 3 = z := ⟨_, rfl⟩
            have b83 : (0 : Int) ≤ x81.toInt ∧ x81.toInt ≤ 1536 := by rw [← e82]; exact I80 34 3
            refine kv_getN C 70 rfl 34 3 rfl rfl inX5 (by decide) mfn_TaleMachine_161 rfl rfl (kdec dk_cX9_save 36 rfl) e82 ?_
            have e84 : w74 20 10 = x1 := ((f77 20 10 rfl : w74 20 10 = w 20 10).trans e2)
            have e85 : w74 2 3 = x4 := ((f77 2 3 rfl : w74 2 3 = w 2 3).trans e5)
            exact kv_iret C hr hlk (kdec dk_cX9_save 37 rfl) ⟨_, rfl, I80, F79, (by rw [e84, e85]; try omega), (by rw [e2]; try omega)⟩
          · skip
            refine kv_aldq C 46 rfl 24 2 rfl d61 rfl (by decide) (kdec dk_cX9_save 24 rfl) ?_
            refine kv_aload_n C 47 rfl 0 (kdec dk_cX9_save 25 rfl) rfl rfl ?_
            refine kv_getr C 50 rfl 0 1 rfl rfl inX9 (by decide) mfl_TaleMachine_16 rfl rfl (kdec dk_cX9_save 26 rfl) ?_
            refine kv_aload_n C 51 rfl 0 (kdec dk_cX9_save 27 rfl) rfl rfl ?_
            refine kv_getr C 54 rfl 0 2 rfl rfl inX9 (by decide) mfl_TaleMachine_23 rfl rfl (kdec dk_cX9_save 28 rfl) ?_
            refine kv_aload_n C 55 rfl 0 (kdec dk_cX9_save 29 rfl) rfl rfl ?_
            refine kv_getr C 58 rfl 0 7 rfl rfl inX9 (by decide) mfl_TaleMachine_60 rfl rfl (kdec dk_cX9_save 30 rfl) ?_
            refine kv_callVNv (As := [.ref (ρ 2), .ref (ρ 5), .ref (ρ 20)]) (rest := []) C 61 rfl 43 (k_s_keep2 l D τ ρ σ w  (kI_strong hI (by rw [e5]; omega)) ) rfl rfl mmn_TaleMachine_157 mim_yX5_keep mse_yX5_keep mcd_yX5_keep min_yX5_keep hd_yX5_keep rfl rfl rfl (by decide) rfl (Nat.le_of_ble_eq_true rfl) (kdec dk_cX9_save 31 rfl) (fun w86 h87 => ?_)
            obtain ⟨I88, f89⟩ := h87
            have I92 := kI_weak I88
            have F91 : kF [(25, some 2), (25, some 3), (25, some 4), (25, some 5), (25, some 6), (25, some 7), (26, none), (27, some 6), (27, some 7), (28, none), (29, none), (30, none), (31, none), (32, none), (33, none), (34, some 2), (34, some 3), (34, some 4), (34, some 5), (34, some 6), (34, some 7), (35, none), (36, some 6), (36, some 7), (37, none), (38, none), (39, none), (40, none), (41, none), (42, none), (43, some 2), (43, some 3), (43, some 4), (43, some 5), (43, some 6), (43, some 7), (44, none), (45, some 6), (45, some 7), (46, none), (47, none), (48, none), (49, none), (50, none), (51, none), (52, some 2), (52, some 3), (52, some 4), (52, some 5), (52, some 6), (52, some 7), (53, none), (54, some 6), (54, some 7), (55, none), (56, none), (57, none), (58, none), (59, none), (60, none)] w w86 := kF_call hF0 f89 (by decide)
            refine kv_aload_n C 62 rfl 0 (kdec dk_cX9_save 32 rfl) rfl rfl ?_
            refine kv_getr C 65 rfl 0 8 rfl rfl inX9 (by decide) mfl_TaleMachine_66 rfl rfl (kdec dk_cX9_save 33 rfl) ?_
            refine kv_iload_n C 66 rfl 1 (kdec dk_cX9_save 34 rfl) rfl rfl ?_
            refine kv_aldq C 67 rfl 24 2 rfl d61 rfl (by decide) (kdec dk_cX9_save 35 rfl) ?_
            obtain ⟨x93, e94⟩ : ∃ z : Int32, w86 43 3 = z := ⟨_, rfl⟩
            have b95 : (0 : Int) ≤ x93.toInt ∧ x93.toInt ≤ 1536 := by rw [← e94]; exact I92 43 3
            refine kv_getN C 70 rfl 43 3 rfl rfl inX5 (by decide) mfn_TaleMachine_161 rfl rfl (kdec dk_cX9_save 36 rfl) e94 ?_
            have e96 : w86 20 10 = x1 := ((f89 20 10 rfl : w86 20 10 = w 20 10).trans e2)
            have e97 : w86 2 3 = x4 := ((f89 2 3 rfl : w86 2 3 = w 2 3).trans e5)
            exact kv_iret C hr hlk (kdec dk_cX9_save 37 rfl) ⟨_, rfl, I92, F91, (by rw [e96, e97]; try omega), (by rw [e2]; try omega)⟩
          · skip
            refine kv_aldq C 46 rfl 24 3 rfl d61 rfl (by decide) (kdec dk_cX9_save 24 rfl) ?_
            refine kv_aload_n C 47 rfl 0 (kdec dk_cX9_save 25 rfl) rfl rfl ?_
            refine kv_getr C 50 rfl 0 1 rfl rfl inX9 (by decide) mfl_TaleMachine_16 rfl rfl (kdec dk_cX9_save 26 rfl) ?_
            refine kv_aload_n C 51 rfl 0 (kdec dk_cX9_save 27 rfl) rfl rfl ?_
            refine kv_getr C 54 rfl 0 2 rfl rfl inX9 (by decide) mfl_TaleMachine_23 rfl rfl (kdec dk_cX9_save 28 rfl) ?_
            refine kv_aload_n C 55 rfl 0 (kdec dk_cX9_save 29 rfl) rfl rfl ?_
            refine kv_getr C 58 rfl 0 7 rfl rfl inX9 (by decide) mfl_TaleMachine_60 rfl rfl (kdec dk_cX9_save 30 rfl) ?_
            refine kv_callVNv (As := [.ref (ρ 2), .ref (ρ 5), .ref (ρ 20)]) (rest := []) C 61 rfl 52 (k_s_keep3 l D τ ρ σ w  (kI_strong hI (by rw [e5]; omega)) ) rfl rfl mmn_TaleMachine_157 mim_yX5_keep mse_yX5_keep mcd_yX5_keep min_yX5_keep hd_yX5_keep rfl rfl rfl (by decide) rfl (Nat.le_of_ble_eq_true rfl) (kdec dk_cX9_save 31 rfl) (fun w98 h99 => ?_)
            obtain ⟨I100, f101⟩ := h99
            have I104 := kI_weak I100
            have F103 : kF [(25, some 2), (25, some 3), (25, some 4), (25, some 5), (25, some 6), (25, some 7), (26, none), (27, some 6), (27, some 7), (28, none), (29, none), (30, none), (31, none), (32, none), (33, none), (34, some 2), (34, some 3), (34, some 4), (34, some 5), (34, some 6), (34, some 7), (35, none), (36, some 6), (36, some 7), (37, none), (38, none), (39, none), (40, none), (41, none), (42, none), (43, some 2), (43, some 3), (43, some 4), (43, some 5), (43, some 6), (43, some 7), (44, none), (45, some 6), (45, some 7), (46, none), (47, none), (48, none), (49, none), (50, none), (51, none), (52, some 2), (52, some 3), (52, some 4), (52, some 5), (52, some 6), (52, some 7), (53, none), (54, some 6), (54, some 7), (55, none), (56, none), (57, none), (58, none), (59, none), (60, none)] w w98 := kF_call hF0 f101 (by decide)
            refine kv_aload_n C 62 rfl 0 (kdec dk_cX9_save 32 rfl) rfl rfl ?_
            refine kv_getr C 65 rfl 0 8 rfl rfl inX9 (by decide) mfl_TaleMachine_66 rfl rfl (kdec dk_cX9_save 33 rfl) ?_
            refine kv_iload_n C 66 rfl 1 (kdec dk_cX9_save 34 rfl) rfl rfl ?_
            refine kv_aldq C 67 rfl 24 3 rfl d61 rfl (by decide) (kdec dk_cX9_save 35 rfl) ?_
            obtain ⟨x105, e106⟩ : ∃ z : Int32, w98 52 3 = z := ⟨_, rfl⟩
            have b107 : (0 : Int) ≤ x105.toInt ∧ x105.toInt ≤ 1536 := by rw [← e106]; exact I104 52 3
            refine kv_getN C 70 rfl 52 3 rfl rfl inX5 (by decide) mfn_TaleMachine_161 rfl rfl (kdec dk_cX9_save 36 rfl) e106 ?_
            have e108 : w98 20 10 = x1 := ((f101 20 10 rfl : w98 20 10 = w 20 10).trans e2)
            have e109 : w98 2 3 = x4 := ((f101 2 3 rfl : w98 2 3 = w 2 3).trans e5)
            exact kv_iret C hr hlk (kdec dk_cX9_save 37 rfl) ⟨_, rfl, I104, F103, (by rw [e108, e109]; try omega), (by rw [e2]; try omega)⟩
        · skip
          refine kv_bipush C 39 rfl (-2) (kdec dk_cX9_save 19 rfl) rfl ?_
          exact kv_iret C hr hlk (kdec dk_cX9_save 20 rfl) ⟨_, rfl, hI, hF0, (by rw [e2, e5]; try omega), (by rw [e2]; try omega)⟩
    · skip
      refine kv_iconst C 14 rfl (-1) (kdec dk_cX9_save 7 rfl) rfl ?_
      exact kv_iret C hr hlk (kdec dk_cX9_save 8 rfl) ⟨_, rfl, hI, hF0, (by rw [e2, e5]; try omega), (by rw [e2]; try omega)⟩

set_option maxHeartbeats 4000000 in
set_option maxRecDepth 100000 in
theorem k_m_restore (l : Launch) (D : va_G) (τ : Nat → ClassId) (ρ σ : Nat → Nat) (w : kw) (a1 : Int32) (hI : kI false w) (hp0 : (w 20 10).toInt = 0 ∨ (w 2 3).toInt ≤ 1024) :
    kM l D τ ρ σ yX9_restore cX9_restore 2 (some .int) { frames := 5, cells := 0, slots := 0, locals := 180 } [.ref (ρ 0), .int a1] w
      (fun o w' => ∃ r : Int32, o = some (.int r) ∧ kI false w' ∧ kF [(2, some 9), (3, none), (5, some 6), (5, some 7), (6, none), (7, none), (8, none), (9, none), (10, none), (11, none), (20, some 8), (20, some 10), (20, some 13), (20, some 14)] w w' ∧ ((w' 20 10).toInt = 0 ∨ (w' 2 3).toInt ≤ 1024) ∧ (¬ (w 20 10).toInt = 0 ∨ (a1.toInt < 0 ∨ 3 < a1.toInt) ∧ r.toInt = -1 ∨ 0 ≤ a1.toInt ∧ a1.toInt ≤ 3 ∧ r.toInt = -2)) := by
  refine kM_of (own := "TaleMachine") rfl (by decide) (Nat.le_of_ble_eq_true rfl) ?_
  intro p e s m args below meth c C hr hlk
  have hF0 : kF [(2, some 9), (3, none), (5, some 6), (5, some 7), (6, none), (7, none), (8, none), (9, none), (10, none), (11, none), (20, some 8), (20, some 10), (20, some 13), (20, some 14)] w w := kF.rf
  have c_m2 : (-2 : Int32).toInt = -2 := by decide
  have c_m1 : (-1 : Int32).toInt = -1 := by decide
  have c_1 : (1 : Int32).toInt = 1 := by decide
  have c_4 : (4 : Int32).toInt = 4 := by decide
  refine kV.L (L' := [(0, .ref (ρ 0)), (1, .int a1)]) rfl ?_
  obtain ⟨x1, e2⟩ : ∃ z : Int32, w 20 10 = z := ⟨_, rfl⟩
  have b3 : (0 : Int) ≤ x1.toInt ∧ x1.toInt ≤ 4 := by rw [← e2]; exact hI 20 10
  obtain ⟨x4, e5⟩ : ∃ z : Int32, w 2 3 = z := ⟨_, rfl⟩
  have b6 : (0 : Int) ≤ x4.toInt ∧ x4.toInt ≤ 65535 := by rw [← e5]; exact hI 2 3
  rw [e2, e5] at hp0
  have g7 := kf_rng a1
  refine kv_iload_n C 1 rfl 1 (kdec dk_cX9_restore 0 rfl) rfl rfl ?_
  refine kv_if_lt C 4 rfl 13 (kdec dk_cX9_restore 1 rfl) (by decide) (fun d8 => ?_) (fun d8 => ?_)
  · skip
    refine kv_iconst C 14 rfl (-1) (kdec dk_cX9_restore 7 rfl) rfl ?_
    exact kv_iret C hr hlk (kdec dk_cX9_restore 8 rfl) ⟨_, rfl, hI, hF0, (by rw [e2, e5]; try omega), (by rw [e2]; try omega)⟩
  · skip
    refine kv_iload_n C 5 rfl 1 (kdec dk_cX9_restore 2 rfl) rfl rfl ?_
    refine kv_aload_n C 6 rfl 0 (kdec dk_cX9_restore 3 rfl) rfl rfl ?_
    refine kv_getr C 9 rfl 0 8 rfl rfl inX9 (by decide) mfl_TaleMachine_66 rfl rfl (kdec dk_cX9_restore 4 rfl) ?_
    refine kv_alenq C 10 rfl 24 4 rfl rfl (kdec dk_cX9_restore 5 rfl) ?_
    refine kv_icmp_lt C 13 rfl 15 (kdec dk_cX9_restore 6 rfl) (by decide) (fun d9 => ?_) (fun d9 => ?_)
    · skip
      refine kv_aload_n C 16 rfl 0 (kdec dk_cX9_restore 9 rfl) rfl rfl ?_
      refine kv_getr C 19 rfl 0 7 rfl rfl inX9 (by decide) mfl_TaleMachine_60 rfl rfl (kdec dk_cX9_restore 10 rfl) ?_
      refine kv_getN C 22 rfl 20 10 rfl rfl inX1 (by decide) mfn_TaleMachine_86 rfl rfl (kdec dk_cX9_restore 11 rfl) e2 ?_
      refine kv_if_eq C 25 rfl 37 (kdec dk_cX9_restore 12 rfl) (by decide) (fun d10 => ?_) (fun d10 => ?_)
      · skip
        refine kv_bipush C 39 rfl (-2) (kdec dk_cX9_restore 19 rfl) rfl ?_
        exact kv_iret C hr hlk (kdec dk_cX9_restore 20 rfl) ⟨_, rfl, hI, hF0, (by rw [e2, e5]; try omega), (by rw [e2]; try omega)⟩
      · skip
        refine kv_aload_n C 26 rfl 0 (kdec dk_cX9_restore 13 rfl) rfl rfl ?_
        refine kv_getr C 29 rfl 0 8 rfl rfl inX9 (by decide) mfl_TaleMachine_66 rfl rfl (kdec dk_cX9_restore 14 rfl) ?_
        refine kv_iload_n C 30 rfl 1 (kdec dk_cX9_restore 15 rfl) rfl rfl ?_
        have d11 : (a1 : Int32).toInt = 0 ∨ (a1 : Int32).toInt = 1 ∨ (a1 : Int32).toInt = 2 ∨ (a1 : Int32).toInt = 3 := by omega
        rcases d11 with d11 | d11 | d11 | d11
        · skip
          refine kv_aldq C 31 rfl 24 0 rfl d11 rfl (by decide) (kdec dk_cX9_restore 16 rfl) ?_
          obtain ⟨x12, e13⟩ : ∃ z : Int32, w 25 2 = z := ⟨_, rfl⟩
          have b14 : (0 : Int) ≤ x12.toInt ∧ x12.toInt ≤ 1 := by rw [← e13]; exact hI 25 2
          refine kv_getN C 34 rfl 25 2 rfl rfl inX5 (by decide) mfn_TaleMachine_82 rfl rfl (kdec dk_cX9_restore 17 rfl) e13 ?_
          refine kv_if_ne C 37 rfl 40 (kdec dk_cX9_restore 18 rfl) (by decide) (fun d15 => ?_) (fun d15 => ?_)
          · skip
            refine kv_aload_n C 41 rfl 0 (kdec dk_cX9_restore 21 rfl) rfl rfl ?_
            refine kv_getr C 44 rfl 0 8 rfl rfl inX9 (by decide) mfl_TaleMachine_66 rfl rfl (kdec dk_cX9_restore 22 rfl) ?_
            refine kv_iload_n C 45 rfl 1 (kdec dk_cX9_restore 23 rfl) rfl rfl ?_
            refine kv_aldq C 46 rfl 24 0 rfl d11 rfl (by decide) (kdec dk_cX9_restore 24 rfl) ?_
            refine kv_aload_n C 47 rfl 0 (kdec dk_cX9_restore 25 rfl) rfl rfl ?_
            refine kv_getr C 50 rfl 0 1 rfl rfl inX9 (by decide) mfl_TaleMachine_16 rfl rfl (kdec dk_cX9_restore 26 rfl) ?_
            refine kv_aload_n C 51 rfl 0 (kdec dk_cX9_restore 27 rfl) rfl rfl ?_
            refine kv_getr C 54 rfl 0 2 rfl rfl inX9 (by decide) mfl_TaleMachine_23 rfl rfl (kdec dk_cX9_restore 28 rfl) ?_
            refine kv_aload_n C 55 rfl 0 (kdec dk_cX9_restore 29 rfl) rfl rfl ?_
            refine kv_getr C 58 rfl 0 7 rfl rfl inX9 (by decide) mfl_TaleMachine_60 rfl rfl (kdec dk_cX9_restore 30 rfl) ?_
            refine kv_callVNv (As := [.ref (ρ 2), .ref (ρ 5), .ref (ρ 20)]) (rest := []) C 61 rfl 25 (k_s_giveBack0 l D τ ρ σ w  (kI_strong hI (by rw [e5]; omega)) ) rfl rfl mmn_TaleMachine_162 mim_yX5_giveBack mse_yX5_giveBack mcd_yX5_giveBack min_yX5_giveBack hd_yX5_giveBack rfl rfl rfl (by decide) rfl (Nat.le_of_ble_eq_true rfl) (kdec dk_cX9_restore 31 rfl) (fun w16 h17 => ?_)
            obtain ⟨I18, f19⟩ := h17
            have I22 := kI_weak I18
            have F21 : kF [(2, some 9), (3, none), (5, some 6), (5, some 7), (6, none), (7, none), (8, none), (9, none), (10, none), (11, none), (20, some 8), (20, some 10), (20, some 13), (20, some 14)] w w16 := kF_call hF0 f19 (by decide)
            refine kv_iconst C 62 rfl 1 (kdec dk_cX9_restore 32 rfl) rfl ?_
            obtain ⟨x23, e24⟩ : ∃ z : Int32, w16 20 10 = z := ⟨_, rfl⟩
            have b25 : (0 : Int) ≤ x23.toInt ∧ x23.toInt ≤ 4 := by rw [← e24]; exact I22 20 10
            have e26 : w16 2 3 = x4 := ((f19 2 3 rfl : w16 2 3 = w 2 3).trans e5)
            exact kv_iret C hr hlk (kdec dk_cX9_restore 33 rfl) ⟨_, rfl, I22, F21, (by rw [e24, e26]; try omega), (by rw [e2]; try omega)⟩
          · skip
            refine kv_bipush C 39 rfl (-2) (kdec dk_cX9_restore 19 rfl) rfl ?_
            exact kv_iret C hr hlk (kdec dk_cX9_restore 20 rfl) ⟨_, rfl, hI, hF0, (by rw [e2, e5]; try omega), (by rw [e2]; try omega)⟩
        · skip
          refine kv_aldq C 31 rfl 24 1 rfl d11 rfl (by decide) (kdec dk_cX9_restore 16 rfl) ?_
          obtain ⟨x27, e28⟩ : ∃ z : Int32, w 34 2 = z := ⟨_, rfl⟩
          have b29 : (0 : Int) ≤ x27.toInt ∧ x27.toInt ≤ 1 := by rw [← e28]; exact hI 34 2
          refine kv_getN C 34 rfl 34 2 rfl rfl inX5 (by decide) mfn_TaleMachine_82 rfl rfl (kdec dk_cX9_restore 17 rfl) e28 ?_
          refine kv_if_ne C 37 rfl 40 (kdec dk_cX9_restore 18 rfl) (by decide) (fun d30 => ?_) (fun d30 => ?_)
          · skip
            refine kv_aload_n C 41 rfl 0 (kdec dk_cX9_restore 21 rfl) rfl rfl ?_
            refine kv_getr C 44 rfl 0 8 rfl rfl inX9 (by decide) mfl_TaleMachine_66 rfl rfl (kdec dk_cX9_restore 22 rfl) ?_
            refine kv_iload_n C 45 rfl 1 (kdec dk_cX9_restore 23 rfl) rfl rfl ?_
            refine kv_aldq C 46 rfl 24 1 rfl d11 rfl (by decide) (kdec dk_cX9_restore 24 rfl) ?_
            refine kv_aload_n C 47 rfl 0 (kdec dk_cX9_restore 25 rfl) rfl rfl ?_
            refine kv_getr C 50 rfl 0 1 rfl rfl inX9 (by decide) mfl_TaleMachine_16 rfl rfl (kdec dk_cX9_restore 26 rfl) ?_
            refine kv_aload_n C 51 rfl 0 (kdec dk_cX9_restore 27 rfl) rfl rfl ?_
            refine kv_getr C 54 rfl 0 2 rfl rfl inX9 (by decide) mfl_TaleMachine_23 rfl rfl (kdec dk_cX9_restore 28 rfl) ?_
            refine kv_aload_n C 55 rfl 0 (kdec dk_cX9_restore 29 rfl) rfl rfl ?_
            refine kv_getr C 58 rfl 0 7 rfl rfl inX9 (by decide) mfl_TaleMachine_60 rfl rfl (kdec dk_cX9_restore 30 rfl) ?_
            refine kv_callVNv (As := [.ref (ρ 2), .ref (ρ 5), .ref (ρ 20)]) (rest := []) C 61 rfl 34 (k_s_giveBack1 l D τ ρ σ w  (kI_strong hI (by rw [e5]; omega)) ) rfl rfl mmn_TaleMachine_162 mim_yX5_giveBack mse_yX5_giveBack mcd_yX5_giveBack min_yX5_giveBack hd_yX5_giveBack rfl rfl rfl (by decide) rfl (Nat.le_of_ble_eq_true rfl) (kdec dk_cX9_restore 31 rfl) (fun w31 h32 => ?_)
            obtain ⟨I33, f34⟩ := h32
            have I37 := kI_weak I33
            have F36 : kF [(2, some 9), (3, none), (5, some 6), (5, some 7), (6, none), (7, none), (8, none), (9, none), (10, none), (11, none), (20, some 8), (20, some 10), (20, some 13), (20, some 14)] w w31 := kF_call hF0 f34 (by decide)
            refine kv_iconst C 62 rfl 1 (kdec dk_cX9_restore 32 rfl) rfl ?_
            obtain ⟨x38, e39⟩ : ∃ z : Int32, w31 20 10 = z := ⟨_, rfl⟩
            have b40 : (0 : Int) ≤ x38.toInt ∧ x38.toInt ≤ 4 := by rw [← e39]; exact I37 20 10
            have e41 : w31 2 3 = x4 := ((f34 2 3 rfl : w31 2 3 = w 2 3).trans e5)
            exact kv_iret C hr hlk (kdec dk_cX9_restore 33 rfl) ⟨_, rfl, I37, F36, (by rw [e39, e41]; try omega), (by rw [e2]; try omega)⟩
          · skip
            refine kv_bipush C 39 rfl (-2) (kdec dk_cX9_restore 19 rfl) rfl ?_
            exact kv_iret C hr hlk (kdec dk_cX9_restore 20 rfl) ⟨_, rfl, hI, hF0, (by rw [e2, e5]; try omega), (by rw [e2]; try omega)⟩
        · skip
          refine kv_aldq C 31 rfl 24 2 rfl d11 rfl (by decide) (kdec dk_cX9_restore 16 rfl) ?_
          obtain ⟨x42, e43⟩ : ∃ z : Int32, w 43 2 = z := ⟨_, rfl⟩
          have b44 : (0 : Int) ≤ x42.toInt ∧ x42.toInt ≤ 1 := by rw [← e43]; exact hI 43 2
          refine kv_getN C 34 rfl 43 2 rfl rfl inX5 (by decide) mfn_TaleMachine_82 rfl rfl (kdec dk_cX9_restore 17 rfl) e43 ?_
          refine kv_if_ne C 37 rfl 40 (kdec dk_cX9_restore 18 rfl) (by decide) (fun d45 => ?_) (fun d45 => ?_)
          · skip
            refine kv_aload_n C 41 rfl 0 (kdec dk_cX9_restore 21 rfl) rfl rfl ?_
            refine kv_getr C 44 rfl 0 8 rfl rfl inX9 (by decide) mfl_TaleMachine_66 rfl rfl (kdec dk_cX9_restore 22 rfl) ?_
            refine kv_iload_n C 45 rfl 1 (kdec dk_cX9_restore 23 rfl) rfl rfl ?_
            refine kv_aldq C 46 rfl 24 2 rfl d11 rfl (by decide) (kdec dk_cX9_restore 24 rfl) ?_
            refine kv_aload_n C 47 rfl 0 (kdec dk_cX9_restore 25 rfl) rfl rfl ?_
            refine kv_getr C 50 rfl 0 1 rfl rfl inX9 (by decide) mfl_TaleMachine_16 rfl rfl (kdec dk_cX9_restore 26 rfl) ?_
            refine kv_aload_n C 51 rfl 0 (kdec dk_cX9_restore 27 rfl) rfl rfl ?_
            refine kv_getr C 54 rfl 0 2 rfl rfl inX9 (by decide) mfl_TaleMachine_23 rfl rfl (kdec dk_cX9_restore 28 rfl) ?_
            refine kv_aload_n C 55 rfl 0 (kdec dk_cX9_restore 29 rfl) rfl rfl ?_
            refine kv_getr C 58 rfl 0 7 rfl rfl inX9 (by decide) mfl_TaleMachine_60 rfl rfl (kdec dk_cX9_restore 30 rfl) ?_
            refine kv_callVNv (As := [.ref (ρ 2), .ref (ρ 5), .ref (ρ 20)]) (rest := []) C 61 rfl 43 (k_s_giveBack2 l D τ ρ σ w  (kI_strong hI (by rw [e5]; omega)) ) rfl rfl mmn_TaleMachine_162 mim_yX5_giveBack mse_yX5_giveBack mcd_yX5_giveBack min_yX5_giveBack hd_yX5_giveBack rfl rfl rfl (by decide) rfl (Nat.le_of_ble_eq_true rfl) (kdec dk_cX9_restore 31 rfl) (fun w46 h47 => ?_)
            obtain ⟨I48, f49⟩ := h47
            have I52 := kI_weak I48
            have F51 : kF [(2, some 9), (3, none), (5, some 6), (5, some 7), (6, none), (7, none), (8, none), (9, none), (10, none), (11, none), (20, some 8), (20, some 10), (20, some 13), (20, some 14)] w w46 := kF_call hF0 f49 (by decide)
            refine kv_iconst C 62 rfl 1 (kdec dk_cX9_restore 32 rfl) rfl ?_
            obtain ⟨x53, e54⟩ : ∃ z : Int32, w46 20 10 = z := ⟨_, rfl⟩
            have b55 : (0 : Int) ≤ x53.toInt ∧ x53.toInt ≤ 4 := by rw [← e54]; exact I52 20 10
            have e56 : w46 2 3 = x4 := ((f49 2 3 rfl : w46 2 3 = w 2 3).trans e5)
            exact kv_iret C hr hlk (kdec dk_cX9_restore 33 rfl) ⟨_, rfl, I52, F51, (by rw [e54, e56]; try omega), (by rw [e2]; try omega)⟩
          · skip
            refine kv_bipush C 39 rfl (-2) (kdec dk_cX9_restore 19 rfl) rfl ?_
            exact kv_iret C hr hlk (kdec dk_cX9_restore 20 rfl) ⟨_, rfl, hI, hF0, (by rw [e2, e5]; try omega), (by rw [e2]; try omega)⟩
        · skip
          refine kv_aldq C 31 rfl 24 3 rfl d11 rfl (by decide) (kdec dk_cX9_restore 16 rfl) ?_
          obtain ⟨x57, e58⟩ : ∃ z : Int32, w 52 2 = z := ⟨_, rfl⟩
          have b59 : (0 : Int) ≤ x57.toInt ∧ x57.toInt ≤ 1 := by rw [← e58]; exact hI 52 2
          refine kv_getN C 34 rfl 52 2 rfl rfl inX5 (by decide) mfn_TaleMachine_82 rfl rfl (kdec dk_cX9_restore 17 rfl) e58 ?_
          refine kv_if_ne C 37 rfl 40 (kdec dk_cX9_restore 18 rfl) (by decide) (fun d60 => ?_) (fun d60 => ?_)
          · skip
            refine kv_aload_n C 41 rfl 0 (kdec dk_cX9_restore 21 rfl) rfl rfl ?_
            refine kv_getr C 44 rfl 0 8 rfl rfl inX9 (by decide) mfl_TaleMachine_66 rfl rfl (kdec dk_cX9_restore 22 rfl) ?_
            refine kv_iload_n C 45 rfl 1 (kdec dk_cX9_restore 23 rfl) rfl rfl ?_
            refine kv_aldq C 46 rfl 24 3 rfl d11 rfl (by decide) (kdec dk_cX9_restore 24 rfl) ?_
            refine kv_aload_n C 47 rfl 0 (kdec dk_cX9_restore 25 rfl) rfl rfl ?_
            refine kv_getr C 50 rfl 0 1 rfl rfl inX9 (by decide) mfl_TaleMachine_16 rfl rfl (kdec dk_cX9_restore 26 rfl) ?_
            refine kv_aload_n C 51 rfl 0 (kdec dk_cX9_restore 27 rfl) rfl rfl ?_
            refine kv_getr C 54 rfl 0 2 rfl rfl inX9 (by decide) mfl_TaleMachine_23 rfl rfl (kdec dk_cX9_restore 28 rfl) ?_
            refine kv_aload_n C 55 rfl 0 (kdec dk_cX9_restore 29 rfl) rfl rfl ?_
            refine kv_getr C 58 rfl 0 7 rfl rfl inX9 (by decide) mfl_TaleMachine_60 rfl rfl (kdec dk_cX9_restore 30 rfl) ?_
            refine kv_callVNv (As := [.ref (ρ 2), .ref (ρ 5), .ref (ρ 20)]) (rest := []) C 61 rfl 52 (k_s_giveBack3 l D τ ρ σ w  (kI_strong hI (by rw [e5]; omega)) ) rfl rfl mmn_TaleMachine_162 mim_yX5_giveBack mse_yX5_giveBack mcd_yX5_giveBack min_yX5_giveBack hd_yX5_giveBack rfl rfl rfl (by decide) rfl (Nat.le_of_ble_eq_true rfl) (kdec dk_cX9_restore 31 rfl) (fun w61 h62 => ?_)
            obtain ⟨I63, f64⟩ := h62
            have I67 := kI_weak I63
            have F66 : kF [(2, some 9), (3, none), (5, some 6), (5, some 7), (6, none), (7, none), (8, none), (9, none), (10, none), (11, none), (20, some 8), (20, some 10), (20, some 13), (20, some 14)] w w61 := kF_call hF0 f64 (by decide)
            refine kv_iconst C 62 rfl 1 (kdec dk_cX9_restore 32 rfl) rfl ?_
            obtain ⟨x68, e69⟩ : ∃ z : Int32, w61 20 10 = z := ⟨_, rfl⟩
            have b70 : (0 : Int) ≤ x68.toInt ∧ x68.toInt ≤ 4 := by rw [← e69]; exact I67 20 10
            have e71 : w61 2 3 = x4 := ((f64 2 3 rfl : w61 2 3 = w 2 3).trans e5)
            exact kv_iret C hr hlk (kdec dk_cX9_restore 33 rfl) ⟨_, rfl, I67, F66, (by rw [e69, e71]; try omega), (by rw [e2]; try omega)⟩
          · skip
            refine kv_bipush C 39 rfl (-2) (kdec dk_cX9_restore 19 rfl) rfl ?_
            exact kv_iret C hr hlk (kdec dk_cX9_restore 20 rfl) ⟨_, rfl, hI, hF0, (by rw [e2, e5]; try omega), (by rw [e2]; try omega)⟩
    · skip
      refine kv_iconst C 14 rfl (-1) (kdec dk_cX9_restore 7 rfl) rfl ?_
      exact kv_iret C hr hlk (kdec dk_cX9_restore 8 rfl) ⟨_, rfl, hI, hF0, (by rw [e2, e5]; try omega), (by rw [e2]; try omega)⟩

set_option maxHeartbeats 4000000 in
set_option maxRecDepth 100000 in
theorem k_m_squeezed (l : Launch) (D : va_G) (τ : Nat → ClassId) (ρ σ : Nat → Nat) (w : kw) (a1 : Int32) (a2 : Int32) (hI : kI false w)  :
    kM l D τ ρ σ yX9_squeezed cX9_squeezed 3 (some .int) { frames := 0, cells := 0, slots := 0, locals := 0 } [.ref (ρ 0), .int a1, .int a2] w
      (fun o w' => ∃ r : Int32, o = some (.int r) ∧ kI false w' ∧ kF [] w w' ∧ (¬ ((w 25 2).toInt = 0 ∧ (w 34 2).toInt = 0 ∧ (w 43 2).toInt = 0 ∧ (w 52 2).toInt = 0) ∨ r.toInt = -1)) := by
  refine kM_of (own := "TaleMachine") rfl (by decide) (Nat.le_of_ble_eq_true rfl) ?_
  intro p e s m args below meth c C hr hlk
  have hF0 : kF [] w w := kF.rf
  have c_m1 : (-1 : Int32).toInt = -1 := by decide
  have c_4 : (4 : Int32).toInt = 4 := by decide
  refine kV.L (L' := [(0, .ref (ρ 0)), (1, .int a1), (2, .int a2)]) rfl ?_
  have g1 := kf_rng a1
  have g2 := kf_rng a2
  refine kv_iload_n C 1 rfl 1 (kdec dk_cX9_squeezed 0 rfl) rfl rfl ?_
  refine kv_if_lt C 4 rfl 25 (kdec dk_cX9_squeezed 1 rfl) (by decide) (fun d3 => ?_) (fun d3 => ?_)
  · skip
    refine kv_iconst C 26 rfl (-1) (kdec dk_cX9_squeezed 13 rfl) rfl ?_
    obtain ⟨x4, e5⟩ : ∃ z : Int32, w 25 2 = z := ⟨_, rfl⟩
    have b6 : (0 : Int) ≤ x4.toInt ∧ x4.toInt ≤ 1 := by rw [← e5]; exact hI 25 2
    obtain ⟨x7, e8⟩ : ∃ z : Int32, w 34 2 = z := ⟨_, rfl⟩
    have b9 : (0 : Int) ≤ x7.toInt ∧ x7.toInt ≤ 1 := by rw [← e8]; exact hI 34 2
    obtain ⟨x10, e11⟩ : ∃ z : Int32, w 43 2 = z := ⟨_, rfl⟩
    have b12 : (0 : Int) ≤ x10.toInt ∧ x10.toInt ≤ 1 := by rw [← e11]; exact hI 43 2
    obtain ⟨x13, e14⟩ : ∃ z : Int32, w 52 2 = z := ⟨_, rfl⟩
    have b15 : (0 : Int) ≤ x13.toInt ∧ x13.toInt ≤ 1 := by rw [← e14]; exact hI 52 2
    exact kv_iret C hr hlk (kdec dk_cX9_squeezed 14 rfl) ⟨_, rfl, hI, hF0, (by rw [e5, e8, e11, e14]; try omega)⟩
  · skip
    refine kv_iload_n C 5 rfl 1 (kdec dk_cX9_squeezed 2 rfl) rfl rfl ?_
    refine kv_aload_n C 6 rfl 0 (kdec dk_cX9_squeezed 3 rfl) rfl rfl ?_
    refine kv_getr C 9 rfl 0 8 rfl rfl inX9 (by decide) mfl_TaleMachine_66 rfl rfl (kdec dk_cX9_squeezed 4 rfl) ?_
    refine kv_alenq C 10 rfl 24 4 rfl rfl (kdec dk_cX9_squeezed 5 rfl) ?_
    refine kv_icmp_ge C 13 rfl 25 (kdec dk_cX9_squeezed 6 rfl) (by decide) (fun d16 => ?_) (fun d16 => ?_)
    · skip
      refine kv_iconst C 26 rfl (-1) (kdec dk_cX9_squeezed 13 rfl) rfl ?_
      obtain ⟨x17, e18⟩ : ∃ z : Int32, w 25 2 = z := ⟨_, rfl⟩
      have b19 : (0 : Int) ≤ x17.toInt ∧ x17.toInt ≤ 1 := by rw [← e18]; exact hI 25 2
      obtain ⟨x20, e21⟩ : ∃ z : Int32, w 34 2 = z := ⟨_, rfl⟩
      have b22 : (0 : Int) ≤ x20.toInt ∧ x20.toInt ≤ 1 := by rw [← e21]; exact hI 34 2
      obtain ⟨x23, e24⟩ : ∃ z : Int32, w 43 2 = z := ⟨_, rfl⟩
      have b25 : (0 : Int) ≤ x23.toInt ∧ x23.toInt ≤ 1 := by rw [← e24]; exact hI 43 2
      obtain ⟨x26, e27⟩ : ∃ z : Int32, w 52 2 = z := ⟨_, rfl⟩
      have b28 : (0 : Int) ≤ x26.toInt ∧ x26.toInt ≤ 1 := by rw [← e27]; exact hI 52 2
      exact kv_iret C hr hlk (kdec dk_cX9_squeezed 14 rfl) ⟨_, rfl, hI, hF0, (by rw [e18, e21, e24, e27]; try omega)⟩
    · skip
      refine kv_aload_n C 14 rfl 0 (kdec dk_cX9_squeezed 7 rfl) rfl rfl ?_
      refine kv_getr C 17 rfl 0 8 rfl rfl inX9 (by decide) mfl_TaleMachine_66 rfl rfl (kdec dk_cX9_squeezed 8 rfl) ?_
      refine kv_iload_n C 18 rfl 1 (kdec dk_cX9_squeezed 9 rfl) rfl rfl ?_
      have d29 : (a1 : Int32).toInt = 0 ∨ (a1 : Int32).toInt = 1 ∨ (a1 : Int32).toInt = 2 ∨ (a1 : Int32).toInt = 3 := by omega
      rcases d29 with d29 | d29 | d29 | d29
      · skip
        refine kv_aldq C 19 rfl 24 0 rfl d29 rfl (by decide) (kdec dk_cX9_squeezed 10 rfl) ?_
        obtain ⟨x30, e31⟩ : ∃ z : Int32, w 25 2 = z := ⟨_, rfl⟩
        have b32 : (0 : Int) ≤ x30.toInt ∧ x30.toInt ≤ 1 := by rw [← e31]; exact hI 25 2
        refine kv_getN C 22 rfl 25 2 rfl rfl inX5 (by decide) mfn_TaleMachine_82 rfl rfl (kdec dk_cX9_squeezed 11 rfl) e31 ?_
        refine kv_if_ne C 25 rfl 27 (kdec dk_cX9_squeezed 12 rfl) (by decide) (fun d33 => ?_) (fun d33 => ?_)
        · skip
          refine kv_iload_n C 28 rfl 2 (kdec dk_cX9_squeezed 15 rfl) rfl rfl ?_
          refine kv_if_lt C 31 rfl 58 (kdec dk_cX9_squeezed 16 rfl) (by decide) (fun d34 => ?_) (fun d34 => ?_)
          · skip
            refine kv_iconst C 59 rfl (-1) (kdec dk_cX9_squeezed 32 rfl) rfl ?_
            obtain ⟨x35, e36⟩ : ∃ z : Int32, w 34 2 = z := ⟨_, rfl⟩
            have b37 : (0 : Int) ≤ x35.toInt ∧ x35.toInt ≤ 1 := by rw [← e36]; exact hI 34 2
            obtain ⟨x38, e39⟩ : ∃ z : Int32, w 43 2 = z := ⟨_, rfl⟩
            have b40 : (0 : Int) ≤ x38.toInt ∧ x38.toInt ≤ 1 := by rw [← e39]; exact hI 43 2
            obtain ⟨x41, e42⟩ : ∃ z : Int32, w 52 2 = z := ⟨_, rfl⟩
            have b43 : (0 : Int) ≤ x41.toInt ∧ x41.toInt ≤ 1 := by rw [← e42]; exact hI 52 2
            exact kv_iret C hr hlk (kdec dk_cX9_squeezed 33 rfl) ⟨_, rfl, hI, hF0, (by rw [e31, e36, e39, e42]; try omega)⟩
          · skip
            refine kv_iload_n C 32 rfl 2 (kdec dk_cX9_squeezed 17 rfl) rfl rfl ?_
            refine kv_aload_n C 33 rfl 0 (kdec dk_cX9_squeezed 18 rfl) rfl rfl ?_
            refine kv_getr C 36 rfl 0 8 rfl rfl inX9 (by decide) mfl_TaleMachine_66 rfl rfl (kdec dk_cX9_squeezed 19 rfl) ?_
            refine kv_iload_n C 37 rfl 1 (kdec dk_cX9_squeezed 20 rfl) rfl rfl ?_
            refine kv_aldq C 38 rfl 24 0 rfl d29 rfl (by decide) (kdec dk_cX9_squeezed 21 rfl) ?_
            obtain ⟨x44, e45⟩ : ∃ z : Int32, w 25 3 = z := ⟨_, rfl⟩
            have b46 : (0 : Int) ≤ x44.toInt ∧ x44.toInt ≤ 1536 := by rw [← e45]; exact hI 25 3
            refine kv_getN C 41 rfl 25 3 rfl rfl inX5 (by decide) mfn_TaleMachine_161 rfl rfl (kdec dk_cX9_squeezed 22 rfl) e45 ?_
            refine kv_icmp_ge C 44 rfl 58 (kdec dk_cX9_squeezed 23 rfl) (by decide) (fun d47 => ?_) (fun d47 => ?_)
            · skip
              refine kv_iconst C 59 rfl (-1) (kdec dk_cX9_squeezed 32 rfl) rfl ?_
              obtain ⟨x48, e49⟩ : ∃ z : Int32, w 34 2 = z := ⟨_, rfl⟩
              have b50 : (0 : Int) ≤ x48.toInt ∧ x48.toInt ≤ 1 := by rw [← e49]; exact hI 34 2
              obtain ⟨x51, e52⟩ : ∃ z : Int32, w 43 2 = z := ⟨_, rfl⟩
              have b53 : (0 : Int) ≤ x51.toInt ∧ x51.toInt ≤ 1 := by rw [← e52]; exact hI 43 2
              obtain ⟨x54, e55⟩ : ∃ z : Int32, w 52 2 = z := ⟨_, rfl⟩
              have b56 : (0 : Int) ≤ x54.toInt ∧ x54.toInt ≤ 1 := by rw [← e55]; exact hI 52 2
              exact kv_iret C hr hlk (kdec dk_cX9_squeezed 33 rfl) ⟨_, rfl, hI, hF0, (by rw [e31, e49, e52, e55]; try omega)⟩
            · skip
              refine kv_aload_n C 45 rfl 0 (kdec dk_cX9_squeezed 24 rfl) rfl rfl ?_
              refine kv_getr C 48 rfl 0 8 rfl rfl inX9 (by decide) mfl_TaleMachine_66 rfl rfl (kdec dk_cX9_squeezed 25 rfl) ?_
              refine kv_iload_n C 49 rfl 1 (kdec dk_cX9_squeezed 26 rfl) rfl rfl ?_
              refine kv_aldq C 50 rfl 24 0 rfl d29 rfl (by decide) (kdec dk_cX9_squeezed 27 rfl) ?_
              refine kv_getrN C 53 rfl 25 0 rfl rfl inX5 (by decide) mfn_TaleMachine_165 rfl rfl (kdec dk_cX9_squeezed 28 rfl) ?_
              refine kv_iload_n C 54 rfl 2 (kdec dk_cX9_squeezed 29 rfl) rfl rfl ?_
              obtain ⟨x57, e58⟩ : ∃ z : Int32, w 26 (a2 : Int32).toNatClampNeg = z := ⟨_, rfl⟩
              have b59 : (0 : Int) ≤ x57.toInt ∧ x57.toInt ≤ 255 := by rw [← e58]; exact hI 26 _
              refine kv_iald C 55 rfl 26 rfl (by omega) (by omega) e58 (kdec dk_cX9_squeezed 30 rfl) ?_
              refine kv_goto C 59 (kdec dk_cX9_squeezed 31 rfl) (by decide) ?_
              obtain ⟨x60, e61⟩ : ∃ z : Int32, w 34 2 = z := ⟨_, rfl⟩
              have b62 : (0 : Int) ≤ x60.toInt ∧ x60.toInt ≤ 1 := by rw [← e61]; exact hI 34 2
              obtain ⟨x63, e64⟩ : ∃ z : Int32, w 43 2 = z := ⟨_, rfl⟩
              have b65 : (0 : Int) ≤ x63.toInt ∧ x63.toInt ≤ 1 := by rw [← e64]; exact hI 43 2
              obtain ⟨x66, e67⟩ : ∃ z : Int32, w 52 2 = z := ⟨_, rfl⟩
              have b68 : (0 : Int) ≤ x66.toInt ∧ x66.toInt ≤ 1 := by rw [← e67]; exact hI 52 2
              exact kv_iret C hr hlk (kdec dk_cX9_squeezed 33 rfl) ⟨_, rfl, hI, hF0, (by rw [e31, e61, e64, e67]; try omega)⟩
        · skip
          refine kv_iconst C 26 rfl (-1) (kdec dk_cX9_squeezed 13 rfl) rfl ?_
          obtain ⟨x69, e70⟩ : ∃ z : Int32, w 34 2 = z := ⟨_, rfl⟩
          have b71 : (0 : Int) ≤ x69.toInt ∧ x69.toInt ≤ 1 := by rw [← e70]; exact hI 34 2
          obtain ⟨x72, e73⟩ : ∃ z : Int32, w 43 2 = z := ⟨_, rfl⟩
          have b74 : (0 : Int) ≤ x72.toInt ∧ x72.toInt ≤ 1 := by rw [← e73]; exact hI 43 2
          obtain ⟨x75, e76⟩ : ∃ z : Int32, w 52 2 = z := ⟨_, rfl⟩
          have b77 : (0 : Int) ≤ x75.toInt ∧ x75.toInt ≤ 1 := by rw [← e76]; exact hI 52 2
          exact kv_iret C hr hlk (kdec dk_cX9_squeezed 14 rfl) ⟨_, rfl, hI, hF0, (by rw [e31, e70, e73, e76]; try omega)⟩
      · skip
        refine kv_aldq C 19 rfl 24 1 rfl d29 rfl (by decide) (kdec dk_cX9_squeezed 10 rfl) ?_
        obtain ⟨x78, e79⟩ : ∃ z : Int32, w 34 2 = z := ⟨_, rfl⟩
        have b80 : (0 : Int) ≤ x78.toInt ∧ x78.toInt ≤ 1 := by rw [← e79]; exact hI 34 2
        refine kv_getN C 22 rfl 34 2 rfl rfl inX5 (by decide) mfn_TaleMachine_82 rfl rfl (kdec dk_cX9_squeezed 11 rfl) e79 ?_
        refine kv_if_ne C 25 rfl 27 (kdec dk_cX9_squeezed 12 rfl) (by decide) (fun d81 => ?_) (fun d81 => ?_)
        · skip
          refine kv_iload_n C 28 rfl 2 (kdec dk_cX9_squeezed 15 rfl) rfl rfl ?_
          refine kv_if_lt C 31 rfl 58 (kdec dk_cX9_squeezed 16 rfl) (by decide) (fun d82 => ?_) (fun d82 => ?_)
          · skip
            refine kv_iconst C 59 rfl (-1) (kdec dk_cX9_squeezed 32 rfl) rfl ?_
            obtain ⟨x83, e84⟩ : ∃ z : Int32, w 25 2 = z := ⟨_, rfl⟩
            have b85 : (0 : Int) ≤ x83.toInt ∧ x83.toInt ≤ 1 := by rw [← e84]; exact hI 25 2
            obtain ⟨x86, e87⟩ : ∃ z : Int32, w 43 2 = z := ⟨_, rfl⟩
            have b88 : (0 : Int) ≤ x86.toInt ∧ x86.toInt ≤ 1 := by rw [← e87]; exact hI 43 2
            obtain ⟨x89, e90⟩ : ∃ z : Int32, w 52 2 = z := ⟨_, rfl⟩
            have b91 : (0 : Int) ≤ x89.toInt ∧ x89.toInt ≤ 1 := by rw [← e90]; exact hI 52 2
            exact kv_iret C hr hlk (kdec dk_cX9_squeezed 33 rfl) ⟨_, rfl, hI, hF0, (by rw [e84, e79, e87, e90]; try omega)⟩
          · skip
            refine kv_iload_n C 32 rfl 2 (kdec dk_cX9_squeezed 17 rfl) rfl rfl ?_
            refine kv_aload_n C 33 rfl 0 (kdec dk_cX9_squeezed 18 rfl) rfl rfl ?_
            refine kv_getr C 36 rfl 0 8 rfl rfl inX9 (by decide) mfl_TaleMachine_66 rfl rfl (kdec dk_cX9_squeezed 19 rfl) ?_
            refine kv_iload_n C 37 rfl 1 (kdec dk_cX9_squeezed 20 rfl) rfl rfl ?_
            refine kv_aldq C 38 rfl 24 1 rfl d29 rfl (by decide) (kdec dk_cX9_squeezed 21 rfl) ?_
            obtain ⟨x92, e93⟩ : ∃ z : Int32, w 34 3 = z := ⟨_, rfl⟩
            have b94 : (0 : Int) ≤ x92.toInt ∧ x92.toInt ≤ 1536 := by rw [← e93]; exact hI 34 3
            refine kv_getN C 41 rfl 34 3 rfl rfl inX5 (by decide) mfn_TaleMachine_161 rfl rfl (kdec dk_cX9_squeezed 22 rfl) e93 ?_
            refine kv_icmp_ge C 44 rfl 58 (kdec dk_cX9_squeezed 23 rfl) (by decide) (fun d95 => ?_) (fun d95 => ?_)
            · skip
              refine kv_iconst C 59 rfl (-1) (kdec dk_cX9_squeezed 32 rfl) rfl ?_
              obtain ⟨x96, e97⟩ : ∃ z : Int32, w 25 2 = z := ⟨_, rfl⟩
              have b98 : (0 : Int) ≤ x96.toInt ∧ x96.toInt ≤ 1 := by rw [← e97]; exact hI 25 2
              obtain ⟨x99, e100⟩ : ∃ z : Int32, w 43 2 = z := ⟨_, rfl⟩
              have b101 : (0 : Int) ≤ x99.toInt ∧ x99.toInt ≤ 1 := by rw [← e100]; exact hI 43 2
              obtain ⟨x102, e103⟩ : ∃ z : Int32, w 52 2 = z := ⟨_, rfl⟩
              have b104 : (0 : Int) ≤ x102.toInt ∧ x102.toInt ≤ 1 := by rw [← e103]; exact hI 52 2
              exact kv_iret C hr hlk (kdec dk_cX9_squeezed 33 rfl) ⟨_, rfl, hI, hF0, (by rw [e97, e79, e100, e103]; try omega)⟩
            · skip
              refine kv_aload_n C 45 rfl 0 (kdec dk_cX9_squeezed 24 rfl) rfl rfl ?_
              refine kv_getr C 48 rfl 0 8 rfl rfl inX9 (by decide) mfl_TaleMachine_66 rfl rfl (kdec dk_cX9_squeezed 25 rfl) ?_
              refine kv_iload_n C 49 rfl 1 (kdec dk_cX9_squeezed 26 rfl) rfl rfl ?_
              refine kv_aldq C 50 rfl 24 1 rfl d29 rfl (by decide) (kdec dk_cX9_squeezed 27 rfl) ?_
              refine kv_getrN C 53 rfl 34 0 rfl rfl inX5 (by decide) mfn_TaleMachine_165 rfl rfl (kdec dk_cX9_squeezed 28 rfl) ?_
              refine kv_iload_n C 54 rfl 2 (kdec dk_cX9_squeezed 29 rfl) rfl rfl ?_
              obtain ⟨x105, e106⟩ : ∃ z : Int32, w 35 (a2 : Int32).toNatClampNeg = z := ⟨_, rfl⟩
              have b107 : (0 : Int) ≤ x105.toInt ∧ x105.toInt ≤ 255 := by rw [← e106]; exact hI 35 _
              refine kv_iald C 55 rfl 35 rfl (by omega) (by omega) e106 (kdec dk_cX9_squeezed 30 rfl) ?_
              refine kv_goto C 59 (kdec dk_cX9_squeezed 31 rfl) (by decide) ?_
              obtain ⟨x108, e109⟩ : ∃ z : Int32, w 25 2 = z := ⟨_, rfl⟩
              have b110 : (0 : Int) ≤ x108.toInt ∧ x108.toInt ≤ 1 := by rw [← e109]; exact hI 25 2
              obtain ⟨x111, e112⟩ : ∃ z : Int32, w 43 2 = z := ⟨_, rfl⟩
              have b113 : (0 : Int) ≤ x111.toInt ∧ x111.toInt ≤ 1 := by rw [← e112]; exact hI 43 2
              obtain ⟨x114, e115⟩ : ∃ z : Int32, w 52 2 = z := ⟨_, rfl⟩
              have b116 : (0 : Int) ≤ x114.toInt ∧ x114.toInt ≤ 1 := by rw [← e115]; exact hI 52 2
              exact kv_iret C hr hlk (kdec dk_cX9_squeezed 33 rfl) ⟨_, rfl, hI, hF0, (by rw [e109, e79, e112, e115]; try omega)⟩
        · skip
          refine kv_iconst C 26 rfl (-1) (kdec dk_cX9_squeezed 13 rfl) rfl ?_
          obtain ⟨x117, e118⟩ : ∃ z : Int32, w 25 2 = z := ⟨_, rfl⟩
          have b119 : (0 : Int) ≤ x117.toInt ∧ x117.toInt ≤ 1 := by rw [← e118]; exact hI 25 2
          obtain ⟨x120, e121⟩ : ∃ z : Int32, w 43 2 = z := ⟨_, rfl⟩
          have b122 : (0 : Int) ≤ x120.toInt ∧ x120.toInt ≤ 1 := by rw [← e121]; exact hI 43 2
          obtain ⟨x123, e124⟩ : ∃ z : Int32, w 52 2 = z := ⟨_, rfl⟩
          have b125 : (0 : Int) ≤ x123.toInt ∧ x123.toInt ≤ 1 := by rw [← e124]; exact hI 52 2
          exact kv_iret C hr hlk (kdec dk_cX9_squeezed 14 rfl) ⟨_, rfl, hI, hF0, (by rw [e118, e79, e121, e124]; try omega)⟩
      · skip
        refine kv_aldq C 19 rfl 24 2 rfl d29 rfl (by decide) (kdec dk_cX9_squeezed 10 rfl) ?_
        obtain ⟨x126, e127⟩ : ∃ z : Int32, w 43 2 = z := ⟨_, rfl⟩
        have b128 : (0 : Int) ≤ x126.toInt ∧ x126.toInt ≤ 1 := by rw [← e127]; exact hI 43 2
        refine kv_getN C 22 rfl 43 2 rfl rfl inX5 (by decide) mfn_TaleMachine_82 rfl rfl (kdec dk_cX9_squeezed 11 rfl) e127 ?_
        refine kv_if_ne C 25 rfl 27 (kdec dk_cX9_squeezed 12 rfl) (by decide) (fun d129 => ?_) (fun d129 => ?_)
        · skip
          refine kv_iload_n C 28 rfl 2 (kdec dk_cX9_squeezed 15 rfl) rfl rfl ?_
          refine kv_if_lt C 31 rfl 58 (kdec dk_cX9_squeezed 16 rfl) (by decide) (fun d130 => ?_) (fun d130 => ?_)
          · skip
            refine kv_iconst C 59 rfl (-1) (kdec dk_cX9_squeezed 32 rfl) rfl ?_
            obtain ⟨x131, e132⟩ : ∃ z : Int32, w 25 2 = z := ⟨_, rfl⟩
            have b133 : (0 : Int) ≤ x131.toInt ∧ x131.toInt ≤ 1 := by rw [← e132]; exact hI 25 2
            obtain ⟨x134, e135⟩ : ∃ z : Int32, w 34 2 = z := ⟨_, rfl⟩
            have b136 : (0 : Int) ≤ x134.toInt ∧ x134.toInt ≤ 1 := by rw [← e135]; exact hI 34 2
            obtain ⟨x137, e138⟩ : ∃ z : Int32, w 52 2 = z := ⟨_, rfl⟩
            have b139 : (0 : Int) ≤ x137.toInt ∧ x137.toInt ≤ 1 := by rw [← e138]; exact hI 52 2
            exact kv_iret C hr hlk (kdec dk_cX9_squeezed 33 rfl) ⟨_, rfl, hI, hF0, (by rw [e132, e135, e127, e138]; try omega)⟩
          · skip
            refine kv_iload_n C 32 rfl 2 (kdec dk_cX9_squeezed 17 rfl) rfl rfl ?_
            refine kv_aload_n C 33 rfl 0 (kdec dk_cX9_squeezed 18 rfl) rfl rfl ?_
            refine kv_getr C 36 rfl 0 8 rfl rfl inX9 (by decide) mfl_TaleMachine_66 rfl rfl (kdec dk_cX9_squeezed 19 rfl) ?_
            refine kv_iload_n C 37 rfl 1 (kdec dk_cX9_squeezed 20 rfl) rfl rfl ?_
            refine kv_aldq C 38 rfl 24 2 rfl d29 rfl (by decide) (kdec dk_cX9_squeezed 21 rfl) ?_
            obtain ⟨x140, e141⟩ : ∃ z : Int32, w 43 3 = z := ⟨_, rfl⟩
            have b142 : (0 : Int) ≤ x140.toInt ∧ x140.toInt ≤ 1536 := by rw [← e141]; exact hI 43 3
            refine kv_getN C 41 rfl 43 3 rfl rfl inX5 (by decide) mfn_TaleMachine_161 rfl rfl (kdec dk_cX9_squeezed 22 rfl) e141 ?_
            refine kv_icmp_ge C 44 rfl 58 (kdec dk_cX9_squeezed 23 rfl) (by decide) (fun d143 => ?_) (fun d143 => ?_)
            · skip
              refine kv_iconst C 59 rfl (-1) (kdec dk_cX9_squeezed 32 rfl) rfl ?_
              obtain ⟨x144, e145⟩ : ∃ z : Int32, w 25 2 = z := ⟨_, rfl⟩
              have b146 : (0 : Int) ≤ x144.toInt ∧ x144.toInt ≤ 1 := by rw [← e145]; exact hI 25 2
              obtain ⟨x147, e148⟩ : ∃ z : Int32, w 34 2 = z := ⟨_, rfl⟩
              have b149 : (0 : Int) ≤ x147.toInt ∧ x147.toInt ≤ 1 := by rw [← e148]; exact hI 34 2
              obtain ⟨x150, e151⟩ : ∃ z : Int32, w 52 2 = z := ⟨_, rfl⟩
              have b152 : (0 : Int) ≤ x150.toInt ∧ x150.toInt ≤ 1 := by rw [← e151]; exact hI 52 2
              exact kv_iret C hr hlk (kdec dk_cX9_squeezed 33 rfl) ⟨_, rfl, hI, hF0, (by rw [e145, e148, e127, e151]; try omega)⟩
            · skip
              refine kv_aload_n C 45 rfl 0 (kdec dk_cX9_squeezed 24 rfl) rfl rfl ?_
              refine kv_getr C 48 rfl 0 8 rfl rfl inX9 (by decide) mfl_TaleMachine_66 rfl rfl (kdec dk_cX9_squeezed 25 rfl) ?_
              refine kv_iload_n C 49 rfl 1 (kdec dk_cX9_squeezed 26 rfl) rfl rfl ?_
              refine kv_aldq C 50 rfl 24 2 rfl d29 rfl (by decide) (kdec dk_cX9_squeezed 27 rfl) ?_
              refine kv_getrN C 53 rfl 43 0 rfl rfl inX5 (by decide) mfn_TaleMachine_165 rfl rfl (kdec dk_cX9_squeezed 28 rfl) ?_
              refine kv_iload_n C 54 rfl 2 (kdec dk_cX9_squeezed 29 rfl) rfl rfl ?_
              obtain ⟨x153, e154⟩ : ∃ z : Int32, w 44 (a2 : Int32).toNatClampNeg = z := ⟨_, rfl⟩
              have b155 : (0 : Int) ≤ x153.toInt ∧ x153.toInt ≤ 255 := by rw [← e154]; exact hI 44 _
              refine kv_iald C 55 rfl 44 rfl (by omega) (by omega) e154 (kdec dk_cX9_squeezed 30 rfl) ?_
              refine kv_goto C 59 (kdec dk_cX9_squeezed 31 rfl) (by decide) ?_
              obtain ⟨x156, e157⟩ : ∃ z : Int32, w 25 2 = z := ⟨_, rfl⟩
              have b158 : (0 : Int) ≤ x156.toInt ∧ x156.toInt ≤ 1 := by rw [← e157]; exact hI 25 2
              obtain ⟨x159, e160⟩ : ∃ z : Int32, w 34 2 = z := ⟨_, rfl⟩
              have b161 : (0 : Int) ≤ x159.toInt ∧ x159.toInt ≤ 1 := by rw [← e160]; exact hI 34 2
              obtain ⟨x162, e163⟩ : ∃ z : Int32, w 52 2 = z := ⟨_, rfl⟩
              have b164 : (0 : Int) ≤ x162.toInt ∧ x162.toInt ≤ 1 := by rw [← e163]; exact hI 52 2
              exact kv_iret C hr hlk (kdec dk_cX9_squeezed 33 rfl) ⟨_, rfl, hI, hF0, (by rw [e157, e160, e127, e163]; try omega)⟩
        · skip
          refine kv_iconst C 26 rfl (-1) (kdec dk_cX9_squeezed 13 rfl) rfl ?_
          obtain ⟨x165, e166⟩ : ∃ z : Int32, w 25 2 = z := ⟨_, rfl⟩
          have b167 : (0 : Int) ≤ x165.toInt ∧ x165.toInt ≤ 1 := by rw [← e166]; exact hI 25 2
          obtain ⟨x168, e169⟩ : ∃ z : Int32, w 34 2 = z := ⟨_, rfl⟩
          have b170 : (0 : Int) ≤ x168.toInt ∧ x168.toInt ≤ 1 := by rw [← e169]; exact hI 34 2
          obtain ⟨x171, e172⟩ : ∃ z : Int32, w 52 2 = z := ⟨_, rfl⟩
          have b173 : (0 : Int) ≤ x171.toInt ∧ x171.toInt ≤ 1 := by rw [← e172]; exact hI 52 2
          exact kv_iret C hr hlk (kdec dk_cX9_squeezed 14 rfl) ⟨_, rfl, hI, hF0, (by rw [e166, e169, e127, e172]; try omega)⟩
      · skip
        refine kv_aldq C 19 rfl 24 3 rfl d29 rfl (by decide) (kdec dk_cX9_squeezed 10 rfl) ?_
        obtain ⟨x174, e175⟩ : ∃ z : Int32, w 52 2 = z := ⟨_, rfl⟩
        have b176 : (0 : Int) ≤ x174.toInt ∧ x174.toInt ≤ 1 := by rw [← e175]; exact hI 52 2
        refine kv_getN C 22 rfl 52 2 rfl rfl inX5 (by decide) mfn_TaleMachine_82 rfl rfl (kdec dk_cX9_squeezed 11 rfl) e175 ?_
        refine kv_if_ne C 25 rfl 27 (kdec dk_cX9_squeezed 12 rfl) (by decide) (fun d177 => ?_) (fun d177 => ?_)
        · skip
          refine kv_iload_n C 28 rfl 2 (kdec dk_cX9_squeezed 15 rfl) rfl rfl ?_
          refine kv_if_lt C 31 rfl 58 (kdec dk_cX9_squeezed 16 rfl) (by decide) (fun d178 => ?_) (fun d178 => ?_)
          · skip
            refine kv_iconst C 59 rfl (-1) (kdec dk_cX9_squeezed 32 rfl) rfl ?_
            obtain ⟨x179, e180⟩ : ∃ z : Int32, w 25 2 = z := ⟨_, rfl⟩
            have b181 : (0 : Int) ≤ x179.toInt ∧ x179.toInt ≤ 1 := by rw [← e180]; exact hI 25 2
            obtain ⟨x182, e183⟩ : ∃ z : Int32, w 34 2 = z := ⟨_, rfl⟩
            have b184 : (0 : Int) ≤ x182.toInt ∧ x182.toInt ≤ 1 := by rw [← e183]; exact hI 34 2
            obtain ⟨x185, e186⟩ : ∃ z : Int32, w 43 2 = z := ⟨_, rfl⟩
            have b187 : (0 : Int) ≤ x185.toInt ∧ x185.toInt ≤ 1 := by rw [← e186]; exact hI 43 2
            exact kv_iret C hr hlk (kdec dk_cX9_squeezed 33 rfl) ⟨_, rfl, hI, hF0, (by rw [e180, e183, e186, e175]; try omega)⟩
          · skip
            refine kv_iload_n C 32 rfl 2 (kdec dk_cX9_squeezed 17 rfl) rfl rfl ?_
            refine kv_aload_n C 33 rfl 0 (kdec dk_cX9_squeezed 18 rfl) rfl rfl ?_
            refine kv_getr C 36 rfl 0 8 rfl rfl inX9 (by decide) mfl_TaleMachine_66 rfl rfl (kdec dk_cX9_squeezed 19 rfl) ?_
            refine kv_iload_n C 37 rfl 1 (kdec dk_cX9_squeezed 20 rfl) rfl rfl ?_
            refine kv_aldq C 38 rfl 24 3 rfl d29 rfl (by decide) (kdec dk_cX9_squeezed 21 rfl) ?_
            obtain ⟨x188, e189⟩ : ∃ z : Int32, w 52 3 = z := ⟨_, rfl⟩
            have b190 : (0 : Int) ≤ x188.toInt ∧ x188.toInt ≤ 1536 := by rw [← e189]; exact hI 52 3
            refine kv_getN C 41 rfl 52 3 rfl rfl inX5 (by decide) mfn_TaleMachine_161 rfl rfl (kdec dk_cX9_squeezed 22 rfl) e189 ?_
            refine kv_icmp_ge C 44 rfl 58 (kdec dk_cX9_squeezed 23 rfl) (by decide) (fun d191 => ?_) (fun d191 => ?_)
            · skip
              refine kv_iconst C 59 rfl (-1) (kdec dk_cX9_squeezed 32 rfl) rfl ?_
              obtain ⟨x192, e193⟩ : ∃ z : Int32, w 25 2 = z := ⟨_, rfl⟩
              have b194 : (0 : Int) ≤ x192.toInt ∧ x192.toInt ≤ 1 := by rw [← e193]; exact hI 25 2
              obtain ⟨x195, e196⟩ : ∃ z : Int32, w 34 2 = z := ⟨_, rfl⟩
              have b197 : (0 : Int) ≤ x195.toInt ∧ x195.toInt ≤ 1 := by rw [← e196]; exact hI 34 2
              obtain ⟨x198, e199⟩ : ∃ z : Int32, w 43 2 = z := ⟨_, rfl⟩
              have b200 : (0 : Int) ≤ x198.toInt ∧ x198.toInt ≤ 1 := by rw [← e199]; exact hI 43 2
              exact kv_iret C hr hlk (kdec dk_cX9_squeezed 33 rfl) ⟨_, rfl, hI, hF0, (by rw [e193, e196, e199, e175]; try omega)⟩
            · skip
              refine kv_aload_n C 45 rfl 0 (kdec dk_cX9_squeezed 24 rfl) rfl rfl ?_
              refine kv_getr C 48 rfl 0 8 rfl rfl inX9 (by decide) mfl_TaleMachine_66 rfl rfl (kdec dk_cX9_squeezed 25 rfl) ?_
              refine kv_iload_n C 49 rfl 1 (kdec dk_cX9_squeezed 26 rfl) rfl rfl ?_
              refine kv_aldq C 50 rfl 24 3 rfl d29 rfl (by decide) (kdec dk_cX9_squeezed 27 rfl) ?_
              refine kv_getrN C 53 rfl 52 0 rfl rfl inX5 (by decide) mfn_TaleMachine_165 rfl rfl (kdec dk_cX9_squeezed 28 rfl) ?_
              refine kv_iload_n C 54 rfl 2 (kdec dk_cX9_squeezed 29 rfl) rfl rfl ?_
              obtain ⟨x201, e202⟩ : ∃ z : Int32, w 53 (a2 : Int32).toNatClampNeg = z := ⟨_, rfl⟩
              have b203 : (0 : Int) ≤ x201.toInt ∧ x201.toInt ≤ 255 := by rw [← e202]; exact hI 53 _
              refine kv_iald C 55 rfl 53 rfl (by omega) (by omega) e202 (kdec dk_cX9_squeezed 30 rfl) ?_
              refine kv_goto C 59 (kdec dk_cX9_squeezed 31 rfl) (by decide) ?_
              obtain ⟨x204, e205⟩ : ∃ z : Int32, w 25 2 = z := ⟨_, rfl⟩
              have b206 : (0 : Int) ≤ x204.toInt ∧ x204.toInt ≤ 1 := by rw [← e205]; exact hI 25 2
              obtain ⟨x207, e208⟩ : ∃ z : Int32, w 34 2 = z := ⟨_, rfl⟩
              have b209 : (0 : Int) ≤ x207.toInt ∧ x207.toInt ≤ 1 := by rw [← e208]; exact hI 34 2
              obtain ⟨x210, e211⟩ : ∃ z : Int32, w 43 2 = z := ⟨_, rfl⟩
              have b212 : (0 : Int) ≤ x210.toInt ∧ x210.toInt ≤ 1 := by rw [← e211]; exact hI 43 2
              exact kv_iret C hr hlk (kdec dk_cX9_squeezed 33 rfl) ⟨_, rfl, hI, hF0, (by rw [e205, e208, e211, e175]; try omega)⟩
        · skip
          refine kv_iconst C 26 rfl (-1) (kdec dk_cX9_squeezed 13 rfl) rfl ?_
          obtain ⟨x213, e214⟩ : ∃ z : Int32, w 25 2 = z := ⟨_, rfl⟩
          have b215 : (0 : Int) ≤ x213.toInt ∧ x213.toInt ≤ 1 := by rw [← e214]; exact hI 25 2
          obtain ⟨x216, e217⟩ : ∃ z : Int32, w 34 2 = z := ⟨_, rfl⟩
          have b218 : (0 : Int) ≤ x216.toInt ∧ x216.toInt ≤ 1 := by rw [← e217]; exact hI 34 2
          obtain ⟨x219, e220⟩ : ∃ z : Int32, w 43 2 = z := ⟨_, rfl⟩
          have b221 : (0 : Int) ≤ x219.toInt ∧ x219.toInt ≤ 1 := by rw [← e220]; exact hI 43 2
          exact kv_iret C hr hlk (kdec dk_cX9_squeezed 14 rfl) ⟨_, rfl, hI, hF0, (by rw [e214, e217, e220, e175]; try omega)⟩
