set_option maxHeartbeats 4000000 in
set_option maxRecDepth 100000 in
theorem k_headerFault (l : Launch) (D : va_G) (τ : Nat → ClassId) (ρ σ : Nat → Nat) (w : kw)  (hI : kI false w) (hp0 : 64 ≤ (w 2 2).toInt) (hp1 : (w 2 3).toInt = 256 * (w 4 14).toInt + (w 4 15).toInt) (hp2 : (w 2 4).toInt = 256 * (w 4 6).toInt + (w 4 7).toInt) :
    kM l D τ ρ σ yX6_headerFault cX6_headerFault 3 (some .int) { frames := 1, cells := 0, slots := 0, locals := 36 } [.ref (ρ 2)] w
      (fun o w' => ∃ r : Int32, o = some (.int r) ∧ kI false w' ∧ kF [] w w' ∧ (0 ≤ r.toInt ∧ r.toInt ≤ 7) ∧ (¬ r.toInt = 0 ∨ (w 2 3).toInt ≤ 1024) ∧ (r.toInt = kFn (w 4) (w 2 2).toInt)) := by
  refine kM_of (own := "TaleMachine$Store") rfl (by decide) (Nat.le_of_ble_eq_true rfl) ?_
  intro p e s m args below meth c C hr hlk
  have hF0 : kF [] w w := kF.rf
  have c_0 : (0 : Int32).toInt = 0 := by decide
  have c_2 : (2 : Int32).toInt = 2 := by decide
  have c_3 : (3 : Int32).toInt = 3 := by decide
  have c_4 : (4 : Int32).toInt = 4 := by decide
  have c_5 : (5 : Int32).toInt = 5 := by decide
  have c_6 : (6 : Int32).toInt = 6 := by decide
  have c_7 : (7 : Int32).toInt = 7 := by decide
  have c_26 : (26 : Int32).toInt = 26 := by decide
  have c_28 : (28 : Int32).toInt = 28 := by decide
  have c_64 : (64 : Int32).toInt = 64 := by decide
  refine kV.L (L' := [(0, .ref (ρ 2))]) rfl ?_
  obtain ⟨x1, e2⟩ : ∃ z : Int32, w 2 2 = z := ⟨_, rfl⟩
  have b3 : (0 : Int) ≤ x1.toInt ∧ x1.toInt ≤ 1024 := by rw [← e2]; exact hI 2 2
  rw [e2] at hp0
  obtain ⟨x4, e5⟩ : ∃ z : Int32, w 2 3 = z := ⟨_, rfl⟩
  have b6 : (0 : Int) ≤ x4.toInt ∧ x4.toInt ≤ 65535 := by rw [← e5]; exact hI 2 3
  obtain ⟨x7, e8⟩ : ∃ z : Int32, w 4 14 = z := ⟨_, rfl⟩
  have b9 : (0 : Int) ≤ x7.toInt ∧ x7.toInt ≤ 255 := by rw [← e8]; exact hI 4 14
  obtain ⟨x10, e11⟩ : ∃ z : Int32, w 4 15 = z := ⟨_, rfl⟩
  have b12 : (0 : Int) ≤ x10.toInt ∧ x10.toInt ≤ 255 := by rw [← e11]; exact hI 4 15
  rw [e5, e8, e11] at hp1
  obtain ⟨x13, e14⟩ : ∃ z : Int32, w 2 4 = z := ⟨_, rfl⟩
  have b15 : (0 : Int) ≤ x13.toInt ∧ x13.toInt ≤ 65535 := by rw [← e14]; exact hI 2 4
  obtain ⟨x16, e17⟩ : ∃ z : Int32, w 4 6 = z := ⟨_, rfl⟩
  have b18 : (0 : Int) ≤ x16.toInt ∧ x16.toInt ≤ 255 := by rw [← e17]; exact hI 4 6
  obtain ⟨x19, e20⟩ : ∃ z : Int32, w 4 7 = z := ⟨_, rfl⟩
  have b21 : (0 : Int) ≤ x19.toInt ∧ x19.toInt ≤ 255 := by rw [← e20]; exact hI 4 7
  rw [e14, e17, e20] at hp2
  refine kv_aload_n C 1 rfl 0 (kdec dk_cX6_headerFault 0 rfl) rfl rfl ?_
  refine kv_getr C 4 rfl 2 1 rfl rfl inX6 (by decide) mfl_TaleMachine_Store_15 rfl rfl (kdec dk_cX6_headerFault 1 rfl) ?_
  refine kv_iconst C 5 rfl 0 (kdec dk_cX6_headerFault 2 rfl) rfl ?_
  obtain ⟨x22, e23⟩ : ∃ z : Int32, w 4 0 = z := ⟨_, rfl⟩
  have b24 : (0 : Int) ≤ x22.toInt ∧ x22.toInt ≤ 255 := by rw [← e23]; exact hI 4 0
  refine kv_iald C 6 rfl 4 rfl (by omega) (by omega) (show w 4 (0 : Int32).toNatClampNeg = x22 from e23) (kdec dk_cX6_headerFault 3 rfl) ?_
  refine kv_iconst C 7 rfl 3 (kdec dk_cX6_headerFault 4 rfl) rfl ?_
  refine kv_icmp_eq C 10 rfl 12 (kdec dk_cX6_headerFault 5 rfl) (by decide) (fun d25 => ?_) (fun d25 => ?_)
  · skip
    refine kv_aload_n C 13 rfl 0 (kdec dk_cX6_headerFault 8 rfl) rfl rfl ?_
    refine kv_get C 16 rfl 2 3 rfl rfl inX6 (by decide) mfl_TaleMachine_Store_44 rfl rfl (kdec dk_cX6_headerFault 9 rfl) e5 ?_
    refine kv_bipush C 18 rfl 64 (kdec dk_cX6_headerFault 10 rfl) rfl ?_
    refine kv_icmp_lt C 21 rfl 32 (kdec dk_cX6_headerFault 11 rfl) (by decide) (fun d26 => ?_) (fun d26 => ?_)
    · skip
      refine kv_iconst C 33 rfl 3 (kdec dk_cX6_headerFault 17 rfl) rfl ?_
      obtain ⟨x27, e28⟩ : ∃ z : Int32, w 4 4 = z := ⟨_, rfl⟩
      have b29 : (0 : Int) ≤ x27.toInt ∧ x27.toInt ≤ 255 := by rw [← e28]; exact hI 4 4
      obtain ⟨x30, e31⟩ : ∃ z : Int32, w 4 5 = z := ⟨_, rfl⟩
      have b32 : (0 : Int) ≤ x30.toInt ∧ x30.toInt ≤ 255 := by rw [← e31]; exact hI 4 5
      obtain ⟨x33, e34⟩ : ∃ z : Int32, w 4 26 = z := ⟨_, rfl⟩
      have b35 : (0 : Int) ≤ x33.toInt ∧ x33.toInt ≤ 255 := by rw [← e34]; exact hI 4 26
      obtain ⟨x36, e37⟩ : ∃ z : Int32, w 4 27 = z := ⟨_, rfl⟩
      have b38 : (0 : Int) ≤ x36.toInt ∧ x36.toInt ≤ 255 := by rw [← e37]; exact hI 4 27
      obtain ⟨x39, e40⟩ : ∃ z : Int32, w 4 28 = z := ⟨_, rfl⟩
      have b41 : (0 : Int) ≤ x39.toInt ∧ x39.toInt ≤ 255 := by rw [← e40]; exact hI 4 28
      obtain ⟨x42, e43⟩ : ∃ z : Int32, w 4 29 = z := ⟨_, rfl⟩
      have b44 : (0 : Int) ≤ x42.toInt ∧ x42.toInt ≤ 255 := by rw [← e43]; exact hI 4 29
      exact kv_iret C hr hlk (kdec dk_cX6_headerFault 18 rfl) ⟨_, rfl, hI, hF0, (by omega), (by rw [e5]; try omega), (by unfold kFn kWd; rw [e23, e8, e11, e28, e31, e17, e20, e34, e37, e40, e43, e2]; (repeat' split) <;> omega)⟩
    · skip
      refine kv_aload_n C 22 rfl 0 (kdec dk_cX6_headerFault 12 rfl) rfl rfl ?_
      refine kv_get C 25 rfl 2 3 rfl rfl inX6 (by decide) mfl_TaleMachine_Store_44 rfl rfl (kdec dk_cX6_headerFault 13 rfl) e5 ?_
      refine kv_aload_n C 26 rfl 0 (kdec dk_cX6_headerFault 14 rfl) rfl rfl ?_
      refine kv_get C 29 rfl 2 2 rfl rfl inX6 (by decide) mfl_TaleMachine_Store_27 rfl rfl (kdec dk_cX6_headerFault 15 rfl) e2 ?_
      refine kv_icmp_le C 32 rfl 34 (kdec dk_cX6_headerFault 16 rfl) (by decide) (fun d45 => ?_) (fun d45 => ?_)
      · skip
        refine kv_aload_n C 35 rfl 0 (kdec dk_cX6_headerFault 19 rfl) rfl rfl ?_
        refine kv_iconst C 36 rfl 4 (kdec dk_cX6_headerFault 20 rfl) rfl ?_
        refine kv_callVi (As := [.int 4]) (rest := []) C 39 rfl 2 (k_loadedWord4 l D τ ρ σ w  hI ) rfl rfl mml_TaleMachine_Store_40 mim_yX6_loadedWord mse_yX6_loadedWord mcd_yX6_loadedWord min_yX6_loadedWord hd_yX6_loadedWord rfl rfl rfl (by decide) rfl (Nat.le_of_ble_eq_true rfl) (kdec dk_cX6_headerFault 21 rfl) (fun x50 w46 h47 => ?_)
        obtain ⟨I48, f49, p51, p52⟩ := h47
        have F53 : kF [] w w46 := kF_call hF0 f49 (by decide)
        have g54 := kf_rng x50
        obtain ⟨x55, e56⟩ : ∃ z : Int32, w 4 4 = z := ⟨_, rfl⟩
        have b57 : (0 : Int) ≤ x55.toInt ∧ x55.toInt ≤ 255 := by rw [← e56]; exact hI 4 4
        obtain ⟨x58, e59⟩ : ∃ z : Int32, w 4 5 = z := ⟨_, rfl⟩
        have b60 : (0 : Int) ≤ x58.toInt ∧ x58.toInt ≤ 255 := by rw [← e59]; exact hI 4 5
        rw [e56, e59] at p52
        refine kv_istore_n C 40 rfl 1 [1, 0] [(0, .ref (ρ 2)), (1, .int x50)] (kdec dk_cX6_headerFault 22 rfl) rfl (by decide) rfl ?_
        refine kv_iload_n C 41 rfl 1 (kdec dk_cX6_headerFault 23 rfl) rfl rfl ?_
        refine kv_aload_n C 42 rfl 0 (kdec dk_cX6_headerFault 24 rfl) rfl rfl ?_
        have e61 : w46 2 3 = x4 := ((f49 2 3 rfl : w46 2 3 = w 2 3).trans e5)
        refine kv_get C 45 rfl 2 3 rfl rfl inX6 (by decide) mfl_TaleMachine_Store_44 rfl rfl (kdec dk_cX6_headerFault 25 rfl) e61 ?_
        refine kv_icmp_lt C 48 rfl 56 (kdec dk_cX6_headerFault 26 rfl) (by decide) (fun d62 => ?_) (fun d62 => ?_)
        · skip
          refine kv_iconst C 57 rfl 4 (kdec dk_cX6_headerFault 31 rfl) rfl ?_
          obtain ⟨x63, e64⟩ : ∃ z : Int32, w 4 26 = z := ⟨_, rfl⟩
          have b65 : (0 : Int) ≤ x63.toInt ∧ x63.toInt ≤ 255 := by rw [← e64]; exact hI 4 26
          obtain ⟨x66, e67⟩ : ∃ z : Int32, w 4 27 = z := ⟨_, rfl⟩
          have b68 : (0 : Int) ≤ x66.toInt ∧ x66.toInt ≤ 255 := by rw [← e67]; exact hI 4 27
          obtain ⟨x69, e70⟩ : ∃ z : Int32, w 4 28 = z := ⟨_, rfl⟩
          have b71 : (0 : Int) ≤ x69.toInt ∧ x69.toInt ≤ 255 := by rw [← e70]; exact hI 4 28
          obtain ⟨x72, e73⟩ : ∃ z : Int32, w 4 29 = z := ⟨_, rfl⟩
          have b74 : (0 : Int) ≤ x72.toInt ∧ x72.toInt ≤ 255 := by rw [← e73]; exact hI 4 29
          exact kv_iret C hr hlk (kdec dk_cX6_headerFault 32 rfl) ⟨_, rfl, I48, F53, (by omega), (by rw [e5]; try omega), (by unfold kFn kWd; rw [e23, e8, e11, e56, e59, e17, e20, e64, e67, e70, e73, e2]; (repeat' split) <;> omega)⟩
        · skip
          refine kv_iload_n C 49 rfl 1 (kdec dk_cX6_headerFault 27 rfl) rfl rfl ?_
          refine kv_aload_n C 50 rfl 0 (kdec dk_cX6_headerFault 28 rfl) rfl rfl ?_
          have e75 : w46 2 2 = x1 := ((f49 2 2 rfl : w46 2 2 = w 2 2).trans e2)
          refine kv_get C 53 rfl 2 2 rfl rfl inX6 (by decide) mfl_TaleMachine_Store_27 rfl rfl (kdec dk_cX6_headerFault 29 rfl) e75 ?_
          refine kv_icmp_le C 56 rfl 58 (kdec dk_cX6_headerFault 30 rfl) (by decide) (fun d76 => ?_) (fun d76 => ?_)
          · skip
            refine kv_aload_n C 59 rfl 0 (kdec dk_cX6_headerFault 33 rfl) rfl rfl ?_
            have e77 : w46 2 4 = x13 := ((f49 2 4 rfl : w46 2 4 = w 2 4).trans e14)
            refine kv_get C 62 rfl 2 4 rfl rfl inX6 (by decide) mfl_TaleMachine_Store_47 rfl rfl (kdec dk_cX6_headerFault 34 rfl) e77 ?_
            refine kv_aload_n C 63 rfl 0 (kdec dk_cX6_headerFault 35 rfl) rfl rfl ?_
            refine kv_get C 66 rfl 2 2 rfl rfl inX6 (by decide) mfl_TaleMachine_Store_27 rfl rfl (kdec dk_cX6_headerFault 36 rfl) e75 ?_
            refine kv_icmp_lt C 69 rfl 71 (kdec dk_cX6_headerFault 37 rfl) (by decide) (fun d78 => ?_) (fun d78 => ?_)
            · skip
              refine kv_iconst C 72 rfl 2 (kdec dk_cX6_headerFault 40 rfl) rfl ?_
              refine kv_aload_n C 73 rfl 0 (kdec dk_cX6_headerFault 41 rfl) rfl rfl ?_
              refine kv_bipush C 75 rfl 26 (kdec dk_cX6_headerFault 42 rfl) rfl ?_
              refine kv_callVi (As := [.int 26]) (rest := [.int 2]) C 78 rfl 2 (k_loadedWord26 l D τ ρ σ w46  I48 ) rfl rfl mml_TaleMachine_Store_40 mim_yX6_loadedWord mse_yX6_loadedWord mcd_yX6_loadedWord min_yX6_loadedWord hd_yX6_loadedWord rfl rfl rfl (by decide) rfl (Nat.le_of_ble_eq_true rfl) (kdec dk_cX6_headerFault 43 rfl) (fun x83 w79 h80 => ?_)
              obtain ⟨I81, f82, p84, p85⟩ := h80
              have F86 : kF [] w w79 := kF_call F53 f82 (by decide)
              have g87 := kf_rng x83
              obtain ⟨x88, e89⟩ : ∃ z : Int32, w 4 26 = z := ⟨_, rfl⟩
              have b90 : (0 : Int) ≤ x88.toInt ∧ x88.toInt ≤ 255 := by rw [← e89]; exact hI 4 26
              have e91 : w46 4 26 = x88 := ((f49 4 26 rfl : w46 4 26 = w 4 26).trans e89)
              obtain ⟨x92, e93⟩ : ∃ z : Int32, w 4 27 = z := ⟨_, rfl⟩
              have b94 : (0 : Int) ≤ x92.toInt ∧ x92.toInt ≤ 255 := by rw [← e93]; exact hI 4 27
              have e95 : w46 4 27 = x92 := ((f49 4 27 rfl : w46 4 27 = w 4 27).trans e93)
              rw [e91, e95] at p85
              refine kv_imul C 79 rfl (kdec dk_cX6_headerFault 44 rfl) (fun x96 h97e h97l h97u => ?_)
              obtain ⟨q98, g99⟩ := kf_mul 2 x83
              rw [← h97e, c_2] at g99
              try have h97n : x96.toInt = 2 * x83.toInt := by omega
              clear g99 q98
              refine kv_istore_n C 80 rfl 2 [1, 2, 0] [(0, .ref (ρ 2)), (1, .int x50), (2, .int x96)] (kdec dk_cX6_headerFault 45 rfl) rfl (by decide) rfl ?_
              refine kv_iload_n C 81 rfl 2 (kdec dk_cX6_headerFault 46 rfl) rfl rfl ?_
              refine kv_if_eq C 84 rfl 95 (kdec dk_cX6_headerFault 47 rfl) (by decide) (fun d100 => ?_) (fun d100 => ?_)
              · skip
                refine kv_iload_n C 96 rfl 2 (kdec dk_cX6_headerFault 54 rfl) rfl rfl ?_
                refine kv_if_eq C 99 rfl 117 (kdec dk_cX6_headerFault 55 rfl) (by decide) (fun d101 => ?_) (fun d101 => ?_)
                · skip
                  refine kv_iconst C 118 rfl 0 (kdec dk_cX6_headerFault 64 rfl) rfl ?_
                  obtain ⟨x102, e103⟩ : ∃ z : Int32, w 4 28 = z := ⟨_, rfl⟩
                  have b104 : (0 : Int) ≤ x102.toInt ∧ x102.toInt ≤ 255 := by rw [← e103]; exact hI 4 28
                  obtain ⟨x105, e106⟩ : ∃ z : Int32, w 4 29 = z := ⟨_, rfl⟩
                  have b107 : (0 : Int) ≤ x105.toInt ∧ x105.toInt ≤ 255 := by rw [← e106]; exact hI 4 29
                  exact kv_iret C hr hlk (kdec dk_cX6_headerFault 65 rfl) ⟨_, rfl, I81, F86, (by omega), (by rw [e5]; try omega), (by unfold kFn kWd; rw [e23, e8, e11, e56, e59, e17, e20, e89, e93, e103, e106, e2]; (repeat' split) <;> omega)⟩
                · skip
                  refine kv_aload_n C 100 rfl 0 (kdec dk_cX6_headerFault 56 rfl) rfl rfl ?_
                  refine kv_bipush C 102 rfl 28 (kdec dk_cX6_headerFault 57 rfl) rfl ?_
                  refine kv_callVi (As := [.int 28]) (rest := []) C 105 rfl 2 (k_loadedWord28 l D τ ρ σ w79  I81 ) rfl rfl mml_TaleMachine_Store_40 mim_yX6_loadedWord mse_yX6_loadedWord mcd_yX6_loadedWord min_yX6_loadedWord hd_yX6_loadedWord rfl rfl rfl (by decide) rfl (Nat.le_of_ble_eq_true rfl) (kdec dk_cX6_headerFault 58 rfl) (fun x112 w108 h109 => ?_)
                  obtain ⟨I110, f111, p113, p114⟩ := h109
                  have F115 : kF [] w w108 := kF_call F86 f111 (by decide)
                  have g116 := kf_rng x112
                  obtain ⟨x117, e118⟩ : ∃ z : Int32, w 4 28 = z := ⟨_, rfl⟩
                  have b119 : (0 : Int) ≤ x117.toInt ∧ x117.toInt ≤ 255 := by rw [← e118]; exact hI 4 28
                  have e120 : w79 4 28 = x117 := ((f82 4 28 rfl : w79 4 28 = w46 4 28).trans ((f49 4 28 rfl : w46 4 28 = w 4 28).trans e118))
                  obtain ⟨x121, e122⟩ : ∃ z : Int32, w 4 29 = z := ⟨_, rfl⟩
                  have b123 : (0 : Int) ≤ x121.toInt ∧ x121.toInt ≤ 255 := by rw [← e122]; exact hI 4 29
                  have e124 : w79 4 29 = x121 := ((f82 4 29 rfl : w79 4 29 = w46 4 29).trans ((f49 4 29 rfl : w46 4 29 = w 4 29).trans e122))
                  rw [e120, e124] at p114
                  refine kv_aload_n C 106 rfl 0 (kdec dk_cX6_headerFault 59 rfl) rfl rfl ?_
                  have e125 : w108 2 2 = x1 := ((f111 2 2 rfl : w108 2 2 = w79 2 2).trans ((f82 2 2 rfl : w79 2 2 = w46 2 2).trans e75))
                  refine kv_callVi (As := []) (rest := [.int x112]) C 109 rfl 2 (k_loadedSum l D τ ρ σ w108  I110 (by rw [e125]; try omega)) rfl rfl mml_TaleMachine_Store_66 mim_yX6_loadedSum mse_yX6_loadedSum mcd_yX6_loadedSum min_yX6_loadedSum hd_yX6_loadedSum rfl rfl rfl (by decide) rfl (Nat.le_of_ble_eq_true rfl) (kdec dk_cX6_headerFault 60 rfl) (fun x130 w126 h127 => ?_)
                  obtain ⟨I128, f129, R131⟩ := h127
                  have F132 : kF [] w w126 := kF_call F115 f129 (by decide)
                  have g133 := kf_rng x130
                  refine kv_icmp_eq C 112 rfl 117 (kdec dk_cX6_headerFault 61 rfl) (by decide) (fun d134 => ?_) (fun d134 => ?_)
                  · skip
                    refine kv_iconst C 118 rfl 0 (kdec dk_cX6_headerFault 64 rfl) rfl ?_
                    exact kv_iret C hr hlk (kdec dk_cX6_headerFault 65 rfl) ⟨_, rfl, I128, F132, (by omega), (by rw [e5]; try omega), (by have hs9 := R131; rw [show w108 4 = w 4 from funext (fun k9 => ((f111 4 k9 rfl : w108 4 k9 = w79 4 k9).trans ((f82 4 k9 rfl : w79 4 k9 = w46 4 k9).trans (f49 4 k9 rfl : w46 4 k9 = w 4 k9)))), e125] at hs9; unfold kFn kWd; rw [e23, e8, e11, e56, e59, e17, e20, e89, e93, e118, e122, e2]; (repeat' split) <;> omega)⟩
                  · skip
                    refine kv_bipush C 114 rfl 7 (kdec dk_cX6_headerFault 62 rfl) rfl ?_
                    refine kv_goto C 118 (kdec dk_cX6_headerFault 63 rfl) (by decide) ?_
                    exact kv_iret C hr hlk (kdec dk_cX6_headerFault 65 rfl) ⟨_, rfl, I128, F132, (by omega), (by rw [e5]; try omega), (by have hs9 := R131; rw [show w108 4 = w 4 from funext (fun k9 => ((f111 4 k9 rfl : w108 4 k9 = w79 4 k9).trans ((f82 4 k9 rfl : w79 4 k9 = w46 4 k9).trans (f49 4 k9 rfl : w46 4 k9 = w 4 k9)))), e125] at hs9; unfold kFn kWd; rw [e23, e8, e11, e56, e59, e17, e20, e89, e93, e118, e122, e2]; (repeat' split) <;> omega)⟩
              · skip
                refine kv_iload_n C 85 rfl 2 (kdec dk_cX6_headerFault 48 rfl) rfl rfl ?_
                refine kv_aload_n C 86 rfl 0 (kdec dk_cX6_headerFault 49 rfl) rfl rfl ?_
                have e135 : w79 2 2 = x1 := ((f82 2 2 rfl : w79 2 2 = w46 2 2).trans e75)
                refine kv_get C 89 rfl 2 2 rfl rfl inX6 (by decide) mfl_TaleMachine_Store_27 rfl rfl (kdec dk_cX6_headerFault 50 rfl) e135 ?_
                refine kv_icmp_eq C 92 rfl 95 (kdec dk_cX6_headerFault 51 rfl) (by decide) (fun d136 => ?_) (fun d136 => ?_)
                · skip
                  refine kv_iload_n C 96 rfl 2 (kdec dk_cX6_headerFault 54 rfl) rfl rfl ?_
                  refine kv_if_eq C 99 rfl 117 (kdec dk_cX6_headerFault 55 rfl) (by decide) (fun d137 => ?_) (fun d137 => ?_)
                  · skip
                    refine kv_iconst C 118 rfl 0 (kdec dk_cX6_headerFault 64 rfl) rfl ?_
                    obtain ⟨x138, e139⟩ : ∃ z : Int32, w 4 28 = z := ⟨_, rfl⟩
                    have b140 : (0 : Int) ≤ x138.toInt ∧ x138.toInt ≤ 255 := by rw [← e139]; exact hI 4 28
                    obtain ⟨x141, e142⟩ : ∃ z : Int32, w 4 29 = z := ⟨_, rfl⟩
                    have b143 : (0 : Int) ≤ x141.toInt ∧ x141.toInt ≤ 255 := by rw [← e142]; exact hI 4 29
                    exact kv_iret C hr hlk (kdec dk_cX6_headerFault 65 rfl) ⟨_, rfl, I81, F86, (by omega), (by rw [e5]; try omega), (by unfold kFn kWd; rw [e23, e8, e11, e56, e59, e17, e20, e89, e93, e139, e142, e2]; (repeat' split) <;> omega)⟩
                  · skip
                    refine kv_aload_n C 100 rfl 0 (kdec dk_cX6_headerFault 56 rfl) rfl rfl ?_
                    refine kv_bipush C 102 rfl 28 (kdec dk_cX6_headerFault 57 rfl) rfl ?_
                    refine kv_callVi (As := [.int 28]) (rest := []) C 105 rfl 2 (k_loadedWord28 l D τ ρ σ w79  I81 ) rfl rfl mml_TaleMachine_Store_40 mim_yX6_loadedWord mse_yX6_loadedWord mcd_yX6_loadedWord min_yX6_loadedWord hd_yX6_loadedWord rfl rfl rfl (by decide) rfl (Nat.le_of_ble_eq_true rfl) (kdec dk_cX6_headerFault 58 rfl) (fun x148 w144 h145 => ?_)
                    obtain ⟨I146, f147, p149, p150⟩ := h145
                    have F151 : kF [] w w144 := kF_call F86 f147 (by decide)
                    have g152 := kf_rng x148
                    obtain ⟨x153, e154⟩ : ∃ z : Int32, w 4 28 = z := ⟨_, rfl⟩
                    have b155 : (0 : Int) ≤ x153.toInt ∧ x153.toInt ≤ 255 := by rw [← e154]; exact hI 4 28
                    have e156 : w79 4 28 = x153 := ((f82 4 28 rfl : w79 4 28 = w46 4 28).trans ((f49 4 28 rfl : w46 4 28 = w 4 28).trans e154))
                    obtain ⟨x157, e158⟩ : ∃ z : Int32, w 4 29 = z := ⟨_, rfl⟩
                    have b159 : (0 : Int) ≤ x157.toInt ∧ x157.toInt ≤ 255 := by rw [← e158]; exact hI 4 29
                    have e160 : w79 4 29 = x157 := ((f82 4 29 rfl : w79 4 29 = w46 4 29).trans ((f49 4 29 rfl : w46 4 29 = w 4 29).trans e158))
                    rw [e156, e160] at p150
                    refine kv_aload_n C 106 rfl 0 (kdec dk_cX6_headerFault 59 rfl) rfl rfl ?_
                    have e161 : w144 2 2 = x1 := ((f147 2 2 rfl : w144 2 2 = w79 2 2).trans e135)
                    refine kv_callVi (As := []) (rest := [.int x148]) C 109 rfl 2 (k_loadedSum l D τ ρ σ w144  I146 (by rw [e161]; try omega)) rfl rfl mml_TaleMachine_Store_66 mim_yX6_loadedSum mse_yX6_loadedSum mcd_yX6_loadedSum min_yX6_loadedSum hd_yX6_loadedSum rfl rfl rfl (by decide) rfl (Nat.le_of_ble_eq_true rfl) (kdec dk_cX6_headerFault 60 rfl) (fun x166 w162 h163 => ?_)
                    obtain ⟨I164, f165, R167⟩ := h163
                    have F168 : kF [] w w162 := kF_call F151 f165 (by decide)
                    have g169 := kf_rng x166
                    refine kv_icmp_eq C 112 rfl 117 (kdec dk_cX6_headerFault 61 rfl) (by decide) (fun d170 => ?_) (fun d170 => ?_)
                    · skip
                      refine kv_iconst C 118 rfl 0 (kdec dk_cX6_headerFault 64 rfl) rfl ?_
                      exact kv_iret C hr hlk (kdec dk_cX6_headerFault 65 rfl) ⟨_, rfl, I164, F168, (by omega), (by rw [e5]; try omega), (by have hs9 := R167; rw [show w144 4 = w 4 from funext (fun k9 => ((f147 4 k9 rfl : w144 4 k9 = w79 4 k9).trans ((f82 4 k9 rfl : w79 4 k9 = w46 4 k9).trans (f49 4 k9 rfl : w46 4 k9 = w 4 k9)))), e161] at hs9; unfold kFn kWd; rw [e23, e8, e11, e56, e59, e17, e20, e89, e93, e154, e158, e2]; (repeat' split) <;> omega)⟩
                    · skip
                      refine kv_bipush C 114 rfl 7 (kdec dk_cX6_headerFault 62 rfl) rfl ?_
                      refine kv_goto C 118 (kdec dk_cX6_headerFault 63 rfl) (by decide) ?_
                      exact kv_iret C hr hlk (kdec dk_cX6_headerFault 65 rfl) ⟨_, rfl, I164, F168, (by omega), (by rw [e5]; try omega), (by have hs9 := R167; rw [show w144 4 = w 4 from funext (fun k9 => ((f147 4 k9 rfl : w144 4 k9 = w79 4 k9).trans ((f82 4 k9 rfl : w79 4 k9 = w46 4 k9).trans (f49 4 k9 rfl : w46 4 k9 = w 4 k9)))), e161] at hs9; unfold kFn kWd; rw [e23, e8, e11, e56, e59, e17, e20, e89, e93, e154, e158, e2]; (repeat' split) <;> omega)⟩
                · skip
                  refine kv_bipush C 94 rfl 6 (kdec dk_cX6_headerFault 52 rfl) rfl ?_
                  obtain ⟨x171, e172⟩ : ∃ z : Int32, w 4 28 = z := ⟨_, rfl⟩
                  have b173 : (0 : Int) ≤ x171.toInt ∧ x171.toInt ≤ 255 := by rw [← e172]; exact hI 4 28
                  obtain ⟨x174, e175⟩ : ∃ z : Int32, w 4 29 = z := ⟨_, rfl⟩
                  have b176 : (0 : Int) ≤ x174.toInt ∧ x174.toInt ≤ 255 := by rw [← e175]; exact hI 4 29
                  exact kv_iret C hr hlk (kdec dk_cX6_headerFault 53 rfl) ⟨_, rfl, I81, F86, (by omega), (by rw [e5]; try omega), (by unfold kFn kWd; rw [e23, e8, e11, e56, e59, e17, e20, e89, e93, e172, e175, e2]; (repeat' split) <;> omega)⟩
            · skip
              refine kv_iconst C 70 rfl 5 (kdec dk_cX6_headerFault 38 rfl) rfl ?_
              obtain ⟨x177, e178⟩ : ∃ z : Int32, w 4 26 = z := ⟨_, rfl⟩
              have b179 : (0 : Int) ≤ x177.toInt ∧ x177.toInt ≤ 255 := by rw [← e178]; exact hI 4 26
              obtain ⟨x180, e181⟩ : ∃ z : Int32, w 4 27 = z := ⟨_, rfl⟩
              have b182 : (0 : Int) ≤ x180.toInt ∧ x180.toInt ≤ 255 := by rw [← e181]; exact hI 4 27
              obtain ⟨x183, e184⟩ : ∃ z : Int32, w 4 28 = z := ⟨_, rfl⟩
              have b185 : (0 : Int) ≤ x183.toInt ∧ x183.toInt ≤ 255 := by rw [← e184]; exact hI 4 28
              obtain ⟨x186, e187⟩ : ∃ z : Int32, w 4 29 = z := ⟨_, rfl⟩
              have b188 : (0 : Int) ≤ x186.toInt ∧ x186.toInt ≤ 255 := by rw [← e187]; exact hI 4 29
              exact kv_iret C hr hlk (kdec dk_cX6_headerFault 39 rfl) ⟨_, rfl, I48, F53, (by omega), (by rw [e5]; try omega), (by unfold kFn kWd; rw [e23, e8, e11, e56, e59, e17, e20, e178, e181, e184, e187, e2]; (repeat' split) <;> omega)⟩
          · skip
            refine kv_iconst C 57 rfl 4 (kdec dk_cX6_headerFault 31 rfl) rfl ?_
            obtain ⟨x189, e190⟩ : ∃ z : Int32, w 4 26 = z := ⟨_, rfl⟩
            have b191 : (0 : Int) ≤ x189.toInt ∧ x189.toInt ≤ 255 := by rw [← e190]; exact hI 4 26
            obtain ⟨x192, e193⟩ : ∃ z : Int32, w 4 27 = z := ⟨_, rfl⟩
            have b194 : (0 : Int) ≤ x192.toInt ∧ x192.toInt ≤ 255 := by rw [← e193]; exact hI 4 27
            obtain ⟨x195, e196⟩ : ∃ z : Int32, w 4 28 = z := ⟨_, rfl⟩
            have b197 : (0 : Int) ≤ x195.toInt ∧ x195.toInt ≤ 255 := by rw [← e196]; exact hI 4 28
            obtain ⟨x198, e199⟩ : ∃ z : Int32, w 4 29 = z := ⟨_, rfl⟩
            have b200 : (0 : Int) ≤ x198.toInt ∧ x198.toInt ≤ 255 := by rw [← e199]; exact hI 4 29
            exact kv_iret C hr hlk (kdec dk_cX6_headerFault 32 rfl) ⟨_, rfl, I48, F53, (by omega), (by rw [e5]; try omega), (by unfold kFn kWd; rw [e23, e8, e11, e56, e59, e17, e20, e190, e193, e196, e199, e2]; (repeat' split) <;> omega)⟩
      · skip
        refine kv_iconst C 33 rfl 3 (kdec dk_cX6_headerFault 17 rfl) rfl ?_
        obtain ⟨x201, e202⟩ : ∃ z : Int32, w 4 4 = z := ⟨_, rfl⟩
        have b203 : (0 : Int) ≤ x201.toInt ∧ x201.toInt ≤ 255 := by rw [← e202]; exact hI 4 4
        obtain ⟨x204, e205⟩ : ∃ z : Int32, w 4 5 = z := ⟨_, rfl⟩
        have b206 : (0 : Int) ≤ x204.toInt ∧ x204.toInt ≤ 255 := by rw [← e205]; exact hI 4 5
        obtain ⟨x207, e208⟩ : ∃ z : Int32, w 4 26 = z := ⟨_, rfl⟩
        have b209 : (0 : Int) ≤ x207.toInt ∧ x207.toInt ≤ 255 := by rw [← e208]; exact hI 4 26
        obtain ⟨x210, e211⟩ : ∃ z : Int32, w 4 27 = z := ⟨_, rfl⟩
        have b212 : (0 : Int) ≤ x210.toInt ∧ x210.toInt ≤ 255 := by rw [← e211]; exact hI 4 27
        obtain ⟨x213, e214⟩ : ∃ z : Int32, w 4 28 = z := ⟨_, rfl⟩
        have b215 : (0 : Int) ≤ x213.toInt ∧ x213.toInt ≤ 255 := by rw [← e214]; exact hI 4 28
        obtain ⟨x216, e217⟩ : ∃ z : Int32, w 4 29 = z := ⟨_, rfl⟩
        have b218 : (0 : Int) ≤ x216.toInt ∧ x216.toInt ≤ 255 := by rw [← e217]; exact hI 4 29
        exact kv_iret C hr hlk (kdec dk_cX6_headerFault 18 rfl) ⟨_, rfl, hI, hF0, (by omega), (by rw [e5]; try omega), (by unfold kFn kWd; rw [e23, e8, e11, e202, e205, e17, e20, e208, e211, e214, e217, e2]; (repeat' split) <;> omega)⟩
  · skip
    refine kv_iconst C 11 rfl 2 (kdec dk_cX6_headerFault 6 rfl) rfl ?_
    obtain ⟨x219, e220⟩ : ∃ z : Int32, w 4 4 = z := ⟨_, rfl⟩
    have b221 : (0 : Int) ≤ x219.toInt ∧ x219.toInt ≤ 255 := by rw [← e220]; exact hI 4 4
    obtain ⟨x222, e223⟩ : ∃ z : Int32, w 4 5 = z := ⟨_, rfl⟩
    have b224 : (0 : Int) ≤ x222.toInt ∧ x222.toInt ≤ 255 := by rw [← e223]; exact hI 4 5
    obtain ⟨x225, e226⟩ : ∃ z : Int32, w 4 26 = z := ⟨_, rfl⟩
    have b227 : (0 : Int) ≤ x225.toInt ∧ x225.toInt ≤ 255 := by rw [← e226]; exact hI 4 26
    obtain ⟨x228, e229⟩ : ∃ z : Int32, w 4 27 = z := ⟨_, rfl⟩
    have b230 : (0 : Int) ≤ x228.toInt ∧ x228.toInt ≤ 255 := by rw [← e229]; exact hI 4 27
    obtain ⟨x231, e232⟩ : ∃ z : Int32, w 4 28 = z := ⟨_, rfl⟩
    have b233 : (0 : Int) ≤ x231.toInt ∧ x231.toInt ≤ 255 := by rw [← e232]; exact hI 4 28
    obtain ⟨x234, e235⟩ : ∃ z : Int32, w 4 29 = z := ⟨_, rfl⟩
    have b236 : (0 : Int) ≤ x234.toInt ∧ x234.toInt ≤ 255 := by rw [← e235]; exact hI 4 29
    exact kv_iret C hr hlk (kdec dk_cX6_headerFault 7 rfl) ⟨_, rfl, hI, hF0, (by omega), (by rw [e5]; try omega), (by unfold kFn kWd; rw [e23, e8, e11, e220, e223, e17, e20, e226, e229, e232, e235, e2]; (repeat' split) <;> omega)⟩

set_option maxHeartbeats 4000000 in
set_option maxRecDepth 100000 in
theorem k_take (l : Launch) (D : va_G) (τ : Nat → ClassId) (ρ σ : Nat → Nat) (w : kw) (a2 : Int32) (hI : kI false w) (hp0 : 0 ≤ a2.toInt ∧ a2.toInt ≤ 1024) :
    kM l D τ ρ σ yX6_take cX6_take 3 (some .int) { frames := 2, cells := 0, slots := 0, locals := 72 } [.ref (ρ 2), .ref (ρ 1), .int a2] w
      (fun o w' => ∃ r : Int32, o = some (.int r) ∧ kI false w' ∧ kF [(2, some 2), (2, some 3), (2, some 4), (2, some 5), (2, some 6), (2, some 7), (2, some 8), (2, some 9), (4, none)] w w' ∧ (0 ≤ r.toInt ∧ r.toInt ≤ 7) ∧ (¬ r.toInt = 0 ∨ (w' 2 3).toInt ≤ 1024) ∧ (64 ≤ a2.toInt ∨ r.toInt = 1) ∧ (r.toInt = kFn (w 1) a2.toInt)) := by
  refine kM_of (own := "TaleMachine$Store") rfl (by decide) (Nat.le_of_ble_eq_true rfl) ?_
  intro p e s m args below meth c C hr hlk
  have hF0 : kF [(2, some 2), (2, some 3), (2, some 4), (2, some 5), (2, some 6), (2, some 7), (2, some 8), (2, some 9), (4, none)] w w := kF.rf
  have c_0 : (0 : Int32).toInt = 0 := by decide
  have c_1 : (1 : Int32).toInt = 1 := by decide
  have c_6 : (6 : Int32).toInt = 6 := by decide
  have c_8 : (8 : Int32).toInt = 8 := by decide
  have c_10 : (10 : Int32).toInt = 10 := by decide
  have c_12 : (12 : Int32).toInt = 12 := by decide
  have c_14 : (14 : Int32).toInt = 14 := by decide
  have c_24 : (24 : Int32).toInt = 24 := by decide
  have c_64 : (64 : Int32).toInt = 64 := by decide
  have c_1024 : (1024 : Int32).toInt = 1024 := by decide
  refine kV.L (L' := [(0, .ref (ρ 2)), (1, .ref (ρ 1)), (2, .int a2)]) rfl ?_
  have g1 := kf_rng a2
  refine kv_aload_n C 1 rfl 0 (kdec dk_cX6_take 0 rfl) rfl rfl ?_
  refine kv_iconst C 2 rfl 0 (kdec dk_cX6_take 1 rfl) rfl ?_
  refine kv_iload_n C 3 rfl 2 (kdec dk_cX6_take 2 rfl) rfl rfl ?_
  refine kv_aload_n C 4 rfl 1 (kdec dk_cX6_take 3 rfl) rfl rfl ?_
  refine kv_alen C 5 rfl 1 1024 rfl (by decide) rfl (kdec dk_cX6_take 4 rfl) ?_
  refine kv_sipush C 8 rfl 1024 (kdec dk_cX6_take 5 rfl) rfl ?_
  refine kv_min C 11 rfl mml_TaleMachine_Store_18 jm_min_s jm_init jm_min_c (by decide) (Nat.le_of_ble_eq_true rfl) (kdec dk_cX6_take 6 rfl) (fun x2 h3 => ?_)
  have g4 := kf_rng x2
  refine kv_min C 14 rfl mml_TaleMachine_Store_18 jm_min_s jm_init jm_min_c (by decide) (Nat.le_of_ble_eq_true rfl) (kdec dk_cX6_take 7 rfl) (fun x5 h6 => ?_)
  have g7 := kf_rng x5
  refine kv_max C 17 rfl mml_TaleMachine_Store_24 jm_max_s jm_init jm_max_c (by decide) (Nat.le_of_ble_eq_true rfl) (kdec dk_cX6_take 8 rfl) (fun x8 h9 => ?_)
  have g10 := kf_rng x8
  refine kv_put C 20 rfl 2 2 rfl rfl inX6 (by decide) mfl_TaleMachine_Store_27 rfl tyX6 tyX6_ok nmX6 rfl rfl (kdec dk_cX6_take 9 rfl) rfl rfl (fun w11 u12 => ?_)
  have I13 : kI false w11 := kI_put u12 hI (show (0 : Int) ≤ (x8 : Int32).toInt by omega) (show (x8 : Int32).toInt ≤ 1024 by omega)
  have F14 : kF [(2, some 2), (2, some 3), (2, some 4), (2, some 5), (2, some 6), (2, some 7), (2, some 8), (2, some 9), (4, none)] w w11 := kF_put u12 hF0 rfl
  refine kv_aload_n C 21 rfl 1 (kdec dk_cX6_take 10 rfl) rfl rfl ?_
  refine kv_iconst C 22 rfl 0 (kdec dk_cX6_take 11 rfl) rfl ?_
  refine kv_aload_n C 23 rfl 0 (kdec dk_cX6_take 12 rfl) rfl rfl ?_
  refine kv_getr C 26 rfl 2 1 rfl rfl inX6 (by decide) mfl_TaleMachine_Store_15 rfl rfl (kdec dk_cX6_take 13 rfl) ?_
  refine kv_iconst C 27 rfl 0 (kdec dk_cX6_take 14 rfl) rfl ?_
  refine kv_aload_n C 28 rfl 0 (kdec dk_cX6_take 15 rfl) rfl rfl ?_
  refine kv_get C 31 rfl 2 2 rfl rfl inX6 (by decide) mfl_TaleMachine_Store_27 rfl rfl (kdec dk_cX6_take 16 rfl) (kup_eq u12) ?_
  refine kv_copy C 34 rfl 1 4 rfl rfl mml_TaleMachine_Store_31 jc_n jc_s jc_i (by omega) (by omega) (by omega) (by omega) (by omega) (by decide) (Nat.le_of_ble_eq_true rfl) (kdec dk_cX6_take 17 rfl) (fun w15 u16 => ?_)
  have I17 : kI false w15 := kI_cpy u16 I13 (fun _ => rfl) (fun _ _ => rfl)
  have F18 : kF [(2, some 2), (2, some 3), (2, some 4), (2, some 5), (2, some 6), (2, some 7), (2, some 8), (2, some 9), (4, none)] w w15 := kF_row u16 F14 (fun _ => rfl)
  refine kv_aload_n C 35 rfl 0 (kdec dk_cX6_take 18 rfl) rfl rfl ?_
  refine kv_iconst C 36 rfl 0 (kdec dk_cX6_take 19 rfl) rfl ?_
  refine kv_put C 39 rfl 2 9 rfl rfl inX6 (by decide) mfl_TaleMachine_Store_37 rfl tyX6 tyX6_ok nmX6 rfl rfl (kdec dk_cX6_take 20 rfl) rfl rfl (fun w19 u20 => ?_)
  have I21 : kI false w19 := kI_put u20 I17 (show (0 : Int) ≤ (0 : Int32).toInt by omega) (show (0 : Int32).toInt ≤ 13 by omega)
  have F22 : kF [(2, some 2), (2, some 3), (2, some 4), (2, some 5), (2, some 6), (2, some 7), (2, some 8), (2, some 9), (4, none)] w w19 := kF_put u20 F18 rfl
  refine kv_aload_n C 40 rfl 0 (kdec dk_cX6_take 21 rfl) rfl rfl ?_
  have e23 : w19 2 2 = x8 := ((kup_ne u20 rfl : w19 2 2 = w15 2 2).trans ((kur_ne u16 rfl : w15 2 2 = w11 2 2).trans (kup_eq u12)))
  refine kv_get C 43 rfl 2 2 rfl rfl inX6 (by decide) mfl_TaleMachine_Store_27 rfl rfl (kdec dk_cX6_take 22 rfl) e23 ?_
  refine kv_bipush C 45 rfl 64 (kdec dk_cX6_take 23 rfl) rfl ?_
  refine kv_icmp_ge C 48 rfl 50 (kdec dk_cX6_take 24 rfl) (by decide) (fun d24 => ?_) (fun d24 => ?_)
  · skip
    refine kv_aload_n C 51 rfl 0 (kdec dk_cX6_take 27 rfl) rfl rfl ?_
    refine kv_aload_n C 52 rfl 0 (kdec dk_cX6_take 28 rfl) rfl rfl ?_
    refine kv_bipush C 54 rfl 14 (kdec dk_cX6_take 29 rfl) rfl ?_
    refine kv_callVi (As := [.int 14]) (rest := [.ref (ρ 2)]) C 57 rfl 2 (k_loadedWord14 l D τ ρ σ w19  I21 ) rfl rfl mml_TaleMachine_Store_40 mim_yX6_loadedWord mse_yX6_loadedWord mcd_yX6_loadedWord min_yX6_loadedWord hd_yX6_loadedWord rfl rfl rfl (by decide) rfl (Nat.le_of_ble_eq_true rfl) (kdec dk_cX6_take 30 rfl) (fun x29 w25 h26 => ?_)
    obtain ⟨I27, f28, p30, p31⟩ := h26
    have F32 : kF [(2, some 2), (2, some 3), (2, some 4), (2, some 5), (2, some 6), (2, some 7), (2, some 8), (2, some 9), (4, none)] w w25 := kF_call F22 f28 (by decide)
    have g33 := kf_rng x29
    obtain ⟨x34, e35⟩ : ∃ z : Int32, w15 4 14 = z := ⟨_, rfl⟩
    have b36 : (0 : Int) ≤ x34.toInt ∧ x34.toInt ≤ 255 := by rw [← e35]; exact I17 4 14
    have e37 : w19 4 14 = x34 := ((kup_ne u20 rfl : w19 4 14 = w15 4 14).trans e35)
    obtain ⟨x38, e39⟩ : ∃ z : Int32, w15 4 15 = z := ⟨_, rfl⟩
    have b40 : (0 : Int) ≤ x38.toInt ∧ x38.toInt ≤ 255 := by rw [← e39]; exact I17 4 15
    have e41 : w19 4 15 = x38 := ((kup_ne u20 rfl : w19 4 15 = w15 4 15).trans e39)
    rw [e37, e41] at p31
    refine kv_put C 60 rfl 2 3 rfl rfl inX6 (by decide) mfl_TaleMachine_Store_44 rfl tyX6 tyX6_ok nmX6 rfl rfl (kdec dk_cX6_take 31 rfl) rfl rfl (fun w42 u43 => ?_)
    have I44 : kI false w42 := kI_put u43 I27 (show (0 : Int) ≤ (x29 : Int32).toInt by omega) (show (x29 : Int32).toInt ≤ 65535 by omega)
    have F45 : kF [(2, some 2), (2, some 3), (2, some 4), (2, some 5), (2, some 6), (2, some 7), (2, some 8), (2, some 9), (4, none)] w w42 := kF_put u43 F32 rfl
    refine kv_aload_n C 61 rfl 0 (kdec dk_cX6_take 32 rfl) rfl rfl ?_
    refine kv_aload_n C 62 rfl 0 (kdec dk_cX6_take 33 rfl) rfl rfl ?_
    refine kv_bipush C 64 rfl 6 (kdec dk_cX6_take 34 rfl) rfl ?_
    refine kv_callVi (As := [.int 6]) (rest := [.ref (ρ 2)]) C 67 rfl 2 (k_loadedWord6 l D τ ρ σ w42  I44 ) rfl rfl mml_TaleMachine_Store_40 mim_yX6_loadedWord mse_yX6_loadedWord mcd_yX6_loadedWord min_yX6_loadedWord hd_yX6_loadedWord rfl rfl rfl (by decide) rfl (Nat.le_of_ble_eq_true rfl) (kdec dk_cX6_take 35 rfl) (fun x50 w46 h47 => ?_)
    obtain ⟨I48, f49, p51, p52⟩ := h47
    have F53 : kF [(2, some 2), (2, some 3), (2, some 4), (2, some 5), (2, some 6), (2, some 7), (2, some 8), (2, some 9), (4, none)] w w46 := kF_call F45 f49 (by decide)
    have g54 := kf_rng x50
    obtain ⟨x55, e56⟩ : ∃ z : Int32, w15 4 6 = z := ⟨_, rfl⟩
    have b57 : (0 : Int) ≤ x55.toInt ∧ x55.toInt ≤ 255 := by rw [← e56]; exact I17 4 6
    have e58 : w42 4 6 = x55 := ((kup_ne u43 rfl : w42 4 6 = w25 4 6).trans ((f28 4 6 rfl : w25 4 6 = w19 4 6).trans ((kup_ne u20 rfl : w19 4 6 = w15 4 6).trans e56)))
    obtain ⟨x59, e60⟩ : ∃ z : Int32, w15 4 7 = z := ⟨_, rfl⟩
    have b61 : (0 : Int) ≤ x59.toInt ∧ x59.toInt ≤ 255 := by rw [← e60]; exact I17 4 7
    have e62 : w42 4 7 = x59 := ((kup_ne u43 rfl : w42 4 7 = w25 4 7).trans ((f28 4 7 rfl : w25 4 7 = w19 4 7).trans ((kup_ne u20 rfl : w19 4 7 = w15 4 7).trans e60)))
    rw [e58, e62] at p52
    refine kv_put C 70 rfl 2 4 rfl rfl inX6 (by decide) mfl_TaleMachine_Store_47 rfl tyX6 tyX6_ok nmX6 rfl rfl (kdec dk_cX6_take 36 rfl) rfl rfl (fun w63 u64 => ?_)
    have I65 : kI false w63 := kI_put u64 I48 (show (0 : Int) ≤ (x50 : Int32).toInt by omega) (show (x50 : Int32).toInt ≤ 65535 by omega)
    have F66 : kF [(2, some 2), (2, some 3), (2, some 4), (2, some 5), (2, some 6), (2, some 7), (2, some 8), (2, some 9), (4, none)] w w63 := kF_put u64 F53 rfl
    refine kv_aload_n C 71 rfl 0 (kdec dk_cX6_take 37 rfl) rfl rfl ?_
    refine kv_aload_n C 72 rfl 0 (kdec dk_cX6_take 38 rfl) rfl rfl ?_
    refine kv_bipush C 74 rfl 8 (kdec dk_cX6_take 39 rfl) rfl ?_
    refine kv_callVi (As := [.int 8]) (rest := [.ref (ρ 2)]) C 77 rfl 2 (k_loadedWord8 l D τ ρ σ w63  I65 ) rfl rfl mml_TaleMachine_Store_40 mim_yX6_loadedWord mse_yX6_loadedWord mcd_yX6_loadedWord min_yX6_loadedWord hd_yX6_loadedWord rfl rfl rfl (by decide) rfl (Nat.le_of_ble_eq_true rfl) (kdec dk_cX6_take 40 rfl) (fun x71 w67 h68 => ?_)
    obtain ⟨I69, f70, p72, p73⟩ := h68
    have F74 : kF [(2, some 2), (2, some 3), (2, some 4), (2, some 5), (2, some 6), (2, some 7), (2, some 8), (2, some 9), (4, none)] w w67 := kF_call F66 f70 (by decide)
    have g75 := kf_rng x71
    obtain ⟨x76, e77⟩ : ∃ z : Int32, w15 4 8 = z := ⟨_, rfl⟩
    have b78 : (0 : Int) ≤ x76.toInt ∧ x76.toInt ≤ 255 := by rw [← e77]; exact I17 4 8
    have e79 : w63 4 8 = x76 := ((kup_ne u64 rfl : w63 4 8 = w46 4 8).trans ((f49 4 8 rfl : w46 4 8 = w42 4 8).trans ((kup_ne u43 rfl : w42 4 8 = w25 4 8).trans ((f28 4 8 rfl : w25 4 8 = w19 4 8).trans ((kup_ne u20 rfl : w19 4 8 = w15 4 8).trans e77)))))
    obtain ⟨x80, e81⟩ : ∃ z : Int32, w15 4 9 = z := ⟨_, rfl⟩
    have b82 : (0 : Int) ≤ x80.toInt ∧ x80.toInt ≤ 255 := by rw [← e81]; exact I17 4 9
    have e83 : w63 4 9 = x80 := ((kup_ne u64 rfl : w63 4 9 = w46 4 9).trans ((f49 4 9 rfl : w46 4 9 = w42 4 9).trans ((kup_ne u43 rfl : w42 4 9 = w25 4 9).trans ((f28 4 9 rfl : w25 4 9 = w19 4 9).trans ((kup_ne u20 rfl : w19 4 9 = w15 4 9).trans e81)))))
    rw [e79, e83] at p73
    refine kv_put C 80 rfl 2 5 rfl rfl inX6 (by decide) mfl_TaleMachine_Store_50 rfl tyX6 tyX6_ok nmX6 rfl rfl (kdec dk_cX6_take 41 rfl) rfl rfl (fun w84 u85 => ?_)
    have I86 : kI false w84 := kI_put u85 I69 (show (0 : Int) ≤ (x71 : Int32).toInt by omega) (show (x71 : Int32).toInt ≤ 65535 by omega)
    have F87 : kF [(2, some 2), (2, some 3), (2, some 4), (2, some 5), (2, some 6), (2, some 7), (2, some 8), (2, some 9), (4, none)] w w84 := kF_put u85 F74 rfl
    refine kv_aload_n C 81 rfl 0 (kdec dk_cX6_take 42 rfl) rfl rfl ?_
    refine kv_aload_n C 82 rfl 0 (kdec dk_cX6_take 43 rfl) rfl rfl ?_
    refine kv_bipush C 84 rfl 10 (kdec dk_cX6_take 44 rfl) rfl ?_
    refine kv_callVi (As := [.int 10]) (rest := [.ref (ρ 2)]) C 87 rfl 2 (k_loadedWord10 l D τ ρ σ w84  I86 ) rfl rfl mml_TaleMachine_Store_40 mim_yX6_loadedWord mse_yX6_loadedWord mcd_yX6_loadedWord min_yX6_loadedWord hd_yX6_loadedWord rfl rfl rfl (by decide) rfl (Nat.le_of_ble_eq_true rfl) (kdec dk_cX6_take 45 rfl) (fun x92 w88 h89 => ?_)
    obtain ⟨I90, f91, p93, p94⟩ := h89
    have F95 : kF [(2, some 2), (2, some 3), (2, some 4), (2, some 5), (2, some 6), (2, some 7), (2, some 8), (2, some 9), (4, none)] w w88 := kF_call F87 f91 (by decide)
    have g96 := kf_rng x92
    obtain ⟨x97, e98⟩ : ∃ z : Int32, w15 4 10 = z := ⟨_, rfl⟩
    have b99 : (0 : Int) ≤ x97.toInt ∧ x97.toInt ≤ 255 := by rw [← e98]; exact I17 4 10
    have e100 : w84 4 10 = x97 := ((kup_ne u85 rfl : w84 4 10 = w67 4 10).trans ((f70 4 10 rfl : w67 4 10 = w63 4 10).trans ((kup_ne u64 rfl : w63 4 10 = w46 4 10).trans ((f49 4 10 rfl : w46 4 10 = w42 4 10).trans ((kup_ne u43 rfl : w42 4 10 = w25 4 10).trans ((f28 4 10 rfl : w25 4 10 = w19 4 10).trans ((kup_ne u20 rfl : w19 4 10 = w15 4 10).trans e98)))))))
    obtain ⟨x101, e102⟩ : ∃ z : Int32, w15 4 11 = z := ⟨_, rfl⟩
    have b103 : (0 : Int) ≤ x101.toInt ∧ x101.toInt ≤ 255 := by rw [← e102]; exact I17 4 11
    have e104 : w84 4 11 = x101 := ((kup_ne u85 rfl : w84 4 11 = w67 4 11).trans ((f70 4 11 rfl : w67 4 11 = w63 4 11).trans ((kup_ne u64 rfl : w63 4 11 = w46 4 11).trans ((f49 4 11 rfl : w46 4 11 = w42 4 11).trans ((kup_ne u43 rfl : w42 4 11 = w25 4 11).trans ((f28 4 11 rfl : w25 4 11 = w19 4 11).trans ((kup_ne u20 rfl : w19 4 11 = w15 4 11).trans e102)))))))
    rw [e100, e104] at p94
    refine kv_put C 90 rfl 2 6 rfl rfl inX6 (by decide) mfl_TaleMachine_Store_53 rfl tyX6 tyX6_ok nmX6 rfl rfl (kdec dk_cX6_take 46 rfl) rfl rfl (fun w105 u106 => ?_)
    have I107 : kI false w105 := kI_put u106 I90 (show (0 : Int) ≤ (x92 : Int32).toInt by omega) (show (x92 : Int32).toInt ≤ 65535 by omega)
    have F108 : kF [(2, some 2), (2, some 3), (2, some 4), (2, some 5), (2, some 6), (2, some 7), (2, some 8), (2, some 9), (4, none)] w w105 := kF_put u106 F95 rfl
    refine kv_aload_n C 91 rfl 0 (kdec dk_cX6_take 47 rfl) rfl rfl ?_
    refine kv_aload_n C 92 rfl 0 (kdec dk_cX6_take 48 rfl) rfl rfl ?_
    refine kv_bipush C 94 rfl 12 (kdec dk_cX6_take 49 rfl) rfl ?_
    refine kv_callVi (As := [.int 12]) (rest := [.ref (ρ 2)]) C 97 rfl 2 (k_loadedWord12 l D τ ρ σ w105  I107 ) rfl rfl mml_TaleMachine_Store_40 mim_yX6_loadedWord mse_yX6_loadedWord mcd_yX6_loadedWord min_yX6_loadedWord hd_yX6_loadedWord rfl rfl rfl (by decide) rfl (Nat.le_of_ble_eq_true rfl) (kdec dk_cX6_take 50 rfl) (fun x113 w109 h110 => ?_)
    obtain ⟨I111, f112, p114, p115⟩ := h110
    have F116 : kF [(2, some 2), (2, some 3), (2, some 4), (2, some 5), (2, some 6), (2, some 7), (2, some 8), (2, some 9), (4, none)] w w109 := kF_call F108 f112 (by decide)
    have g117 := kf_rng x113
    obtain ⟨x118, e119⟩ : ∃ z : Int32, w15 4 12 = z := ⟨_, rfl⟩
    have b120 : (0 : Int) ≤ x118.toInt ∧ x118.toInt ≤ 255 := by rw [← e119]; exact I17 4 12
    have e121 : w105 4 12 = x118 := ((kup_ne u106 rfl : w105 4 12 = w88 4 12).trans ((f91 4 12 rfl : w88 4 12 = w84 4 12).trans ((kup_ne u85 rfl : w84 4 12 = w67 4 12).trans ((f70 4 12 rfl : w67 4 12 = w63 4 12).trans ((kup_ne u64 rfl : w63 4 12 = w46 4 12).trans ((f49 4 12 rfl : w46 4 12 = w42 4 12).trans ((kup_ne u43 rfl : w42 4 12 = w25 4 12).trans ((f28 4 12 rfl : w25 4 12 = w19 4 12).trans ((kup_ne u20 rfl : w19 4 12 = w15 4 12).trans e119)))))))))
    obtain ⟨x122, e123⟩ : ∃ z : Int32, w15 4 13 = z := ⟨_, rfl⟩
    have b124 : (0 : Int) ≤ x122.toInt ∧ x122.toInt ≤ 255 := by rw [← e123]; exact I17 4 13
    have e125 : w105 4 13 = x122 := ((kup_ne u106 rfl : w105 4 13 = w88 4 13).trans ((f91 4 13 rfl : w88 4 13 = w84 4 13).trans ((kup_ne u85 rfl : w84 4 13 = w67 4 13).trans ((f70 4 13 rfl : w67 4 13 = w63 4 13).trans ((kup_ne u64 rfl : w63 4 13 = w46 4 13).trans ((f49 4 13 rfl : w46 4 13 = w42 4 13).trans ((kup_ne u43 rfl : w42 4 13 = w25 4 13).trans ((f28 4 13 rfl : w25 4 13 = w19 4 13).trans ((kup_ne u20 rfl : w19 4 13 = w15 4 13).trans e123)))))))))
    rw [e121, e125] at p115
    refine kv_put C 100 rfl 2 7 rfl rfl inX6 (by decide) mfl_TaleMachine_Store_56 rfl tyX6 tyX6_ok nmX6 rfl rfl (kdec dk_cX6_take 51 rfl) rfl rfl (fun w126 u127 => ?_)
    have I128 : kI false w126 := kI_put u127 I111 (show (0 : Int) ≤ (x113 : Int32).toInt by omega) (show (x113 : Int32).toInt ≤ 65535 by omega)
    have F129 : kF [(2, some 2), (2, some 3), (2, some 4), (2, some 5), (2, some 6), (2, some 7), (2, some 8), (2, some 9), (4, none)] w w126 := kF_put u127 F116 rfl
    refine kv_aload_n C 101 rfl 0 (kdec dk_cX6_take 52 rfl) rfl rfl ?_
    refine kv_aload_n C 102 rfl 0 (kdec dk_cX6_take 53 rfl) rfl rfl ?_
    refine kv_bipush C 104 rfl 24 (kdec dk_cX6_take 54 rfl) rfl ?_
    refine kv_callVi (As := [.int 24]) (rest := [.ref (ρ 2)]) C 107 rfl 2 (k_loadedWord24 l D τ ρ σ w126  I128 ) rfl rfl mml_TaleMachine_Store_40 mim_yX6_loadedWord mse_yX6_loadedWord mcd_yX6_loadedWord min_yX6_loadedWord hd_yX6_loadedWord rfl rfl rfl (by decide) rfl (Nat.le_of_ble_eq_true rfl) (kdec dk_cX6_take 55 rfl) (fun x134 w130 h131 => ?_)
    obtain ⟨I132, f133, p135, p136⟩ := h131
    have F137 : kF [(2, some 2), (2, some 3), (2, some 4), (2, some 5), (2, some 6), (2, some 7), (2, some 8), (2, some 9), (4, none)] w w130 := kF_call F129 f133 (by decide)
    have g138 := kf_rng x134
    obtain ⟨x139, e140⟩ : ∃ z : Int32, w15 4 24 = z := ⟨_, rfl⟩
    have b141 : (0 : Int) ≤ x139.toInt ∧ x139.toInt ≤ 255 := by rw [← e140]; exact I17 4 24
    have e142 : w126 4 24 = x139 := ((kup_ne u127 rfl : w126 4 24 = w109 4 24).trans ((f112 4 24 rfl : w109 4 24 = w105 4 24).trans ((kup_ne u106 rfl : w105 4 24 = w88 4 24).trans ((f91 4 24 rfl : w88 4 24 = w84 4 24).trans ((kup_ne u85 rfl : w84 4 24 = w67 4 24).trans ((f70 4 24 rfl : w67 4 24 = w63 4 24).trans ((kup_ne u64 rfl : w63 4 24 = w46 4 24).trans ((f49 4 24 rfl : w46 4 24 = w42 4 24).trans ((kup_ne u43 rfl : w42 4 24 = w25 4 24).trans ((f28 4 24 rfl : w25 4 24 = w19 4 24).trans ((kup_ne u20 rfl : w19 4 24 = w15 4 24).trans e140)))))))))))
    obtain ⟨x143, e144⟩ : ∃ z : Int32, w15 4 25 = z := ⟨_, rfl⟩
    have b145 : (0 : Int) ≤ x143.toInt ∧ x143.toInt ≤ 255 := by rw [← e144]; exact I17 4 25
    have e146 : w126 4 25 = x143 := ((kup_ne u127 rfl : w126 4 25 = w109 4 25).trans ((f112 4 25 rfl : w109 4 25 = w105 4 25).trans ((kup_ne u106 rfl : w105 4 25 = w88 4 25).trans ((f91 4 25 rfl : w88 4 25 = w84 4 25).trans ((kup_ne u85 rfl : w84 4 25 = w67 4 25).trans ((f70 4 25 rfl : w67 4 25 = w63 4 25).trans ((kup_ne u64 rfl : w63 4 25 = w46 4 25).trans ((f49 4 25 rfl : w46 4 25 = w42 4 25).trans ((kup_ne u43 rfl : w42 4 25 = w25 4 25).trans ((f28 4 25 rfl : w25 4 25 = w19 4 25).trans ((kup_ne u20 rfl : w19 4 25 = w15 4 25).trans e144)))))))))))
    rw [e142, e146] at p136
    refine kv_put C 110 rfl 2 8 rfl rfl inX6 (by decide) mfl_TaleMachine_Store_59 rfl tyX6 tyX6_ok nmX6 rfl rfl (kdec dk_cX6_take 56 rfl) rfl rfl (fun w147 u148 => ?_)
    have I149 : kI false w147 := kI_put u148 I132 (show (0 : Int) ≤ (x134 : Int32).toInt by omega) (show (x134 : Int32).toInt ≤ 65535 by omega)
    have F150 : kF [(2, some 2), (2, some 3), (2, some 4), (2, some 5), (2, some 6), (2, some 7), (2, some 8), (2, some 9), (4, none)] w w147 := kF_put u148 F137 rfl
    refine kv_aload_n C 111 rfl 0 (kdec dk_cX6_take 57 rfl) rfl rfl ?_
    have e151 : w147 2 2 = x8 := ((kup_ne u148 rfl : w147 2 2 = w130 2 2).trans ((f133 2 2 rfl : w130 2 2 = w126 2 2).trans ((kup_ne u127 rfl : w126 2 2 = w109 2 2).trans ((f112 2 2 rfl : w109 2 2 = w105 2 2).trans ((kup_ne u106 rfl : w105 2 2 = w88 2 2).trans ((f91 2 2 rfl : w88 2 2 = w84 2 2).trans ((kup_ne u85 rfl : w84 2 2 = w67 2 2).trans ((f70 2 2 rfl : w67 2 2 = w63 2 2).trans ((kup_ne u64 rfl : w63 2 2 = w46 2 2).trans ((f49 2 2 rfl : w46 2 2 = w42 2 2).trans ((kup_ne u43 rfl : w42 2 2 = w25 2 2).trans ((f28 2 2 rfl : w25 2 2 = w19 2 2).trans e23))))))))))))
    have e152 : w147 2 3 = x29 := ((kup_ne u148 rfl : w147 2 3 = w130 2 3).trans ((f133 2 3 rfl : w130 2 3 = w126 2 3).trans ((kup_ne u127 rfl : w126 2 3 = w109 2 3).trans ((f112 2 3 rfl : w109 2 3 = w105 2 3).trans ((kup_ne u106 rfl : w105 2 3 = w88 2 3).trans ((f91 2 3 rfl : w88 2 3 = w84 2 3).trans ((kup_ne u85 rfl : w84 2 3 = w67 2 3).trans ((f70 2 3 rfl : w67 2 3 = w63 2 3).trans ((kup_ne u64 rfl : w63 2 3 = w46 2 3).trans ((f49 2 3 rfl : w46 2 3 = w42 2 3).trans (kup_eq u43)))))))))))
    have e153 : w147 4 14 = x34 := ((kup_ne u148 rfl : w147 4 14 = w130 4 14).trans ((f133 4 14 rfl : w130 4 14 = w126 4 14).trans ((kup_ne u127 rfl : w126 4 14 = w109 4 14).trans ((f112 4 14 rfl : w109 4 14 = w105 4 14).trans ((kup_ne u106 rfl : w105 4 14 = w88 4 14).trans ((f91 4 14 rfl : w88 4 14 = w84 4 14).trans ((kup_ne u85 rfl : w84 4 14 = w67 4 14).trans ((f70 4 14 rfl : w67 4 14 = w63 4 14).trans ((kup_ne u64 rfl : w63 4 14 = w46 4 14).trans ((f49 4 14 rfl : w46 4 14 = w42 4 14).trans ((kup_ne u43 rfl : w42 4 14 = w25 4 14).trans ((f28 4 14 rfl : w25 4 14 = w19 4 14).trans e37))))))))))))
    have e154 : w147 4 15 = x38 := ((kup_ne u148 rfl : w147 4 15 = w130 4 15).trans ((f133 4 15 rfl : w130 4 15 = w126 4 15).trans ((kup_ne u127 rfl : w126 4 15 = w109 4 15).trans ((f112 4 15 rfl : w109 4 15 = w105 4 15).trans ((kup_ne u106 rfl : w105 4 15 = w88 4 15).trans ((f91 4 15 rfl : w88 4 15 = w84 4 15).trans ((kup_ne u85 rfl : w84 4 15 = w67 4 15).trans ((f70 4 15 rfl : w67 4 15 = w63 4 15).trans ((kup_ne u64 rfl : w63 4 15 = w46 4 15).trans ((f49 4 15 rfl : w46 4 15 = w42 4 15).trans ((kup_ne u43 rfl : w42 4 15 = w25 4 15).trans ((f28 4 15 rfl : w25 4 15 = w19 4 15).trans e41))))))))))))
    have e155 : w147 2 4 = x50 := ((kup_ne u148 rfl : w147 2 4 = w130 2 4).trans ((f133 2 4 rfl : w130 2 4 = w126 2 4).trans ((kup_ne u127 rfl : w126 2 4 = w109 2 4).trans ((f112 2 4 rfl : w109 2 4 = w105 2 4).trans ((kup_ne u106 rfl : w105 2 4 = w88 2 4).trans ((f91 2 4 rfl : w88 2 4 = w84 2 4).trans ((kup_ne u85 rfl : w84 2 4 = w67 2 4).trans ((f70 2 4 rfl : w67 2 4 = w63 2 4).trans (kup_eq u64)))))))))
    have e156 : w147 4 6 = x55 := ((kup_ne u148 rfl : w147 4 6 = w130 4 6).trans ((f133 4 6 rfl : w130 4 6 = w126 4 6).trans ((kup_ne u127 rfl : w126 4 6 = w109 4 6).trans ((f112 4 6 rfl : w109 4 6 = w105 4 6).trans ((kup_ne u106 rfl : w105 4 6 = w88 4 6).trans ((f91 4 6 rfl : w88 4 6 = w84 4 6).trans ((kup_ne u85 rfl : w84 4 6 = w67 4 6).trans ((f70 4 6 rfl : w67 4 6 = w63 4 6).trans ((kup_ne u64 rfl : w63 4 6 = w46 4 6).trans ((f49 4 6 rfl : w46 4 6 = w42 4 6).trans e58))))))))))
    have e157 : w147 4 7 = x59 := ((kup_ne u148 rfl : w147 4 7 = w130 4 7).trans ((f133 4 7 rfl : w130 4 7 = w126 4 7).trans ((kup_ne u127 rfl : w126 4 7 = w109 4 7).trans ((f112 4 7 rfl : w109 4 7 = w105 4 7).trans ((kup_ne u106 rfl : w105 4 7 = w88 4 7).trans ((f91 4 7 rfl : w88 4 7 = w84 4 7).trans ((kup_ne u85 rfl : w84 4 7 = w67 4 7).trans ((f70 4 7 rfl : w67 4 7 = w63 4 7).trans ((kup_ne u64 rfl : w63 4 7 = w46 4 7).trans ((f49 4 7 rfl : w46 4 7 = w42 4 7).trans e62))))))))))
    refine kv_callVi (As := []) (rest := []) C 114 rfl 2 (k_headerFault l D τ ρ σ w147  I149 (by rw [e151]; try omega) (by rw [e152, e153, e154]; try omega) (by rw [e155, e156, e157]; try omega)) rfl rfl mml_TaleMachine_Store_62 mim_yX6_headerFault mse_yX6_headerFault mcd_yX6_headerFault min_yX6_headerFault hd_yX6_headerFault rfl rfl rfl (by decide) rfl (Nat.le_of_ble_eq_true rfl) (kdec dk_cX6_take 58 rfl) (fun x162 w158 h159 => ?_)
    obtain ⟨I160, f161, p163, p164, R165⟩ := h159
    have F166 : kF [(2, some 2), (2, some 3), (2, some 4), (2, some 5), (2, some 6), (2, some 7), (2, some 8), (2, some 9), (4, none)] w w158 := kF_call F150 f161 (by decide)
    have g167 := kf_rng x162
    rw [e152] at p164
    have e168 : w158 2 3 = x29 := ((f161 2 3 rfl : w158 2 3 = w147 2 3).trans e152)
    exact kv_iret C hr hlk (kdec dk_cX6_take 59 rfl) ⟨_, rfl, I160, F166, (by omega), (by rw [e168]; try omega), (by omega), (R165.trans (by rw [show (w147 2 2).toInt = a2.toInt by rw [e151]; omega]; exact kFn_congr (fun k9 hk9 => (((kup_ne u148 rfl : w147 4 k9 = w130 4 k9).trans ((f133 4 k9 rfl : w130 4 k9 = w126 4 k9).trans ((kup_ne u127 rfl : w126 4 k9 = w109 4 k9).trans ((f112 4 k9 rfl : w109 4 k9 = w105 4 k9).trans ((kup_ne u106 rfl : w105 4 k9 = w88 4 k9).trans ((f91 4 k9 rfl : w88 4 k9 = w84 4 k9).trans ((kup_ne u85 rfl : w84 4 k9 = w67 4 k9).trans ((f70 4 k9 rfl : w67 4 k9 = w63 4 k9).trans ((kup_ne u64 rfl : w63 4 k9 = w46 4 k9).trans ((f49 4 k9 rfl : w46 4 k9 = w42 4 k9).trans ((kup_ne u43 rfl : w42 4 k9 = w25 4 k9).trans ((f28 4 k9 rfl : w25 4 k9 = w19 4 k9).trans (kup_ne u20 rfl : w19 4 k9 = w15 4 k9)))))))))))))).trans ((kRow_cpy u16 (by omega)).trans ((kup_ne u12 rfl : w11 1 k9 = w 1 k9))))))⟩
  · skip
    refine kv_iconst C 49 rfl 1 (kdec dk_cX6_take 25 rfl) rfl ?_
    obtain ⟨x169, e170⟩ : ∃ z : Int32, w 2 3 = z := ⟨_, rfl⟩
    have b171 : (0 : Int) ≤ x169.toInt ∧ x169.toInt ≤ 65535 := by rw [← e170]; exact hI 2 3
    have e172 : w19 2 3 = x169 := ((kup_ne u20 rfl : w19 2 3 = w15 2 3).trans ((kur_ne u16 rfl : w15 2 3 = w11 2 3).trans ((kup_ne u12 rfl : w11 2 3 = w 2 3).trans e170)))
    exact kv_iret C hr hlk (kdec dk_cX6_take 26 rfl) ⟨_, rfl, I21, F22, (by omega), (by rw [e172]; try omega), (by omega), (by unfold kFn; rw [if_pos (by omega)]; omega)⟩

set_option maxHeartbeats 4000000 in
set_option maxRecDepth 100000 in
theorem k_m_layOnTape (l : Launch) (D : va_G) (τ : Nat → ClassId) (ρ σ : Nat → Nat) (w : kw) (a1 : Int32) (hI : kI false w) (hp0 : (w 0 9).toInt ≤ 1020) :
    kM l D τ ρ σ yX9_layOnTape cX9_layOnTape 3 none { frames := 0, cells := 0, slots := 0, locals := 0 } [.ref (ρ 0), .int a1] w
      (fun o w' => o = none ∧ kI false w' ∧ kF [(0, some 9), (1, none)] w w' ∧ ((w' 0 9).toInt = (w 0 9).toInt + 4) ∧ (∀ k9 : Nat, w' 1 k9 = kLay (w 1) (w 0 9).toInt.toNat a1 k9)) := by
  refine kM_of (own := "TaleMachine") rfl (by decide) (Nat.le_of_ble_eq_true rfl) ?_
  intro p e s m args below meth c C hr hlk
  have hF0 : kF [(0, some 9), (1, none)] w w := kF.rf
  have c_m8 : (-8 : Int32).toInt = -8 := by decide
  have c_0 : (0 : Int32).toInt = 0 := by decide
  have c_1 : (1 : Int32).toInt = 1 := by decide
  have c_8 : (8 : Int32).toInt = 8 := by decide
  have c_16 : (16 : Int32).toInt = 16 := by decide
  have c_24 : (24 : Int32).toInt = 24 := by decide
  have c_255 : (255 : Int32).toInt = 255 := by decide
  have c_1024 : (1024 : Int32).toInt = 1024 := by decide
  refine kV.L (L' := [(0, .ref (ρ 0)), (1, .int a1)]) rfl ?_
  obtain ⟨x1, e2⟩ : ∃ z : Int32, w 0 9 = z := ⟨_, rfl⟩
  have b3 : (0 : Int) ≤ x1.toInt ∧ x1.toInt ≤ 1024 := by rw [← e2]; exact hI 0 9
  rw [e2] at hp0
  have g4 := kf_rng a1
  refine kv_bipush C 2 rfl 24 (kdec dk_cX9_layOnTape 0 rfl) rfl ?_
  refine kv_istore_n C 3 rfl 2 [1, 2, 0] [(0, .ref (ρ 0)), (1, .int a1), (2, .int 24)] (kdec dk_cX9_layOnTape 1 rfl) rfl (by decide) rfl ?_
  refine kv_iload_n C 4 rfl 2 (kdec dk_cX9_layOnTape 2 rfl) rfl rfl ?_
  refine kv_if_lt C 7 rfl 51 (kdec dk_cX9_layOnTape 3 rfl) (by decide) (fun d5 => ?_) (fun d5 => ?_)
  · exfalso; omega
  · skip
    refine kv_aload_n C 8 rfl 0 (kdec dk_cX9_layOnTape 4 rfl) rfl rfl ?_
    refine kv_get C 11 rfl 0 9 rfl rfl inX9 (by decide) mfl_TaleMachine_71 rfl rfl (kdec dk_cX9_layOnTape 5 rfl) e2 ?_
    refine kv_aload_n C 12 rfl 0 (kdec dk_cX9_layOnTape 6 rfl) rfl rfl ?_
    refine kv_getr C 15 rfl 0 0 rfl rfl inX9 (by decide) mfl_TaleMachine_9 rfl rfl (kdec dk_cX9_layOnTape 7 rfl) ?_
    refine kv_alen C 16 rfl 1 1024 rfl (by decide) rfl (kdec dk_cX9_layOnTape 8 rfl) ?_
    refine kv_icmp_ge C 19 rfl 45 (kdec dk_cX9_layOnTape 9 rfl) (by decide) (fun d6 => ?_) (fun d6 => ?_)
    · exfalso; omega
    · skip
      refine kv_aload_n C 20 rfl 0 (kdec dk_cX9_layOnTape 10 rfl) rfl rfl ?_
      refine kv_getr C 23 rfl 0 0 rfl rfl inX9 (by decide) mfl_TaleMachine_9 rfl rfl (kdec dk_cX9_layOnTape 11 rfl) ?_
      refine kv_aload_n C 24 rfl 0 (kdec dk_cX9_layOnTape 12 rfl) rfl rfl ?_
      refine kv_get C 27 rfl 0 9 rfl rfl inX9 (by decide) mfl_TaleMachine_71 rfl rfl (kdec dk_cX9_layOnTape 13 rfl) e2 ?_
      refine kv_iload_n C 28 rfl 1 (kdec dk_cX9_layOnTape 14 rfl) rfl rfl ?_
      refine kv_iload_n C 29 rfl 2 (kdec dk_cX9_layOnTape 15 rfl) rfl rfl ?_
      refine kv_iushr C 30 rfl (kdec dk_cX9_layOnTape 16 rfl) (fun x7 h8e h8l h8u => ?_)
      refine kv_sipush C 33 rfl 255 (kdec dk_cX9_layOnTape 17 rfl) rfl ?_
      refine kv_iand C 34 rfl (kdec dk_cX9_layOnTape 18 rfl) (fun x9 h10e h10l h10u => ?_)
      have g11 := kf_and255 h10e
      refine kv_iast C 35 rfl 1 rfl (by omega) (by omega) (kdec dk_cX9_layOnTape 19 rfl) (fun w12 u13 => ?_)
      have I14 : kI false w12 := kI_put u13 hI (show (0 : Int) ≤ (x9 : Int32).toInt by omega) (show (x9 : Int32).toInt ≤ 255 by omega)
      have F15 : kF [(0, some 9), (1, none)] w w12 := kF_put u13 hF0 rfl
      refine kv_aload_n C 36 rfl 0 (kdec dk_cX9_layOnTape 20 rfl) rfl rfl ?_
      refine kv_dup C 37 rfl (kdec dk_cX9_layOnTape 21 rfl) rfl ?_
      have e16 : w12 0 9 = x1 := ((kup_ne u13 rfl : w12 0 9 = w 0 9).trans e2)
      refine kv_get C 40 rfl 0 9 rfl rfl inX9 (by decide) mfl_TaleMachine_71 rfl rfl (kdec dk_cX9_layOnTape 22 rfl) e16 ?_
      refine kv_iconst C 41 rfl 1 (kdec dk_cX9_layOnTape 23 rfl) rfl ?_
      refine kv_iadd C 42 rfl (kdec dk_cX9_layOnTape 24 rfl) (fun x17 q19 h18e h18 h18l h18u => ?_)
      try have h18n : x17.toInt = x1.toInt + (1 : Int32).toInt := by omega
      clear h18 q19
      refine kv_put C 45 rfl 0 9 rfl rfl inX9 (by decide) mfl_TaleMachine_71 rfl tyX9 tyX9_ok nmX9 rfl rfl (kdec dk_cX9_layOnTape 25 rfl) rfl rfl (fun w20 u21 => ?_)
      have I22 : kI false w20 := kI_put u21 I14 (show (0 : Int) ≤ (x17 : Int32).toInt by omega) (show (x17 : Int32).toInt ≤ 1024 by omega)
      have F23 : kF [(0, some 9), (1, none)] w w20 := kF_put u21 F15 rfl
      refine kv_iinc C 48 rfl 2 2 [1, 2, 0] (fun v9 => [(0, .ref (ρ 0)), (1, .int a1), (2, .int v9)]) (kdec dk_cX9_layOnTape 26 rfl) rfl (by decide) (fun _ => rfl) (-8) rfl (fun x24 q25 h26e h26 h26l h26u => ?_)
      try have h26n : x24.toInt = (24 : Int32).toInt + (-8) := by omega
      clear h26 q25
      obtain rfl : x24 = 16 := by rw [h26e]; decide
      refine kv_goto C 3 (kdec dk_cX9_layOnTape 27 rfl) (by decide) ?_
      refine kv_iload_n C 4 rfl 2 (kdec dk_cX9_layOnTape 2 rfl) rfl rfl ?_
      refine kv_if_lt C 7 rfl 51 (kdec dk_cX9_layOnTape 3 rfl) (by decide) (fun d27 => ?_) (fun d27 => ?_)
      · exfalso; omega
      · skip
        refine kv_aload_n C 8 rfl 0 (kdec dk_cX9_layOnTape 4 rfl) rfl rfl ?_
        refine kv_get C 11 rfl 0 9 rfl rfl inX9 (by decide) mfl_TaleMachine_71 rfl rfl (kdec dk_cX9_layOnTape 5 rfl) (kup_eq u21) ?_
        refine kv_aload_n C 12 rfl 0 (kdec dk_cX9_layOnTape 6 rfl) rfl rfl ?_
        refine kv_getr C 15 rfl 0 0 rfl rfl inX9 (by decide) mfl_TaleMachine_9 rfl rfl (kdec dk_cX9_layOnTape 7 rfl) ?_
        refine kv_alen C 16 rfl 1 1024 rfl (by decide) rfl (kdec dk_cX9_layOnTape 8 rfl) ?_
        refine kv_icmp_ge C 19 rfl 45 (kdec dk_cX9_layOnTape 9 rfl) (by decide) (fun d28 => ?_) (fun d28 => ?_)
        · exfalso; omega
        · skip
          refine kv_aload_n C 20 rfl 0 (kdec dk_cX9_layOnTape 10 rfl) rfl rfl ?_
          refine kv_getr C 23 rfl 0 0 rfl rfl inX9 (by decide) mfl_TaleMachine_9 rfl rfl (kdec dk_cX9_layOnTape 11 rfl) ?_
          refine kv_aload_n C 24 rfl 0 (kdec dk_cX9_layOnTape 12 rfl) rfl rfl ?_
          refine kv_get C 27 rfl 0 9 rfl rfl inX9 (by decide) mfl_TaleMachine_71 rfl rfl (kdec dk_cX9_layOnTape 13 rfl) (kup_eq u21) ?_
          refine kv_iload_n C 28 rfl 1 (kdec dk_cX9_layOnTape 14 rfl) rfl rfl ?_
          refine kv_iload_n C 29 rfl 2 (kdec dk_cX9_layOnTape 15 rfl) rfl rfl ?_
          refine kv_iushr C 30 rfl (kdec dk_cX9_layOnTape 16 rfl) (fun x29 h30e h30l h30u => ?_)
          refine kv_sipush C 33 rfl 255 (kdec dk_cX9_layOnTape 17 rfl) rfl ?_
          refine kv_iand C 34 rfl (kdec dk_cX9_layOnTape 18 rfl) (fun x31 h32e h32l h32u => ?_)
          have g33 := kf_and255 h32e
          refine kv_iast C 35 rfl 1 rfl (by omega) (by omega) (kdec dk_cX9_layOnTape 19 rfl) (fun w34 u35 => ?_)
          have I36 : kI false w34 := kI_put u35 I22 (show (0 : Int) ≤ (x31 : Int32).toInt by omega) (show (x31 : Int32).toInt ≤ 255 by omega)
          have F37 : kF [(0, some 9), (1, none)] w w34 := kF_put u35 F23 rfl
          refine kv_aload_n C 36 rfl 0 (kdec dk_cX9_layOnTape 20 rfl) rfl rfl ?_
          refine kv_dup C 37 rfl (kdec dk_cX9_layOnTape 21 rfl) rfl ?_
          have e38 : w34 0 9 = x17 := ((kup_ne u35 rfl : w34 0 9 = w20 0 9).trans (kup_eq u21))
          refine kv_get C 40 rfl 0 9 rfl rfl inX9 (by decide) mfl_TaleMachine_71 rfl rfl (kdec dk_cX9_layOnTape 22 rfl) e38 ?_
          refine kv_iconst C 41 rfl 1 (kdec dk_cX9_layOnTape 23 rfl) rfl ?_
          refine kv_iadd C 42 rfl (kdec dk_cX9_layOnTape 24 rfl) (fun x39 q41 h40e h40 h40l h40u => ?_)
          try have h40n : x39.toInt = x17.toInt + (1 : Int32).toInt := by omega
          clear h40 q41
          refine kv_put C 45 rfl 0 9 rfl rfl inX9 (by decide) mfl_TaleMachine_71 rfl tyX9 tyX9_ok nmX9 rfl rfl (kdec dk_cX9_layOnTape 25 rfl) rfl rfl (fun w42 u43 => ?_)
          have I44 : kI false w42 := kI_put u43 I36 (show (0 : Int) ≤ (x39 : Int32).toInt by omega) (show (x39 : Int32).toInt ≤ 1024 by omega)
          have F45 : kF [(0, some 9), (1, none)] w w42 := kF_put u43 F37 rfl
          refine kv_iinc C 48 rfl 2 2 [1, 2, 0] (fun v9 => [(0, .ref (ρ 0)), (1, .int a1), (2, .int v9)]) (kdec dk_cX9_layOnTape 26 rfl) rfl (by decide) (fun _ => rfl) (-8) rfl (fun x46 q47 h48e h48 h48l h48u => ?_)
          try have h48n : x46.toInt = (16 : Int32).toInt + (-8) := by omega
          clear h48 q47
          obtain rfl : x46 = 8 := by rw [h48e]; decide
          refine kv_goto C 3 (kdec dk_cX9_layOnTape 27 rfl) (by decide) ?_
          refine kv_iload_n C 4 rfl 2 (kdec dk_cX9_layOnTape 2 rfl) rfl rfl ?_
          refine kv_if_lt C 7 rfl 51 (kdec dk_cX9_layOnTape 3 rfl) (by decide) (fun d49 => ?_) (fun d49 => ?_)
          · exfalso; omega
          · skip
            refine kv_aload_n C 8 rfl 0 (kdec dk_cX9_layOnTape 4 rfl) rfl rfl ?_
            refine kv_get C 11 rfl 0 9 rfl rfl inX9 (by decide) mfl_TaleMachine_71 rfl rfl (kdec dk_cX9_layOnTape 5 rfl) (kup_eq u43) ?_
            refine kv_aload_n C 12 rfl 0 (kdec dk_cX9_layOnTape 6 rfl) rfl rfl ?_
            refine kv_getr C 15 rfl 0 0 rfl rfl inX9 (by decide) mfl_TaleMachine_9 rfl rfl (kdec dk_cX9_layOnTape 7 rfl) ?_
            refine kv_alen C 16 rfl 1 1024 rfl (by decide) rfl (kdec dk_cX9_layOnTape 8 rfl) ?_
            refine kv_icmp_ge C 19 rfl 45 (kdec dk_cX9_layOnTape 9 rfl) (by decide) (fun d50 => ?_) (fun d50 => ?_)
            · exfalso; omega
            · skip
              refine kv_aload_n C 20 rfl 0 (kdec dk_cX9_layOnTape 10 rfl) rfl rfl ?_
              refine kv_getr C 23 rfl 0 0 rfl rfl inX9 (by decide) mfl_TaleMachine_9 rfl rfl (kdec dk_cX9_layOnTape 11 rfl) ?_
              refine kv_aload_n C 24 rfl 0 (kdec dk_cX9_layOnTape 12 rfl) rfl rfl ?_
              refine kv_get C 27 rfl 0 9 rfl rfl inX9 (by decide) mfl_TaleMachine_71 rfl rfl (kdec dk_cX9_layOnTape 13 rfl) (kup_eq u43) ?_
              refine kv_iload_n C 28 rfl 1 (kdec dk_cX9_layOnTape 14 rfl) rfl rfl ?_
              refine kv_iload_n C 29 rfl 2 (kdec dk_cX9_layOnTape 15 rfl) rfl rfl ?_
              refine kv_iushr C 30 rfl (kdec dk_cX9_layOnTape 16 rfl) (fun x51 h52e h52l h52u => ?_)
              refine kv_sipush C 33 rfl 255 (kdec dk_cX9_layOnTape 17 rfl) rfl ?_
              refine kv_iand C 34 rfl (kdec dk_cX9_layOnTape 18 rfl) (fun x53 h54e h54l h54u => ?_)
              have g55 := kf_and255 h54e
              refine kv_iast C 35 rfl 1 rfl (by omega) (by omega) (kdec dk_cX9_layOnTape 19 rfl) (fun w56 u57 => ?_)
              have I58 : kI false w56 := kI_put u57 I44 (show (0 : Int) ≤ (x53 : Int32).toInt by omega) (show (x53 : Int32).toInt ≤ 255 by omega)
              have F59 : kF [(0, some 9), (1, none)] w w56 := kF_put u57 F45 rfl
              refine kv_aload_n C 36 rfl 0 (kdec dk_cX9_layOnTape 20 rfl) rfl rfl ?_
              refine kv_dup C 37 rfl (kdec dk_cX9_layOnTape 21 rfl) rfl ?_
              have e60 : w56 0 9 = x39 := ((kup_ne u57 rfl : w56 0 9 = w42 0 9).trans (kup_eq u43))
              refine kv_get C 40 rfl 0 9 rfl rfl inX9 (by decide) mfl_TaleMachine_71 rfl rfl (kdec dk_cX9_layOnTape 22 rfl) e60 ?_
              refine kv_iconst C 41 rfl 1 (kdec dk_cX9_layOnTape 23 rfl) rfl ?_
              refine kv_iadd C 42 rfl (kdec dk_cX9_layOnTape 24 rfl) (fun x61 q63 h62e h62 h62l h62u => ?_)
              try have h62n : x61.toInt = x39.toInt + (1 : Int32).toInt := by omega
              clear h62 q63
              refine kv_put C 45 rfl 0 9 rfl rfl inX9 (by decide) mfl_TaleMachine_71 rfl tyX9 tyX9_ok nmX9 rfl rfl (kdec dk_cX9_layOnTape 25 rfl) rfl rfl (fun w64 u65 => ?_)
              have I66 : kI false w64 := kI_put u65 I58 (show (0 : Int) ≤ (x61 : Int32).toInt by omega) (show (x61 : Int32).toInt ≤ 1024 by omega)
              have F67 : kF [(0, some 9), (1, none)] w w64 := kF_put u65 F59 rfl
              refine kv_iinc C 48 rfl 2 2 [1, 2, 0] (fun v9 => [(0, .ref (ρ 0)), (1, .int a1), (2, .int v9)]) (kdec dk_cX9_layOnTape 26 rfl) rfl (by decide) (fun _ => rfl) (-8) rfl (fun x68 q69 h70e h70 h70l h70u => ?_)
              try have h70n : x68.toInt = (8 : Int32).toInt + (-8) := by omega
              clear h70 q69
              obtain rfl : x68 = 0 := by rw [h70e]; decide
              refine kv_goto C 3 (kdec dk_cX9_layOnTape 27 rfl) (by decide) ?_
              refine kv_iload_n C 4 rfl 2 (kdec dk_cX9_layOnTape 2 rfl) rfl rfl ?_
              refine kv_if_lt C 7 rfl 51 (kdec dk_cX9_layOnTape 3 rfl) (by decide) (fun d71 => ?_) (fun d71 => ?_)
              · exfalso; omega
              · skip
                refine kv_aload_n C 8 rfl 0 (kdec dk_cX9_layOnTape 4 rfl) rfl rfl ?_
                refine kv_get C 11 rfl 0 9 rfl rfl inX9 (by decide) mfl_TaleMachine_71 rfl rfl (kdec dk_cX9_layOnTape 5 rfl) (kup_eq u65) ?_
                refine kv_aload_n C 12 rfl 0 (kdec dk_cX9_layOnTape 6 rfl) rfl rfl ?_
                refine kv_getr C 15 rfl 0 0 rfl rfl inX9 (by decide) mfl_TaleMachine_9 rfl rfl (kdec dk_cX9_layOnTape 7 rfl) ?_
                refine kv_alen C 16 rfl 1 1024 rfl (by decide) rfl (kdec dk_cX9_layOnTape 8 rfl) ?_
                refine kv_icmp_ge C 19 rfl 45 (kdec dk_cX9_layOnTape 9 rfl) (by decide) (fun d72 => ?_) (fun d72 => ?_)
                · exfalso; omega
                · skip
                  refine kv_aload_n C 20 rfl 0 (kdec dk_cX9_layOnTape 10 rfl) rfl rfl ?_
                  refine kv_getr C 23 rfl 0 0 rfl rfl inX9 (by decide) mfl_TaleMachine_9 rfl rfl (kdec dk_cX9_layOnTape 11 rfl) ?_
                  refine kv_aload_n C 24 rfl 0 (kdec dk_cX9_layOnTape 12 rfl) rfl rfl ?_
                  refine kv_get C 27 rfl 0 9 rfl rfl inX9 (by decide) mfl_TaleMachine_71 rfl rfl (kdec dk_cX9_layOnTape 13 rfl) (kup_eq u65) ?_
                  refine kv_iload_n C 28 rfl 1 (kdec dk_cX9_layOnTape 14 rfl) rfl rfl ?_
                  refine kv_iload_n C 29 rfl 2 (kdec dk_cX9_layOnTape 15 rfl) rfl rfl ?_
                  refine kv_iushr C 30 rfl (kdec dk_cX9_layOnTape 16 rfl) (fun x73 h74e h74l h74u => ?_)
                  refine kv_sipush C 33 rfl 255 (kdec dk_cX9_layOnTape 17 rfl) rfl ?_
                  refine kv_iand C 34 rfl (kdec dk_cX9_layOnTape 18 rfl) (fun x75 h76e h76l h76u => ?_)
                  have g77 := kf_and255 h76e
                  refine kv_iast C 35 rfl 1 rfl (by omega) (by omega) (kdec dk_cX9_layOnTape 19 rfl) (fun w78 u79 => ?_)
                  have I80 : kI false w78 := kI_put u79 I66 (show (0 : Int) ≤ (x75 : Int32).toInt by omega) (show (x75 : Int32).toInt ≤ 255 by omega)
                  have F81 : kF [(0, some 9), (1, none)] w w78 := kF_put u79 F67 rfl
                  refine kv_aload_n C 36 rfl 0 (kdec dk_cX9_layOnTape 20 rfl) rfl rfl ?_
                  refine kv_dup C 37 rfl (kdec dk_cX9_layOnTape 21 rfl) rfl ?_
                  have e82 : w78 0 9 = x61 := ((kup_ne u79 rfl : w78 0 9 = w64 0 9).trans (kup_eq u65))
                  refine kv_get C 40 rfl 0 9 rfl rfl inX9 (by decide) mfl_TaleMachine_71 rfl rfl (kdec dk_cX9_layOnTape 22 rfl) e82 ?_
                  refine kv_iconst C 41 rfl 1 (kdec dk_cX9_layOnTape 23 rfl) rfl ?_
                  refine kv_iadd C 42 rfl (kdec dk_cX9_layOnTape 24 rfl) (fun x83 q85 h84e h84 h84l h84u => ?_)
                  try have h84n : x83.toInt = x61.toInt + (1 : Int32).toInt := by omega
                  clear h84 q85
                  refine kv_put C 45 rfl 0 9 rfl rfl inX9 (by decide) mfl_TaleMachine_71 rfl tyX9 tyX9_ok nmX9 rfl rfl (kdec dk_cX9_layOnTape 25 rfl) rfl rfl (fun w86 u87 => ?_)
                  have I88 : kI false w86 := kI_put u87 I80 (show (0 : Int) ≤ (x83 : Int32).toInt by omega) (show (x83 : Int32).toInt ≤ 1024 by omega)
                  have F89 : kF [(0, some 9), (1, none)] w w86 := kF_put u87 F81 rfl
                  refine kv_iinc C 48 rfl 2 2 [1, 2, 0] (fun v9 => [(0, .ref (ρ 0)), (1, .int a1), (2, .int v9)]) (kdec dk_cX9_layOnTape 26 rfl) rfl (by decide) (fun _ => rfl) (-8) rfl (fun x90 q91 h92e h92 h92l h92u => ?_)
                  try have h92n : x90.toInt = (0 : Int32).toInt + (-8) := by omega
                  clear h92 q91
                  obtain rfl : x90 = (-8) := by rw [h92e]; decide
                  refine kv_goto C 3 (kdec dk_cX9_layOnTape 27 rfl) (by decide) ?_
                  refine kv_iload_n C 4 rfl 2 (kdec dk_cX9_layOnTape 2 rfl) rfl rfl ?_
                  refine kv_if_lt C 7 rfl 51 (kdec dk_cX9_layOnTape 3 rfl) (by decide) (fun d93 => ?_) (fun d93 => ?_)
                  · skip
                    exact kv_vret C hr hlk (kdec dk_cX9_layOnTape 28 rfl) ⟨rfl, I88, F89, (by rw [e2, (kup_eq u87)]; try omega), (by rw [e2]; exact kLay_of (f := w 1) (kRow_ne u87 rfl (kRow_put u79 (kRow_ne u65 rfl (kRow_put u57 (kRow_ne u43 rfl (kRow_put u35 (kRow_ne u21 rfl (kRow_put u13 (fun _ => rfl))))))))) (by omega) (by omega) (by omega) (by omega) (kByte_u 24 (by decide) (by decide) h8e h10e) (kByte_u 16 (by decide) (by decide) h30e h32e) (kByte_u 8 (by decide) (by decide) h52e h54e) (kByte_u 0 (by decide) (by decide) h74e h76e))⟩
                  · exfalso; omega

set_option maxHeartbeats 4000000 in
set_option maxRecDepth 100000 in
theorem k_m_feed (l : Launch) (D : va_G) (τ : Nat → ClassId) (ρ σ : Nat → Nat) (w : kw) (a1 : Int32) (a2 : Int32) (a3 : Int32) (a4 : Int32) (a5 : Int32) (a6 : Int32) (a7 : Int32) (a8 : Int32) (hI : kI false w)  :
    kM l D τ ρ σ yX9_feed cX9_feed 9 (some .int) { frames := 1, cells := 0, slots := 0, locals := 36 } [.ref (ρ 0), .int a1, .int a2, .int a3, .int a4, .int a5, .int a6, .int a7, .int a8] w
      (fun o w' => ∃ r : Int32, o = some (.int r) ∧ kI false w' ∧ kF [(0, some 9), (1, none)] w w' ∧ ((w 0 9).toInt ≤ 992 ∧ (w' 0 9).toInt = (w 0 9).toInt + 32 ∧ r.toInt = (w 0 9).toInt + 32 ∨ 992 < (w 0 9).toInt ∧ (w' 0 9).toInt = (w 0 9).toInt ∧ r.toInt = -3) ∧ ((w 0 9).toInt ≤ 992 ∧ (∀ k9 : Nat, w' 1 k9 = kFeed (w 1) (w 0 9).toInt.toNat a1 a2 a3 a4 a5 a6 a7 a8 k9) ∨ 992 < (w 0 9).toInt ∧ ∀ k9 : Nat, w' 1 k9 = w 1 k9)) := by
  refine kM_of (own := "TaleMachine") rfl (by decide) (Nat.le_of_ble_eq_true rfl) ?_
  intro p e s m args below meth c C hr hlk
  have hF0 : kF [(0, some 9), (1, none)] w w := kF.rf
  have c_m3 : (-3 : Int32).toInt = -3 := by decide
  have c_32 : (32 : Int32).toInt = 32 := by decide
  have c_1024 : (1024 : Int32).toInt = 1024 := by decide
  refine kV.L (L' := [(0, .ref (ρ 0)), (1, .int a1), (2, .int a2), (3, .int a3), (4, .int a4), (5, .int a5), (6, .int a6), (7, .int a7), (8, .int a8)]) rfl ?_
  have g1 := kf_rng a1
  have g2 := kf_rng a2
  have g3 := kf_rng a3
  have g4 := kf_rng a4
  have g5 := kf_rng a5
  have g6 := kf_rng a6
  have g7 := kf_rng a7
  have g8 := kf_rng a8
  refine kv_aload_n C 1 rfl 0 (kdec dk_cX9_feed 0 rfl) rfl rfl ?_
  obtain ⟨x9, e10⟩ : ∃ z : Int32, w 0 9 = z := ⟨_, rfl⟩
  have b11 : (0 : Int) ≤ x9.toInt ∧ x9.toInt ≤ 1024 := by rw [← e10]; exact hI 0 9
  refine kv_get C 4 rfl 0 9 rfl rfl inX9 (by decide) mfl_TaleMachine_71 rfl rfl (kdec dk_cX9_feed 1 rfl) e10 ?_
  refine kv_bipush C 6 rfl 32 (kdec dk_cX9_feed 2 rfl) rfl ?_
  refine kv_iadd C 7 rfl (kdec dk_cX9_feed 3 rfl) (fun x12 q14 h13e h13 h13l h13u => ?_)
  try have h13n : x12.toInt = x9.toInt + (32 : Int32).toInt := by omega
  clear h13 q14
  refine kv_sipush C 10 rfl 1024 (kdec dk_cX9_feed 4 rfl) rfl ?_
  refine kv_icmp_le C 13 rfl 16 (kdec dk_cX9_feed 5 rfl) (by decide) (fun d15 => ?_) (fun d15 => ?_)
  · skip
    refine kv_aload_n C 17 rfl 0 (kdec dk_cX9_feed 8 rfl) rfl rfl ?_
    refine kv_iload_n C 18 rfl 1 (kdec dk_cX9_feed 9 rfl) rfl rfl ?_
    refine kv_callVv (As := [.int a1]) (rest := []) C 21 rfl 0 (k_m_layOnTape l D τ ρ σ w a1 hI (by rw [e10]; try omega)) rfl rfl mml_TaleMachine_75 mim_yX9_layOnTape mse_yX9_layOnTape mcd_yX9_layOnTape min_yX9_layOnTape hd_yX9_layOnTape rfl rfl rfl (by decide) rfl (Nat.le_of_ble_eq_true rfl) (kdec dk_cX9_feed 10 rfl) (fun w16 h17 => ?_)
    obtain ⟨I18, f19, p21, R22⟩ := h17
    have F23 : kF [(0, some 9), (1, none)] w w16 := kF_call hF0 f19 (by decide)
    obtain ⟨x24, e25⟩ : ∃ z : Int32, w16 0 9 = z := ⟨_, rfl⟩
    have b26 : (0 : Int) ≤ x24.toInt ∧ x24.toInt ≤ 1024 := by rw [← e25]; exact I18 0 9
    rw [e10, e25] at p21
    refine kv_aload_n C 22 rfl 0 (kdec dk_cX9_feed 11 rfl) rfl rfl ?_
    refine kv_iload_n C 23 rfl 2 (kdec dk_cX9_feed 12 rfl) rfl rfl ?_
    refine kv_callVv (As := [.int a2]) (rest := []) C 26 rfl 0 (k_m_layOnTape l D τ ρ σ w16 a2 I18 (by rw [e25]; try omega)) rfl rfl mml_TaleMachine_75 mim_yX9_layOnTape mse_yX9_layOnTape mcd_yX9_layOnTape min_yX9_layOnTape hd_yX9_layOnTape rfl rfl rfl (by decide) rfl (Nat.le_of_ble_eq_true rfl) (kdec dk_cX9_feed 13 rfl) (fun w27 h28 => ?_)
    obtain ⟨I29, f30, p32, R33⟩ := h28
    have F34 : kF [(0, some 9), (1, none)] w w27 := kF_call F23 f30 (by decide)
    obtain ⟨x35, e36⟩ : ∃ z : Int32, w27 0 9 = z := ⟨_, rfl⟩
    have b37 : (0 : Int) ≤ x35.toInt ∧ x35.toInt ≤ 1024 := by rw [← e36]; exact I29 0 9
    rw [e25, e36] at p32
    refine kv_aload_n C 27 rfl 0 (kdec dk_cX9_feed 14 rfl) rfl rfl ?_
    refine kv_iload_n C 28 rfl 3 (kdec dk_cX9_feed 15 rfl) rfl rfl ?_
    refine kv_callVv (As := [.int a3]) (rest := []) C 31 rfl 0 (k_m_layOnTape l D τ ρ σ w27 a3 I29 (by rw [e36]; try omega)) rfl rfl mml_TaleMachine_75 mim_yX9_layOnTape mse_yX9_layOnTape mcd_yX9_layOnTape min_yX9_layOnTape hd_yX9_layOnTape rfl rfl rfl (by decide) rfl (Nat.le_of_ble_eq_true rfl) (kdec dk_cX9_feed 16 rfl) (fun w38 h39 => ?_)
    obtain ⟨I40, f41, p43, R44⟩ := h39
    have F45 : kF [(0, some 9), (1, none)] w w38 := kF_call F34 f41 (by decide)
    obtain ⟨x46, e47⟩ : ∃ z : Int32, w38 0 9 = z := ⟨_, rfl⟩
    have b48 : (0 : Int) ≤ x46.toInt ∧ x46.toInt ≤ 1024 := by rw [← e47]; exact I40 0 9
    rw [e36, e47] at p43
    refine kv_aload_n C 32 rfl 0 (kdec dk_cX9_feed 17 rfl) rfl rfl ?_
    refine kv_iload C 34 rfl 4 (kdec dk_cX9_feed 18 rfl) rfl ?_
    refine kv_callVv (As := [.int a4]) (rest := []) C 37 rfl 0 (k_m_layOnTape l D τ ρ σ w38 a4 I40 (by rw [e47]; try omega)) rfl rfl mml_TaleMachine_75 mim_yX9_layOnTape mse_yX9_layOnTape mcd_yX9_layOnTape min_yX9_layOnTape hd_yX9_layOnTape rfl rfl rfl (by decide) rfl (Nat.le_of_ble_eq_true rfl) (kdec dk_cX9_feed 19 rfl) (fun w49 h50 => ?_)
    obtain ⟨I51, f52, p54, R55⟩ := h50
    have F56 : kF [(0, some 9), (1, none)] w w49 := kF_call F45 f52 (by decide)
    obtain ⟨x57, e58⟩ : ∃ z : Int32, w49 0 9 = z := ⟨_, rfl⟩
    have b59 : (0 : Int) ≤ x57.toInt ∧ x57.toInt ≤ 1024 := by rw [← e58]; exact I51 0 9
    rw [e47, e58] at p54
    refine kv_aload_n C 38 rfl 0 (kdec dk_cX9_feed 20 rfl) rfl rfl ?_
    refine kv_iload C 40 rfl 5 (kdec dk_cX9_feed 21 rfl) rfl ?_
    refine kv_callVv (As := [.int a5]) (rest := []) C 43 rfl 0 (k_m_layOnTape l D τ ρ σ w49 a5 I51 (by rw [e58]; try omega)) rfl rfl mml_TaleMachine_75 mim_yX9_layOnTape mse_yX9_layOnTape mcd_yX9_layOnTape min_yX9_layOnTape hd_yX9_layOnTape rfl rfl rfl (by decide) rfl (Nat.le_of_ble_eq_true rfl) (kdec dk_cX9_feed 22 rfl) (fun w60 h61 => ?_)
    obtain ⟨I62, f63, p65, R66⟩ := h61
    have F67 : kF [(0, some 9), (1, none)] w w60 := kF_call F56 f63 (by decide)
    obtain ⟨x68, e69⟩ : ∃ z : Int32, w60 0 9 = z := ⟨_, rfl⟩
    have b70 : (0 : Int) ≤ x68.toInt ∧ x68.toInt ≤ 1024 := by rw [← e69]; exact I62 0 9
    rw [e58, e69] at p65
    refine kv_aload_n C 44 rfl 0 (kdec dk_cX9_feed 23 rfl) rfl rfl ?_
    refine kv_iload C 46 rfl 6 (kdec dk_cX9_feed 24 rfl) rfl ?_
    refine kv_callVv (As := [.int a6]) (rest := []) C 49 rfl 0 (k_m_layOnTape l D τ ρ σ w60 a6 I62 (by rw [e69]; try omega)) rfl rfl mml_TaleMachine_75 mim_yX9_layOnTape mse_yX9_layOnTape mcd_yX9_layOnTape min_yX9_layOnTape hd_yX9_layOnTape rfl rfl rfl (by decide) rfl (Nat.le_of_ble_eq_true rfl) (kdec dk_cX9_feed 25 rfl) (fun w71 h72 => ?_)
    obtain ⟨I73, f74, p76, R77⟩ := h72
    have F78 : kF [(0, some 9), (1, none)] w w71 := kF_call F67 f74 (by decide)
    obtain ⟨x79, e80⟩ : ∃ z : Int32, w71 0 9 = z := ⟨_, rfl⟩
    have b81 : (0 : Int) ≤ x79.toInt ∧ x79.toInt ≤ 1024 := by rw [← e80]; exact I73 0 9
    rw [e69, e80] at p76
    refine kv_aload_n C 50 rfl 0 (kdec dk_cX9_feed 26 rfl) rfl rfl ?_
    refine kv_iload C 52 rfl 7 (kdec dk_cX9_feed 27 rfl) rfl ?_
    refine kv_callVv (As := [.int a7]) (rest := []) C 55 rfl 0 (k_m_layOnTape l D τ ρ σ w71 a7 I73 (by rw [e80]; try omega)) rfl rfl mml_TaleMachine_75 mim_yX9_layOnTape mse_yX9_layOnTape mcd_yX9_layOnTape min_yX9_layOnTape hd_yX9_layOnTape rfl rfl rfl (by decide) rfl (Nat.le_of_ble_eq_true rfl) (kdec dk_cX9_feed 28 rfl) (fun w82 h83 => ?_)
    obtain ⟨I84, f85, p87, R88⟩ := h83
    have F89 : kF [(0, some 9), (1, none)] w w82 := kF_call F78 f85 (by decide)
    obtain ⟨x90, e91⟩ : ∃ z : Int32, w82 0 9 = z := ⟨_, rfl⟩
    have b92 : (0 : Int) ≤ x90.toInt ∧ x90.toInt ≤ 1024 := by rw [← e91]; exact I84 0 9
    rw [e80, e91] at p87
    refine kv_aload_n C 56 rfl 0 (kdec dk_cX9_feed 29 rfl) rfl rfl ?_
    refine kv_iload C 58 rfl 8 (kdec dk_cX9_feed 30 rfl) rfl ?_
    refine kv_callVv (As := [.int a8]) (rest := []) C 61 rfl 0 (k_m_layOnTape l D τ ρ σ w82 a8 I84 (by rw [e91]; try omega)) rfl rfl mml_TaleMachine_75 mim_yX9_layOnTape mse_yX9_layOnTape mcd_yX9_layOnTape min_yX9_layOnTape hd_yX9_layOnTape rfl rfl rfl (by decide) rfl (Nat.le_of_ble_eq_true rfl) (kdec dk_cX9_feed 31 rfl) (fun w93 h94 => ?_)
    obtain ⟨I95, f96, p98, R99⟩ := h94
    have F100 : kF [(0, some 9), (1, none)] w w93 := kF_call F89 f96 (by decide)
    obtain ⟨x101, e102⟩ : ∃ z : Int32, w93 0 9 = z := ⟨_, rfl⟩
    have b103 : (0 : Int) ≤ x101.toInt ∧ x101.toInt ≤ 1024 := by rw [← e102]; exact I95 0 9
    rw [e91, e102] at p98
    refine kv_aload_n C 62 rfl 0 (kdec dk_cX9_feed 32 rfl) rfl rfl ?_
    refine kv_get C 65 rfl 0 9 rfl rfl inX9 (by decide) mfl_TaleMachine_71 rfl rfl (kdec dk_cX9_feed 33 rfl) e102 ?_
    exact kv_iret C hr hlk (kdec dk_cX9_feed 34 rfl) ⟨_, rfl, I95, F100, (by rw [e10, e102]; try omega), (Or.inl ⟨by rw [e10]; omega, (kLay_step (kLay_step (kLay_step (kLay_step (kLay_step (kLay_step (kLay_step (kLay_step (fun _ => rfl) R22 rfl) R33 (show (w16 0 9).toInt.toNat = (w 0 9).toInt.toNat + 4 by rw [e25, e10]; omega)) R44 (show (w27 0 9).toInt.toNat = (w 0 9).toInt.toNat + 8 by rw [e36, e10]; omega)) R55 (show (w38 0 9).toInt.toNat = (w 0 9).toInt.toNat + 12 by rw [e47, e10]; omega)) R66 (show (w49 0 9).toInt.toNat = (w 0 9).toInt.toNat + 16 by rw [e58, e10]; omega)) R77 (show (w60 0 9).toInt.toNat = (w 0 9).toInt.toNat + 20 by rw [e69, e10]; omega)) R88 (show (w71 0 9).toInt.toNat = (w 0 9).toInt.toNat + 24 by rw [e80, e10]; omega)) R99 (show (w82 0 9).toInt.toNat = (w 0 9).toInt.toNat + 28 by rw [e91, e10]; omega))⟩)⟩
  · skip
    refine kv_bipush C 15 rfl (-3) (kdec dk_cX9_feed 6 rfl) rfl ?_
    exact kv_iret C hr hlk (kdec dk_cX9_feed 7 rfl) ⟨_, rfl, hI, hF0, (by rw [e10]; try omega), (Or.inr ⟨by rw [e10]; omega, fun _ => rfl⟩)⟩

set_option maxHeartbeats 4000000 in
set_option maxRecDepth 100000 in
theorem k_m_load (l : Launch) (D : va_G) (τ : Nat → ClassId) (ρ σ : Nat → Nat) (w : kw)  (hI : kI false w)  :
    kM l D τ ρ σ yX9_load cX9_load 3 (some .int) { frames := 5, cells := 0, slots := 0, locals := 180 } [.ref (ρ 0)] w
      (fun o w' => ∃ r : Int32, o = some (.int r) ∧ kI false w' ∧ kF [(0, some 9), (2, some 2), (2, some 3), (2, some 4), (2, some 5), (2, some 6), (2, some 7), (2, some 8), (2, some 9), (3, none), (4, none), (5, some 6), (5, some 7), (8, none), (9, none), (12, some 1), (20, some 8), (20, some 9), (20, some 10), (20, some 11), (20, some 12), (25, some 2), (34, some 2), (43, some 2), (52, some 2)] w w' ∧ ((w' 0 9).toInt = 0) ∧ ((w' 20 10).toInt = 0 ∨ (w' 2 3).toInt ≤ 1024) ∧ (64 ≤ (w 0 9).toInt ∨ r.toInt = -11) ∧ ((w' 12 1).toInt ≤ (w 12 1).toInt + 0 ∧ (w' 14 1).toInt ≤ (w 14 1).toInt + 0) ∧ ((w' 25 2).toInt = 0 ∧ (w' 34 2).toInt = 0 ∧ (w' 43 2).toInt = 0 ∧ (w' 52 2).toInt = 0) ∧ (kFn (w 1) (w 0 9).toInt = 0 ∧ r.toInt = 0 ∧ (w' 20 10).toInt = 1 ∨ ¬ kFn (w 1) (w 0 9).toInt = 0 ∧ r.toInt = -10 - kFn (w 1) (w 0 9).toInt ∧ (w' 20 10).toInt = 0)) := by
  refine kM_of (own := "TaleMachine") rfl (by decide) (Nat.le_of_ble_eq_true rfl) ?_
  intro p e s m args below meth c C hr hlk
  have hF0 : kF [(0, some 9), (2, some 2), (2, some 3), (2, some 4), (2, some 5), (2, some 6), (2, some 7), (2, some 8), (2, some 9), (3, none), (4, none), (5, some 6), (5, some 7), (8, none), (9, none), (12, some 1), (20, some 8), (20, some 9), (20, some 10), (20, some 11), (20, some 12), (25, some 2), (34, some 2), (43, some 2), (52, some 2)] w w := kF.rf
  have c_m10 : (-10 : Int32).toInt = -10 := by decide
  have c_0 : (0 : Int32).toInt = 0 := by decide
  have c_4 : (4 : Int32).toInt = 4 := by decide
  refine kV.L (L' := [(0, .ref (ρ 0))]) rfl ?_
  have cut23 : ∀ (n_23 : Nat) (w_23 : kw) (l1_23 l2_23 : Int32), kI false w_23 → kF [(0, some 9), (2, some 2), (2, some 3), (2, some 4), (2, some 5), (2, some 6), (2, some 7), (2, some 8), (2, some 9), (3, none), (4, none), (5, some 6), (5, some 7), (8, none), (9, none), (12, some 1), (20, some 8), (20, some 9), (20, some 10), (20, some 11), (20, some 12), (25, some 2), (34, some 2), (43, some 2), (52, some 2)] w w_23 → (0 ≤ l2_23.toInt ∧ l2_23.toInt ≤ 4) → (0 ≤ l1_23.toInt ∧ l1_23.toInt ≤ 7) → (¬ l1_23.toInt = 0 ∨ (w_23 2 3).toInt ≤ 1024) → ((w_23 0 9).toInt = 0) → (64 ≤ (w 0 9).toInt ∨ l1_23.toInt = 1) → ((w_23 12 1).toInt ≤ (w 12 1).toInt + 0 ∧ (w_23 14 1).toInt ≤ (w 14 1).toInt + 0) → (l2_23.toInt < 1 ∨ (w_23 25 2).toInt = 0) → (l2_23.toInt < 2 ∨ (w_23 34 2).toInt = 0) → (l2_23.toInt < 3 ∨ (w_23 43 2).toInt = 0) → (l2_23.toInt < 4 ∨ (w_23 52 2).toInt = 0) → (l1_23.toInt = kFn (w 1) (w 0 9).toInt) → ((5 - l2_23.toInt) : Int) < (n_23 : Int) → kV p l e { frames := 5, cells := 0, slots := 0, locals := 180 } s m args below meth c (kQ below args s D τ ρ (fun o w' => ∃ r : Int32, o = some (.int r) ∧ kI false w' ∧ kF [(0, some 9), (2, some 2), (2, some 3), (2, some 4), (2, some 5), (2, some 6), (2, some 7), (2, some 8), (2, some 9), (3, none), (4, none), (5, some 6), (5, some 7), (8, none), (9, none), (12, some 1), (20, some 8), (20, some 9), (20, some 10), (20, some 11), (20, some 12), (25, some 2), (34, some 2), (43, some 2), (52, some 2)] w w' ∧ ((w' 0 9).toInt = 0) ∧ ((w' 20 10).toInt = 0 ∨ (w' 2 3).toInt ≤ 1024) ∧ (64 ≤ (w 0 9).toInt ∨ r.toInt = -11) ∧ ((w' 12 1).toInt ≤ (w 12 1).toInt + 0 ∧ (w' 14 1).toInt ≤ (w 14 1).toInt + 0) ∧ ((w' 25 2).toInt = 0 ∧ (w' 34 2).toInt = 0 ∧ (w' 43 2).toInt = 0 ∧ (w' 52 2).toInt = 0) ∧ (kFn (w 1) (w 0 9).toInt = 0 ∧ r.toInt = 0 ∧ (w' 20 10).toInt = 1 ∨ ¬ kFn (w 1) (w 0 9).toInt = 0 ∧ r.toInt = -10 - kFn (w 1) (w 0 9).toInt ∧ (w' 20 10).toInt = 0))) 3 D τ ρ 23 [(0, .ref (ρ 0)), (1, .int l1_23), (2, .int l2_23)] [] w_23 := by
    intro n_23
    induction n_23 with
    | zero => intro w_23 l1_23 l2_23 I_23 F_23 k23_0 k23_1 k23_2 k23_3 k23_4 k23_5 k23_6 k23_7 k23_8 k23_9 R23_Ft hmz; exfalso; omega
    | succ n_23 ih23 =>
      intro w_23 l1_23 l2_23 I_23 F_23 k23_0 k23_1 k23_2 k23_3 k23_4 k23_5 k23_6 k23_7 k23_8 k23_9 R23_Ft hm23
      have gl1_23 := kf_rng l1_23
      have gl2_23 := kf_rng l2_23
      obtain ⟨x1, e2⟩ : ∃ z : Int32, w_23 2 3 = z := ⟨_, rfl⟩
      have b3 : (0 : Int) ≤ x1.toInt ∧ x1.toInt ≤ 65535 := by rw [← e2]; exact I_23 2 3
      rw [e2] at k23_2
      obtain ⟨x4, e5⟩ : ∃ z : Int32, w_23 0 9 = z := ⟨_, rfl⟩
      have b6 : (0 : Int) ≤ x4.toInt ∧ x4.toInt ≤ 1024 := by rw [← e5]; exact I_23 0 9
      rw [e5] at k23_3
      obtain ⟨x7, e8⟩ : ∃ z : Int32, w 0 9 = z := ⟨_, rfl⟩
      have b9 : (0 : Int) ≤ x7.toInt ∧ x7.toInt ≤ 1024 := by rw [← e8]; exact hI 0 9
      rw [e8] at k23_4
      obtain ⟨x10, e11⟩ : ∃ z : Int32, w 12 1 = z := ⟨_, rfl⟩
      have b12 : (0 : Int) ≤ x10.toInt ∧ x10.toInt ≤ 2147483647 := by rw [← e11]; exact hI 12 1
      obtain ⟨x13, e14⟩ : ∃ z : Int32, w 14 1 = z := ⟨_, rfl⟩
      have b15 : (0 : Int) ≤ x13.toInt ∧ x13.toInt ≤ 2147483647 := by rw [← e14]; exact hI 14 1
      obtain ⟨x16, e17⟩ : ∃ z : Int32, w_23 12 1 = z := ⟨_, rfl⟩
      have b18 : (0 : Int) ≤ x16.toInt ∧ x16.toInt ≤ 2147483647 := by rw [← e17]; exact I_23 12 1
      have e19 : w_23 14 1 = x13 := ((F_23 14 1 rfl : w_23 14 1 = w 14 1).trans e14)
      rw [e11, e14, e17, e19] at k23_5
      obtain ⟨x20, e21⟩ : ∃ z : Int32, w_23 25 2 = z := ⟨_, rfl⟩
      have b22 : (0 : Int) ≤ x20.toInt ∧ x20.toInt ≤ 1 := by rw [← e21]; exact I_23 25 2
      rw [e21] at k23_6
      obtain ⟨x23, e24⟩ : ∃ z : Int32, w_23 34 2 = z := ⟨_, rfl⟩
      have b25 : (0 : Int) ≤ x23.toInt ∧ x23.toInt ≤ 1 := by rw [← e24]; exact I_23 34 2
      rw [e24] at k23_7
      obtain ⟨x26, e27⟩ : ∃ z : Int32, w_23 43 2 = z := ⟨_, rfl⟩
      have b28 : (0 : Int) ≤ x26.toInt ∧ x26.toInt ≤ 1 := by rw [← e27]; exact I_23 43 2
      rw [e27] at k23_8
      obtain ⟨x29, e30⟩ : ∃ z : Int32, w_23 52 2 = z := ⟨_, rfl⟩
      have b31 : (0 : Int) ≤ x29.toInt ∧ x29.toInt ≤ 1 := by rw [← e30]; exact I_23 52 2
      rw [e30] at k23_9
      refine kv_iload_n C 24 rfl 2 (kdec dk_cX9_load 13 rfl) rfl rfl ?_
      refine kv_aload_n C 25 rfl 0 (kdec dk_cX9_load 14 rfl) rfl rfl ?_
      refine kv_getr C 28 rfl 0 8 rfl rfl inX9 (by decide) mfl_TaleMachine_66 rfl rfl (kdec dk_cX9_load 15 rfl) ?_
      refine kv_alenq C 29 rfl 24 4 rfl rfl (kdec dk_cX9_load 16 rfl) ?_
      refine kv_icmp_ge C 32 rfl 48 (kdec dk_cX9_load 17 rfl) (by decide) (fun d32 => ?_) (fun d32 => ?_)
      · skip
        refine kv_iload_n C 49 rfl 1 (kdec dk_cX9_load 26 rfl) rfl rfl ?_
        refine kv_if_eq C 52 rfl 65 (kdec dk_cX9_load 27 rfl) (by decide) (fun d33 => ?_) (fun d33 => ?_)
        · skip
          refine kv_aload_n C 66 rfl 0 (kdec dk_cX9_load 36 rfl) rfl rfl ?_
          refine kv_getr C 69 rfl 0 7 rfl rfl inX9 (by decide) mfl_TaleMachine_60 rfl rfl (kdec dk_cX9_load 37 rfl) ?_
          refine kv_callVNv (As := []) (rest := []) C 72 rfl 20 (k_e_begin l D τ ρ σ w_23  (kI_strong I_23 (by rw [e2]; omega)) ) rfl rfl mmn_TaleMachine_89 mim_yX1_begin mse_yX1_begin mcd_yX1_begin min_yX1_begin hd_yX1_begin rfl rfl rfl (by decide) rfl (Nat.le_of_ble_eq_true rfl) (kdec dk_cX9_load 38 rfl) (fun w34 h35 => ?_)
          obtain ⟨I36, f37, p39, p40⟩ := h35
          have I42 := kI_weak I36
          have F41 : kF [(0, some 9), (2, some 2), (2, some 3), (2, some 4), (2, some 5), (2, some 6), (2, some 7), (2, some 8), (2, some 9), (3, none), (4, none), (5, some 6), (5, some 7), (8, none), (9, none), (12, some 1), (20, some 8), (20, some 9), (20, some 10), (20, some 11), (20, some 12), (25, some 2), (34, some 2), (43, some 2), (52, some 2)] w w34 := kF_call F_23 f37 (by decide)
          obtain ⟨x43, e44⟩ : ∃ z : Int32, w34 12 1 = z := ⟨_, rfl⟩
          have b45 : (0 : Int) ≤ x43.toInt ∧ x43.toInt ≤ 2147483647 := by rw [← e44]; exact I42 12 1
          rw [e44] at p39
          obtain ⟨x46, e47⟩ : ∃ z : Int32, w34 20 10 = z := ⟨_, rfl⟩
          have b48 : (0 : Int) ≤ x46.toInt ∧ x46.toInt ≤ 4 := by rw [← e47]; exact I42 20 10
          rw [e47] at p40
          refine kv_iconst C 73 rfl 0 (kdec dk_cX9_load 39 rfl) rfl ?_
          have e49 : w34 0 9 = x4 := ((f37 0 9 rfl : w34 0 9 = w_23 0 9).trans e5)
          have e50 : w34 2 3 = x1 := ((f37 2 3 rfl : w34 2 3 = w_23 2 3).trans e2)
          have e51 : w34 14 1 = x13 := ((f37 14 1 rfl : w34 14 1 = w_23 14 1).trans e19)
          have e52 : w34 25 2 = x20 := ((f37 25 2 rfl : w34 25 2 = w_23 25 2).trans e21)
          have e53 : w34 34 2 = x23 := ((f37 34 2 rfl : w34 34 2 = w_23 34 2).trans e24)
          have e54 : w34 43 2 = x26 := ((f37 43 2 rfl : w34 43 2 = w_23 43 2).trans e27)
          have e55 : w34 52 2 = x29 := ((f37 52 2 rfl : w34 52 2 = w_23 52 2).trans e30)
          exact kv_iret C hr hlk (kdec dk_cX9_load 40 rfl) ⟨_, rfl, I42, F41, (by rw [e49]; try omega), (by rw [e47, e50]; try omega), (by rw [e8]; try omega), (by rw [e11, e14, e44, e51]; try omega), (by rw [e52, e53, e54, e55]; try omega), (by rw [← R23_Ft, e47]; omega)⟩
        · skip
          refine kv_aload_n C 53 rfl 0 (kdec dk_cX9_load 28 rfl) rfl rfl ?_
          refine kv_getr C 56 rfl 0 7 rfl rfl inX9 (by decide) mfl_TaleMachine_60 rfl rfl (kdec dk_cX9_load 29 rfl) ?_
          refine kv_iconst C 57 rfl 0 (kdec dk_cX9_load 30 rfl) rfl ?_
          refine kv_putN C 60 rfl 20 10 rfl rfl inX1 (by decide) mfn_TaleMachine_86 rfl tyX1 tyX1_ok nmX1 rfl rfl (kdec dk_cX9_load 31 rfl) rfl rfl (fun w56 u57 => ?_)
          have I58 : kI false w56 := kI_put u57 I_23 (show (0 : Int) ≤ (0 : Int32).toInt by omega) (show (0 : Int32).toInt ≤ 4 by omega)
          have F59 : kF [(0, some 9), (2, some 2), (2, some 3), (2, some 4), (2, some 5), (2, some 6), (2, some 7), (2, some 8), (2, some 9), (3, none), (4, none), (5, some 6), (5, some 7), (8, none), (9, none), (12, some 1), (20, some 8), (20, some 9), (20, some 10), (20, some 11), (20, some 12), (25, some 2), (34, some 2), (43, some 2), (52, some 2)] w w56 := kF_put u57 F_23 rfl
          refine kv_bipush C 62 rfl (-10) (kdec dk_cX9_load 32 rfl) rfl ?_
          refine kv_iload_n C 63 rfl 1 (kdec dk_cX9_load 33 rfl) rfl rfl ?_
          refine kv_isub C 64 rfl (kdec dk_cX9_load 34 rfl) (fun x60 q62 h61e h61 h61l h61u => ?_)
          try have h61n : x60.toInt = ((-10) : Int32).toInt - l1_23.toInt := by omega
          clear h61 q62
          have e63 : w56 0 9 = x4 := ((kup_ne u57 rfl : w56 0 9 = w_23 0 9).trans e5)
          have e64 : w56 2 3 = x1 := ((kup_ne u57 rfl : w56 2 3 = w_23 2 3).trans e2)
          have e65 : w56 12 1 = x16 := ((kup_ne u57 rfl : w56 12 1 = w_23 12 1).trans e17)
          have e66 : w56 14 1 = x13 := ((kup_ne u57 rfl : w56 14 1 = w_23 14 1).trans e19)
          have e67 : w56 25 2 = x20 := ((kup_ne u57 rfl : w56 25 2 = w_23 25 2).trans e21)
          have e68 : w56 34 2 = x23 := ((kup_ne u57 rfl : w56 34 2 = w_23 34 2).trans e24)
          have e69 : w56 43 2 = x26 := ((kup_ne u57 rfl : w56 43 2 = w_23 43 2).trans e27)
          have e70 : w56 52 2 = x29 := ((kup_ne u57 rfl : w56 52 2 = w_23 52 2).trans e30)
          exact kv_iret C hr hlk (kdec dk_cX9_load 35 rfl) ⟨_, rfl, I58, F59, (by rw [e63]; try omega), (by rw [(kup_eq u57), e64]; try omega), (by rw [e8]; try omega), (by rw [e11, e14, e65, e66]; try omega), (by rw [e67, e68, e69, e70]; try omega), (by rw [← R23_Ft, (kup_eq u57)]; omega)⟩
      · skip
        refine kv_aload_n C 33 rfl 0 (kdec dk_cX9_load 18 rfl) rfl rfl ?_
        refine kv_getr C 36 rfl 0 8 rfl rfl inX9 (by decide) mfl_TaleMachine_66 rfl rfl (kdec dk_cX9_load 19 rfl) ?_
        refine kv_iload_n C 37 rfl 2 (kdec dk_cX9_load 20 rfl) rfl rfl ?_
        have d71 : (l2_23 : Int32).toInt = 0 ∨ (l2_23 : Int32).toInt = 1 ∨ (l2_23 : Int32).toInt = 2 ∨ (l2_23 : Int32).toInt = 3 := by omega
        rcases d71 with d71 | d71 | d71 | d71
        · skip
          refine kv_aldq C 38 rfl 24 0 rfl d71 rfl (by decide) (kdec dk_cX9_load 21 rfl) ?_
          refine kv_iconst C 39 rfl 0 (kdec dk_cX9_load 22 rfl) rfl ?_
          refine kv_putN C 42 rfl 25 2 rfl rfl inX5 (by decide) mfn_TaleMachine_82 rfl tyX5 tyX5_ok nmX5 rfl rfl (kdec dk_cX9_load 23 rfl) (kf_bool (by decide)) rfl (fun w72 u73 => ?_)
          have I74 : kI false w72 := kI_put u73 I_23 (show (0 : Int) ≤ (0 : Int32).toInt by omega) (show (0 : Int32).toInt ≤ 1 by omega)
          have F75 : kF [(0, some 9), (2, some 2), (2, some 3), (2, some 4), (2, some 5), (2, some 6), (2, some 7), (2, some 8), (2, some 9), (3, none), (4, none), (5, some 6), (5, some 7), (8, none), (9, none), (12, some 1), (20, some 8), (20, some 9), (20, some 10), (20, some 11), (20, some 12), (25, some 2), (34, some 2), (43, some 2), (52, some 2)] w w72 := kF_put u73 F_23 rfl
          refine kv_iinc C 45 rfl 2 2 [1, 2, 0] (fun v9 => [(0, .ref (ρ 0)), (1, .int l1_23), (2, .int v9)]) (kdec dk_cX9_load 24 rfl) rfl (by decide) (fun _ => rfl) 1 rfl (fun x76 q77 h78e h78 h78l h78u => ?_)
          try have h78n : x76.toInt = l2_23.toInt + 1 := by omega
          clear h78 q77
          refine kv_goto C 23 (kdec dk_cX9_load 25 rfl) (by decide) ?_
          have e79 : w72 2 3 = x1 := ((kup_ne u73 rfl : w72 2 3 = w_23 2 3).trans e2)
          have e80 : w72 0 9 = x4 := ((kup_ne u73 rfl : w72 0 9 = w_23 0 9).trans e5)
          have e81 : w72 12 1 = x16 := ((kup_ne u73 rfl : w72 12 1 = w_23 12 1).trans e17)
          have e82 : w72 14 1 = x13 := ((kup_ne u73 rfl : w72 14 1 = w_23 14 1).trans e19)
          have e83 : w72 34 2 = x23 := ((kup_ne u73 rfl : w72 34 2 = w_23 34 2).trans e24)
          have e84 : w72 43 2 = x26 := ((kup_ne u73 rfl : w72 43 2 = w_23 43 2).trans e27)
          have e85 : w72 52 2 = x29 := ((kup_ne u73 rfl : w72 52 2 = w_23 52 2).trans e30)
          exact ih23 w72 l1_23 x76 I74 F75 (by omega) (by omega) (by rw [e79]; try omega) (by rw [e80]; try omega) (by rw [e8]; try omega) (by rw [e11, e14, e81, e82]; try omega) (by rw [(kup_eq u73)]; try omega) (by rw [e83]; try omega) (by rw [e84]; try omega) (by rw [e85]; try omega) R23_Ft (by omega)
        · skip
          refine kv_aldq C 38 rfl 24 1 rfl d71 rfl (by decide) (kdec dk_cX9_load 21 rfl) ?_
          refine kv_iconst C 39 rfl 0 (kdec dk_cX9_load 22 rfl) rfl ?_
          refine kv_putN C 42 rfl 34 2 rfl rfl inX5 (by decide) mfn_TaleMachine_82 rfl tyX5 tyX5_ok nmX5 rfl rfl (kdec dk_cX9_load 23 rfl) (kf_bool (by decide)) rfl (fun w86 u87 => ?_)
          have I88 : kI false w86 := kI_put u87 I_23 (show (0 : Int) ≤ (0 : Int32).toInt by omega) (show (0 : Int32).toInt ≤ 1 by omega)
          have F89 : kF [(0, some 9), (2, some 2), (2, some 3), (2, some 4), (2, some 5), (2, some 6), (2, some 7), (2, some 8), (2, some 9), (3, none), (4, none), (5, some 6), (5, some 7), (8, none), (9, none), (12, some 1), (20, some 8), (20, some 9), (20, some 10), (20, some 11), (20, some 12), (25, some 2), (34, some 2), (43, some 2), (52, some 2)] w w86 := kF_put u87 F_23 rfl
          refine kv_iinc C 45 rfl 2 2 [1, 2, 0] (fun v9 => [(0, .ref (ρ 0)), (1, .int l1_23), (2, .int v9)]) (kdec dk_cX9_load 24 rfl) rfl (by decide) (fun _ => rfl) 1 rfl (fun x90 q91 h92e h92 h92l h92u => ?_)
          try have h92n : x90.toInt = l2_23.toInt + 1 := by omega
          clear h92 q91
          refine kv_goto C 23 (kdec dk_cX9_load 25 rfl) (by decide) ?_
          have e93 : w86 2 3 = x1 := ((kup_ne u87 rfl : w86 2 3 = w_23 2 3).trans e2)
          have e94 : w86 0 9 = x4 := ((kup_ne u87 rfl : w86 0 9 = w_23 0 9).trans e5)
          have e95 : w86 12 1 = x16 := ((kup_ne u87 rfl : w86 12 1 = w_23 12 1).trans e17)
          have e96 : w86 14 1 = x13 := ((kup_ne u87 rfl : w86 14 1 = w_23 14 1).trans e19)
          have e97 : w86 25 2 = x20 := ((kup_ne u87 rfl : w86 25 2 = w_23 25 2).trans e21)
          have e98 : w86 43 2 = x26 := ((kup_ne u87 rfl : w86 43 2 = w_23 43 2).trans e27)
          have e99 : w86 52 2 = x29 := ((kup_ne u87 rfl : w86 52 2 = w_23 52 2).trans e30)
          exact ih23 w86 l1_23 x90 I88 F89 (by omega) (by omega) (by rw [e93]; try omega) (by rw [e94]; try omega) (by rw [e8]; try omega) (by rw [e11, e14, e95, e96]; try omega) (by rw [e97]; try omega) (by rw [(kup_eq u87)]; try omega) (by rw [e98]; try omega) (by rw [e99]; try omega) R23_Ft (by omega)
        · skip
          refine kv_aldq C 38 rfl 24 2 rfl d71 rfl (by decide) (kdec dk_cX9_load 21 rfl) ?_
          refine kv_iconst C 39 rfl 0 (kdec dk_cX9_load 22 rfl) rfl ?_
          refine kv_putN C 42 rfl 43 2 rfl rfl inX5 (by decide) mfn_TaleMachine_82 rfl tyX5 tyX5_ok nmX5 rfl rfl (kdec dk_cX9_load 23 rfl) (kf_bool (by decide)) rfl (fun w100 u101 => ?_)
          have I102 : kI false w100 := kI_put u101 I_23 (show (0 : Int) ≤ (0 : Int32).toInt by omega) (show (0 : Int32).toInt ≤ 1 by omega)
          have F103 : kF [(0, some 9), (2, some 2), (2, some 3), (2, some 4), (2, some 5), (2, some 6), (2, some 7), (2, some 8), (2, some 9), (3, none), (4, none), (5, some 6), (5, some 7), (8, none), (9, none), (12, some 1), (20, some 8), (20, some 9), (20, some 10), (20, some 11), (20, some 12), (25, some 2), (34, some 2), (43, some 2), (52, some 2)] w w100 := kF_put u101 F_23 rfl
          refine kv_iinc C 45 rfl 2 2 [1, 2, 0] (fun v9 => [(0, .ref (ρ 0)), (1, .int l1_23), (2, .int v9)]) (kdec dk_cX9_load 24 rfl) rfl (by decide) (fun _ => rfl) 1 rfl (fun x104 q105 h106e h106 h106l h106u => ?_)
          try have h106n : x104.toInt = l2_23.toInt + 1 := by omega
          clear h106 q105
          refine kv_goto C 23 (kdec dk_cX9_load 25 rfl) (by decide) ?_
          have e107 : w100 2 3 = x1 := ((kup_ne u101 rfl : w100 2 3 = w_23 2 3).trans e2)
          have e108 : w100 0 9 = x4 := ((kup_ne u101 rfl : w100 0 9 = w_23 0 9).trans e5)
          have e109 : w100 12 1 = x16 := ((kup_ne u101 rfl : w100 12 1 = w_23 12 1).trans e17)
          have e110 : w100 14 1 = x13 := ((kup_ne u101 rfl : w100 14 1 = w_23 14 1).trans e19)
          have e111 : w100 25 2 = x20 := ((kup_ne u101 rfl : w100 25 2 = w_23 25 2).trans e21)
          have e112 : w100 34 2 = x23 := ((kup_ne u101 rfl : w100 34 2 = w_23 34 2).trans e24)
          have e113 : w100 52 2 = x29 := ((kup_ne u101 rfl : w100 52 2 = w_23 52 2).trans e30)
          exact ih23 w100 l1_23 x104 I102 F103 (by omega) (by omega) (by rw [e107]; try omega) (by rw [e108]; try omega) (by rw [e8]; try omega) (by rw [e11, e14, e109, e110]; try omega) (by rw [e111]; try omega) (by rw [e112]; try omega) (by rw [(kup_eq u101)]; try omega) (by rw [e113]; try omega) R23_Ft (by omega)
        · skip
          refine kv_aldq C 38 rfl 24 3 rfl d71 rfl (by decide) (kdec dk_cX9_load 21 rfl) ?_
          refine kv_iconst C 39 rfl 0 (kdec dk_cX9_load 22 rfl) rfl ?_
          refine kv_putN C 42 rfl 52 2 rfl rfl inX5 (by decide) mfn_TaleMachine_82 rfl tyX5 tyX5_ok nmX5 rfl rfl (kdec dk_cX9_load 23 rfl) (kf_bool (by decide)) rfl (fun w114 u115 => ?_)
          have I116 : kI false w114 := kI_put u115 I_23 (show (0 : Int) ≤ (0 : Int32).toInt by omega) (show (0 : Int32).toInt ≤ 1 by omega)
          have F117 : kF [(0, some 9), (2, some 2), (2, some 3), (2, some 4), (2, some 5), (2, some 6), (2, some 7), (2, some 8), (2, some 9), (3, none), (4, none), (5, some 6), (5, some 7), (8, none), (9, none), (12, some 1), (20, some 8), (20, some 9), (20, some 10), (20, some 11), (20, some 12), (25, some 2), (34, some 2), (43, some 2), (52, some 2)] w w114 := kF_put u115 F_23 rfl
          refine kv_iinc C 45 rfl 2 2 [1, 2, 0] (fun v9 => [(0, .ref (ρ 0)), (1, .int l1_23), (2, .int v9)]) (kdec dk_cX9_load 24 rfl) rfl (by decide) (fun _ => rfl) 1 rfl (fun x118 q119 h120e h120 h120l h120u => ?_)
          try have h120n : x118.toInt = l2_23.toInt + 1 := by omega
          clear h120 q119
          refine kv_goto C 23 (kdec dk_cX9_load 25 rfl) (by decide) ?_
          have e121 : w114 2 3 = x1 := ((kup_ne u115 rfl : w114 2 3 = w_23 2 3).trans e2)
          have e122 : w114 0 9 = x4 := ((kup_ne u115 rfl : w114 0 9 = w_23 0 9).trans e5)
          have e123 : w114 12 1 = x16 := ((kup_ne u115 rfl : w114 12 1 = w_23 12 1).trans e17)
          have e124 : w114 14 1 = x13 := ((kup_ne u115 rfl : w114 14 1 = w_23 14 1).trans e19)
          have e125 : w114 25 2 = x20 := ((kup_ne u115 rfl : w114 25 2 = w_23 25 2).trans e21)
          have e126 : w114 34 2 = x23 := ((kup_ne u115 rfl : w114 34 2 = w_23 34 2).trans e24)
          have e127 : w114 43 2 = x26 := ((kup_ne u115 rfl : w114 43 2 = w_23 43 2).trans e27)
          exact ih23 w114 l1_23 x118 I116 F117 (by omega) (by omega) (by rw [e121]; try omega) (by rw [e122]; try omega) (by rw [e8]; try omega) (by rw [e11, e14, e123, e124]; try omega) (by rw [e125]; try omega) (by rw [e126]; try omega) (by rw [e127]; try omega) (by rw [(kup_eq u115)]; try omega) R23_Ft (by omega)
  refine kv_aload_n C 1 rfl 0 (kdec dk_cX9_load 0 rfl) rfl rfl ?_
  refine kv_getr C 4 rfl 0 1 rfl rfl inX9 (by decide) mfl_TaleMachine_16 rfl rfl (kdec dk_cX9_load 1 rfl) ?_
  refine kv_aload_n C 5 rfl 0 (kdec dk_cX9_load 2 rfl) rfl rfl ?_
  refine kv_getr C 8 rfl 0 0 rfl rfl inX9 (by decide) mfl_TaleMachine_9 rfl rfl (kdec dk_cX9_load 3 rfl) ?_
  refine kv_aload_n C 9 rfl 0 (kdec dk_cX9_load 4 rfl) rfl rfl ?_
  obtain ⟨x128, e129⟩ : ∃ z : Int32, w 0 9 = z := ⟨_, rfl⟩
  have b130 : (0 : Int) ≤ x128.toInt ∧ x128.toInt ≤ 1024 := by rw [← e129]; exact hI 0 9
  refine kv_get C 12 rfl 0 9 rfl rfl inX9 (by decide) mfl_TaleMachine_71 rfl rfl (kdec dk_cX9_load 5 rfl) e129 ?_
  refine kv_callVNi (As := [.ref (ρ 1), .int x128]) (rest := []) C 15 rfl 2 (k_take l D τ ρ σ w x128 hI (by omega)) rfl rfl mmn_TaleMachine_78 mim_yX6_take mse_yX6_take mcd_yX6_take min_yX6_take hd_yX6_take rfl rfl rfl (by decide) rfl (Nat.le_of_ble_eq_true rfl) (kdec dk_cX9_load 6 rfl) (fun x135 w131 h132 => ?_)
  obtain ⟨I133, f134, p136, p137, p138, R139⟩ := h132
  have F140 : kF [(0, some 9), (2, some 2), (2, some 3), (2, some 4), (2, some 5), (2, some 6), (2, some 7), (2, some 8), (2, some 9), (3, none), (4, none), (5, some 6), (5, some 7), (8, none), (9, none), (12, some 1), (20, some 8), (20, some 9), (20, some 10), (20, some 11), (20, some 12), (25, some 2), (34, some 2), (43, some 2), (52, some 2)] w w131 := kF_call hF0 f134 (by decide)
  have g141 := kf_rng x135
  obtain ⟨x142, e143⟩ : ∃ z : Int32, w131 2 3 = z := ⟨_, rfl⟩
  have b144 : (0 : Int) ≤ x142.toInt ∧ x142.toInt ≤ 65535 := by rw [← e143]; exact I133 2 3
  rw [e143] at p137
  refine kv_istore_n C 16 rfl 1 [1, 0] [(0, .ref (ρ 0)), (1, .int x135)] (kdec dk_cX9_load 7 rfl) rfl (by decide) rfl ?_
  refine kv_aload_n C 17 rfl 0 (kdec dk_cX9_load 8 rfl) rfl rfl ?_
  refine kv_iconst C 18 rfl 0 (kdec dk_cX9_load 9 rfl) rfl ?_
  refine kv_put C 21 rfl 0 9 rfl rfl inX9 (by decide) mfl_TaleMachine_71 rfl tyX9 tyX9_ok nmX9 rfl rfl (kdec dk_cX9_load 10 rfl) rfl rfl (fun w145 u146 => ?_)
  have I147 : kI false w145 := kI_put u146 I133 (show (0 : Int) ≤ (0 : Int32).toInt by omega) (show (0 : Int32).toInt ≤ 1024 by omega)
  have F148 : kF [(0, some 9), (2, some 2), (2, some 3), (2, some 4), (2, some 5), (2, some 6), (2, some 7), (2, some 8), (2, some 9), (3, none), (4, none), (5, some 6), (5, some 7), (8, none), (9, none), (12, some 1), (20, some 8), (20, some 9), (20, some 10), (20, some 11), (20, some 12), (25, some 2), (34, some 2), (43, some 2), (52, some 2)] w w145 := kF_put u146 F140 rfl
  refine kv_iconst C 22 rfl 0 (kdec dk_cX9_load 11 rfl) rfl ?_
  refine kv_istore_n C 23 rfl 2 [1, 2, 0] [(0, .ref (ρ 0)), (1, .int x135), (2, .int 0)] (kdec dk_cX9_load 12 rfl) rfl (by decide) rfl ?_
  have e149 : w145 2 3 = x142 := ((kup_ne u146 rfl : w145 2 3 = w131 2 3).trans e143)
  obtain ⟨x150, e151⟩ : ∃ z : Int32, w 12 1 = z := ⟨_, rfl⟩
  have b152 : (0 : Int) ≤ x150.toInt ∧ x150.toInt ≤ 2147483647 := by rw [← e151]; exact hI 12 1
  obtain ⟨x153, e154⟩ : ∃ z : Int32, w 14 1 = z := ⟨_, rfl⟩
  have b155 : (0 : Int) ≤ x153.toInt ∧ x153.toInt ≤ 2147483647 := by rw [← e154]; exact hI 14 1
  have e156 : w145 12 1 = x150 := ((kup_ne u146 rfl : w145 12 1 = w131 12 1).trans ((f134 12 1 rfl : w131 12 1 = w 12 1).trans e151))
  have e157 : w145 14 1 = x153 := ((kup_ne u146 rfl : w145 14 1 = w131 14 1).trans ((f134 14 1 rfl : w131 14 1 = w 14 1).trans e154))
  obtain ⟨x158, e159⟩ : ∃ z : Int32, w 25 2 = z := ⟨_, rfl⟩
  have b160 : (0 : Int) ≤ x158.toInt ∧ x158.toInt ≤ 1 := by rw [← e159]; exact hI 25 2
  have e161 : w145 25 2 = x158 := ((kup_ne u146 rfl : w145 25 2 = w131 25 2).trans ((f134 25 2 rfl : w131 25 2 = w 25 2).trans e159))
  obtain ⟨x162, e163⟩ : ∃ z : Int32, w 34 2 = z := ⟨_, rfl⟩
  have b164 : (0 : Int) ≤ x162.toInt ∧ x162.toInt ≤ 1 := by rw [← e163]; exact hI 34 2
  have e165 : w145 34 2 = x162 := ((kup_ne u146 rfl : w145 34 2 = w131 34 2).trans ((f134 34 2 rfl : w131 34 2 = w 34 2).trans e163))
  obtain ⟨x166, e167⟩ : ∃ z : Int32, w 43 2 = z := ⟨_, rfl⟩
  have b168 : (0 : Int) ≤ x166.toInt ∧ x166.toInt ≤ 1 := by rw [← e167]; exact hI 43 2
  have e169 : w145 43 2 = x166 := ((kup_ne u146 rfl : w145 43 2 = w131 43 2).trans ((f134 43 2 rfl : w131 43 2 = w 43 2).trans e167))
  obtain ⟨x170, e171⟩ : ∃ z : Int32, w 52 2 = z := ⟨_, rfl⟩
  have b172 : (0 : Int) ≤ x170.toInt ∧ x170.toInt ≤ 1 := by rw [← e171]; exact hI 52 2
  have e173 : w145 52 2 = x170 := ((kup_ne u146 rfl : w145 52 2 = w131 52 2).trans ((f134 52 2 rfl : w131 52 2 = w 52 2).trans e171))
  exact cut23 ((((5 - (0 : Int32).toInt)) : Int).toNat + 1) w145 x135 0 I147 F148 (by omega) (by omega) (by rw [e149]; try omega) (by rw [(kup_eq u146)]; try omega) (by rw [e129]; try omega) (by rw [e151, e154, e156, e157]; try omega) (by rw [e161]; try omega) (by rw [e165]; try omega) (by rw [e169]; try omega) (by rw [e173]; try omega) (by rw [e129]; exact R139) (by omega)

set_option maxHeartbeats 4000000 in
set_option maxRecDepth 100000 in
theorem k_m_end (l : Launch) (D : va_G) (τ : Nat → ClassId) (ρ σ : Nat → Nat) (w : kw) (a1 : Int32) (hI : kI false w)  :
    kM l D τ ρ σ yX9_end cX9_end 3 (some .int) { frames := 0, cells := 0, slots := 0, locals := 0 } [.ref (ρ 0), .int a1] w
      (fun o w' => ∃ r : Int32, o = some (.int r) ∧ kI false w' ∧ kF [(0, some 9)] w w' ∧ (0 ≤ a1.toInt ∧ a1.toInt ≤ (w 0 9).toInt ∧ (w' 0 9).toInt = a1.toInt ∧ r.toInt = (w 0 9).toInt ∨ (a1.toInt < 0 ∨ (w 0 9).toInt < a1.toInt) ∧ (w' 0 9).toInt = (w 0 9).toInt ∧ r.toInt = -1)) := by
  refine kM_of (own := "TaleMachine") rfl (by decide) (Nat.le_of_ble_eq_true rfl) ?_
  intro p e s m args below meth c C hr hlk
  have hF0 : kF [(0, some 9)] w w := kF.rf
  have c_m1 : (-1 : Int32).toInt = -1 := by decide
  refine kV.L (L' := [(0, .ref (ρ 0)), (1, .int a1)]) rfl ?_
  have g1 := kf_rng a1
  refine kv_iload_n C 1 rfl 1 (kdec dk_cX9_end 0 rfl) rfl rfl ?_
  refine kv_if_lt C 4 rfl 12 (kdec dk_cX9_end 1 rfl) (by decide) (fun d2 => ?_) (fun d2 => ?_)
  · skip
    refine kv_iconst C 13 rfl (-1) (kdec dk_cX9_end 6 rfl) rfl ?_
    obtain ⟨x3, e4⟩ : ∃ z : Int32, w 0 9 = z := ⟨_, rfl⟩
    have b5 : (0 : Int) ≤ x3.toInt ∧ x3.toInt ≤ 1024 := by rw [← e4]; exact hI 0 9
    exact kv_iret C hr hlk (kdec dk_cX9_end 7 rfl) ⟨_, rfl, hI, hF0, (by rw [e4]; try omega)⟩
  · skip
    refine kv_iload_n C 5 rfl 1 (kdec dk_cX9_end 2 rfl) rfl rfl ?_
    refine kv_aload_n C 6 rfl 0 (kdec dk_cX9_end 3 rfl) rfl rfl ?_
    obtain ⟨x6, e7⟩ : ∃ z : Int32, w 0 9 = z := ⟨_, rfl⟩
    have b8 : (0 : Int) ≤ x6.toInt ∧ x6.toInt ≤ 1024 := by rw [← e7]; exact hI 0 9
    refine kv_get C 9 rfl 0 9 rfl rfl inX9 (by decide) mfl_TaleMachine_71 rfl rfl (kdec dk_cX9_end 4 rfl) e7 ?_
    refine kv_icmp_le C 12 rfl 14 (kdec dk_cX9_end 5 rfl) (by decide) (fun d9 => ?_) (fun d9 => ?_)
    · skip
      refine kv_aload_n C 15 rfl 0 (kdec dk_cX9_end 8 rfl) rfl rfl ?_
      refine kv_get C 18 rfl 0 9 rfl rfl inX9 (by decide) mfl_TaleMachine_71 rfl rfl (kdec dk_cX9_end 9 rfl) e7 ?_
      refine kv_istore_n C 19 rfl 2 [1, 2, 0] [(0, .ref (ρ 0)), (1, .int a1), (2, .int x6)] (kdec dk_cX9_end 10 rfl) rfl (by decide) rfl ?_
      refine kv_aload_n C 20 rfl 0 (kdec dk_cX9_end 11 rfl) rfl rfl ?_
      refine kv_iload_n C 21 rfl 1 (kdec dk_cX9_end 12 rfl) rfl rfl ?_
      refine kv_put C 24 rfl 0 9 rfl rfl inX9 (by decide) mfl_TaleMachine_71 rfl tyX9 tyX9_ok nmX9 rfl rfl (kdec dk_cX9_end 13 rfl) rfl rfl (fun w10 u11 => ?_)
      have I12 : kI false w10 := kI_put u11 hI (show (0 : Int) ≤ (a1 : Int32).toInt by omega) (show (a1 : Int32).toInt ≤ 1024 by omega)
      have F13 : kF [(0, some 9)] w w10 := kF_put u11 hF0 rfl
      refine kv_iload_n C 25 rfl 2 (kdec dk_cX9_end 14 rfl) rfl rfl ?_
      exact kv_iret C hr hlk (kdec dk_cX9_end 15 rfl) ⟨_, rfl, I12, F13, (by rw [e7, (kup_eq u11)]; try omega)⟩
    · skip
      refine kv_iconst C 13 rfl (-1) (kdec dk_cX9_end 6 rfl) rfl ?_
      exact kv_iret C hr hlk (kdec dk_cX9_end 7 rfl) ⟨_, rfl, hI, hF0, (by rw [e7]; try omega)⟩

set_option maxHeartbeats 4000000 in
set_option maxRecDepth 100000 in
theorem k_m_run (l : Launch) (D : va_G) (τ : Nat → ClassId) (ρ σ : Nat → Nat) (w : kw) (a1 : Int32) (hI : kI false w) (hp0 : (w 20 10).toInt = 0 ∨ (w 2 3).toInt ≤ 1024) (hp1 : (w 12 1).toInt ≤ 2000000000 ∧ (w 14 1).toInt ≤ 2000000000) :
    kM l D τ ρ σ yX9_run cX9_run 3 (some .int) { frames := 10, cells := 0, slots := 0, locals := 360 } [.ref (ρ 0), .int a1] w
      (fun o w' => ∃ r : Int32, o = some (.int r) ∧ kI false w' ∧ kF [(2, some 9), (3, none), (5, some 6), (5, some 7), (6, none), (7, none), (8, none), (9, none), (10, none), (11, none), (12, some 1), (13, none), (14, some 1), (15, none), (16, some 1), (16, some 2), (16, some 3), (16, some 4), (16, some 5), (16, some 6), (16, some 7), (16, some 8), (16, some 9), (16, some 10), (16, some 11), (16, some 12), (16, some 13), (20, some 7), (20, some 8), (20, some 9), (20, some 10), (20, some 11), (20, some 12), (20, some 13), (20, some 14), (20, some 15), (20, some 16), (23, none)] w w' ∧ ((w' 20 10).toInt = 0 ∨ (w' 2 3).toInt ≤ 1024) ∧ ((w' 12 1).toInt ≤ (w 12 1).toInt + 150300 ∧ (w' 14 1).toInt ≤ (w 14 1).toInt + 150300) ∧ (¬ (w 20 10).toInt = 0 ∨ (a1.toInt < 0 ∨ 300 < a1.toInt) ∧ r.toInt = -1 ∨ 0 ≤ a1.toInt ∧ a1.toInt ≤ 300 ∧ r.toInt = -2) ∧ ((w 20 10).toInt = 0 ∧ (w' 20 10).toInt = 0 ∨ 1 ≤ (w 20 10).toInt ∧ 1 ≤ (w' 20 10).toInt)) := by
  refine kM_of (own := "TaleMachine") rfl (by decide) (Nat.le_of_ble_eq_true rfl) ?_
  intro p e s m args below meth c C hr hlk
  have hF0 : kF [(2, some 9), (3, none), (5, some 6), (5, some 7), (6, none), (7, none), (8, none), (9, none), (10, none), (11, none), (12, some 1), (13, none), (14, some 1), (15, none), (16, some 1), (16, some 2), (16, some 3), (16, some 4), (16, some 5), (16, some 6), (16, some 7), (16, some 8), (16, some 9), (16, some 10), (16, some 11), (16, some 12), (16, some 13), (20, some 7), (20, some 8), (20, some 9), (20, some 10), (20, some 11), (20, some 12), (20, some 13), (20, some 14), (20, some 15), (20, some 16), (23, none)] w w := kF.rf
  have c_m2 : (-2 : Int32).toInt = -2 := by decide
  have c_m1 : (-1 : Int32).toInt = -1 := by decide
  have c_0 : (0 : Int32).toInt = 0 := by decide
  have c_1 : (1 : Int32).toInt = 1 := by decide
  have c_300 : (300 : Int32).toInt = 300 := by decide
  refine kV.L (L' := [(0, .ref (ρ 0)), (1, .int a1)]) rfl ?_
  obtain ⟨x1, e2⟩ : ∃ z : Int32, w 20 10 = z := ⟨_, rfl⟩
  have b3 : (0 : Int) ≤ x1.toInt ∧ x1.toInt ≤ 4 := by rw [← e2]; exact hI 20 10
  obtain ⟨x4, e5⟩ : ∃ z : Int32, w 2 3 = z := ⟨_, rfl⟩
  have b6 : (0 : Int) ≤ x4.toInt ∧ x4.toInt ≤ 65535 := by rw [← e5]; exact hI 2 3
  rw [e2, e5] at hp0
  obtain ⟨x7, e8⟩ : ∃ z : Int32, w 12 1 = z := ⟨_, rfl⟩
  have b9 : (0 : Int) ≤ x7.toInt ∧ x7.toInt ≤ 2147483647 := by rw [← e8]; exact hI 12 1
  obtain ⟨x10, e11⟩ : ∃ z : Int32, w 14 1 = z := ⟨_, rfl⟩
  have b12 : (0 : Int) ≤ x10.toInt ∧ x10.toInt ≤ 2147483647 := by rw [← e11]; exact hI 14 1
  rw [e8, e11] at hp1
  have g13 := kf_rng a1
  have cut29 : ∀ (n_29 : Nat) (w_29 : kw) (l1_29 l2_29 : Int32), kI false w_29 → kF [(2, some 9), (3, none), (5, some 6), (5, some 7), (6, none), (7, none), (8, none), (9, none), (10, none), (11, none), (12, some 1), (13, none), (14, some 1), (15, none), (16, some 1), (16, some 2), (16, some 3), (16, some 4), (16, some 5), (16, some 6), (16, some 7), (16, some 8), (16, some 9), (16, some 10), (16, some 11), (16, some 12), (16, some 13), (20, some 7), (20, some 8), (20, some 9), (20, some 10), (20, some 11), (20, some 12), (20, some 13), (20, some 14), (20, some 15), (20, some 16), (23, none)] w w_29 → (0 ≤ l2_29.toInt ∧ l2_29.toInt ≤ 300) → (l1_29.toInt ≤ 300) → ((w_29 2 3).toInt ≤ 1024) → ((w_29 12 1).toInt ≤ (w 12 1).toInt + 501 * l2_29.toInt ∧ (w_29 14 1).toInt ≤ (w 14 1).toInt + 501 * l2_29.toInt) → ((w 20 10).toInt = 1) → (1 ≤ (w_29 20 10).toInt) → ((301 - l2_29.toInt) : Int) < (n_29 : Int) → kV p l e { frames := 10, cells := 0, slots := 0, locals := 360 } s m args below meth c (kQ below args s D τ ρ (fun o w' => ∃ r : Int32, o = some (.int r) ∧ kI false w' ∧ kF [(2, some 9), (3, none), (5, some 6), (5, some 7), (6, none), (7, none), (8, none), (9, none), (10, none), (11, none), (12, some 1), (13, none), (14, some 1), (15, none), (16, some 1), (16, some 2), (16, some 3), (16, some 4), (16, some 5), (16, some 6), (16, some 7), (16, some 8), (16, some 9), (16, some 10), (16, some 11), (16, some 12), (16, some 13), (20, some 7), (20, some 8), (20, some 9), (20, some 10), (20, some 11), (20, some 12), (20, some 13), (20, some 14), (20, some 15), (20, some 16), (23, none)] w w' ∧ ((w' 20 10).toInt = 0 ∨ (w' 2 3).toInt ≤ 1024) ∧ ((w' 12 1).toInt ≤ (w 12 1).toInt + 150300 ∧ (w' 14 1).toInt ≤ (w 14 1).toInt + 150300) ∧ (¬ (w 20 10).toInt = 0 ∨ (a1.toInt < 0 ∨ 300 < a1.toInt) ∧ r.toInt = -1 ∨ 0 ≤ a1.toInt ∧ a1.toInt ≤ 300 ∧ r.toInt = -2) ∧ ((w 20 10).toInt = 0 ∧ (w' 20 10).toInt = 0 ∨ 1 ≤ (w 20 10).toInt ∧ 1 ≤ (w' 20 10).toInt))) 3 D τ ρ 29 [(0, .ref (ρ 0)), (1, .int l1_29), (2, .int l2_29)] [] w_29 := by
    intro n_29
    induction n_29 with
    | zero => intro w_29 l1_29 l2_29 I_29 F_29 k29_0 k29_1 k29_2 k29_3 k29_4 k29_5 hmz; exfalso; omega
    | succ n_29 ih29 =>
      intro w_29 l1_29 l2_29 I_29 F_29 k29_0 k29_1 k29_2 k29_3 k29_4 k29_5 hm29
      have gl1_29 := kf_rng l1_29
      have gl2_29 := kf_rng l2_29
      have e14 : w_29 2 3 = x4 := ((F_29 2 3 rfl : w_29 2 3 = w 2 3).trans e5)
      rw [e14] at k29_2
      obtain ⟨x15, e16⟩ : ∃ z : Int32, w_29 12 1 = z := ⟨_, rfl⟩
      have b17 : (0 : Int) ≤ x15.toInt ∧ x15.toInt ≤ 2147483647 := by rw [← e16]; exact I_29 12 1
      obtain ⟨x18, e19⟩ : ∃ z : Int32, w_29 14 1 = z := ⟨_, rfl⟩
      have b20 : (0 : Int) ≤ x18.toInt ∧ x18.toInt ≤ 2147483647 := by rw [← e19]; exact I_29 14 1
      rw [e8, e11, e16, e19] at k29_3
      rw [e2] at k29_4
      obtain ⟨x21, e22⟩ : ∃ z : Int32, w_29 20 10 = z := ⟨_, rfl⟩
      have b23 : (0 : Int) ≤ x21.toInt ∧ x21.toInt ≤ 4 := by rw [← e22]; exact I_29 20 10
      rw [e22] at k29_5
      refine kv_iload_n C 30 rfl 2 (kdec dk_cX9_run 16 rfl) rfl rfl ?_
      refine kv_iload_n C 31 rfl 1 (kdec dk_cX9_run 17 rfl) rfl rfl ?_
      refine kv_icmp_ge C 34 rfl 58 (kdec dk_cX9_run 18 rfl) (by decide) (fun d24 => ?_) (fun d24 => ?_)
      · skip
        refine kv_aload_n C 59 rfl 0 (kdec dk_cX9_run 29 rfl) rfl rfl ?_
        refine kv_getr C 62 rfl 0 7 rfl rfl inX9 (by decide) mfl_TaleMachine_60 rfl rfl (kdec dk_cX9_run 30 rfl) ?_
        refine kv_getN C 65 rfl 20 10 rfl rfl inX1 (by decide) mfn_TaleMachine_86 rfl rfl (kdec dk_cX9_run 31 rfl) e22 ?_
        exact kv_iret C hr hlk (kdec dk_cX9_run 32 rfl) ⟨_, rfl, I_29, F_29, (by rw [e22, e14]; try omega), (by rw [e8, e11, e16, e19]; try omega), (by rw [e2]; try omega), (by rw [e2, e22]; try omega)⟩
      · skip
        refine kv_aload_n C 35 rfl 0 (kdec dk_cX9_run 19 rfl) rfl rfl ?_
        refine kv_getr C 38 rfl 0 7 rfl rfl inX9 (by decide) mfl_TaleMachine_60 rfl rfl (kdec dk_cX9_run 20 rfl) ?_
        refine kv_getN C 41 rfl 20 10 rfl rfl inX1 (by decide) mfn_TaleMachine_86 rfl rfl (kdec dk_cX9_run 21 rfl) e22 ?_
        refine kv_iconst C 42 rfl 1 (kdec dk_cX9_run 22 rfl) rfl ?_
        refine kv_icmp_ne C 45 rfl 58 (kdec dk_cX9_run 23 rfl) (by decide) (fun d25 => ?_) (fun d25 => ?_)
        · skip
          refine kv_aload_n C 59 rfl 0 (kdec dk_cX9_run 29 rfl) rfl rfl ?_
          refine kv_getr C 62 rfl 0 7 rfl rfl inX9 (by decide) mfl_TaleMachine_60 rfl rfl (kdec dk_cX9_run 30 rfl) ?_
          refine kv_getN C 65 rfl 20 10 rfl rfl inX1 (by decide) mfn_TaleMachine_86 rfl rfl (kdec dk_cX9_run 31 rfl) e22 ?_
          exact kv_iret C hr hlk (kdec dk_cX9_run 32 rfl) ⟨_, rfl, I_29, F_29, (by rw [e22, e14]; try omega), (by rw [e8, e11, e16, e19]; try omega), (by rw [e2]; try omega), (by rw [e2, e22]; try omega)⟩
        · skip
          refine kv_aload_n C 46 rfl 0 (kdec dk_cX9_run 24 rfl) rfl rfl ?_
          refine kv_getr C 49 rfl 0 7 rfl rfl inX9 (by decide) mfl_TaleMachine_60 rfl rfl (kdec dk_cX9_run 25 rfl) ?_
          refine kv_callVNv (As := []) (rest := []) C 52 rfl 20 (k_e_obey l D τ ρ σ w_29  (kI_strong I_29 (by rw [e14]; omega)) (by rw [e16, e19]; try omega)) rfl rfl mmn_TaleMachine_92 mim_yX1_obey mse_yX1_obey mcd_yX1_obey min_yX1_obey hd_yX1_obey rfl rfl rfl (by decide) rfl (Nat.le_of_ble_eq_true rfl) (kdec dk_cX9_run 26 rfl) (fun w26 h27 => ?_)
          obtain ⟨I28, f29, p31, p32⟩ := h27
          have I34 := kI_weak I28
          have F33 : kF [(2, some 9), (3, none), (5, some 6), (5, some 7), (6, none), (7, none), (8, none), (9, none), (10, none), (11, none), (12, some 1), (13, none), (14, some 1), (15, none), (16, some 1), (16, some 2), (16, some 3), (16, some 4), (16, some 5), (16, some 6), (16, some 7), (16, some 8), (16, some 9), (16, some 10), (16, some 11), (16, some 12), (16, some 13), (20, some 7), (20, some 8), (20, some 9), (20, some 10), (20, some 11), (20, some 12), (20, some 13), (20, some 14), (20, some 15), (20, some 16), (23, none)] w w26 := kF_call F_29 f29 (by decide)
          obtain ⟨x35, e36⟩ : ∃ z : Int32, w26 12 1 = z := ⟨_, rfl⟩
          have b37 : (0 : Int) ≤ x35.toInt ∧ x35.toInt ≤ 2147483647 := by rw [← e36]; exact I34 12 1
          obtain ⟨x38, e39⟩ : ∃ z : Int32, w26 14 1 = z := ⟨_, rfl⟩
          have b40 : (0 : Int) ≤ x38.toInt ∧ x38.toInt ≤ 2147483647 := by rw [← e39]; exact I34 14 1
          rw [e16, e19, e36, e39] at p31
          obtain ⟨x41, e42⟩ : ∃ z : Int32, w26 20 10 = z := ⟨_, rfl⟩
          have b43 : (0 : Int) ≤ x41.toInt ∧ x41.toInt ≤ 4 := by rw [← e42]; exact I34 20 10
          rw [e22, e42] at p32
          refine kv_iinc C 55 rfl 2 2 [1, 2, 0] (fun v9 => [(0, .ref (ρ 0)), (1, .int l1_29), (2, .int v9)]) (kdec dk_cX9_run 27 rfl) rfl (by decide) (fun _ => rfl) 1 rfl (fun x44 q45 h46e h46 h46l h46u => ?_)
          try have h46n : x44.toInt = l2_29.toInt + 1 := by omega
          clear h46 q45
          refine kv_goto C 29 (kdec dk_cX9_run 28 rfl) (by decide) ?_
          have e47 : w26 2 3 = x4 := ((f29 2 3 rfl : w26 2 3 = w_29 2 3).trans e14)
          exact ih29 w26 l1_29 x44 I34 F33 (by omega) (by omega) (by rw [e47]; try omega) (by rw [e8, e11, e36, e39]; try omega) (by rw [e2]; try omega) (by rw [e42]; try omega) (by omega)
  refine kv_iload_n C 1 rfl 1 (kdec dk_cX9_run 0 rfl) rfl rfl ?_
  refine kv_if_lt C 4 rfl 11 (kdec dk_cX9_run 1 rfl) (by decide) (fun d48 => ?_) (fun d48 => ?_)
  · skip
    refine kv_iconst C 12 rfl (-1) (kdec dk_cX9_run 5 rfl) rfl ?_
    exact kv_iret C hr hlk (kdec dk_cX9_run 6 rfl) ⟨_, rfl, hI, hF0, (by rw [e2, e5]; try omega), (by rw [e8, e11]; try omega), (by rw [e2]; try omega), (by rw [e2]; try omega)⟩
  · skip
    refine kv_iload_n C 5 rfl 1 (kdec dk_cX9_run 2 rfl) rfl rfl ?_
    refine kv_sipush C 8 rfl 300 (kdec dk_cX9_run 3 rfl) rfl ?_
    refine kv_icmp_le C 11 rfl 13 (kdec dk_cX9_run 4 rfl) (by decide) (fun d49 => ?_) (fun d49 => ?_)
    · skip
      refine kv_aload_n C 14 rfl 0 (kdec dk_cX9_run 7 rfl) rfl rfl ?_
      refine kv_getr C 17 rfl 0 7 rfl rfl inX9 (by decide) mfl_TaleMachine_60 rfl rfl (kdec dk_cX9_run 8 rfl) ?_
      refine kv_getN C 20 rfl 20 10 rfl rfl inX1 (by decide) mfn_TaleMachine_86 rfl rfl (kdec dk_cX9_run 9 rfl) e2 ?_
      refine kv_iconst C 21 rfl 1 (kdec dk_cX9_run 10 rfl) rfl ?_
      refine kv_icmp_eq C 24 rfl 27 (kdec dk_cX9_run 11 rfl) (by decide) (fun d50 => ?_) (fun d50 => ?_)
      · skip
        refine kv_iconst C 28 rfl 0 (kdec dk_cX9_run 14 rfl) rfl ?_
        refine kv_istore_n C 29 rfl 2 [1, 2, 0] [(0, .ref (ρ 0)), (1, .int a1), (2, .int 0)] (kdec dk_cX9_run 15 rfl) rfl (by decide) rfl ?_
        exact cut29 ((((301 - (0 : Int32).toInt)) : Int).toNat + 1) w a1 0 hI hF0 (by omega) (by omega) (by rw [e5]; try omega) (by rw [e8, e11]; try omega) (by rw [e2]; try omega) (by rw [e2]; try omega) (by omega)
      · skip
        refine kv_bipush C 26 rfl (-2) (kdec dk_cX9_run 12 rfl) rfl ?_
        exact kv_iret C hr hlk (kdec dk_cX9_run 13 rfl) ⟨_, rfl, hI, hF0, (by rw [e2, e5]; try omega), (by rw [e8, e11]; try omega), (by rw [e2]; try omega), (by rw [e2]; try omega)⟩
    · skip
      refine kv_iconst C 12 rfl (-1) (kdec dk_cX9_run 5 rfl) rfl ?_
      exact kv_iret C hr hlk (kdec dk_cX9_run 6 rfl) ⟨_, rfl, hI, hF0, (by rw [e2, e5]; try omega), (by rw [e8, e11]; try omega), (by rw [e2]; try omega), (by rw [e2]; try omega)⟩

set_option maxHeartbeats 4000000 in
set_option maxRecDepth 100000 in
theorem k_m_state (l : Launch) (D : va_G) (τ : Nat → ClassId) (ρ σ : Nat → Nat) (w : kw)  (hI : kI false w)  :
    kM l D τ ρ σ yX9_state cX9_state 1 (some .int) { frames := 0, cells := 0, slots := 0, locals := 0 } [.ref (ρ 0)] w
      (fun o w' => ∃ r : Int32, o = some (.int r) ∧ kI false w' ∧ kF [] w w' ∧ (r.toInt = (w 20 10).toInt)) := by
  refine kM_of (own := "TaleMachine") rfl (by decide) (Nat.le_of_ble_eq_true rfl) ?_
  intro p e s m args below meth c C hr hlk
  have hF0 : kF [] w w := kF.rf
  refine kV.L (L' := [(0, .ref (ρ 0))]) rfl ?_
  refine kv_aload_n C 1 rfl 0 (kdec dk_cX9_state 0 rfl) rfl rfl ?_
  refine kv_getr C 4 rfl 0 7 rfl rfl inX9 (by decide) mfl_TaleMachine_60 rfl rfl (kdec dk_cX9_state 1 rfl) ?_
  obtain ⟨x1, e2⟩ : ∃ z : Int32, w 20 10 = z := ⟨_, rfl⟩
  have b3 : (0 : Int) ≤ x1.toInt ∧ x1.toInt ≤ 4 := by rw [← e2]; exact hI 20 10
  refine kv_getN C 7 rfl 20 10 rfl rfl inX1 (by decide) mfn_TaleMachine_86 rfl rfl (kdec dk_cX9_state 2 rfl) e2 ?_
  exact kv_iret C hr hlk (kdec dk_cX9_state 3 rfl) ⟨_, rfl, hI, hF0, (by rw [e2]; try omega)⟩

set_option maxHeartbeats 4000000 in
set_option maxRecDepth 100000 in
theorem k_m_line (l : Launch) (D : va_G) (τ : Nat → ClassId) (ρ σ : Nat → Nat) (w : kw) (a1 : Int32) (a2 : Int32) (hI : kI false w) (hp0 : (w 20 10).toInt = 0 ∨ (w 2 3).toInt ≤ 1024) :
    kM l D τ ρ σ yX9_line cX9_line 4 (some .int) { frames := 7, cells := 0, slots := 0, locals := 252 } [.ref (ρ 0), .int a1, .int a2] w
      (fun o w' => ∃ r : Int32, o = some (.int r) ∧ kI false w' ∧ kF [(2, some 9), (3, none), (17, some 3), (17, some 4), (17, some 5), (17, some 6), (17, some 7), (18, none), (19, none), (20, some 10)] w w' ∧ ((w' 20 10).toInt = 0 ∨ (w' 2 3).toInt ≤ 1024) ∧ ((w 20 10).toInt = 3 ∨ r.toInt = -2) ∧ ((w 20 10).toInt = 0 ∧ (w' 20 10).toInt = 0 ∨ 1 ≤ (w 20 10).toInt ∧ 1 ≤ (w' 20 10).toInt)) := by
  refine kM_of (own := "TaleMachine") rfl (by decide) (Nat.le_of_ble_eq_true rfl) ?_
  intro p e s m args below meth c C hr hlk
  have hF0 : kF [(2, some 9), (3, none), (17, some 3), (17, some 4), (17, some 5), (17, some 6), (17, some 7), (18, none), (19, none), (20, some 10)] w w := kF.rf
  have c_m10 : (-10 : Int32).toInt = -10 := by decide
  have c_m2 : (-2 : Int32).toInt = -2 := by decide
  have c_1 : (1 : Int32).toInt = 1 := by decide
  have c_3 : (3 : Int32).toInt = 3 := by decide
  have c_4 : (4 : Int32).toInt = 4 := by decide
  refine kV.L (L' := [(0, .ref (ρ 0)), (1, .int a1), (2, .int a2)]) rfl ?_
  obtain ⟨x1, e2⟩ : ∃ z : Int32, w 20 10 = z := ⟨_, rfl⟩
  have b3 : (0 : Int) ≤ x1.toInt ∧ x1.toInt ≤ 4 := by rw [← e2]; exact hI 20 10
  obtain ⟨x4, e5⟩ : ∃ z : Int32, w 2 3 = z := ⟨_, rfl⟩
  have b6 : (0 : Int) ≤ x4.toInt ∧ x4.toInt ≤ 65535 := by rw [← e5]; exact hI 2 3
  rw [e2, e5] at hp0
  have g7 := kf_rng a1
  have g8 := kf_rng a2
  refine kv_aload_n C 1 rfl 0 (kdec dk_cX9_line 0 rfl) rfl rfl ?_
  refine kv_getr C 4 rfl 0 7 rfl rfl inX9 (by decide) mfl_TaleMachine_60 rfl rfl (kdec dk_cX9_line 1 rfl) ?_
  refine kv_getN C 7 rfl 20 10 rfl rfl inX1 (by decide) mfn_TaleMachine_86 rfl rfl (kdec dk_cX9_line 2 rfl) e2 ?_
  refine kv_iconst C 8 rfl 3 (kdec dk_cX9_line 3 rfl) rfl ?_
  refine kv_icmp_eq C 11 rfl 14 (kdec dk_cX9_line 4 rfl) (by decide) (fun d9 => ?_) (fun d9 => ?_)
  · skip
    refine kv_aload_n C 15 rfl 0 (kdec dk_cX9_line 7 rfl) rfl rfl ?_
    refine kv_getr C 18 rfl 0 6 rfl rfl inX9 (by decide) mfl_TaleMachine_51 rfl rfl (kdec dk_cX9_line 8 rfl) ?_
    refine kv_iload_n C 19 rfl 1 (kdec dk_cX9_line 9 rfl) rfl rfl ?_
    refine kv_iload_n C 20 rfl 2 (kdec dk_cX9_line 10 rfl) rfl rfl ?_
    refine kv_callVNv (As := [.int a1, .int a2]) (rest := []) C 23 rfl 17 (k_r_hear l D τ ρ σ w a1 a2 (kI_strong hI (by rw [e5]; omega)) ) rfl rfl mmn_TaleMachine_95 mim_yX4_hear mse_yX4_hear mcd_yX4_hear min_yX4_hear hd_yX4_hear rfl rfl rfl (by decide) rfl (Nat.le_of_ble_eq_true rfl) (kdec dk_cX9_line 11 rfl) (fun w10 h11 => ?_)
    obtain ⟨I12, f13⟩ := h11
    have I16 := kI_weak I12
    have F15 : kF [(2, some 9), (3, none), (17, some 3), (17, some 4), (17, some 5), (17, some 6), (17, some 7), (18, none), (19, none), (20, some 10)] w w10 := kF_call hF0 f13 (by decide)
    refine kv_aload_n C 24 rfl 0 (kdec dk_cX9_line 12 rfl) rfl rfl ?_
    refine kv_getr C 27 rfl 0 6 rfl rfl inX9 (by decide) mfl_TaleMachine_51 rfl rfl (kdec dk_cX9_line 13 rfl) ?_
    refine kv_aload_n C 28 rfl 0 (kdec dk_cX9_line 14 rfl) rfl rfl ?_
    refine kv_getr C 31 rfl 0 7 rfl rfl inX9 (by decide) mfl_TaleMachine_60 rfl rfl (kdec dk_cX9_line 15 rfl) ?_
    obtain ⟨x17, e18⟩ : ∃ z : Int32, w 20 13 = z := ⟨_, rfl⟩
    have b19 : (-2147483648 : Int) ≤ x17.toInt ∧ x17.toInt ≤ 2147483647 := by rw [← e18]; exact hI 20 13
    have e20 : w10 20 13 = x17 := ((f13 20 13 rfl : w10 20 13 = w 20 13).trans e18)
    refine kv_getN C 34 rfl 20 13 rfl rfl inX1 (by decide) mfn_TaleMachine_99 rfl rfl (kdec dk_cX9_line 16 rfl) e20 ?_
    refine kv_aload_n C 35 rfl 0 (kdec dk_cX9_line 17 rfl) rfl rfl ?_
    refine kv_getr C 38 rfl 0 7 rfl rfl inX9 (by decide) mfl_TaleMachine_60 rfl rfl (kdec dk_cX9_line 18 rfl) ?_
    obtain ⟨x21, e22⟩ : ∃ z : Int32, w 20 14 = z := ⟨_, rfl⟩
    have b23 : (-2147483648 : Int) ≤ x21.toInt ∧ x21.toInt ≤ 2147483647 := by rw [← e22]; exact hI 20 14
    have e24 : w10 20 14 = x21 := ((f13 20 14 rfl : w10 20 14 = w 20 14).trans e22)
    refine kv_getN C 41 rfl 20 14 rfl rfl inX1 (by decide) mfn_TaleMachine_102 rfl rfl (kdec dk_cX9_line 19 rfl) e24 ?_
    have e25 : w10 2 3 = x4 := ((f13 2 3 rfl : w10 2 3 = w 2 3).trans e5)
    refine kv_callVNi (As := [.int x17, .int x21]) (rest := []) C 44 rfl 17 (k_r_part l D τ ρ σ w10 x17 x21 (kI_strong I16 (by rw [e25]; omega)) ) rfl rfl mmn_TaleMachine_105 mim_yX4_part mse_yX4_part mcd_yX4_part min_yX4_part hd_yX4_part rfl rfl rfl (by decide) rfl (Nat.le_of_ble_eq_true rfl) (kdec dk_cX9_line 20 rfl) (fun x30 w26 h27 => ?_)
    obtain ⟨I28, f29⟩ := h27
    have I32 := kI_weak I28
    have F31 : kF [(2, some 9), (3, none), (17, some 3), (17, some 4), (17, some 5), (17, some 6), (17, some 7), (18, none), (19, none), (20, some 10)] w w26 := kF_call F15 f29 (by decide)
    have g33 := kf_rng x30
    refine kv_istore_n C 45 rfl 3 [1, 2, 3, 0] [(0, .ref (ρ 0)), (1, .int a1), (2, .int a2), (3, .int x30)] (kdec dk_cX9_line 21 rfl) rfl (by decide) rfl ?_
    refine kv_aload_n C 46 rfl 0 (kdec dk_cX9_line 22 rfl) rfl rfl ?_
    refine kv_getr C 49 rfl 0 1 rfl rfl inX9 (by decide) mfl_TaleMachine_16 rfl rfl (kdec dk_cX9_line 23 rfl) ?_
    obtain ⟨x34, e35⟩ : ∃ z : Int32, w26 2 9 = z := ⟨_, rfl⟩
    have b36 : (0 : Int) ≤ x34.toInt ∧ x34.toInt ≤ 13 := by rw [← e35]; exact I32 2 9
    refine kv_getN C 52 rfl 2 9 rfl rfl inX6 (by decide) mfn_TaleMachine_109 rfl rfl (kdec dk_cX9_line 24 rfl) e35 ?_
    refine kv_if_eq C 55 rfl 74 (kdec dk_cX9_line 25 rfl) (by decide) (fun d37 => ?_) (fun d37 => ?_)
    · skip
      refine kv_aload_n C 75 rfl 0 (kdec dk_cX9_line 36 rfl) rfl rfl ?_
      refine kv_getr C 78 rfl 0 7 rfl rfl inX9 (by decide) mfl_TaleMachine_60 rfl rfl (kdec dk_cX9_line 37 rfl) ?_
      refine kv_iconst C 79 rfl 1 (kdec dk_cX9_line 38 rfl) rfl ?_
      refine kv_putN C 82 rfl 20 10 rfl rfl inX1 (by decide) mfn_TaleMachine_86 rfl tyX1 tyX1_ok nmX1 rfl rfl (kdec dk_cX9_line 39 rfl) rfl rfl (fun w38 u39 => ?_)
      have I40 : kI false w38 := kI_put u39 I32 (show (0 : Int) ≤ (1 : Int32).toInt by omega) (show (1 : Int32).toInt ≤ 4 by omega)
      have F41 : kF [(2, some 9), (3, none), (17, some 3), (17, some 4), (17, some 5), (17, some 6), (17, some 7), (18, none), (19, none), (20, some 10)] w w38 := kF_put u39 F31 rfl
      refine kv_iload_n C 83 rfl 3 (kdec dk_cX9_line 40 rfl) rfl rfl ?_
      have e42 : w38 2 3 = x4 := ((kup_ne u39 rfl : w38 2 3 = w26 2 3).trans ((f29 2 3 rfl : w26 2 3 = w10 2 3).trans e25))
      exact kv_iret C hr hlk (kdec dk_cX9_line 41 rfl) ⟨_, rfl, I40, F41, (by rw [(kup_eq u39), e42]; try omega), (by rw [e2]; try omega), (by rw [e2, (kup_eq u39)]; try omega)⟩
    · skip
      refine kv_aload_n C 56 rfl 0 (kdec dk_cX9_line 26 rfl) rfl rfl ?_
      refine kv_getr C 59 rfl 0 7 rfl rfl inX9 (by decide) mfl_TaleMachine_60 rfl rfl (kdec dk_cX9_line 27 rfl) ?_
      refine kv_iconst C 60 rfl 4 (kdec dk_cX9_line 28 rfl) rfl ?_
      refine kv_putN C 63 rfl 20 10 rfl rfl inX1 (by decide) mfn_TaleMachine_86 rfl tyX1 tyX1_ok nmX1 rfl rfl (kdec dk_cX9_line 29 rfl) rfl rfl (fun w43 u44 => ?_)
      have I45 : kI false w43 := kI_put u44 I32 (show (0 : Int) ≤ (4 : Int32).toInt by omega) (show (4 : Int32).toInt ≤ 4 by omega)
      have F46 : kF [(2, some 9), (3, none), (17, some 3), (17, some 4), (17, some 5), (17, some 6), (17, some 7), (18, none), (19, none), (20, some 10)] w w43 := kF_put u44 F31 rfl
      refine kv_bipush C 65 rfl (-10) (kdec dk_cX9_line 30 rfl) rfl ?_
      refine kv_aload_n C 66 rfl 0 (kdec dk_cX9_line 31 rfl) rfl rfl ?_
      refine kv_getr C 69 rfl 0 1 rfl rfl inX9 (by decide) mfl_TaleMachine_16 rfl rfl (kdec dk_cX9_line 32 rfl) ?_
      have e47 : w43 2 9 = x34 := ((kup_ne u44 rfl : w43 2 9 = w26 2 9).trans e35)
      refine kv_getN C 72 rfl 2 9 rfl rfl inX6 (by decide) mfn_TaleMachine_109 rfl rfl (kdec dk_cX9_line 33 rfl) e47 ?_
      refine kv_isub C 73 rfl (kdec dk_cX9_line 34 rfl) (fun x48 q50 h49e h49 h49l h49u => ?_)
      try have h49n : x48.toInt = ((-10) : Int32).toInt - x34.toInt := by omega
      clear h49 q50
      have e51 : w43 2 3 = x4 := ((kup_ne u44 rfl : w43 2 3 = w26 2 3).trans ((f29 2 3 rfl : w26 2 3 = w10 2 3).trans e25))
      exact kv_iret C hr hlk (kdec dk_cX9_line 35 rfl) ⟨_, rfl, I45, F46, (by rw [(kup_eq u44), e51]; try omega), (by rw [e2]; try omega), (by rw [e2, (kup_eq u44)]; try omega)⟩
  · skip
    refine kv_bipush C 13 rfl (-2) (kdec dk_cX9_line 5 rfl) rfl ?_
    exact kv_iret C hr hlk (kdec dk_cX9_line 6 rfl) ⟨_, rfl, hI, hF0, (by rw [e2, e5]; try omega), (by rw [e2]; try omega), (by rw [e2]; try omega)⟩

set_option maxHeartbeats 4000000 in
set_option maxRecDepth 100000 in
theorem k_m_start (l : Launch) (D : va_G) (τ : Nat → ClassId) (ρ σ : Nat → Nat) (w : kw)  (hI : kI false w) (hp0 : (w 20 10).toInt = 0 ∨ (w 2 3).toInt ≤ 1024) (hp1 : (w 12 1).toInt ≤ 2000000000 ∧ (w 14 1).toInt ≤ 2000000000) :
    kM l D τ ρ σ yX9_start cX9_start 1 (some .int) { frames := 5, cells := 0, slots := 0, locals := 180 } [.ref (ρ 0)] w
      (fun o w' => ∃ r : Int32, o = some (.int r) ∧ kI false w' ∧ kF [(2, some 9), (3, none), (5, some 6), (5, some 7), (8, none), (9, none), (12, some 1), (20, some 8), (20, some 9), (20, some 10), (20, some 11), (20, some 12)] w w' ∧ ((w' 20 10).toInt = 0 ∨ (w' 2 3).toInt ≤ 1024) ∧ ((w 20 10).toInt = 0 ∧ r.toInt = -2 ∨ ¬ (w 20 10).toInt = 0 ∧ r.toInt = 1) ∧ ((w' 12 1).toInt ≤ (w 12 1).toInt + 0 ∧ (w' 14 1).toInt ≤ (w 14 1).toInt + 0) ∧ ((w 20 10).toInt = 0 ∧ (w' 20 10).toInt = 0 ∨ 1 ≤ (w 20 10).toInt ∧ 1 ≤ (w' 20 10).toInt)) := by
  refine kM_of (own := "TaleMachine") rfl (by decide) (Nat.le_of_ble_eq_true rfl) ?_
  intro p e s m args below meth c C hr hlk
  have hF0 : kF [(2, some 9), (3, none), (5, some 6), (5, some 7), (8, none), (9, none), (12, some 1), (20, some 8), (20, some 9), (20, some 10), (20, some 11), (20, some 12)] w w := kF.rf
  have c_m2 : (-2 : Int32).toInt = -2 := by decide
  have c_1 : (1 : Int32).toInt = 1 := by decide
  refine kV.L (L' := [(0, .ref (ρ 0))]) rfl ?_
  obtain ⟨x1, e2⟩ : ∃ z : Int32, w 20 10 = z := ⟨_, rfl⟩
  have b3 : (0 : Int) ≤ x1.toInt ∧ x1.toInt ≤ 4 := by rw [← e2]; exact hI 20 10
  obtain ⟨x4, e5⟩ : ∃ z : Int32, w 2 3 = z := ⟨_, rfl⟩
  have b6 : (0 : Int) ≤ x4.toInt ∧ x4.toInt ≤ 65535 := by rw [← e5]; exact hI 2 3
  rw [e2, e5] at hp0
  obtain ⟨x7, e8⟩ : ∃ z : Int32, w 12 1 = z := ⟨_, rfl⟩
  have b9 : (0 : Int) ≤ x7.toInt ∧ x7.toInt ≤ 2147483647 := by rw [← e8]; exact hI 12 1
  obtain ⟨x10, e11⟩ : ∃ z : Int32, w 14 1 = z := ⟨_, rfl⟩
  have b12 : (0 : Int) ≤ x10.toInt ∧ x10.toInt ≤ 2147483647 := by rw [← e11]; exact hI 14 1
  rw [e8, e11] at hp1
  refine kv_aload_n C 1 rfl 0 (kdec dk_cX9_start 0 rfl) rfl rfl ?_
  refine kv_getr C 4 rfl 0 7 rfl rfl inX9 (by decide) mfl_TaleMachine_60 rfl rfl (kdec dk_cX9_start 1 rfl) ?_
  refine kv_getN C 7 rfl 20 10 rfl rfl inX1 (by decide) mfn_TaleMachine_86 rfl rfl (kdec dk_cX9_start 2 rfl) e2 ?_
  refine kv_if_ne C 10 rfl 13 (kdec dk_cX9_start 3 rfl) (by decide) (fun d13 => ?_) (fun d13 => ?_)
  · skip
    refine kv_aload_n C 14 rfl 0 (kdec dk_cX9_start 6 rfl) rfl rfl ?_
    refine kv_getr C 17 rfl 0 7 rfl rfl inX9 (by decide) mfl_TaleMachine_60 rfl rfl (kdec dk_cX9_start 7 rfl) ?_
    refine kv_callVNv (As := []) (rest := []) C 20 rfl 20 (k_e_begin l D τ ρ σ w  (kI_strong hI (by rw [e5]; omega)) ) rfl rfl mmn_TaleMachine_89 mim_yX1_begin mse_yX1_begin mcd_yX1_begin min_yX1_begin hd_yX1_begin rfl rfl rfl (by decide) rfl (Nat.le_of_ble_eq_true rfl) (kdec dk_cX9_start 8 rfl) (fun w14 h15 => ?_)
    obtain ⟨I16, f17, p19, p20⟩ := h15
    have I22 := kI_weak I16
    have F21 : kF [(2, some 9), (3, none), (5, some 6), (5, some 7), (8, none), (9, none), (12, some 1), (20, some 8), (20, some 9), (20, some 10), (20, some 11), (20, some 12)] w w14 := kF_call hF0 f17 (by decide)
    obtain ⟨x23, e24⟩ : ∃ z : Int32, w14 12 1 = z := ⟨_, rfl⟩
    have b25 : (0 : Int) ≤ x23.toInt ∧ x23.toInt ≤ 2147483647 := by rw [← e24]; exact I22 12 1
    rw [e24] at p19
    obtain ⟨x26, e27⟩ : ∃ z : Int32, w14 20 10 = z := ⟨_, rfl⟩
    have b28 : (0 : Int) ≤ x26.toInt ∧ x26.toInt ≤ 4 := by rw [← e27]; exact I22 20 10
    rw [e27] at p20
    refine kv_iconst C 21 rfl 1 (kdec dk_cX9_start 9 rfl) rfl ?_
    have e29 : w14 2 3 = x4 := ((f17 2 3 rfl : w14 2 3 = w 2 3).trans e5)
    have e30 : w14 14 1 = x10 := ((f17 14 1 rfl : w14 14 1 = w 14 1).trans e11)
    exact kv_iret C hr hlk (kdec dk_cX9_start 10 rfl) ⟨_, rfl, I22, F21, (by rw [e27, e29]; try omega), (by rw [e2]; try omega), (by rw [e8, e11, e24, e30]; try omega), (by rw [e2, e27]; try omega)⟩
  · skip
    refine kv_bipush C 12 rfl (-2) (kdec dk_cX9_start 4 rfl) rfl ?_
    exact kv_iret C hr hlk (kdec dk_cX9_start 5 rfl) ⟨_, rfl, hI, hF0, (by rw [e2, e5]; try omega), (by rw [e2]; try omega), (by rw [e8, e11]; try omega), (by rw [e2]; try omega)⟩

set_option maxHeartbeats 4000000 in
set_option maxRecDepth 100000 in
theorem k_m_out (l : Launch) (D : va_G) (τ : Nat → ClassId) (ρ σ : Nat → Nat) (w : kw) (a1 : Int32) (hI : kI false w) (hp0 : (w 20 10).toInt = 0 ∨ (w 2 3).toInt ≤ 1024) :
    kM l D τ ρ σ yX9_out cX9_out 2 (some .int) { frames := 1, cells := 0, slots := 0, locals := 36 } [.ref (ρ 0), .int a1] w
      (fun o w' => ∃ r : Int32, o = some (.int r) ∧ kI false w' ∧ kF [] w w' ∧ (¬ (w 20 10).toInt = 0 ∨ r.toInt = -1)) := by
  refine kM_of (own := "TaleMachine") rfl (by decide) (Nat.le_of_ble_eq_true rfl) ?_
  intro p e s m args below meth c C hr hlk
  have hF0 : kF [] w w := kF.rf
  have c_m1 : (-1 : Int32).toInt = -1 := by decide
  refine kV.L (L' := [(0, .ref (ρ 0)), (1, .int a1)]) rfl ?_
  obtain ⟨x1, e2⟩ : ∃ z : Int32, w 20 10 = z := ⟨_, rfl⟩
  have b3 : (0 : Int) ≤ x1.toInt ∧ x1.toInt ≤ 4 := by rw [← e2]; exact hI 20 10
  obtain ⟨x4, e5⟩ : ∃ z : Int32, w 2 3 = z := ⟨_, rfl⟩
  have b6 : (0 : Int) ≤ x4.toInt ∧ x4.toInt ≤ 65535 := by rw [← e5]; exact hI 2 3
  rw [e2, e5] at hp0
  have g7 := kf_rng a1
  refine kv_aload_n C 1 rfl 0 (kdec dk_cX9_out 0 rfl) rfl rfl ?_
  refine kv_getr C 4 rfl 0 7 rfl rfl inX9 (by decide) mfl_TaleMachine_60 rfl rfl (kdec dk_cX9_out 1 rfl) ?_
  refine kv_getN C 7 rfl 20 10 rfl rfl inX1 (by decide) mfn_TaleMachine_86 rfl rfl (kdec dk_cX9_out 2 rfl) e2 ?_
  refine kv_if_ne C 10 rfl 12 (kdec dk_cX9_out 3 rfl) (by decide) (fun d8 => ?_) (fun d8 => ?_)
  · skip
    refine kv_aload_n C 13 rfl 0 (kdec dk_cX9_out 6 rfl) rfl rfl ?_
    refine kv_getr C 16 rfl 0 3 rfl rfl inX9 (by decide) mfl_TaleMachine_32 rfl rfl (kdec dk_cX9_out 7 rfl) ?_
    refine kv_iload_n C 17 rfl 1 (kdec dk_cX9_out 8 rfl) rfl rfl ?_
    refine kv_callVNi (As := [.int a1]) (rest := []) C 20 rfl 12 (k_codeAtO l D τ ρ σ w a1 (kI_strong hI (by rw [e5]; omega)) ) rfl rfl mmn_TaleMachine_112 mim_yX0_codeAt mse_yX0_codeAt mcd_yX0_codeAt min_yX0_codeAt hd_yX0_codeAt rfl rfl rfl (by decide) rfl (Nat.le_of_ble_eq_true rfl) (kdec dk_cX9_out 9 rfl) (fun x13 w9 h10 => ?_)
    obtain ⟨I11, f12⟩ := h10
    have I15 := kI_weak I11
    have F14 : kF [] w w9 := kF_call hF0 f12 (by decide)
    have g16 := kf_rng x13
    exact kv_iret C hr hlk (kdec dk_cX9_out 10 rfl) ⟨_, rfl, I15, F14, (by rw [e2]; try omega)⟩
  · skip
    refine kv_iconst C 11 rfl (-1) (kdec dk_cX9_out 4 rfl) rfl ?_
    exact kv_iret C hr hlk (kdec dk_cX9_out 5 rfl) ⟨_, rfl, hI, hF0, (by rw [e2]; try omega)⟩

set_option maxHeartbeats 4000000 in
set_option maxRecDepth 100000 in
theorem k_m_count (l : Launch) (D : va_G) (τ : Nat → ClassId) (ρ σ : Nat → Nat) (w : kw) (a1 : Int32) (hI : kI false w) (hp0 : (w 20 10).toInt = 0 ∨ (w 2 3).toInt ≤ 1024) :
    kM l D τ ρ σ yX9_count cX9_count 2 (some .int) { frames := 1, cells := 0, slots := 0, locals := 36 } [.ref (ρ 0), .int a1] w
      (fun o w' => ∃ r : Int32, o = some (.int r) ∧ kI false w' ∧ kF [] w w' ∧ (¬ (w 20 10).toInt = 0 ∨ (a1.toInt < 0 ∨ 9 < a1.toInt) ∧ r.toInt = -1 ∨ a1.toInt = 9 ∧ r.toInt = (w 0 9).toInt ∨ 0 ≤ a1.toInt ∧ a1.toInt ≤ 8 ∧ r.toInt = -2)) := by
  refine kM_of (own := "TaleMachine") rfl (by decide) (Nat.le_of_ble_eq_true rfl) ?_
  intro p e s m args below meth c C hr hlk
  have hF0 : kF [] w w := kF.rf
  have c_m2 : (-2 : Int32).toInt = -2 := by decide
  have c_m1 : (-1 : Int32).toInt = -1 := by decide
  have c_9 : (9 : Int32).toInt = 9 := by decide
  refine kV.L (L' := [(0, .ref (ρ 0)), (1, .int a1)]) rfl ?_
  obtain ⟨x1, e2⟩ : ∃ z : Int32, w 20 10 = z := ⟨_, rfl⟩
  have b3 : (0 : Int) ≤ x1.toInt ∧ x1.toInt ≤ 4 := by rw [← e2]; exact hI 20 10
  obtain ⟨x4, e5⟩ : ∃ z : Int32, w 2 3 = z := ⟨_, rfl⟩
  have b6 : (0 : Int) ≤ x4.toInt ∧ x4.toInt ≤ 65535 := by rw [← e5]; exact hI 2 3
  rw [e2, e5] at hp0
  have g7 := kf_rng a1
  refine kv_iload_n C 1 rfl 1 (kdec dk_cX9_count 0 rfl) rfl rfl ?_
  refine kv_if_lt C 4 rfl 10 (kdec dk_cX9_count 1 rfl) (by decide) (fun d8 => ?_) (fun d8 => ?_)
  · skip
    refine kv_iconst C 11 rfl (-1) (kdec dk_cX9_count 5 rfl) rfl ?_
    obtain ⟨x9, e10⟩ : ∃ z : Int32, w 0 9 = z := ⟨_, rfl⟩
    have b11 : (0 : Int) ≤ x9.toInt ∧ x9.toInt ≤ 1024 := by rw [← e10]; exact hI 0 9
    exact kv_iret C hr hlk (kdec dk_cX9_count 6 rfl) ⟨_, rfl, hI, hF0, (by rw [e2, e10]; try omega)⟩
  · skip
    refine kv_iload_n C 5 rfl 1 (kdec dk_cX9_count 2 rfl) rfl rfl ?_
    refine kv_bipush C 7 rfl 9 (kdec dk_cX9_count 3 rfl) rfl ?_
    refine kv_icmp_le C 10 rfl 12 (kdec dk_cX9_count 4 rfl) (by decide) (fun d12 => ?_) (fun d12 => ?_)
    · skip
      refine kv_iload_n C 13 rfl 1 (kdec dk_cX9_count 7 rfl) rfl rfl ?_
      refine kv_bipush C 15 rfl 9 (kdec dk_cX9_count 8 rfl) rfl ?_
      refine kv_icmp_ne C 18 rfl 23 (kdec dk_cX9_count 9 rfl) (by decide) (fun d13 => ?_) (fun d13 => ?_)
      · skip
        refine kv_aload_n C 24 rfl 0 (kdec dk_cX9_count 13 rfl) rfl rfl ?_
        refine kv_getr C 27 rfl 0 7 rfl rfl inX9 (by decide) mfl_TaleMachine_60 rfl rfl (kdec dk_cX9_count 14 rfl) ?_
        refine kv_getN C 30 rfl 20 10 rfl rfl inX1 (by decide) mfn_TaleMachine_86 rfl rfl (kdec dk_cX9_count 15 rfl) e2 ?_
        refine kv_if_ne C 33 rfl 36 (kdec dk_cX9_count 16 rfl) (by decide) (fun d14 => ?_) (fun d14 => ?_)
        · skip
          refine kv_iload_n C 37 rfl 1 (kdec dk_cX9_count 19 rfl) rfl rfl ?_
          by_cases d15 : a1.toInt = 0
          · skip
            refine kv_tableIn C 0 84 (kdec dk_cX9_count 20 rfl) d15 (by decide) (by decide) rfl (by decide) ?_
            refine kv_aload_n C 85 rfl 0 (kdec dk_cX9_count 21 rfl) rfl rfl ?_
            refine kv_getr C 88 rfl 0 3 rfl rfl inX9 (by decide) mfl_TaleMachine_32 rfl rfl (kdec dk_cX9_count 22 rfl) ?_
            obtain ⟨x16, e17⟩ : ∃ z : Int32, w 12 1 = z := ⟨_, rfl⟩
            have b18 : (0 : Int) ≤ x16.toInt ∧ x16.toInt ≤ 2147483647 := by rw [← e17]; exact hI 12 1
            refine kv_getN C 91 rfl 12 1 rfl rfl inX0 (by decide) mfn_TaleMachine_116 rfl rfl (kdec dk_cX9_count 23 rfl) e17 ?_
            obtain ⟨x19, e20⟩ : ∃ z : Int32, w 0 9 = z := ⟨_, rfl⟩
            have b21 : (0 : Int) ≤ x19.toInt ∧ x19.toInt ≤ 1024 := by rw [← e20]; exact hI 0 9
            exact kv_iret C hr hlk (kdec dk_cX9_count 24 rfl) ⟨_, rfl, hI, hF0, (by rw [e2, e20]; try omega)⟩
          by_cases d22 : a1.toInt = 1
          · skip
            refine kv_tableIn C 1 92 (kdec dk_cX9_count 20 rfl) d22 (by decide) (by decide) rfl (by decide) ?_
            refine kv_aload_n C 93 rfl 0 (kdec dk_cX9_count 25 rfl) rfl rfl ?_
            refine kv_getr C 96 rfl 0 7 rfl rfl inX9 (by decide) mfl_TaleMachine_60 rfl rfl (kdec dk_cX9_count 26 rfl) ?_
            obtain ⟨x23, e24⟩ : ∃ z : Int32, w 20 11 = z := ⟨_, rfl⟩
            have b25 : (-2147483648 : Int) ≤ x23.toInt ∧ x23.toInt ≤ 2147483647 := by rw [← e24]; exact hI 20 11
            refine kv_getN C 99 rfl 20 11 rfl rfl inX1 (by decide) mfn_TaleMachine_119 rfl rfl (kdec dk_cX9_count 27 rfl) e24 ?_
            obtain ⟨x26, e27⟩ : ∃ z : Int32, w 0 9 = z := ⟨_, rfl⟩
            have b28 : (0 : Int) ≤ x26.toInt ∧ x26.toInt ≤ 1024 := by rw [← e27]; exact hI 0 9
            exact kv_iret C hr hlk (kdec dk_cX9_count 28 rfl) ⟨_, rfl, hI, hF0, (by rw [e2, e27]; try omega)⟩
          by_cases d29 : a1.toInt = 2
          · skip
            refine kv_tableIn C 2 100 (kdec dk_cX9_count 20 rfl) d29 (by decide) (by decide) rfl (by decide) ?_
            refine kv_aload_n C 101 rfl 0 (kdec dk_cX9_count 29 rfl) rfl rfl ?_
            refine kv_getr C 104 rfl 0 2 rfl rfl inX9 (by decide) mfl_TaleMachine_23 rfl rfl (kdec dk_cX9_count 30 rfl) ?_
            obtain ⟨x30, e31⟩ : ∃ z : Int32, w 5 6 = z := ⟨_, rfl⟩
            have b32 : (0 : Int) ≤ x30.toInt ∧ x30.toInt ≤ 120 := by rw [← e31]; exact hI 5 6
            refine kv_getN C 107 rfl 5 6 rfl rfl inX3 (by decide) mfn_TaleMachine_122 rfl rfl (kdec dk_cX9_count 31 rfl) e31 ?_
            obtain ⟨x33, e34⟩ : ∃ z : Int32, w 0 9 = z := ⟨_, rfl⟩
            have b35 : (0 : Int) ≤ x33.toInt ∧ x33.toInt ≤ 1024 := by rw [← e34]; exact hI 0 9
            exact kv_iret C hr hlk (kdec dk_cX9_count 32 rfl) ⟨_, rfl, hI, hF0, (by rw [e2, e34]; try omega)⟩
          by_cases d36 : a1.toInt = 3
          · skip
            refine kv_tableIn C 3 108 (kdec dk_cX9_count 20 rfl) d36 (by decide) (by decide) rfl (by decide) ?_
            refine kv_aload_n C 109 rfl 0 (kdec dk_cX9_count 33 rfl) rfl rfl ?_
            refine kv_getr C 112 rfl 0 2 rfl rfl inX9 (by decide) mfl_TaleMachine_23 rfl rfl (kdec dk_cX9_count 34 rfl) ?_
            obtain ⟨x37, e38⟩ : ∃ z : Int32, w 5 7 = z := ⟨_, rfl⟩
            have b39 : (1 : Int) ≤ x37.toInt ∧ x37.toInt ≤ 20 := by rw [← e38]; exact hI 5 7
            refine kv_getN C 115 rfl 5 7 rfl rfl inX3 (by decide) mfn_TaleMachine_125 rfl rfl (kdec dk_cX9_count 35 rfl) e38 ?_
            obtain ⟨x40, e41⟩ : ∃ z : Int32, w 0 9 = z := ⟨_, rfl⟩
            have b42 : (0 : Int) ≤ x40.toInt ∧ x40.toInt ≤ 1024 := by rw [← e41]; exact hI 0 9
            exact kv_iret C hr hlk (kdec dk_cX9_count 36 rfl) ⟨_, rfl, hI, hF0, (by rw [e2, e41]; try omega)⟩
          by_cases d43 : a1.toInt = 4
          · skip
            refine kv_tableIn C 4 116 (kdec dk_cX9_count 20 rfl) d43 (by decide) (by decide) rfl (by decide) ?_
            refine kv_aload_n C 117 rfl 0 (kdec dk_cX9_count 37 rfl) rfl rfl ?_
            refine kv_getr C 120 rfl 0 7 rfl rfl inX9 (by decide) mfl_TaleMachine_60 rfl rfl (kdec dk_cX9_count 38 rfl) ?_
            obtain ⟨x44, e45⟩ : ∃ z : Int32, w 20 8 = z := ⟨_, rfl⟩
            have b46 : (-2147483648 : Int) ≤ x44.toInt ∧ x44.toInt ≤ 2147483647 := by rw [← e45]; exact hI 20 8
            refine kv_getN C 123 rfl 20 8 rfl rfl inX1 (by decide) mfn_TaleMachine_128 rfl rfl (kdec dk_cX9_count 39 rfl) e45 ?_
            obtain ⟨x47, e48⟩ : ∃ z : Int32, w 0 9 = z := ⟨_, rfl⟩
            have b49 : (0 : Int) ≤ x47.toInt ∧ x47.toInt ≤ 1024 := by rw [← e48]; exact hI 0 9
            exact kv_iret C hr hlk (kdec dk_cX9_count 40 rfl) ⟨_, rfl, hI, hF0, (by rw [e2, e48]; try omega)⟩
          by_cases d50 : a1.toInt = 5
          · skip
            refine kv_tableIn C 5 124 (kdec dk_cX9_count 20 rfl) d50 (by decide) (by decide) rfl (by decide) ?_
            refine kv_aload_n C 125 rfl 0 (kdec dk_cX9_count 41 rfl) rfl rfl ?_
            refine kv_getr C 128 rfl 0 1 rfl rfl inX9 (by decide) mfl_TaleMachine_16 rfl rfl (kdec dk_cX9_count 42 rfl) ?_
            obtain ⟨x51, e52⟩ : ∃ z : Int32, w 2 9 = z := ⟨_, rfl⟩
            have b53 : (0 : Int) ≤ x51.toInt ∧ x51.toInt ≤ 13 := by rw [← e52]; exact hI 2 9
            refine kv_getN C 131 rfl 2 9 rfl rfl inX6 (by decide) mfn_TaleMachine_109 rfl rfl (kdec dk_cX9_count 43 rfl) e52 ?_
            obtain ⟨x54, e55⟩ : ∃ z : Int32, w 0 9 = z := ⟨_, rfl⟩
            have b56 : (0 : Int) ≤ x54.toInt ∧ x54.toInt ≤ 1024 := by rw [← e55]; exact hI 0 9
            exact kv_iret C hr hlk (kdec dk_cX9_count 44 rfl) ⟨_, rfl, hI, hF0, (by rw [e2, e55]; try omega)⟩
          by_cases d57 : a1.toInt = 6
          · skip
            refine kv_tableIn C 6 132 (kdec dk_cX9_count 20 rfl) d57 (by decide) (by decide) rfl (by decide) ?_
            refine kv_aload_n C 133 rfl 0 (kdec dk_cX9_count 45 rfl) rfl rfl ?_
            refine kv_getr C 136 rfl 0 2 rfl rfl inX9 (by decide) mfl_TaleMachine_23 rfl rfl (kdec dk_cX9_count 46 rfl) ?_
            refine kv_callVNi (As := []) (rest := []) C 139 rfl 5 (k_localCount l D τ ρ σ w  (kI_strong hI (by rw [e5]; omega)) ) rfl rfl mmn_TaleMachine_131 mim_yX3_localCount mse_yX3_localCount mcd_yX3_localCount min_yX3_localCount hd_yX3_localCount rfl rfl rfl (by decide) rfl (Nat.le_of_ble_eq_true rfl) (kdec dk_cX9_count 47 rfl) (fun x62 w58 h59 => ?_)
            obtain ⟨I60, f61, p63⟩ := h59
            have I65 := kI_weak I60
            have F64 : kF [] w w58 := kF_call hF0 f61 (by decide)
            have g66 := kf_rng x62
            obtain ⟨x67, e68⟩ : ∃ z : Int32, w 0 9 = z := ⟨_, rfl⟩
            have b69 : (0 : Int) ≤ x67.toInt ∧ x67.toInt ≤ 1024 := by rw [← e68]; exact hI 0 9
            exact kv_iret C hr hlk (kdec dk_cX9_count 48 rfl) ⟨_, rfl, I65, F64, (by rw [e2, e68]; try omega)⟩
          by_cases d70 : a1.toInt = 7
          · skip
            refine kv_tableIn C 7 140 (kdec dk_cX9_count 20 rfl) d70 (by decide) (by decide) rfl (by decide) ?_
            refine kv_aload_n C 141 rfl 0 (kdec dk_cX9_count 49 rfl) rfl rfl ?_
            refine kv_getr C 144 rfl 0 1 rfl rfl inX9 (by decide) mfl_TaleMachine_16 rfl rfl (kdec dk_cX9_count 50 rfl) ?_
            obtain ⟨x71, e72⟩ : ∃ z : Int32, w 2 2 = z := ⟨_, rfl⟩
            have b73 : (0 : Int) ≤ x71.toInt ∧ x71.toInt ≤ 1024 := by rw [← e72]; exact hI 2 2
            refine kv_getN C 147 rfl 2 2 rfl rfl inX6 (by decide) mfn_TaleMachine_135 rfl rfl (kdec dk_cX9_count 51 rfl) e72 ?_
            obtain ⟨x74, e75⟩ : ∃ z : Int32, w 0 9 = z := ⟨_, rfl⟩
            have b76 : (0 : Int) ≤ x74.toInt ∧ x74.toInt ≤ 1024 := by rw [← e75]; exact hI 0 9
            exact kv_iret C hr hlk (kdec dk_cX9_count 52 rfl) ⟨_, rfl, hI, hF0, (by rw [e2, e75]; try omega)⟩
          refine kv_tableOut C 148 (kdec dk_cX9_count 20 rfl) (by omega) (by decide) ?_
          refine kv_aload_n C 149 rfl 0 (kdec dk_cX9_count 53 rfl) rfl rfl ?_
          refine kv_getr C 152 rfl 0 1 rfl rfl inX9 (by decide) mfl_TaleMachine_16 rfl rfl (kdec dk_cX9_count 54 rfl) ?_
          refine kv_getN C 155 rfl 2 3 rfl rfl inX6 (by decide) mfn_TaleMachine_138 rfl rfl (kdec dk_cX9_count 55 rfl) e5 ?_
          obtain ⟨x77, e78⟩ : ∃ z : Int32, w 0 9 = z := ⟨_, rfl⟩
          have b79 : (0 : Int) ≤ x77.toInt ∧ x77.toInt ≤ 1024 := by rw [← e78]; exact hI 0 9
          exact kv_iret C hr hlk (kdec dk_cX9_count 56 rfl) ⟨_, rfl, hI, hF0, (by rw [e2, e78]; try omega)⟩
        · skip
          refine kv_bipush C 35 rfl (-2) (kdec dk_cX9_count 17 rfl) rfl ?_
          obtain ⟨x80, e81⟩ : ∃ z : Int32, w 0 9 = z := ⟨_, rfl⟩
          have b82 : (0 : Int) ≤ x80.toInt ∧ x80.toInt ≤ 1024 := by rw [← e81]; exact hI 0 9
          exact kv_iret C hr hlk (kdec dk_cX9_count 18 rfl) ⟨_, rfl, hI, hF0, (by rw [e2, e81]; try omega)⟩
      · skip
        refine kv_aload_n C 19 rfl 0 (kdec dk_cX9_count 10 rfl) rfl rfl ?_
        obtain ⟨x83, e84⟩ : ∃ z : Int32, w 0 9 = z := ⟨_, rfl⟩
        have b85 : (0 : Int) ≤ x83.toInt ∧ x83.toInt ≤ 1024 := by rw [← e84]; exact hI 0 9
        refine kv_get C 22 rfl 0 9 rfl rfl inX9 (by decide) mfl_TaleMachine_71 rfl rfl (kdec dk_cX9_count 11 rfl) e84 ?_
        exact kv_iret C hr hlk (kdec dk_cX9_count 12 rfl) ⟨_, rfl, hI, hF0, (by rw [e2, e84]; try omega)⟩
    · skip
      refine kv_iconst C 11 rfl (-1) (kdec dk_cX9_count 5 rfl) rfl ?_
      obtain ⟨x86, e87⟩ : ∃ z : Int32, w 0 9 = z := ⟨_, rfl⟩
      have b88 : (0 : Int) ≤ x86.toInt ∧ x86.toInt ≤ 1024 := by rw [← e87]; exact hI 0 9
      exact kv_iret C hr hlk (kdec dk_cX9_count 6 rfl) ⟨_, rfl, hI, hF0, (by rw [e2, e87]; try omega)⟩

set_option maxHeartbeats 4000000 in
set_option maxRecDepth 100000 in
theorem k_m_peek (l : Launch) (D : va_G) (τ : Nat → ClassId) (ρ σ : Nat → Nat) (w : kw) (a1 : Int32) (hI : kI false w)  :
    kM l D τ ρ σ yX9_peek cX9_peek 2 (some .int) { frames := 0, cells := 0, slots := 0, locals := 0 } [.ref (ρ 0), .int a1] w
      (fun o w' => ∃ r : Int32, o = some (.int r) ∧ kI false w' ∧ kF [] w w' ∧ (¬ (w 20 10).toInt = 0 ∨ r.toInt = -1)) := by
  refine kM_of (own := "TaleMachine") rfl (by decide) (Nat.le_of_ble_eq_true rfl) ?_
  intro p e s m args below meth c C hr hlk
  have hF0 : kF [] w w := kF.rf
  have c_m1 : (-1 : Int32).toInt = -1 := by decide
  refine kV.L (L' := [(0, .ref (ρ 0)), (1, .int a1)]) rfl ?_
  have g1 := kf_rng a1
  refine kv_aload_n C 1 rfl 0 (kdec dk_cX9_peek 0 rfl) rfl rfl ?_
  refine kv_getr C 4 rfl 0 7 rfl rfl inX9 (by decide) mfl_TaleMachine_60 rfl rfl (kdec dk_cX9_peek 1 rfl) ?_
  obtain ⟨x2, e3⟩ : ∃ z : Int32, w 20 10 = z := ⟨_, rfl⟩
  have b4 : (0 : Int) ≤ x2.toInt ∧ x2.toInt ≤ 4 := by rw [← e3]; exact hI 20 10
  refine kv_getN C 7 rfl 20 10 rfl rfl inX1 (by decide) mfn_TaleMachine_86 rfl rfl (kdec dk_cX9_peek 2 rfl) e3 ?_
  refine kv_if_eq C 10 rfl 25 (kdec dk_cX9_peek 3 rfl) (by decide) (fun d5 => ?_) (fun d5 => ?_)
  · skip
    refine kv_iconst C 26 rfl (-1) (kdec dk_cX9_peek 11 rfl) rfl ?_
    exact kv_iret C hr hlk (kdec dk_cX9_peek 12 rfl) ⟨_, rfl, hI, hF0, (by rw [e3]; try omega)⟩
  · skip
    refine kv_iload_n C 11 rfl 1 (kdec dk_cX9_peek 4 rfl) rfl rfl ?_
    refine kv_if_lt C 14 rfl 25 (kdec dk_cX9_peek 5 rfl) (by decide) (fun d6 => ?_) (fun d6 => ?_)
    · skip
      refine kv_iconst C 26 rfl (-1) (kdec dk_cX9_peek 11 rfl) rfl ?_
      exact kv_iret C hr hlk (kdec dk_cX9_peek 12 rfl) ⟨_, rfl, hI, hF0, (by rw [e3]; try omega)⟩
    · skip
      refine kv_iload_n C 15 rfl 1 (kdec dk_cX9_peek 6 rfl) rfl rfl ?_
      refine kv_aload_n C 16 rfl 0 (kdec dk_cX9_peek 7 rfl) rfl rfl ?_
      refine kv_getr C 19 rfl 0 1 rfl rfl inX9 (by decide) mfl_TaleMachine_16 rfl rfl (kdec dk_cX9_peek 8 rfl) ?_
      obtain ⟨x7, e8⟩ : ∃ z : Int32, w 2 2 = z := ⟨_, rfl⟩
      have b9 : (0 : Int) ≤ x7.toInt ∧ x7.toInt ≤ 1024 := by rw [← e8]; exact hI 2 2
      refine kv_getN C 22 rfl 2 2 rfl rfl inX6 (by decide) mfn_TaleMachine_135 rfl rfl (kdec dk_cX9_peek 9 rfl) e8 ?_
      refine kv_icmp_lt C 25 rfl 27 (kdec dk_cX9_peek 10 rfl) (by decide) (fun d10 => ?_) (fun d10 => ?_)
      · skip
        refine kv_aload_n C 28 rfl 0 (kdec dk_cX9_peek 13 rfl) rfl rfl ?_
        refine kv_getr C 31 rfl 0 1 rfl rfl inX9 (by decide) mfl_TaleMachine_16 rfl rfl (kdec dk_cX9_peek 14 rfl) ?_
        refine kv_getrN C 34 rfl 2 0 rfl rfl inX6 (by decide) mfn_TaleMachine_141 rfl rfl (kdec dk_cX9_peek 15 rfl) ?_
        refine kv_iload_n C 35 rfl 1 (kdec dk_cX9_peek 16 rfl) rfl rfl ?_
        obtain ⟨x11, e12⟩ : ∃ z : Int32, w 3 (a1 : Int32).toNatClampNeg = z := ⟨_, rfl⟩
        have b13 : (0 : Int) ≤ x11.toInt ∧ x11.toInt ≤ 255 := by rw [← e12]; exact hI 3 _
        refine kv_iald C 36 rfl 3 rfl (by omega) (by omega) e12 (kdec dk_cX9_peek 17 rfl) ?_
        exact kv_iret C hr hlk (kdec dk_cX9_peek 18 rfl) ⟨_, rfl, hI, hF0, (by rw [e3]; try omega)⟩
      · skip
        refine kv_iconst C 26 rfl (-1) (kdec dk_cX9_peek 11 rfl) rfl ?_
        exact kv_iret C hr hlk (kdec dk_cX9_peek 12 rfl) ⟨_, rfl, hI, hF0, (by rw [e3]; try omega)⟩

set_option maxHeartbeats 4000000 in
set_option maxRecDepth 100000 in
theorem k_m_word (l : Launch) (D : va_G) (τ : Nat → ClassId) (ρ σ : Nat → Nat) (w : kw) (a1 : Int32) (a2 : Int32) (hI : kI false w) (hp0 : (w 20 10).toInt = 0 ∨ (w 2 3).toInt ≤ 1024) :
    kM l D τ ρ σ yX9_word cX9_word 3 (some .int) { frames := 1, cells := 0, slots := 0, locals := 36 } [.ref (ρ 0), .int a1, .int a2] w
      (fun o w' => ∃ r : Int32, o = some (.int r) ∧ kI false w' ∧ kF [] w w' ∧ (¬ (w 20 10).toInt = 0 ∨ r.toInt = -1)) := by
  refine kM_of (own := "TaleMachine") rfl (by decide) (Nat.le_of_ble_eq_true rfl) ?_
  intro p e s m args below meth c C hr hlk
  have hF0 : kF [] w w := kF.rf
  have c_m1 : (-1 : Int32).toInt = -1 := by decide
  have c_1 : (1 : Int32).toInt = 1 := by decide
  refine kV.L (L' := [(0, .ref (ρ 0)), (1, .int a1), (2, .int a2)]) rfl ?_
  obtain ⟨x1, e2⟩ : ∃ z : Int32, w 20 10 = z := ⟨_, rfl⟩
  have b3 : (0 : Int) ≤ x1.toInt ∧ x1.toInt ≤ 4 := by rw [← e2]; exact hI 20 10
  obtain ⟨x4, e5⟩ : ∃ z : Int32, w 2 3 = z := ⟨_, rfl⟩
  have b6 : (0 : Int) ≤ x4.toInt ∧ x4.toInt ≤ 65535 := by rw [← e5]; exact hI 2 3
  rw [e2, e5] at hp0
  have g7 := kf_rng a1
  have g8 := kf_rng a2
  refine kv_aload_n C 1 rfl 0 (kdec dk_cX9_word 0 rfl) rfl rfl ?_
  refine kv_getr C 4 rfl 0 7 rfl rfl inX9 (by decide) mfl_TaleMachine_60 rfl rfl (kdec dk_cX9_word 1 rfl) ?_
  refine kv_getN C 7 rfl 20 10 rfl rfl inX1 (by decide) mfn_TaleMachine_86 rfl rfl (kdec dk_cX9_word 2 rfl) e2 ?_
  refine kv_if_ne C 10 rfl 12 (kdec dk_cX9_word 3 rfl) (by decide) (fun d9 => ?_) (fun d9 => ?_)
  · skip
    refine kv_iload_n C 13 rfl 2 (kdec dk_cX9_word 6 rfl) rfl rfl ?_
    refine kv_if_eq C 16 rfl 45 (kdec dk_cX9_word 7 rfl) (by decide) (fun d10 => ?_) (fun d10 => ?_)
    · skip
      refine kv_iload_n C 46 rfl 1 (kdec dk_cX9_word 23 rfl) rfl rfl ?_
      refine kv_if_lt C 49 rfl 72 (kdec dk_cX9_word 24 rfl) (by decide) (fun d11 => ?_) (fun d11 => ?_)
      · skip
        refine kv_iconst C 73 rfl (-1) (kdec dk_cX9_word 36 rfl) rfl ?_
        exact kv_iret C hr hlk (kdec dk_cX9_word 37 rfl) ⟨_, rfl, hI, hF0, (by rw [e2]; try omega)⟩
      · skip
        refine kv_iload_n C 50 rfl 1 (kdec dk_cX9_word 25 rfl) rfl rfl ?_
        refine kv_aload_n C 51 rfl 0 (kdec dk_cX9_word 26 rfl) rfl rfl ?_
        refine kv_getr C 54 rfl 0 2 rfl rfl inX9 (by decide) mfl_TaleMachine_23 rfl rfl (kdec dk_cX9_word 27 rfl) ?_
        obtain ⟨x12, e13⟩ : ∃ z : Int32, w 5 6 = z := ⟨_, rfl⟩
        have b14 : (0 : Int) ≤ x12.toInt ∧ x12.toInt ≤ 120 := by rw [← e13]; exact hI 5 6
        refine kv_getN C 57 rfl 5 6 rfl rfl inX3 (by decide) mfn_TaleMachine_122 rfl rfl (kdec dk_cX9_word 28 rfl) e13 ?_
        refine kv_icmp_ge C 60 rfl 72 (kdec dk_cX9_word 29 rfl) (by decide) (fun d15 => ?_) (fun d15 => ?_)
        · skip
          refine kv_iconst C 73 rfl (-1) (kdec dk_cX9_word 36 rfl) rfl ?_
          exact kv_iret C hr hlk (kdec dk_cX9_word 37 rfl) ⟨_, rfl, hI, hF0, (by rw [e2]; try omega)⟩
        · skip
          refine kv_aload_n C 61 rfl 0 (kdec dk_cX9_word 30 rfl) rfl rfl ?_
          refine kv_getr C 64 rfl 0 2 rfl rfl inX9 (by decide) mfl_TaleMachine_23 rfl rfl (kdec dk_cX9_word 31 rfl) ?_
          refine kv_getrN C 67 rfl 5 0 rfl rfl inX3 (by decide) mfn_TaleMachine_147 rfl rfl (kdec dk_cX9_word 32 rfl) ?_
          refine kv_iload_n C 68 rfl 1 (kdec dk_cX9_word 33 rfl) rfl rfl ?_
          obtain ⟨x16, e17⟩ : ∃ z : Int32, w 6 (a1 : Int32).toNatClampNeg = z := ⟨_, rfl⟩
          have b18 : (-2147483648 : Int) ≤ x16.toInt ∧ x16.toInt ≤ 2147483647 := by rw [← e17]; exact hI 6 _
          refine kv_iald C 69 rfl 6 rfl (by omega) (by omega) e17 (kdec dk_cX9_word 34 rfl) ?_
          refine kv_goto C 73 (kdec dk_cX9_word 35 rfl) (by decide) ?_
          exact kv_iret C hr hlk (kdec dk_cX9_word 37 rfl) ⟨_, rfl, hI, hF0, (by rw [e2]; try omega)⟩
    · skip
      refine kv_iload_n C 17 rfl 1 (kdec dk_cX9_word 8 rfl) rfl rfl ?_
      refine kv_iconst C 18 rfl 1 (kdec dk_cX9_word 9 rfl) rfl ?_
      refine kv_icmp_lt C 21 rfl 43 (kdec dk_cX9_word 10 rfl) (by decide) (fun d19 => ?_) (fun d19 => ?_)
      · skip
        refine kv_iconst C 44 rfl (-1) (kdec dk_cX9_word 21 rfl) rfl ?_
        exact kv_iret C hr hlk (kdec dk_cX9_word 22 rfl) ⟨_, rfl, hI, hF0, (by rw [e2]; try omega)⟩
      · skip
        refine kv_iload_n C 22 rfl 1 (kdec dk_cX9_word 11 rfl) rfl rfl ?_
        refine kv_aload_n C 23 rfl 0 (kdec dk_cX9_word 12 rfl) rfl rfl ?_
        refine kv_getr C 26 rfl 0 2 rfl rfl inX9 (by decide) mfl_TaleMachine_23 rfl rfl (kdec dk_cX9_word 13 rfl) ?_
        refine kv_callVNi (As := []) (rest := [.int a1]) C 29 rfl 5 (k_localCount l D τ ρ σ w  (kI_strong hI (by rw [e5]; omega)) ) rfl rfl mmn_TaleMachine_131 mim_yX3_localCount mse_yX3_localCount mcd_yX3_localCount min_yX3_localCount hd_yX3_localCount rfl rfl rfl (by decide) rfl (Nat.le_of_ble_eq_true rfl) (kdec dk_cX9_word 14 rfl) (fun x24 w20 h21 => ?_)
        obtain ⟨I22, f23, p25⟩ := h21
        have I27 := kI_weak I22
        have F26 : kF [] w w20 := kF_call hF0 f23 (by decide)
        have g28 := kf_rng x24
        refine kv_icmp_gt C 32 rfl 43 (kdec dk_cX9_word 15 rfl) (by decide) (fun d29 => ?_) (fun d29 => ?_)
        · skip
          refine kv_iconst C 44 rfl (-1) (kdec dk_cX9_word 21 rfl) rfl ?_
          exact kv_iret C hr hlk (kdec dk_cX9_word 22 rfl) ⟨_, rfl, I27, F26, (by rw [e2]; try omega)⟩
        · skip
          refine kv_aload_n C 33 rfl 0 (kdec dk_cX9_word 16 rfl) rfl rfl ?_
          refine kv_getr C 36 rfl 0 2 rfl rfl inX9 (by decide) mfl_TaleMachine_23 rfl rfl (kdec dk_cX9_word 17 rfl) ?_
          refine kv_iload_n C 37 rfl 1 (kdec dk_cX9_word 18 rfl) rfl rfl ?_
          have e30 : w20 2 3 = x4 := ((f23 2 3 rfl : w20 2 3 = w 2 3).trans e5)
          refine kv_callVNi (As := [.int a1]) (rest := []) C 40 rfl 5 (k_localAt l D τ ρ σ w20 a1 (kI_strong I27 (by rw [e30]; omega)) (by omega)) rfl rfl mmn_TaleMachine_144 mim_yX3_localAt mse_yX3_localAt mcd_yX3_localAt min_yX3_localAt hd_yX3_localAt rfl rfl rfl (by decide) rfl (Nat.le_of_ble_eq_true rfl) (kdec dk_cX9_word 19 rfl) (fun x35 w31 h32 => ?_)
          obtain ⟨I33, f34⟩ := h32
          have I37 := kI_weak I33
          have F36 : kF [] w w31 := kF_call F26 f34 (by decide)
          have g38 := kf_rng x35
          refine kv_goto C 44 (kdec dk_cX9_word 20 rfl) (by decide) ?_
          exact kv_iret C hr hlk (kdec dk_cX9_word 22 rfl) ⟨_, rfl, I37, F36, (by rw [e2]; try omega)⟩
  · skip
    refine kv_iconst C 11 rfl (-1) (kdec dk_cX9_word 4 rfl) rfl ?_
    exact kv_iret C hr hlk (kdec dk_cX9_word 5 rfl) ⟨_, rfl, hI, hF0, (by rw [e2]; try omega)⟩

set_option maxHeartbeats 4000000 in
set_option maxRecDepth 100000 in
theorem k_m_text (l : Launch) (D : va_G) (τ : Nat → ClassId) (ρ σ : Nat → Nat) (w : kw) (a1 : Int32) (a2 : Int32) (hI : kI false w) (hp0 : (w 20 10).toInt = 0 ∨ (w 2 3).toInt ≤ 1024) (hp1 : (w 12 1).toInt ≤ 2000000000 ∧ (w 14 1).toInt ≤ 2000000000) :
    kM l D τ ρ σ yX9_text cX9_text 5 (some .int) { frames := 8, cells := 0, slots := 0, locals := 288 } [.ref (ρ 0), .int a1, .int a2] w
      (fun o w' => ∃ r : Int32, o = some (.int r) ∧ kI false w' ∧ kF [(2, some 9), (12, some 1), (13, none), (14, some 1), (15, none), (16, some 1), (16, some 2), (16, some 3), (16, some 4), (16, some 5), (16, some 6), (16, some 7), (16, some 8), (16, some 9), (16, some 10), (16, some 11), (16, some 12), (16, some 13)] w w' ∧ ((w' 20 10).toInt = 0 ∨ (w' 2 3).toInt ≤ 1024) ∧ ((w' 12 1).toInt ≤ (w 12 1).toInt + 500 ∧ (w' 14 1).toInt ≤ (w 14 1).toInt + 500) ∧ (¬ (w 20 10).toInt = 0 ∨ r.toInt = -1)) := by
  refine kM_of (own := "TaleMachine") rfl (by decide) (Nat.le_of_ble_eq_true rfl) ?_
  intro p e s m args below meth c C hr hlk
  have hF0 : kF [(2, some 9), (12, some 1), (13, none), (14, some 1), (15, none), (16, some 1), (16, some 2), (16, some 3), (16, some 4), (16, some 5), (16, some 6), (16, some 7), (16, some 8), (16, some 9), (16, some 10), (16, some 11), (16, some 12), (16, some 13)] w w := kF.rf
  have c_m10 : (-10 : Int32).toInt = -10 := by decide
  have c_m4 : (-4 : Int32).toInt = -4 := by decide
  have c_m1 : (-1 : Int32).toInt = -1 := by decide
  have c_0 : (0 : Int32).toInt = 0 := by decide
  have c_200 : (200 : Int32).toInt = 200 := by decide
  refine kV.L (L' := [(0, .ref (ρ 0)), (1, .int a1), (2, .int a2)]) rfl ?_
  obtain ⟨x1, e2⟩ : ∃ z : Int32, w 20 10 = z := ⟨_, rfl⟩
  have b3 : (0 : Int) ≤ x1.toInt ∧ x1.toInt ≤ 4 := by rw [← e2]; exact hI 20 10
  obtain ⟨x4, e5⟩ : ∃ z : Int32, w 2 3 = z := ⟨_, rfl⟩
  have b6 : (0 : Int) ≤ x4.toInt ∧ x4.toInt ≤ 65535 := by rw [← e5]; exact hI 2 3
  rw [e2, e5] at hp0
  obtain ⟨x7, e8⟩ : ∃ z : Int32, w 12 1 = z := ⟨_, rfl⟩
  have b9 : (0 : Int) ≤ x7.toInt ∧ x7.toInt ≤ 2147483647 := by rw [← e8]; exact hI 12 1
  obtain ⟨x10, e11⟩ : ∃ z : Int32, w 14 1 = z := ⟨_, rfl⟩
  have b12 : (0 : Int) ≤ x10.toInt ∧ x10.toInt ≤ 2147483647 := by rw [← e11]; exact hI 14 1
  rw [e8, e11] at hp1
  have g13 := kf_rng a1
  have g14 := kf_rng a2
  refine kv_aload_n C 1 rfl 0 (kdec dk_cX9_text 0 rfl) rfl rfl ?_
  refine kv_getr C 4 rfl 0 7 rfl rfl inX9 (by decide) mfl_TaleMachine_60 rfl rfl (kdec dk_cX9_text 1 rfl) ?_
  refine kv_getN C 7 rfl 20 10 rfl rfl inX1 (by decide) mfn_TaleMachine_86 rfl rfl (kdec dk_cX9_text 2 rfl) e2 ?_
  refine kv_if_eq C 10 rfl 20 (kdec dk_cX9_text 3 rfl) (by decide) (fun d15 => ?_) (fun d15 => ?_)
  · skip
    refine kv_iconst C 21 rfl (-1) (kdec dk_cX9_text 9 rfl) rfl ?_
    exact kv_iret C hr hlk (kdec dk_cX9_text 10 rfl) ⟨_, rfl, hI, hF0, (by rw [e2, e5]; try omega), (by rw [e8, e11]; try omega), (by rw [e2]; try omega)⟩
  · skip
    refine kv_iload_n C 11 rfl 2 (kdec dk_cX9_text 4 rfl) rfl rfl ?_
    refine kv_if_ge C 14 rfl 22 (kdec dk_cX9_text 5 rfl) (by decide) (fun d16 => ?_) (fun d16 => ?_)
    · skip
      refine kv_aload_n C 23 rfl 0 (kdec dk_cX9_text 11 rfl) rfl rfl ?_
      refine kv_getr C 26 rfl 0 1 rfl rfl inX9 (by decide) mfl_TaleMachine_16 rfl rfl (kdec dk_cX9_text 12 rfl) ?_
      obtain ⟨x17, e18⟩ : ∃ z : Int32, w 2 9 = z := ⟨_, rfl⟩
      have b19 : (0 : Int) ≤ x17.toInt ∧ x17.toInt ≤ 13 := by rw [← e18]; exact hI 2 9
      refine kv_getN C 29 rfl 2 9 rfl rfl inX6 (by decide) mfn_TaleMachine_109 rfl rfl (kdec dk_cX9_text 13 rfl) e18 ?_
      refine kv_istore_n C 30 rfl 3 [1, 2, 3, 0] [(0, .ref (ρ 0)), (1, .int a1), (2, .int a2), (3, .int x17)] (kdec dk_cX9_text 14 rfl) rfl (by decide) rfl ?_
      refine kv_aload_n C 31 rfl 0 (kdec dk_cX9_text 15 rfl) rfl rfl ?_
      refine kv_getr C 34 rfl 0 1 rfl rfl inX9 (by decide) mfl_TaleMachine_16 rfl rfl (kdec dk_cX9_text 16 rfl) ?_
      refine kv_iconst C 35 rfl 0 (kdec dk_cX9_text 17 rfl) rfl ?_
      refine kv_putN C 38 rfl 2 9 rfl rfl inX6 (by decide) mfn_TaleMachine_109 rfl tyX6 tyX6_ok nmX6 rfl rfl (kdec dk_cX9_text 18 rfl) rfl rfl (fun w20 u21 => ?_)
      have I22 : kI false w20 := kI_put u21 hI (show (0 : Int) ≤ (0 : Int32).toInt by omega) (show (0 : Int32).toInt ≤ 13 by omega)
      have F23 : kF [(2, some 9), (12, some 1), (13, none), (14, some 1), (15, none), (16, some 1), (16, some 2), (16, some 3), (16, some 4), (16, some 5), (16, some 6), (16, some 7), (16, some 8), (16, some 9), (16, some 10), (16, some 11), (16, some 12), (16, some 13)] w w20 := kF_put u21 hF0 rfl
      refine kv_aload_n C 39 rfl 0 (kdec dk_cX9_text 19 rfl) rfl rfl ?_
      refine kv_getr C 42 rfl 0 4 rfl rfl inX9 (by decide) mfl_TaleMachine_36 rfl rfl (kdec dk_cX9_text 20 rfl) ?_
      have e24 : w20 2 3 = x4 := ((kup_ne u21 rfl : w20 2 3 = w 2 3).trans e5)
      refine kv_callVNv (As := []) (rest := []) C 45 rfl 14 (k_cclearS l D τ ρ σ w20  (kI_strong I22 (by rw [e24]; omega)) ) rfl rfl mmn_TaleMachine_150 mim_yX0_clear mse_yX0_clear mcd_yX0_clear min_yX0_clear hd_yX0_clear rfl rfl rfl (by decide) rfl (Nat.le_of_ble_eq_true rfl) (kdec dk_cX9_text 21 rfl) (fun w25 h26 => ?_)
      obtain ⟨I27, f28, p30⟩ := h26
      have I32 := kI_weak I27
      have F31 : kF [(2, some 9), (12, some 1), (13, none), (14, some 1), (15, none), (16, some 1), (16, some 2), (16, some 3), (16, some 4), (16, some 5), (16, some 6), (16, some 7), (16, some 8), (16, some 9), (16, some 10), (16, some 11), (16, some 12), (16, some 13)] w w25 := kF_call F23 f28 (by decide)
      obtain ⟨x33, e34⟩ : ∃ z : Int32, w25 14 1 = z := ⟨_, rfl⟩
      have b35 : (0 : Int) ≤ x33.toInt ∧ x33.toInt ≤ 2147483647 := by rw [← e34]; exact I32 14 1
      rw [e34] at p30
      refine kv_aload_n C 46 rfl 0 (kdec dk_cX9_text 22 rfl) rfl rfl ?_
      refine kv_getr C 49 rfl 0 5 rfl rfl inX9 (by decide) mfl_TaleMachine_44 rfl rfl (kdec dk_cX9_text 23 rfl) ?_
      refine kv_iload_n C 50 rfl 1 (kdec dk_cX9_text 24 rfl) rfl rfl ?_
      refine kv_aload_n C 51 rfl 0 (kdec dk_cX9_text 25 rfl) rfl rfl ?_
      refine kv_getr C 54 rfl 0 4 rfl rfl inX9 (by decide) mfl_TaleMachine_36 rfl rfl (kdec dk_cX9_text 26 rfl) ?_
      have e36 : w25 12 1 = x7 := ((f28 12 1 rfl : w25 12 1 = w20 12 1).trans ((kup_ne u21 rfl : w20 12 1 = w 12 1).trans e8))
      have e37 : w25 2 3 = x4 := ((f28 2 3 rfl : w25 2 3 = w20 2 3).trans e24)
      refine kv_callVNi (As := [.int a1, .ref (ρ 14)]) (rest := []) C 57 rfl 16 (k_tellS l D τ ρ σ w25 a1 (kI_strong I32 (by rw [e37]; omega)) (by rw [e36, e34]; try omega)) rfl rfl mmn_TaleMachine_153 mim_yX7_tell mse_yX7_tell mcd_yX7_tell min_yX7_tell hd_yX7_tell rfl rfl rfl (by decide) rfl (Nat.le_of_ble_eq_true rfl) (kdec dk_cX9_text 27 rfl) (fun x42 w38 h39 => ?_)
      obtain ⟨I40, f41, p43⟩ := h39
      have I45 := kI_weak I40
      have F44 : kF [(2, some 9), (12, some 1), (13, none), (14, some 1), (15, none), (16, some 1), (16, some 2), (16, some 3), (16, some 4), (16, some 5), (16, some 6), (16, some 7), (16, some 8), (16, some 9), (16, some 10), (16, some 11), (16, some 12), (16, some 13)] w w38 := kF_call F31 f41 (by decide)
      have g46 := kf_rng x42
      obtain ⟨x47, e48⟩ : ∃ z : Int32, w38 12 1 = z := ⟨_, rfl⟩
      have b49 : (0 : Int) ≤ x47.toInt ∧ x47.toInt ≤ 2147483647 := by rw [← e48]; exact I45 12 1
      obtain ⟨x50, e51⟩ : ∃ z : Int32, w38 14 1 = z := ⟨_, rfl⟩
      have b52 : (0 : Int) ≤ x50.toInt ∧ x50.toInt ≤ 2147483647 := by rw [← e51]; exact I45 14 1
      rw [e36, e34, e48, e51] at p43
      refine kv_pop C 58 rfl (kdec dk_cX9_text 28 rfl) rfl ?_
      refine kv_aload_n C 59 rfl 0 (kdec dk_cX9_text 29 rfl) rfl rfl ?_
      refine kv_getr C 62 rfl 0 1 rfl rfl inX9 (by decide) mfl_TaleMachine_16 rfl rfl (kdec dk_cX9_text 30 rfl) ?_
      obtain ⟨x53, e54⟩ : ∃ z : Int32, w38 2 9 = z := ⟨_, rfl⟩
      have b55 : (0 : Int) ≤ x53.toInt ∧ x53.toInt ≤ 13 := by rw [← e54]; exact I45 2 9
      refine kv_getN C 65 rfl 2 9 rfl rfl inX6 (by decide) mfn_TaleMachine_109 rfl rfl (kdec dk_cX9_text 31 rfl) e54 ?_
      refine kv_istore C 67 rfl 4 [1, 2, 3, 4, 0] [(0, .ref (ρ 0)), (1, .int a1), (2, .int a2), (3, .int x17), (4, .int x53)] (kdec dk_cX9_text 32 rfl) (by decide) rfl ?_
      refine kv_aload_n C 68 rfl 0 (kdec dk_cX9_text 33 rfl) rfl rfl ?_
      refine kv_getr C 71 rfl 0 1 rfl rfl inX9 (by decide) mfl_TaleMachine_16 rfl rfl (kdec dk_cX9_text 34 rfl) ?_
      refine kv_iload_n C 72 rfl 3 (kdec dk_cX9_text 35 rfl) rfl rfl ?_
      refine kv_putN C 75 rfl 2 9 rfl rfl inX6 (by decide) mfn_TaleMachine_109 rfl tyX6 tyX6_ok nmX6 rfl rfl (kdec dk_cX9_text 36 rfl) rfl rfl (fun w56 u57 => ?_)
      have I58 : kI false w56 := kI_put u57 I45 (show (0 : Int) ≤ (x17 : Int32).toInt by omega) (show (x17 : Int32).toInt ≤ 13 by omega)
      have F59 : kF [(2, some 9), (12, some 1), (13, none), (14, some 1), (15, none), (16, some 1), (16, some 2), (16, some 3), (16, some 4), (16, some 5), (16, some 6), (16, some 7), (16, some 8), (16, some 9), (16, some 10), (16, some 11), (16, some 12), (16, some 13)] w w56 := kF_put u57 F44 rfl
      refine kv_aload_n C 76 rfl 0 (kdec dk_cX9_text 37 rfl) rfl rfl ?_
      refine kv_getr C 79 rfl 0 4 rfl rfl inX9 (by decide) mfl_TaleMachine_36 rfl rfl (kdec dk_cX9_text 38 rfl) ?_
      have e60 : w56 14 1 = x50 := ((kup_ne u57 rfl : w56 14 1 = w38 14 1).trans e51)
      refine kv_getN C 82 rfl 14 1 rfl rfl inX0 (by decide) mfn_TaleMachine_116 rfl rfl (kdec dk_cX9_text 39 rfl) e60 ?_
      refine kv_sipush C 85 rfl 200 (kdec dk_cX9_text 40 rfl) rfl ?_
      refine kv_icmp_le C 88 rfl 90 (kdec dk_cX9_text 41 rfl) (by decide) (fun d61 => ?_) (fun d61 => ?_)
      · skip
        refine kv_iload C 92 rfl 4 (kdec dk_cX9_text 44 rfl) rfl ?_
        refine kv_if_eq C 95 rfl 101 (kdec dk_cX9_text 45 rfl) (by decide) (fun d62 => ?_) (fun d62 => ?_)
        · skip
          refine kv_iload_n C 102 rfl 2 (kdec dk_cX9_text 50 rfl) rfl rfl ?_
          refine kv_bipush C 104 rfl (-4) (kdec dk_cX9_text 51 rfl) rfl ?_
          refine kv_icmp_ne C 107 rfl 117 (kdec dk_cX9_text 52 rfl) (by decide) (fun d63 => ?_) (fun d63 => ?_)
          · skip
            refine kv_aload_n C 118 rfl 0 (kdec dk_cX9_text 57 rfl) rfl rfl ?_
            refine kv_getr C 121 rfl 0 4 rfl rfl inX9 (by decide) mfl_TaleMachine_36 rfl rfl (kdec dk_cX9_text 58 rfl) ?_
            refine kv_iload_n C 122 rfl 2 (kdec dk_cX9_text 59 rfl) rfl rfl ?_
            have e64 : w56 2 3 = x4 := ((kup_ne u57 rfl : w56 2 3 = w38 2 3).trans ((f41 2 3 rfl : w38 2 3 = w25 2 3).trans e37))
            refine kv_callVNi (As := [.int a2]) (rest := []) C 125 rfl 14 (k_codeAtS l D τ ρ σ w56 a2 (kI_strong I58 (by rw [e64]; omega)) ) rfl rfl mmn_TaleMachine_112 mim_yX0_codeAt mse_yX0_codeAt mcd_yX0_codeAt min_yX0_codeAt hd_yX0_codeAt rfl rfl rfl (by decide) rfl (Nat.le_of_ble_eq_true rfl) (kdec dk_cX9_text 60 rfl) (fun x69 w65 h66 => ?_)
            obtain ⟨I67, f68⟩ := h66
            have I71 := kI_weak I67
            have F70 : kF [(2, some 9), (12, some 1), (13, none), (14, some 1), (15, none), (16, some 1), (16, some 2), (16, some 3), (16, some 4), (16, some 5), (16, some 6), (16, some 7), (16, some 8), (16, some 9), (16, some 10), (16, some 11), (16, some 12), (16, some 13)] w w65 := kF_call F59 f68 (by decide)
            have g72 := kf_rng x69
            have e73 : w65 20 10 = x1 := ((f68 20 10 rfl : w65 20 10 = w56 20 10).trans ((kup_ne u57 rfl : w56 20 10 = w38 20 10).trans ((f41 20 10 rfl : w38 20 10 = w25 20 10).trans ((f28 20 10 rfl : w25 20 10 = w20 20 10).trans ((kup_ne u21 rfl : w20 20 10 = w 20 10).trans e2)))))
            have e74 : w65 2 3 = x4 := ((f68 2 3 rfl : w65 2 3 = w56 2 3).trans e64)
            have e75 : w65 12 1 = x47 := ((f68 12 1 rfl : w65 12 1 = w56 12 1).trans ((kup_ne u57 rfl : w56 12 1 = w38 12 1).trans e48))
            have e76 : w65 14 1 = x50 := ((f68 14 1 rfl : w65 14 1 = w56 14 1).trans e60)
            exact kv_iret C hr hlk (kdec dk_cX9_text 61 rfl) ⟨_, rfl, I71, F70, (by rw [e73, e74]; try omega), (by rw [e8, e11, e75, e76]; try omega), (by rw [e2]; try omega)⟩
          · skip
            refine kv_aload_n C 108 rfl 0 (kdec dk_cX9_text 53 rfl) rfl rfl ?_
            refine kv_getr C 111 rfl 0 4 rfl rfl inX9 (by decide) mfl_TaleMachine_36 rfl rfl (kdec dk_cX9_text 54 rfl) ?_
            refine kv_getN C 114 rfl 14 1 rfl rfl inX0 (by decide) mfn_TaleMachine_116 rfl rfl (kdec dk_cX9_text 55 rfl) e60 ?_
            refine kv_goto C 125 (kdec dk_cX9_text 56 rfl) (by decide) ?_
            have e77 : w56 20 10 = x1 := ((kup_ne u57 rfl : w56 20 10 = w38 20 10).trans ((f41 20 10 rfl : w38 20 10 = w25 20 10).trans ((f28 20 10 rfl : w25 20 10 = w20 20 10).trans ((kup_ne u21 rfl : w20 20 10 = w 20 10).trans e2))))
            have e78 : w56 2 3 = x4 := ((kup_ne u57 rfl : w56 2 3 = w38 2 3).trans ((f41 2 3 rfl : w38 2 3 = w25 2 3).trans e37))
            have e79 : w56 12 1 = x47 := ((kup_ne u57 rfl : w56 12 1 = w38 12 1).trans e48)
            exact kv_iret C hr hlk (kdec dk_cX9_text 61 rfl) ⟨_, rfl, I58, F59, (by rw [e77, e78]; try omega), (by rw [e8, e11, e79, e60]; try omega), (by rw [e2]; try omega)⟩
        · skip
          refine kv_bipush C 97 rfl (-10) (kdec dk_cX9_text 46 rfl) rfl ?_
          refine kv_iload C 99 rfl 4 (kdec dk_cX9_text 47 rfl) rfl ?_
          refine kv_isub C 100 rfl (kdec dk_cX9_text 48 rfl) (fun x80 q82 h81e h81 h81l h81u => ?_)
          try have h81n : x80.toInt = ((-10) : Int32).toInt - x53.toInt := by omega
          clear h81 q82
          have e83 : w56 20 10 = x1 := ((kup_ne u57 rfl : w56 20 10 = w38 20 10).trans ((f41 20 10 rfl : w38 20 10 = w25 20 10).trans ((f28 20 10 rfl : w25 20 10 = w20 20 10).trans ((kup_ne u21 rfl : w20 20 10 = w 20 10).trans e2))))
          have e84 : w56 2 3 = x4 := ((kup_ne u57 rfl : w56 2 3 = w38 2 3).trans ((f41 2 3 rfl : w38 2 3 = w25 2 3).trans e37))
          have e85 : w56 12 1 = x47 := ((kup_ne u57 rfl : w56 12 1 = w38 12 1).trans e48)
          exact kv_iret C hr hlk (kdec dk_cX9_text 49 rfl) ⟨_, rfl, I58, F59, (by rw [e83, e84]; try omega), (by rw [e8, e11, e85, e60]; try omega), (by rw [e2]; try omega)⟩
      · skip
        refine kv_iconst C 89 rfl (-1) (kdec dk_cX9_text 42 rfl) rfl ?_
        have e86 : w56 20 10 = x1 := ((kup_ne u57 rfl : w56 20 10 = w38 20 10).trans ((f41 20 10 rfl : w38 20 10 = w25 20 10).trans ((f28 20 10 rfl : w25 20 10 = w20 20 10).trans ((kup_ne u21 rfl : w20 20 10 = w 20 10).trans e2))))
        have e87 : w56 2 3 = x4 := ((kup_ne u57 rfl : w56 2 3 = w38 2 3).trans ((f41 2 3 rfl : w38 2 3 = w25 2 3).trans e37))
        have e88 : w56 12 1 = x47 := ((kup_ne u57 rfl : w56 12 1 = w38 12 1).trans e48)
        exact kv_iret C hr hlk (kdec dk_cX9_text 43 rfl) ⟨_, rfl, I58, F59, (by rw [e86, e87]; try omega), (by rw [e8, e11, e88, e60]; try omega), (by rw [e2]; try omega)⟩
    · skip
      refine kv_iload_n C 15 rfl 2 (kdec dk_cX9_text 6 rfl) rfl rfl ?_
      refine kv_bipush C 17 rfl (-4) (kdec dk_cX9_text 7 rfl) rfl ?_
      refine kv_icmp_eq C 20 rfl 22 (kdec dk_cX9_text 8 rfl) (by decide) (fun d89 => ?_) (fun d89 => ?_)
      · skip
        refine kv_aload_n C 23 rfl 0 (kdec dk_cX9_text 11 rfl) rfl rfl ?_
        refine kv_getr C 26 rfl 0 1 rfl rfl inX9 (by decide) mfl_TaleMachine_16 rfl rfl (kdec dk_cX9_text 12 rfl) ?_
        obtain ⟨x90, e91⟩ : ∃ z : Int32, w 2 9 = z := ⟨_, rfl⟩
        have b92 : (0 : Int) ≤ x90.toInt ∧ x90.toInt ≤ 13 := by rw [← e91]; exact hI 2 9
        refine kv_getN C 29 rfl 2 9 rfl rfl inX6 (by decide) mfn_TaleMachine_109 rfl rfl (kdec dk_cX9_text 13 rfl) e91 ?_
        refine kv_istore_n C 30 rfl 3 [1, 2, 3, 0] [(0, .ref (ρ 0)), (1, .int a1), (2, .int a2), (3, .int x90)] (kdec dk_cX9_text 14 rfl) rfl (by decide) rfl ?_
        refine kv_aload_n C 31 rfl 0 (kdec dk_cX9_text 15 rfl) rfl rfl ?_
        refine kv_getr C 34 rfl 0 1 rfl rfl inX9 (by decide) mfl_TaleMachine_16 rfl rfl (kdec dk_cX9_text 16 rfl) ?_
        refine kv_iconst C 35 rfl 0 (kdec dk_cX9_text 17 rfl) rfl ?_
        refine kv_putN C 38 rfl 2 9 rfl rfl inX6 (by decide) mfn_TaleMachine_109 rfl tyX6 tyX6_ok nmX6 rfl rfl (kdec dk_cX9_text 18 rfl) rfl rfl (fun w93 u94 => ?_)
        have I95 : kI false w93 := kI_put u94 hI (show (0 : Int) ≤ (0 : Int32).toInt by omega) (show (0 : Int32).toInt ≤ 13 by omega)
        have F96 : kF [(2, some 9), (12, some 1), (13, none), (14, some 1), (15, none), (16, some 1), (16, some 2), (16, some 3), (16, some 4), (16, some 5), (16, some 6), (16, some 7), (16, some 8), (16, some 9), (16, some 10), (16, some 11), (16, some 12), (16, some 13)] w w93 := kF_put u94 hF0 rfl
        refine kv_aload_n C 39 rfl 0 (kdec dk_cX9_text 19 rfl) rfl rfl ?_
        refine kv_getr C 42 rfl 0 4 rfl rfl inX9 (by decide) mfl_TaleMachine_36 rfl rfl (kdec dk_cX9_text 20 rfl) ?_
        have e97 : w93 2 3 = x4 := ((kup_ne u94 rfl : w93 2 3 = w 2 3).trans e5)
        refine kv_callVNv (As := []) (rest := []) C 45 rfl 14 (k_cclearS l D τ ρ σ w93  (kI_strong I95 (by rw [e97]; omega)) ) rfl rfl mmn_TaleMachine_150 mim_yX0_clear mse_yX0_clear mcd_yX0_clear min_yX0_clear hd_yX0_clear rfl rfl rfl (by decide) rfl (Nat.le_of_ble_eq_true rfl) (kdec dk_cX9_text 21 rfl) (fun w98 h99 => ?_)
        obtain ⟨I100, f101, p103⟩ := h99
        have I105 := kI_weak I100
        have F104 : kF [(2, some 9), (12, some 1), (13, none), (14, some 1), (15, none), (16, some 1), (16, some 2), (16, some 3), (16, some 4), (16, some 5), (16, some 6), (16, some 7), (16, some 8), (16, some 9), (16, some 10), (16, some 11), (16, some 12), (16, some 13)] w w98 := kF_call F96 f101 (by decide)
        obtain ⟨x106, e107⟩ : ∃ z : Int32, w98 14 1 = z := ⟨_, rfl⟩
        have b108 : (0 : Int) ≤ x106.toInt ∧ x106.toInt ≤ 2147483647 := by rw [← e107]; exact I105 14 1
        rw [e107] at p103
        refine kv_aload_n C 46 rfl 0 (kdec dk_cX9_text 22 rfl) rfl rfl ?_
        refine kv_getr C 49 rfl 0 5 rfl rfl inX9 (by decide) mfl_TaleMachine_44 rfl rfl (kdec dk_cX9_text 23 rfl) ?_
        refine kv_iload_n C 50 rfl 1 (kdec dk_cX9_text 24 rfl) rfl rfl ?_
        refine kv_aload_n C 51 rfl 0 (kdec dk_cX9_text 25 rfl) rfl rfl ?_
        refine kv_getr C 54 rfl 0 4 rfl rfl inX9 (by decide) mfl_TaleMachine_36 rfl rfl (kdec dk_cX9_text 26 rfl) ?_
        have e109 : w98 12 1 = x7 := ((f101 12 1 rfl : w98 12 1 = w93 12 1).trans ((kup_ne u94 rfl : w93 12 1 = w 12 1).trans e8))
        have e110 : w98 2 3 = x4 := ((f101 2 3 rfl : w98 2 3 = w93 2 3).trans e97)
        refine kv_callVNi (As := [.int a1, .ref (ρ 14)]) (rest := []) C 57 rfl 16 (k_tellS l D τ ρ σ w98 a1 (kI_strong I105 (by rw [e110]; omega)) (by rw [e109, e107]; try omega)) rfl rfl mmn_TaleMachine_153 mim_yX7_tell mse_yX7_tell mcd_yX7_tell min_yX7_tell hd_yX7_tell rfl rfl rfl (by decide) rfl (Nat.le_of_ble_eq_true rfl) (kdec dk_cX9_text 27 rfl) (fun x115 w111 h112 => ?_)
        obtain ⟨I113, f114, p116⟩ := h112
        have I118 := kI_weak I113
        have F117 : kF [(2, some 9), (12, some 1), (13, none), (14, some 1), (15, none), (16, some 1), (16, some 2), (16, some 3), (16, some 4), (16, some 5), (16, some 6), (16, some 7), (16, some 8), (16, some 9), (16, some 10), (16, some 11), (16, some 12), (16, some 13)] w w111 := kF_call F104 f114 (by decide)
        have g119 := kf_rng x115
        obtain ⟨x120, e121⟩ : ∃ z : Int32, w111 12 1 = z := ⟨_, rfl⟩
        have b122 : (0 : Int) ≤ x120.toInt ∧ x120.toInt ≤ 2147483647 := by rw [← e121]; exact I118 12 1
        obtain ⟨x123, e124⟩ : ∃ z : Int32, w111 14 1 = z := ⟨_, rfl⟩
        have b125 : (0 : Int) ≤ x123.toInt ∧ x123.toInt ≤ 2147483647 := by rw [← e124]; exact I118 14 1
        rw [e109, e107, e121, e124] at p116
        refine kv_pop C 58 rfl (kdec dk_cX9_text 28 rfl) rfl ?_
        refine kv_aload_n C 59 rfl 0 (kdec dk_cX9_text 29 rfl) rfl rfl ?_
        refine kv_getr C 62 rfl 0 1 rfl rfl inX9 (by decide) mfl_TaleMachine_16 rfl rfl (kdec dk_cX9_text 30 rfl) ?_
        obtain ⟨x126, e127⟩ : ∃ z : Int32, w111 2 9 = z := ⟨_, rfl⟩
        have b128 : (0 : Int) ≤ x126.toInt ∧ x126.toInt ≤ 13 := by rw [← e127]; exact I118 2 9
        refine kv_getN C 65 rfl 2 9 rfl rfl inX6 (by decide) mfn_TaleMachine_109 rfl rfl (kdec dk_cX9_text 31 rfl) e127 ?_
        refine kv_istore C 67 rfl 4 [1, 2, 3, 4, 0] [(0, .ref (ρ 0)), (1, .int a1), (2, .int a2), (3, .int x90), (4, .int x126)] (kdec dk_cX9_text 32 rfl) (by decide) rfl ?_
        refine kv_aload_n C 68 rfl 0 (kdec dk_cX9_text 33 rfl) rfl rfl ?_
        refine kv_getr C 71 rfl 0 1 rfl rfl inX9 (by decide) mfl_TaleMachine_16 rfl rfl (kdec dk_cX9_text 34 rfl) ?_
        refine kv_iload_n C 72 rfl 3 (kdec dk_cX9_text 35 rfl) rfl rfl ?_
        refine kv_putN C 75 rfl 2 9 rfl rfl inX6 (by decide) mfn_TaleMachine_109 rfl tyX6 tyX6_ok nmX6 rfl rfl (kdec dk_cX9_text 36 rfl) rfl rfl (fun w129 u130 => ?_)
        have I131 : kI false w129 := kI_put u130 I118 (show (0 : Int) ≤ (x90 : Int32).toInt by omega) (show (x90 : Int32).toInt ≤ 13 by omega)
        have F132 : kF [(2, some 9), (12, some 1), (13, none), (14, some 1), (15, none), (16, some 1), (16, some 2), (16, some 3), (16, some 4), (16, some 5), (16, some 6), (16, some 7), (16, some 8), (16, some 9), (16, some 10), (16, some 11), (16, some 12), (16, some 13)] w w129 := kF_put u130 F117 rfl
        refine kv_aload_n C 76 rfl 0 (kdec dk_cX9_text 37 rfl) rfl rfl ?_
        refine kv_getr C 79 rfl 0 4 rfl rfl inX9 (by decide) mfl_TaleMachine_36 rfl rfl (kdec dk_cX9_text 38 rfl) ?_
        have e133 : w129 14 1 = x123 := ((kup_ne u130 rfl : w129 14 1 = w111 14 1).trans e124)
        refine kv_getN C 82 rfl 14 1 rfl rfl inX0 (by decide) mfn_TaleMachine_116 rfl rfl (kdec dk_cX9_text 39 rfl) e133 ?_
        refine kv_sipush C 85 rfl 200 (kdec dk_cX9_text 40 rfl) rfl ?_
        refine kv_icmp_le C 88 rfl 90 (kdec dk_cX9_text 41 rfl) (by decide) (fun d134 => ?_) (fun d134 => ?_)
        · skip
          refine kv_iload C 92 rfl 4 (kdec dk_cX9_text 44 rfl) rfl ?_
          refine kv_if_eq C 95 rfl 101 (kdec dk_cX9_text 45 rfl) (by decide) (fun d135 => ?_) (fun d135 => ?_)
          · skip
            refine kv_iload_n C 102 rfl 2 (kdec dk_cX9_text 50 rfl) rfl rfl ?_
            refine kv_bipush C 104 rfl (-4) (kdec dk_cX9_text 51 rfl) rfl ?_
            refine kv_icmp_ne C 107 rfl 117 (kdec dk_cX9_text 52 rfl) (by decide) (fun d136 => ?_) (fun d136 => ?_)
            · skip
              refine kv_aload_n C 118 rfl 0 (kdec dk_cX9_text 57 rfl) rfl rfl ?_
              refine kv_getr C 121 rfl 0 4 rfl rfl inX9 (by decide) mfl_TaleMachine_36 rfl rfl (kdec dk_cX9_text 58 rfl) ?_
              refine kv_iload_n C 122 rfl 2 (kdec dk_cX9_text 59 rfl) rfl rfl ?_
              have e137 : w129 2 3 = x4 := ((kup_ne u130 rfl : w129 2 3 = w111 2 3).trans ((f114 2 3 rfl : w111 2 3 = w98 2 3).trans e110))
              refine kv_callVNi (As := [.int a2]) (rest := []) C 125 rfl 14 (k_codeAtS l D τ ρ σ w129 a2 (kI_strong I131 (by rw [e137]; omega)) ) rfl rfl mmn_TaleMachine_112 mim_yX0_codeAt mse_yX0_codeAt mcd_yX0_codeAt min_yX0_codeAt hd_yX0_codeAt rfl rfl rfl (by decide) rfl (Nat.le_of_ble_eq_true rfl) (kdec dk_cX9_text 60 rfl) (fun x142 w138 h139 => ?_)
              obtain ⟨I140, f141⟩ := h139
              have I144 := kI_weak I140
              have F143 : kF [(2, some 9), (12, some 1), (13, none), (14, some 1), (15, none), (16, some 1), (16, some 2), (16, some 3), (16, some 4), (16, some 5), (16, some 6), (16, some 7), (16, some 8), (16, some 9), (16, some 10), (16, some 11), (16, some 12), (16, some 13)] w w138 := kF_call F132 f141 (by decide)
              have g145 := kf_rng x142
              have e146 : w138 20 10 = x1 := ((f141 20 10 rfl : w138 20 10 = w129 20 10).trans ((kup_ne u130 rfl : w129 20 10 = w111 20 10).trans ((f114 20 10 rfl : w111 20 10 = w98 20 10).trans ((f101 20 10 rfl : w98 20 10 = w93 20 10).trans ((kup_ne u94 rfl : w93 20 10 = w 20 10).trans e2)))))
              have e147 : w138 2 3 = x4 := ((f141 2 3 rfl : w138 2 3 = w129 2 3).trans e137)
              have e148 : w138 12 1 = x120 := ((f141 12 1 rfl : w138 12 1 = w129 12 1).trans ((kup_ne u130 rfl : w129 12 1 = w111 12 1).trans e121))
              have e149 : w138 14 1 = x123 := ((f141 14 1 rfl : w138 14 1 = w129 14 1).trans e133)
              exact kv_iret C hr hlk (kdec dk_cX9_text 61 rfl) ⟨_, rfl, I144, F143, (by rw [e146, e147]; try omega), (by rw [e8, e11, e148, e149]; try omega), (by rw [e2]; try omega)⟩
            · skip
              refine kv_aload_n C 108 rfl 0 (kdec dk_cX9_text 53 rfl) rfl rfl ?_
              refine kv_getr C 111 rfl 0 4 rfl rfl inX9 (by decide) mfl_TaleMachine_36 rfl rfl (kdec dk_cX9_text 54 rfl) ?_
              refine kv_getN C 114 rfl 14 1 rfl rfl inX0 (by decide) mfn_TaleMachine_116 rfl rfl (kdec dk_cX9_text 55 rfl) e133 ?_
              refine kv_goto C 125 (kdec dk_cX9_text 56 rfl) (by decide) ?_
              have e150 : w129 20 10 = x1 := ((kup_ne u130 rfl : w129 20 10 = w111 20 10).trans ((f114 20 10 rfl : w111 20 10 = w98 20 10).trans ((f101 20 10 rfl : w98 20 10 = w93 20 10).trans ((kup_ne u94 rfl : w93 20 10 = w 20 10).trans e2))))
              have e151 : w129 2 3 = x4 := ((kup_ne u130 rfl : w129 2 3 = w111 2 3).trans ((f114 2 3 rfl : w111 2 3 = w98 2 3).trans e110))
              have e152 : w129 12 1 = x120 := ((kup_ne u130 rfl : w129 12 1 = w111 12 1).trans e121)
              exact kv_iret C hr hlk (kdec dk_cX9_text 61 rfl) ⟨_, rfl, I131, F132, (by rw [e150, e151]; try omega), (by rw [e8, e11, e152, e133]; try omega), (by rw [e2]; try omega)⟩
          · skip
            refine kv_bipush C 97 rfl (-10) (kdec dk_cX9_text 46 rfl) rfl ?_
            refine kv_iload C 99 rfl 4 (kdec dk_cX9_text 47 rfl) rfl ?_
            refine kv_isub C 100 rfl (kdec dk_cX9_text 48 rfl) (fun x153 q155 h154e h154 h154l h154u => ?_)
            try have h154n : x153.toInt = ((-10) : Int32).toInt - x126.toInt := by omega
            clear h154 q155
            have e156 : w129 20 10 = x1 := ((kup_ne u130 rfl : w129 20 10 = w111 20 10).trans ((f114 20 10 rfl : w111 20 10 = w98 20 10).trans ((f101 20 10 rfl : w98 20 10 = w93 20 10).trans ((kup_ne u94 rfl : w93 20 10 = w 20 10).trans e2))))
            have e157 : w129 2 3 = x4 := ((kup_ne u130 rfl : w129 2 3 = w111 2 3).trans ((f114 2 3 rfl : w111 2 3 = w98 2 3).trans e110))
            have e158 : w129 12 1 = x120 := ((kup_ne u130 rfl : w129 12 1 = w111 12 1).trans e121)
            exact kv_iret C hr hlk (kdec dk_cX9_text 49 rfl) ⟨_, rfl, I131, F132, (by rw [e156, e157]; try omega), (by rw [e8, e11, e158, e133]; try omega), (by rw [e2]; try omega)⟩
        · skip
          refine kv_iconst C 89 rfl (-1) (kdec dk_cX9_text 42 rfl) rfl ?_
          have e159 : w129 20 10 = x1 := ((kup_ne u130 rfl : w129 20 10 = w111 20 10).trans ((f114 20 10 rfl : w111 20 10 = w98 20 10).trans ((f101 20 10 rfl : w98 20 10 = w93 20 10).trans ((kup_ne u94 rfl : w93 20 10 = w 20 10).trans e2))))
          have e160 : w129 2 3 = x4 := ((kup_ne u130 rfl : w129 2 3 = w111 2 3).trans ((f114 2 3 rfl : w111 2 3 = w98 2 3).trans e110))
          have e161 : w129 12 1 = x120 := ((kup_ne u130 rfl : w129 12 1 = w111 12 1).trans e121)
          exact kv_iret C hr hlk (kdec dk_cX9_text 43 rfl) ⟨_, rfl, I131, F132, (by rw [e159, e160]; try omega), (by rw [e8, e11, e161, e133]; try omega), (by rw [e2]; try omega)⟩
      · skip
        refine kv_iconst C 21 rfl (-1) (kdec dk_cX9_text 9 rfl) rfl ?_
        exact kv_iret C hr hlk (kdec dk_cX9_text 10 rfl) ⟨_, rfl, hI, hF0, (by rw [e2, e5]; try omega), (by rw [e8, e11]; try omega), (by rw [e2]; try omega)⟩

set_option maxHeartbeats 4000000 in
set_option maxRecDepth 100000 in
theorem k_m_save (l : Launch) (D : va_G) (τ : Nat → ClassId) (ρ σ : Nat → Nat) (w : kw) (a1 : Int32) (hI : kI false w) (hp0 : (w 20 10).toInt = 0 ∨ (w 2 3).toInt ≤ 1024) (hp1 : (w 25 2).toInt = 0 ∨ 1 ≤ (w 25 5).toInt) (hp2 : (w 34 2).toInt = 0 ∨ 1 ≤ (w 34 5).toInt) (hp3 : (w 43 2).toInt = 0 ∨ 1 ≤ (w 43 5).toInt) (hp4 : (w 52 2).toInt = 0 ∨ 1 ≤ (w 52 5).toInt) :
    kM l D τ ρ σ yX9_save cX9_save 2 (some .int) { frames := 4, cells := 0, slots := 0, locals := 144 } [.ref (ρ 0), .int a1] w
      (fun o w' => ∃ r : Int32, o = some (.int r) ∧ kI false w' ∧ kF [(25, some 2), (25, some 3), (25, some 4), (25, some 5), (25, some 6), (25, some 7), (26, none), (27, some 6), (27, some 7), (28, none), (29, none), (30, none), (31, none), (32, none), (33, none), (34, some 2), (34, some 3), (34, some 4), (34, some 5), (34, some 6), (34, some 7), (35, none), (36, some 6), (36, some 7), (37, none), (38, none), (39, none), (40, none), (41, none), (42, none), (43, some 2), (43, some 3), (43, some 4), (43, some 5), (43, some 6), (43, some 7), (44, none), (45, some 6), (45, some 7), (46, none), (47, none), (48, none), (49, none), (50, none), (51, none), (52, some 2), (52, some 3), (52, some 4), (52, some 5), (52, some 6), (52, some 7), (53, none), (54, some 6), (54, some 7), (55, none), (56, none), (57, none), (58, none), (59, none), (60, none)] w w' ∧ ((w' 20 10).toInt = 0 ∨ (w' 2 3).toInt ≤ 1024) ∧ (¬ (w 20 10).toInt = 0 ∨ (a1.toInt < 0 ∨ 3 < a1.toInt) ∧ r.toInt = -1 ∨ 0 ≤ a1.toInt ∧ a1.toInt ≤ 3 ∧ r.toInt = -2) ∧ ((w' 25 2).toInt = 0 ∨ 1 ≤ (w' 25 5).toInt) ∧ ((w' 34 2).toInt = 0 ∨ 1 ≤ (w' 34 5).toInt) ∧ ((w' 43 2).toInt = 0 ∨ 1 ≤ (w' 43 5).toInt) ∧ ((w' 52 2).toInt = 0 ∨ 1 ≤ (w' 52 5).toInt)) := by
  refine kM_of (own := "TaleMachine") rfl (by decide) (Nat.le_of_ble_eq_true rfl) ?_
  intro p e s m args below meth c C hr hlk
  have hF0 : kF [(25, some 2), (25, some 3), (25, some 4), (25, some 5), (25, some 6), (25, some 7), (26, none), (27, some 6), (27, some 7), (28, none), (29, none), (30, none), (31, none), (32, none), (33, none), (34, some 2), (34, some 3), (34, some 4), (34, some 5), (34, some 6), (34, some 7), (35, none), (36, some 6), (36, some 7), (37, none), (38, none), (39, none), (40, none), (41, none), (42, none), (43, some 2), (43, some 3), (43, some 4), (43, some 5), (43, some 6), (43, some 7), (44, none), (45, some 6), (45, some 7), (46, none), (47, none), (48, none), (49, none), (50, none), (51, none), (52, some 2), (52, some 3), (52, some 4), (52, some 5), (52, some 6), (52, some 7), (53, none), (54, some 6), (54, some 7), (55, none), (56, none), (57, none), (58, none), (59, none), (60, none)] w w := kF.rf
  have c_m2 : (-2 : Int32).toInt = -2 := by decide
  have c_m1 : (-1 : Int32).toInt = -1 := by decide
  have c_1 : (1 : Int32).toInt = 1 := by decide
  have c_3 : (3 : Int32).toInt = 3 := by decide
  have c_4 : (4 : Int32).toInt = 4 := by decide
  refine kV.L (L' := [(0, .ref (ρ 0)), (1, .int a1)]) rfl ?_
  obtain ⟨x1, e2⟩ : ∃ z : Int32, w 20 10 = z := ⟨_, rfl⟩
  have b3 : (0 : Int) ≤ x1.toInt ∧ x1.toInt ≤ 4 := by rw [← e2]; exact hI 20 10
  obtain ⟨x4, e5⟩ : ∃ z : Int32, w 2 3 = z := ⟨_, rfl⟩
  have b6 : (0 : Int) ≤ x4.toInt ∧ x4.toInt ≤ 65535 := by rw [← e5]; exact hI 2 3
  rw [e2, e5] at hp0
  obtain ⟨x7, e8⟩ : ∃ z : Int32, w 25 2 = z := ⟨_, rfl⟩
  have b9 : (0 : Int) ≤ x7.toInt ∧ x7.toInt ≤ 1 := by rw [← e8]; exact hI 25 2
  obtain ⟨x10, e11⟩ : ∃ z : Int32, w 25 5 = z := ⟨_, rfl⟩
  have b12 : (0 : Int) ≤ x10.toInt ∧ x10.toInt ≤ 4 := by rw [← e11]; exact hI 25 5
  rw [e8, e11] at hp1
  obtain ⟨x13, e14⟩ : ∃ z : Int32, w 34 2 = z := ⟨_, rfl⟩
  have b15 : (0 : Int) ≤ x13.toInt ∧ x13.toInt ≤ 1 := by rw [← e14]; exact hI 34 2
  obtain ⟨x16, e17⟩ : ∃ z : Int32, w 34 5 = z := ⟨_, rfl⟩
  have b18 : (0 : Int) ≤ x16.toInt ∧ x16.toInt ≤ 4 := by rw [← e17]; exact hI 34 5
  rw [e14, e17] at hp2
  obtain ⟨x19, e20⟩ : ∃ z : Int32, w 43 2 = z := ⟨_, rfl⟩
  have b21 : (0 : Int) ≤ x19.toInt ∧ x19.toInt ≤ 1 := by rw [← e20]; exact hI 43 2
  obtain ⟨x22, e23⟩ : ∃ z : Int32, w 43 5 = z := ⟨_, rfl⟩
  have b24 : (0 : Int) ≤ x22.toInt ∧ x22.toInt ≤ 4 := by rw [← e23]; exact hI 43 5
  rw [e20, e23] at hp3
  obtain ⟨x25, e26⟩ : ∃ z : Int32, w 52 2 = z := ⟨_, rfl⟩
  have b27 : (0 : Int) ≤ x25.toInt ∧ x25.toInt ≤ 1 := by rw [← e26]; exact hI 52 2
  obtain ⟨x28, e29⟩ : ∃ z : Int32, w 52 5 = z := ⟨_, rfl⟩
  have b30 : (0 : Int) ≤ x28.toInt ∧ x28.toInt ≤ 4 := by rw [← e29]; exact hI 52 5
  rw [e26, e29] at hp4
  have g31 := kf_rng a1
  refine kv_iload_n C 1 rfl 1 (kdec dk_cX9_save 0 rfl) rfl rfl ?_
  refine kv_if_lt C 4 rfl 13 (kdec dk_cX9_save 1 rfl) (by decide) (fun d32 => ?_) (fun d32 => ?_)
  · skip
    refine kv_iconst C 14 rfl (-1) (kdec dk_cX9_save 7 rfl) rfl ?_
    exact kv_iret C hr hlk (kdec dk_cX9_save 8 rfl) ⟨_, rfl, hI, hF0, (by rw [e2, e5]; try omega), (by rw [e2]; try omega), (by rw [e8, e11]; try omega), (by rw [e14, e17]; try omega), (by rw [e20, e23]; try omega), (by rw [e26, e29]; try omega)⟩
  · skip
    refine kv_iload_n C 5 rfl 1 (kdec dk_cX9_save 2 rfl) rfl rfl ?_
    refine kv_aload_n C 6 rfl 0 (kdec dk_cX9_save 3 rfl) rfl rfl ?_
    refine kv_getr C 9 rfl 0 8 rfl rfl inX9 (by decide) mfl_TaleMachine_66 rfl rfl (kdec dk_cX9_save 4 rfl) ?_
    refine kv_alenq C 10 rfl 24 4 rfl rfl (kdec dk_cX9_save 5 rfl) ?_
    refine kv_icmp_lt C 13 rfl 15 (kdec dk_cX9_save 6 rfl) (by decide) (fun d33 => ?_) (fun d33 => ?_)
    · skip
      refine kv_aload_n C 16 rfl 0 (kdec dk_cX9_save 9 rfl) rfl rfl ?_
      refine kv_getr C 19 rfl 0 7 rfl rfl inX9 (by decide) mfl_TaleMachine_60 rfl rfl (kdec dk_cX9_save 10 rfl) ?_
      refine kv_getN C 22 rfl 20 10 rfl rfl inX1 (by decide) mfn_TaleMachine_86 rfl rfl (kdec dk_cX9_save 11 rfl) e2 ?_
      refine kv_iconst C 23 rfl 1 (kdec dk_cX9_save 12 rfl) rfl ?_
      refine kv_icmp_eq C 26 rfl 40 (kdec dk_cX9_save 13 rfl) (by decide) (fun d34 => ?_) (fun d34 => ?_)
      · skip
        refine kv_aload_n C 41 rfl 0 (kdec dk_cX9_save 21 rfl) rfl rfl ?_
        refine kv_getr C 44 rfl 0 8 rfl rfl inX9 (by decide) mfl_TaleMachine_66 rfl rfl (kdec dk_cX9_save 22 rfl) ?_
        refine kv_iload_n C 45 rfl 1 (kdec dk_cX9_save 23 rfl) rfl rfl ?_
        have d35 : (a1 : Int32).toInt = 0 ∨ (a1 : Int32).toInt = 1 ∨ (a1 : Int32).toInt = 2 ∨ (a1 : Int32).toInt = 3 := by omega
        rcases d35 with d35 | d35 | d35 | d35
        · skip
          refine kv_aldq C 46 rfl 24 0 rfl d35 rfl (by decide) (kdec dk_cX9_save 24 rfl) ?_
          refine kv_aload_n C 47 rfl 0 (kdec dk_cX9_save 25 rfl) rfl rfl ?_
          refine kv_getr C 50 rfl 0 1 rfl rfl inX9 (by decide) mfl_TaleMachine_16 rfl rfl (kdec dk_cX9_save 26 rfl) ?_
          refine kv_aload_n C 51 rfl 0 (kdec dk_cX9_save 27 rfl) rfl rfl ?_
          refine kv_getr C 54 rfl 0 2 rfl rfl inX9 (by decide) mfl_TaleMachine_23 rfl rfl (kdec dk_cX9_save 28 rfl) ?_
          refine kv_aload_n C 55 rfl 0 (kdec dk_cX9_save 29 rfl) rfl rfl ?_
          refine kv_getr C 58 rfl 0 7 rfl rfl inX9 (by decide) mfl_TaleMachine_60 rfl rfl (kdec dk_cX9_save 30 rfl) ?_
          refine kv_callVNv (As := [.ref (ρ 2), .ref (ρ 5), .ref (ρ 20)]) (rest := []) C 61 rfl 25 (k_s_keep0 l D τ ρ σ w  (kI_strong hI (by rw [e5]; omega)) ) rfl rfl mmn_TaleMachine_157 mim_yX5_keep mse_yX5_keep mcd_yX5_keep min_yX5_keep hd_yX5_keep rfl rfl rfl (by decide) rfl (Nat.le_of_ble_eq_true rfl) (kdec dk_cX9_save 31 rfl) (fun w36 h37 => ?_)
          obtain ⟨I38, f39, p41⟩ := h37
          have I43 := kI_weak I38
          have F42 : kF [(25, some 2), (25, some 3), (25, some 4), (25, some 5), (25, some 6), (25, some 7), (26, none), (27, some 6), (27, some 7), (28, none), (29, none), (30, none), (31, none), (32, none), (33, none), (34, some 2), (34, some 3), (34, some 4), (34, some 5), (34, some 6), (34, some 7), (35, none), (36, some 6), (36, some 7), (37, none), (38, none), (39, none), (40, none), (41, none), (42, none), (43, some 2), (43, some 3), (43, some 4), (43, some 5), (43, some 6), (43, some 7), (44, none), (45, some 6), (45, some 7), (46, none), (47, none), (48, none), (49, none), (50, none), (51, none), (52, some 2), (52, some 3), (52, some 4), (52, some 5), (52, some 6), (52, some 7), (53, none), (54, some 6), (54, some 7), (55, none), (56, none), (57, none), (58, none), (59, none), (60, none)] w w36 := kF_call hF0 f39 (by decide)
          obtain ⟨x44, e45⟩ : ∃ z : Int32, w36 25 5 = z := ⟨_, rfl⟩
          have b46 : (0 : Int) ≤ x44.toInt ∧ x44.toInt ≤ 4 := by rw [← e45]; exact I43 25 5
          rw [e2, e45] at p41
          refine kv_aload_n C 62 rfl 0 (kdec dk_cX9_save 32 rfl) rfl rfl ?_
          refine kv_getr C 65 rfl 0 8 rfl rfl inX9 (by decide) mfl_TaleMachine_66 rfl rfl (kdec dk_cX9_save 33 rfl) ?_
          refine kv_iload_n C 66 rfl 1 (kdec dk_cX9_save 34 rfl) rfl rfl ?_
          refine kv_aldq C 67 rfl 24 0 rfl d35 rfl (by decide) (kdec dk_cX9_save 35 rfl) ?_
          obtain ⟨x47, e48⟩ : ∃ z : Int32, w36 25 3 = z := ⟨_, rfl⟩
          have b49 : (0 : Int) ≤ x47.toInt ∧ x47.toInt ≤ 1536 := by rw [← e48]; exact I43 25 3
          refine kv_getN C 70 rfl 25 3 rfl rfl inX5 (by decide) mfn_TaleMachine_161 rfl rfl (kdec dk_cX9_save 36 rfl) e48 ?_
          have e50 : w36 20 10 = x1 := ((f39 20 10 rfl : w36 20 10 = w 20 10).trans e2)
          have e51 : w36 2 3 = x4 := ((f39 2 3 rfl : w36 2 3 = w 2 3).trans e5)
          obtain ⟨x52, e53⟩ : ∃ z : Int32, w36 25 2 = z := ⟨_, rfl⟩
          have b54 : (0 : Int) ≤ x52.toInt ∧ x52.toInt ≤ 1 := by rw [← e53]; exact I43 25 2
          have e55 : w36 34 2 = x13 := ((f39 34 2 rfl : w36 34 2 = w 34 2).trans e14)
          have e56 : w36 34 5 = x16 := ((f39 34 5 rfl : w36 34 5 = w 34 5).trans e17)
          have e57 : w36 43 2 = x19 := ((f39 43 2 rfl : w36 43 2 = w 43 2).trans e20)
          have e58 : w36 43 5 = x22 := ((f39 43 5 rfl : w36 43 5 = w 43 5).trans e23)
          have e59 : w36 52 2 = x25 := ((f39 52 2 rfl : w36 52 2 = w 52 2).trans e26)
          have e60 : w36 52 5 = x28 := ((f39 52 5 rfl : w36 52 5 = w 52 5).trans e29)
          exact kv_iret C hr hlk (kdec dk_cX9_save 37 rfl) ⟨_, rfl, I43, F42, (by rw [e50, e51]; try omega), (by rw [e2]; try omega), (by rw [e53, e45]; try omega), (by rw [e55, e56]; try omega), (by rw [e57, e58]; try omega), (by rw [e59, e60]; try omega)⟩
        · skip
          refine kv_aldq C 46 rfl 24 1 rfl d35 rfl (by decide) (kdec dk_cX9_save 24 rfl) ?_
          refine kv_aload_n C 47 rfl 0 (kdec dk_cX9_save 25 rfl) rfl rfl ?_
          refine kv_getr C 50 rfl 0 1 rfl rfl inX9 (by decide) mfl_TaleMachine_16 rfl rfl (kdec dk_cX9_save 26 rfl) ?_
          refine kv_aload_n C 51 rfl 0 (kdec dk_cX9_save 27 rfl) rfl rfl ?_
          refine kv_getr C 54 rfl 0 2 rfl rfl inX9 (by decide) mfl_TaleMachine_23 rfl rfl (kdec dk_cX9_save 28 rfl) ?_
          refine kv_aload_n C 55 rfl 0 (kdec dk_cX9_save 29 rfl) rfl rfl ?_
          refine kv_getr C 58 rfl 0 7 rfl rfl inX9 (by decide) mfl_TaleMachine_60 rfl rfl (kdec dk_cX9_save 30 rfl) ?_
          refine kv_callVNv (As := [.ref (ρ 2), .ref (ρ 5), .ref (ρ 20)]) (rest := []) C 61 rfl 34 (k_s_keep1 l D τ ρ σ w  (kI_strong hI (by rw [e5]; omega)) ) rfl rfl mmn_TaleMachine_157 mim_yX5_keep mse_yX5_keep mcd_yX5_keep min_yX5_keep hd_yX5_keep rfl rfl rfl (by decide) rfl (Nat.le_of_ble_eq_true rfl) (kdec dk_cX9_save 31 rfl) (fun w61 h62 => ?_)
          obtain ⟨I63, f64, p66⟩ := h62
          have I68 := kI_weak I63
          have F67 : kF [(25, some 2), (25, some 3), (25, some 4), (25, some 5), (25, some 6), (25, some 7), (26, none), (27, some 6), (27, some 7), (28, none), (29, none), (30, none), (31, none), (32, none), (33, none), (34, some 2), (34, some 3), (34, some 4), (34, some 5), (34, some 6), (34, some 7), (35, none), (36, some 6), (36, some 7), (37, none), (38, none), (39, none), (40, none), (41, none), (42, none), (43, some 2), (43, some 3), (43, some 4), (43, some 5), (43, some 6), (43, some 7), (44, none), (45, some 6), (45, some 7), (46, none), (47, none), (48, none), (49, none), (50, none), (51, none), (52, some 2), (52, some 3), (52, some 4), (52, some 5), (52, some 6), (52, some 7), (53, none), (54, some 6), (54, some 7), (55, none), (56, none), (57, none), (58, none), (59, none), (60, none)] w w61 := kF_call hF0 f64 (by decide)
          obtain ⟨x69, e70⟩ : ∃ z : Int32, w61 34 5 = z := ⟨_, rfl⟩
          have b71 : (0 : Int) ≤ x69.toInt ∧ x69.toInt ≤ 4 := by rw [← e70]; exact I68 34 5
          rw [e2, e70] at p66
          refine kv_aload_n C 62 rfl 0 (kdec dk_cX9_save 32 rfl) rfl rfl ?_
          refine kv_getr C 65 rfl 0 8 rfl rfl inX9 (by decide) mfl_TaleMachine_66 rfl rfl (kdec dk_cX9_save 33 rfl) ?_
          refine kv_iload_n C 66 rfl 1 (kdec dk_cX9_save 34 rfl) rfl rfl ?_
          refine kv_aldq C 67 rfl 24 1 rfl d35 rfl (by decide) (kdec dk_cX9_save 35 rfl) ?_
          obtain ⟨x72, e73⟩ : ∃ z : Int32, w61 34 3 = z := ⟨_, rfl⟩
          have b74 : (0 : Int) ≤ x72.toInt ∧ x72.toInt ≤ 1536 := by rw [← e73]; exact I68 34 3
          refine kv_getN C 70 rfl 34 3 rfl rfl inX5 (by decide) mfn_TaleMachine_161 rfl rfl (kdec dk_cX9_save 36 rfl) e73 ?_
          have e75 : w61 20 10 = x1 := ((f64 20 10 rfl : w61 20 10 = w 20 10).trans e2)
          have e76 : w61 2 3 = x4 := ((f64 2 3 rfl : w61 2 3 = w 2 3).trans e5)
          have e77 : w61 25 2 = x7 := ((f64 25 2 rfl : w61 25 2 = w 25 2).trans e8)
          have e78 : w61 25 5 = x10 := ((f64 25 5 rfl : w61 25 5 = w 25 5).trans e11)
          obtain ⟨x79, e80⟩ : ∃ z : Int32, w61 34 2 = z := ⟨_, rfl⟩
          have b81 : (0 : Int) ≤ x79.toInt ∧ x79.toInt ≤ 1 := by rw [← e80]; exact I68 34 2
          have e82 : w61 43 2 = x19 := ((f64 43 2 rfl : w61 43 2 = w 43 2).trans e20)
          have e83 : w61 43 5 = x22 := ((f64 43 5 rfl : w61 43 5 = w 43 5).trans e23)
          have e84 : w61 52 2 = x25 := ((f64 52 2 rfl : w61 52 2 = w 52 2).trans e26)
          have e85 : w61 52 5 = x28 := ((f64 52 5 rfl : w61 52 5 = w 52 5).trans e29)
          exact kv_iret C hr hlk (kdec dk_cX9_save 37 rfl) ⟨_, rfl, I68, F67, (by rw [e75, e76]; try omega), (by rw [e2]; try omega), (by rw [e77, e78]; try omega), (by rw [e80, e70]; try omega), (by rw [e82, e83]; try omega), (by rw [e84, e85]; try omega)⟩
        · skip
          refine kv_aldq C 46 rfl 24 2 rfl d35 rfl (by decide) (kdec dk_cX9_save 24 rfl) ?_
          refine kv_aload_n C 47 rfl 0 (kdec dk_cX9_save 25 rfl) rfl rfl ?_
          refine kv_getr C 50 rfl 0 1 rfl rfl inX9 (by decide) mfl_TaleMachine_16 rfl rfl (kdec dk_cX9_save 26 rfl) ?_
          refine kv_aload_n C 51 rfl 0 (kdec dk_cX9_save 27 rfl) rfl rfl ?_
          refine kv_getr C 54 rfl 0 2 rfl rfl inX9 (by decide) mfl_TaleMachine_23 rfl rfl (kdec dk_cX9_save 28 rfl) ?_
          refine kv_aload_n C 55 rfl 0 (kdec dk_cX9_save 29 rfl) rfl rfl ?_
          refine kv_getr C 58 rfl 0 7 rfl rfl inX9 (by decide) mfl_TaleMachine_60 rfl rfl (kdec dk_cX9_save 30 rfl) ?_
          refine kv_callVNv (As := [.ref (ρ 2), .ref (ρ 5), .ref (ρ 20)]) (rest := []) C 61 rfl 43 (k_s_keep2 l D τ ρ σ w  (kI_strong hI (by rw [e5]; omega)) ) rfl rfl mmn_TaleMachine_157 mim_yX5_keep mse_yX5_keep mcd_yX5_keep min_yX5_keep hd_yX5_keep rfl rfl rfl (by decide) rfl (Nat.le_of_ble_eq_true rfl) (kdec dk_cX9_save 31 rfl) (fun w86 h87 => ?_)
          obtain ⟨I88, f89, p91⟩ := h87
          have I93 := kI_weak I88
          have F92 : kF [(25, some 2), (25, some 3), (25, some 4), (25, some 5), (25, some 6), (25, some 7), (26, none), (27, some 6), (27, some 7), (28, none), (29, none), (30, none), (31, none), (32, none), (33, none), (34, some 2), (34, some 3), (34, some 4), (34, some 5), (34, some 6), (34, some 7), (35, none), (36, some 6), (36, some 7), (37, none), (38, none), (39, none), (40, none), (41, none), (42, none), (43, some 2), (43, some 3), (43, some 4), (43, some 5), (43, some 6), (43, some 7), (44, none), (45, some 6), (45, some 7), (46, none), (47, none), (48, none), (49, none), (50, none), (51, none), (52, some 2), (52, some 3), (52, some 4), (52, some 5), (52, some 6), (52, some 7), (53, none), (54, some 6), (54, some 7), (55, none), (56, none), (57, none), (58, none), (59, none), (60, none)] w w86 := kF_call hF0 f89 (by decide)
          obtain ⟨x94, e95⟩ : ∃ z : Int32, w86 43 5 = z := ⟨_, rfl⟩
          have b96 : (0 : Int) ≤ x94.toInt ∧ x94.toInt ≤ 4 := by rw [← e95]; exact I93 43 5
          rw [e2, e95] at p91
          refine kv_aload_n C 62 rfl 0 (kdec dk_cX9_save 32 rfl) rfl rfl ?_
          refine kv_getr C 65 rfl 0 8 rfl rfl inX9 (by decide) mfl_TaleMachine_66 rfl rfl (kdec dk_cX9_save 33 rfl) ?_
          refine kv_iload_n C 66 rfl 1 (kdec dk_cX9_save 34 rfl) rfl rfl ?_
          refine kv_aldq C 67 rfl 24 2 rfl d35 rfl (by decide) (kdec dk_cX9_save 35 rfl) ?_
          obtain ⟨x97, e98⟩ : ∃ z : Int32, w86 43 3 = z := ⟨_, rfl⟩
          have b99 : (0 : Int) ≤ x97.toInt ∧ x97.toInt ≤ 1536 := by rw [← e98]; exact I93 43 3
          refine kv_getN C 70 rfl 43 3 rfl rfl inX5 (by decide) mfn_TaleMachine_161 rfl rfl (kdec dk_cX9_save 36 rfl) e98 ?_
          have e100 : w86 20 10 = x1 := ((f89 20 10 rfl : w86 20 10 = w 20 10).trans e2)
          have e101 : w86 2 3 = x4 := ((f89 2 3 rfl : w86 2 3 = w 2 3).trans e5)
          have e102 : w86 25 2 = x7 := ((f89 25 2 rfl : w86 25 2 = w 25 2).trans e8)
          have e103 : w86 25 5 = x10 := ((f89 25 5 rfl : w86 25 5 = w 25 5).trans e11)
          have e104 : w86 34 2 = x13 := ((f89 34 2 rfl : w86 34 2 = w 34 2).trans e14)
          have e105 : w86 34 5 = x16 := ((f89 34 5 rfl : w86 34 5 = w 34 5).trans e17)
          obtain ⟨x106, e107⟩ : ∃ z : Int32, w86 43 2 = z := ⟨_, rfl⟩
          have b108 : (0 : Int) ≤ x106.toInt ∧ x106.toInt ≤ 1 := by rw [← e107]; exact I93 43 2
          have e109 : w86 52 2 = x25 := ((f89 52 2 rfl : w86 52 2 = w 52 2).trans e26)
          have e110 : w86 52 5 = x28 := ((f89 52 5 rfl : w86 52 5 = w 52 5).trans e29)
          exact kv_iret C hr hlk (kdec dk_cX9_save 37 rfl) ⟨_, rfl, I93, F92, (by rw [e100, e101]; try omega), (by rw [e2]; try omega), (by rw [e102, e103]; try omega), (by rw [e104, e105]; try omega), (by rw [e107, e95]; try omega), (by rw [e109, e110]; try omega)⟩
        · skip
          refine kv_aldq C 46 rfl 24 3 rfl d35 rfl (by decide) (kdec dk_cX9_save 24 rfl) ?_
          refine kv_aload_n C 47 rfl 0 (kdec dk_cX9_save 25 rfl) rfl rfl ?_
          refine kv_getr C 50 rfl 0 1 rfl rfl inX9 (by decide) mfl_TaleMachine_16 rfl rfl (kdec dk_cX9_save 26 rfl) ?_
          refine kv_aload_n C 51 rfl 0 (kdec dk_cX9_save 27 rfl) rfl rfl ?_
          refine kv_getr C 54 rfl 0 2 rfl rfl inX9 (by decide) mfl_TaleMachine_23 rfl rfl (kdec dk_cX9_save 28 rfl) ?_
          refine kv_aload_n C 55 rfl 0 (kdec dk_cX9_save 29 rfl) rfl rfl ?_
          refine kv_getr C 58 rfl 0 7 rfl rfl inX9 (by decide) mfl_TaleMachine_60 rfl rfl (kdec dk_cX9_save 30 rfl) ?_
          refine kv_callVNv (As := [.ref (ρ 2), .ref (ρ 5), .ref (ρ 20)]) (rest := []) C 61 rfl 52 (k_s_keep3 l D τ ρ σ w  (kI_strong hI (by rw [e5]; omega)) ) rfl rfl mmn_TaleMachine_157 mim_yX5_keep mse_yX5_keep mcd_yX5_keep min_yX5_keep hd_yX5_keep rfl rfl rfl (by decide) rfl (Nat.le_of_ble_eq_true rfl) (kdec dk_cX9_save 31 rfl) (fun w111 h112 => ?_)
          obtain ⟨I113, f114, p116⟩ := h112
          have I118 := kI_weak I113
          have F117 : kF [(25, some 2), (25, some 3), (25, some 4), (25, some 5), (25, some 6), (25, some 7), (26, none), (27, some 6), (27, some 7), (28, none), (29, none), (30, none), (31, none), (32, none), (33, none), (34, some 2), (34, some 3), (34, some 4), (34, some 5), (34, some 6), (34, some 7), (35, none), (36, some 6), (36, some 7), (37, none), (38, none), (39, none), (40, none), (41, none), (42, none), (43, some 2), (43, some 3), (43, some 4), (43, some 5), (43, some 6), (43, some 7), (44, none), (45, some 6), (45, some 7), (46, none), (47, none), (48, none), (49, none), (50, none), (51, none), (52, some 2), (52, some 3), (52, some 4), (52, some 5), (52, some 6), (52, some 7), (53, none), (54, some 6), (54, some 7), (55, none), (56, none), (57, none), (58, none), (59, none), (60, none)] w w111 := kF_call hF0 f114 (by decide)
          obtain ⟨x119, e120⟩ : ∃ z : Int32, w111 52 5 = z := ⟨_, rfl⟩
          have b121 : (0 : Int) ≤ x119.toInt ∧ x119.toInt ≤ 4 := by rw [← e120]; exact I118 52 5
          rw [e2, e120] at p116
          refine kv_aload_n C 62 rfl 0 (kdec dk_cX9_save 32 rfl) rfl rfl ?_
          refine kv_getr C 65 rfl 0 8 rfl rfl inX9 (by decide) mfl_TaleMachine_66 rfl rfl (kdec dk_cX9_save 33 rfl) ?_
          refine kv_iload_n C 66 rfl 1 (kdec dk_cX9_save 34 rfl) rfl rfl ?_
          refine kv_aldq C 67 rfl 24 3 rfl d35 rfl (by decide) (kdec dk_cX9_save 35 rfl) ?_
          obtain ⟨x122, e123⟩ : ∃ z : Int32, w111 52 3 = z := ⟨_, rfl⟩
          have b124 : (0 : Int) ≤ x122.toInt ∧ x122.toInt ≤ 1536 := by rw [← e123]; exact I118 52 3
          refine kv_getN C 70 rfl 52 3 rfl rfl inX5 (by decide) mfn_TaleMachine_161 rfl rfl (kdec dk_cX9_save 36 rfl) e123 ?_
          have e125 : w111 20 10 = x1 := ((f114 20 10 rfl : w111 20 10 = w 20 10).trans e2)
          have e126 : w111 2 3 = x4 := ((f114 2 3 rfl : w111 2 3 = w 2 3).trans e5)
          have e127 : w111 25 2 = x7 := ((f114 25 2 rfl : w111 25 2 = w 25 2).trans e8)
          have e128 : w111 25 5 = x10 := ((f114 25 5 rfl : w111 25 5 = w 25 5).trans e11)
          have e129 : w111 34 2 = x13 := ((f114 34 2 rfl : w111 34 2 = w 34 2).trans e14)
          have e130 : w111 34 5 = x16 := ((f114 34 5 rfl : w111 34 5 = w 34 5).trans e17)
          have e131 : w111 43 2 = x19 := ((f114 43 2 rfl : w111 43 2 = w 43 2).trans e20)
          have e132 : w111 43 5 = x22 := ((f114 43 5 rfl : w111 43 5 = w 43 5).trans e23)
          obtain ⟨x133, e134⟩ : ∃ z : Int32, w111 52 2 = z := ⟨_, rfl⟩
          have b135 : (0 : Int) ≤ x133.toInt ∧ x133.toInt ≤ 1 := by rw [← e134]; exact I118 52 2
          exact kv_iret C hr hlk (kdec dk_cX9_save 37 rfl) ⟨_, rfl, I118, F117, (by rw [e125, e126]; try omega), (by rw [e2]; try omega), (by rw [e127, e128]; try omega), (by rw [e129, e130]; try omega), (by rw [e131, e132]; try omega), (by rw [e134, e120]; try omega)⟩
      · skip
        refine kv_aload_n C 27 rfl 0 (kdec dk_cX9_save 14 rfl) rfl rfl ?_
        refine kv_getr C 30 rfl 0 7 rfl rfl inX9 (by decide) mfl_TaleMachine_60 rfl rfl (kdec dk_cX9_save 15 rfl) ?_
        refine kv_getN C 33 rfl 20 10 rfl rfl inX1 (by decide) mfn_TaleMachine_86 rfl rfl (kdec dk_cX9_save 16 rfl) e2 ?_
        refine kv_iconst C 34 rfl 3 (kdec dk_cX9_save 17 rfl) rfl ?_
        refine kv_icmp_eq C 37 rfl 40 (kdec dk_cX9_save 18 rfl) (by decide) (fun d136 => ?_) (fun d136 => ?_)
        · skip
          refine kv_aload_n C 41 rfl 0 (kdec dk_cX9_save 21 rfl) rfl rfl ?_
          refine kv_getr C 44 rfl 0 8 rfl rfl inX9 (by decide) mfl_TaleMachine_66 rfl rfl (kdec dk_cX9_save 22 rfl) ?_
          refine kv_iload_n C 45 rfl 1 (kdec dk_cX9_save 23 rfl) rfl rfl ?_
          have d137 : (a1 : Int32).toInt = 0 ∨ (a1 : Int32).toInt = 1 ∨ (a1 : Int32).toInt = 2 ∨ (a1 : Int32).toInt = 3 := by omega
          rcases d137 with d137 | d137 | d137 | d137
          · skip
            refine kv_aldq C 46 rfl 24 0 rfl d137 rfl (by decide) (kdec dk_cX9_save 24 rfl) ?_
            refine kv_aload_n C 47 rfl 0 (kdec dk_cX9_save 25 rfl) rfl rfl ?_
            refine kv_getr C 50 rfl 0 1 rfl rfl inX9 (by decide) mfl_TaleMachine_16 rfl rfl (kdec dk_cX9_save 26 rfl) ?_
            refine kv_aload_n C 51 rfl 0 (kdec dk_cX9_save 27 rfl) rfl rfl ?_
            refine kv_getr C 54 rfl 0 2 rfl rfl inX9 (by decide) mfl_TaleMachine_23 rfl rfl (kdec dk_cX9_save 28 rfl) ?_
            refine kv_aload_n C 55 rfl 0 (kdec dk_cX9_save 29 rfl) rfl rfl ?_
            refine kv_getr C 58 rfl 0 7 rfl rfl inX9 (by decide) mfl_TaleMachine_60 rfl rfl (kdec dk_cX9_save 30 rfl) ?_
            refine kv_callVNv (As := [.ref (ρ 2), .ref (ρ 5), .ref (ρ 20)]) (rest := []) C 61 rfl 25 (k_s_keep0 l D τ ρ σ w  (kI_strong hI (by rw [e5]; omega)) ) rfl rfl mmn_TaleMachine_157 mim_yX5_keep mse_yX5_keep mcd_yX5_keep min_yX5_keep hd_yX5_keep rfl rfl rfl (by decide) rfl (Nat.le_of_ble_eq_true rfl) (kdec dk_cX9_save 31 rfl) (fun w138 h139 => ?_)
            obtain ⟨I140, f141, p143⟩ := h139
            have I145 := kI_weak I140
            have F144 : kF [(25, some 2), (25, some 3), (25, some 4), (25, some 5), (25, some 6), (25, some 7), (26, none), (27, some 6), (27, some 7), (28, none), (29, none), (30, none), (31, none), (32, none), (33, none), (34, some 2), (34, some 3), (34, some 4), (34, some 5), (34, some 6), (34, some 7), (35, none), (36, some 6), (36, some 7), (37, none), (38, none), (39, none), (40, none), (41, none), (42, none), (43, some 2), (43, some 3), (43, some 4), (43, some 5), (43, some 6), (43, some 7), (44, none), (45, some 6), (45, some 7), (46, none), (47, none), (48, none), (49, none), (50, none), (51, none), (52, some 2), (52, some 3), (52, some 4), (52, some 5), (52, some 6), (52, some 7), (53, none), (54, some 6), (54, some 7), (55, none), (56, none), (57, none), (58, none), (59, none), (60, none)] w w138 := kF_call hF0 f141 (by decide)
            obtain ⟨x146, e147⟩ : ∃ z : Int32, w138 25 5 = z := ⟨_, rfl⟩
            have b148 : (0 : Int) ≤ x146.toInt ∧ x146.toInt ≤ 4 := by rw [← e147]; exact I145 25 5
            rw [e2, e147] at p143
            refine kv_aload_n C 62 rfl 0 (kdec dk_cX9_save 32 rfl) rfl rfl ?_
            refine kv_getr C 65 rfl 0 8 rfl rfl inX9 (by decide) mfl_TaleMachine_66 rfl rfl (kdec dk_cX9_save 33 rfl) ?_
            refine kv_iload_n C 66 rfl 1 (kdec dk_cX9_save 34 rfl) rfl rfl ?_
            refine kv_aldq C 67 rfl 24 0 rfl d137 rfl (by decide) (kdec dk_cX9_save 35 rfl) ?_
            obtain ⟨x149, e150⟩ : ∃ z : Int32, w138 25 3 = z := ⟨_, rfl⟩
            have b151 : (0 : Int) ≤ x149.toInt ∧ x149.toInt ≤ 1536 := by rw [← e150]; exact I145 25 3
            refine kv_getN C 70 rfl 25 3 rfl rfl inX5 (by decide) mfn_TaleMachine_161 rfl rfl (kdec dk_cX9_save 36 rfl) e150 ?_
            have e152 : w138 20 10 = x1 := ((f141 20 10 rfl : w138 20 10 = w 20 10).trans e2)
            have e153 : w138 2 3 = x4 := ((f141 2 3 rfl : w138 2 3 = w 2 3).trans e5)
            obtain ⟨x154, e155⟩ : ∃ z : Int32, w138 25 2 = z := ⟨_, rfl⟩
            have b156 : (0 : Int) ≤ x154.toInt ∧ x154.toInt ≤ 1 := by rw [← e155]; exact I145 25 2
            have e157 : w138 34 2 = x13 := ((f141 34 2 rfl : w138 34 2 = w 34 2).trans e14)
            have e158 : w138 34 5 = x16 := ((f141 34 5 rfl : w138 34 5 = w 34 5).trans e17)
            have e159 : w138 43 2 = x19 := ((f141 43 2 rfl : w138 43 2 = w 43 2).trans e20)
            have e160 : w138 43 5 = x22 := ((f141 43 5 rfl : w138 43 5 = w 43 5).trans e23)
            have e161 : w138 52 2 = x25 := ((f141 52 2 rfl : w138 52 2 = w 52 2).trans e26)
            have e162 : w138 52 5 = x28 := ((f141 52 5 rfl : w138 52 5 = w 52 5).trans e29)
            exact kv_iret C hr hlk (kdec dk_cX9_save 37 rfl) ⟨_, rfl, I145, F144, (by rw [e152, e153]; try omega), (by rw [e2]; try omega), (by rw [e155, e147]; try omega), (by rw [e157, e158]; try omega), (by rw [e159, e160]; try omega), (by rw [e161, e162]; try omega)⟩
          · skip
            refine kv_aldq C 46 rfl 24 1 rfl d137 rfl (by decide) (kdec dk_cX9_save 24 rfl) ?_
            refine kv_aload_n C 47 rfl 0 (kdec dk_cX9_save 25 rfl) rfl rfl ?_
            refine kv_getr C 50 rfl 0 1 rfl rfl inX9 (by decide) mfl_TaleMachine_16 rfl rfl (kdec dk_cX9_save 26 rfl) ?_
            refine kv_aload_n C 51 rfl 0 (kdec dk_cX9_save 27 rfl) rfl rfl ?_
            refine kv_getr C 54 rfl 0 2 rfl rfl inX9 (by decide) mfl_TaleMachine_23 rfl rfl (kdec dk_cX9_save 28 rfl) ?_
            refine kv_aload_n C 55 rfl 0 (kdec dk_cX9_save 29 rfl) rfl rfl ?_
            refine kv_getr C 58 rfl 0 7 rfl rfl inX9 (by decide) mfl_TaleMachine_60 rfl rfl (kdec dk_cX9_save 30 rfl) ?_
            refine kv_callVNv (As := [.ref (ρ 2), .ref (ρ 5), .ref (ρ 20)]) (rest := []) C 61 rfl 34 (k_s_keep1 l D τ ρ σ w  (kI_strong hI (by rw [e5]; omega)) ) rfl rfl mmn_TaleMachine_157 mim_yX5_keep mse_yX5_keep mcd_yX5_keep min_yX5_keep hd_yX5_keep rfl rfl rfl (by decide) rfl (Nat.le_of_ble_eq_true rfl) (kdec dk_cX9_save 31 rfl) (fun w163 h164 => ?_)
            obtain ⟨I165, f166, p168⟩ := h164
            have I170 := kI_weak I165
            have F169 : kF [(25, some 2), (25, some 3), (25, some 4), (25, some 5), (25, some 6), (25, some 7), (26, none), (27, some 6), (27, some 7), (28, none), (29, none), (30, none), (31, none), (32, none), (33, none), (34, some 2), (34, some 3), (34, some 4), (34, some 5), (34, some 6), (34, some 7), (35, none), (36, some 6), (36, some 7), (37, none), (38, none), (39, none), (40, none), (41, none), (42, none), (43, some 2), (43, some 3), (43, some 4), (43, some 5), (43, some 6), (43, some 7), (44, none), (45, some 6), (45, some 7), (46, none), (47, none), (48, none), (49, none), (50, none), (51, none), (52, some 2), (52, some 3), (52, some 4), (52, some 5), (52, some 6), (52, some 7), (53, none), (54, some 6), (54, some 7), (55, none), (56, none), (57, none), (58, none), (59, none), (60, none)] w w163 := kF_call hF0 f166 (by decide)
            obtain ⟨x171, e172⟩ : ∃ z : Int32, w163 34 5 = z := ⟨_, rfl⟩
            have b173 : (0 : Int) ≤ x171.toInt ∧ x171.toInt ≤ 4 := by rw [← e172]; exact I170 34 5
            rw [e2, e172] at p168
            refine kv_aload_n C 62 rfl 0 (kdec dk_cX9_save 32 rfl) rfl rfl ?_
            refine kv_getr C 65 rfl 0 8 rfl rfl inX9 (by decide) mfl_TaleMachine_66 rfl rfl (kdec dk_cX9_save 33 rfl) ?_
            refine kv_iload_n C 66 rfl 1 (kdec dk_cX9_save 34 rfl) rfl rfl ?_
            refine kv_aldq C 67 rfl 24 1 rfl d137 rfl (by decide) (kdec dk_cX9_save 35 rfl) ?_
            obtain ⟨x174, e175⟩ : ∃ z : Int32, w163 34 3 = z := ⟨_, rfl⟩
            have b176 : (0 : Int) ≤ x174.toInt ∧ x174.toInt ≤ 1536 := by rw [← e175]; exact I170 34 3
            refine kv_getN C 70 rfl 34 3 rfl rfl inX5 (by decide) mfn_TaleMachine_161 rfl rfl (kdec dk_cX9_save 36 rfl) e175 ?_
            have e177 : w163 20 10 = x1 := ((f166 20 10 rfl : w163 20 10 = w 20 10).trans e2)
            have e178 : w163 2 3 = x4 := ((f166 2 3 rfl : w163 2 3 = w 2 3).trans e5)
            have e179 : w163 25 2 = x7 := ((f166 25 2 rfl : w163 25 2 = w 25 2).trans e8)
            have e180 : w163 25 5 = x10 := ((f166 25 5 rfl : w163 25 5 = w 25 5).trans e11)
            obtain ⟨x181, e182⟩ : ∃ z : Int32, w163 34 2 = z := ⟨_, rfl⟩
            have b183 : (0 : Int) ≤ x181.toInt ∧ x181.toInt ≤ 1 := by rw [← e182]; exact I170 34 2
            have e184 : w163 43 2 = x19 := ((f166 43 2 rfl : w163 43 2 = w 43 2).trans e20)
            have e185 : w163 43 5 = x22 := ((f166 43 5 rfl : w163 43 5 = w 43 5).trans e23)
            have e186 : w163 52 2 = x25 := ((f166 52 2 rfl : w163 52 2 = w 52 2).trans e26)
            have e187 : w163 52 5 = x28 := ((f166 52 5 rfl : w163 52 5 = w 52 5).trans e29)
            exact kv_iret C hr hlk (kdec dk_cX9_save 37 rfl) ⟨_, rfl, I170, F169, (by rw [e177, e178]; try omega), (by rw [e2]; try omega), (by rw [e179, e180]; try omega), (by rw [e182, e172]; try omega), (by rw [e184, e185]; try omega), (by rw [e186, e187]; try omega)⟩
          · skip
            refine kv_aldq C 46 rfl 24 2 rfl d137 rfl (by decide) (kdec dk_cX9_save 24 rfl) ?_
            refine kv_aload_n C 47 rfl 0 (kdec dk_cX9_save 25 rfl) rfl rfl ?_
            refine kv_getr C 50 rfl 0 1 rfl rfl inX9 (by decide) mfl_TaleMachine_16 rfl rfl (kdec dk_cX9_save 26 rfl) ?_
            refine kv_aload_n C 51 rfl 0 (kdec dk_cX9_save 27 rfl) rfl rfl ?_
            refine kv_getr C 54 rfl 0 2 rfl rfl inX9 (by decide) mfl_TaleMachine_23 rfl rfl (kdec dk_cX9_save 28 rfl) ?_
            refine kv_aload_n C 55 rfl 0 (kdec dk_cX9_save 29 rfl) rfl rfl ?_
            refine kv_getr C 58 rfl 0 7 rfl rfl inX9 (by decide) mfl_TaleMachine_60 rfl rfl (kdec dk_cX9_save 30 rfl) ?_
            refine kv_callVNv (As := [.ref (ρ 2), .ref (ρ 5), .ref (ρ 20)]) (rest := []) C 61 rfl 43 (k_s_keep2 l D τ ρ σ w  (kI_strong hI (by rw [e5]; omega)) ) rfl rfl mmn_TaleMachine_157 mim_yX5_keep mse_yX5_keep mcd_yX5_keep min_yX5_keep hd_yX5_keep rfl rfl rfl (by decide) rfl (Nat.le_of_ble_eq_true rfl) (kdec dk_cX9_save 31 rfl) (fun w188 h189 => ?_)
            obtain ⟨I190, f191, p193⟩ := h189
            have I195 := kI_weak I190
            have F194 : kF [(25, some 2), (25, some 3), (25, some 4), (25, some 5), (25, some 6), (25, some 7), (26, none), (27, some 6), (27, some 7), (28, none), (29, none), (30, none), (31, none), (32, none), (33, none), (34, some 2), (34, some 3), (34, some 4), (34, some 5), (34, some 6), (34, some 7), (35, none), (36, some 6), (36, some 7), (37, none), (38, none), (39, none), (40, none), (41, none), (42, none), (43, some 2), (43, some 3), (43, some 4), (43, some 5), (43, some 6), (43, some 7), (44, none), (45, some 6), (45, some 7), (46, none), (47, none), (48, none), (49, none), (50, none), (51, none), (52, some 2), (52, some 3), (52, some 4), (52, some 5), (52, some 6), (52, some 7), (53, none), (54, some 6), (54, some 7), (55, none), (56, none), (57, none), (58, none), (59, none), (60, none)] w w188 := kF_call hF0 f191 (by decide)
            obtain ⟨x196, e197⟩ : ∃ z : Int32, w188 43 5 = z := ⟨_, rfl⟩
            have b198 : (0 : Int) ≤ x196.toInt ∧ x196.toInt ≤ 4 := by rw [← e197]; exact I195 43 5
            rw [e2, e197] at p193
            refine kv_aload_n C 62 rfl 0 (kdec dk_cX9_save 32 rfl) rfl rfl ?_
            refine kv_getr C 65 rfl 0 8 rfl rfl inX9 (by decide) mfl_TaleMachine_66 rfl rfl (kdec dk_cX9_save 33 rfl) ?_
            refine kv_iload_n C 66 rfl 1 (kdec dk_cX9_save 34 rfl) rfl rfl ?_
            refine kv_aldq C 67 rfl 24 2 rfl d137 rfl (by decide) (kdec dk_cX9_save 35 rfl) ?_
            obtain ⟨x199, e200⟩ : ∃ z : Int32, w188 43 3 = z := ⟨_, rfl⟩
            have b201 : (0 : Int) ≤ x199.toInt ∧ x199.toInt ≤ 1536 := by rw [← e200]; exact I195 43 3
            refine kv_getN C 70 rfl 43 3 rfl rfl inX5 (by decide) mfn_TaleMachine_161 rfl rfl (kdec dk_cX9_save 36 rfl) e200 ?_
            have e202 : w188 20 10 = x1 := ((f191 20 10 rfl : w188 20 10 = w 20 10).trans e2)
            have e203 : w188 2 3 = x4 := ((f191 2 3 rfl : w188 2 3 = w 2 3).trans e5)
            have e204 : w188 25 2 = x7 := ((f191 25 2 rfl : w188 25 2 = w 25 2).trans e8)
            have e205 : w188 25 5 = x10 := ((f191 25 5 rfl : w188 25 5 = w 25 5).trans e11)
            have e206 : w188 34 2 = x13 := ((f191 34 2 rfl : w188 34 2 = w 34 2).trans e14)
            have e207 : w188 34 5 = x16 := ((f191 34 5 rfl : w188 34 5 = w 34 5).trans e17)
            obtain ⟨x208, e209⟩ : ∃ z : Int32, w188 43 2 = z := ⟨_, rfl⟩
            have b210 : (0 : Int) ≤ x208.toInt ∧ x208.toInt ≤ 1 := by rw [← e209]; exact I195 43 2
            have e211 : w188 52 2 = x25 := ((f191 52 2 rfl : w188 52 2 = w 52 2).trans e26)
            have e212 : w188 52 5 = x28 := ((f191 52 5 rfl : w188 52 5 = w 52 5).trans e29)
            exact kv_iret C hr hlk (kdec dk_cX9_save 37 rfl) ⟨_, rfl, I195, F194, (by rw [e202, e203]; try omega), (by rw [e2]; try omega), (by rw [e204, e205]; try omega), (by rw [e206, e207]; try omega), (by rw [e209, e197]; try omega), (by rw [e211, e212]; try omega)⟩
          · skip
            refine kv_aldq C 46 rfl 24 3 rfl d137 rfl (by decide) (kdec dk_cX9_save 24 rfl) ?_
            refine kv_aload_n C 47 rfl 0 (kdec dk_cX9_save 25 rfl) rfl rfl ?_
            refine kv_getr C 50 rfl 0 1 rfl rfl inX9 (by decide) mfl_TaleMachine_16 rfl rfl (kdec dk_cX9_save 26 rfl) ?_
            refine kv_aload_n C 51 rfl 0 (kdec dk_cX9_save 27 rfl) rfl rfl ?_
            refine kv_getr C 54 rfl 0 2 rfl rfl inX9 (by decide) mfl_TaleMachine_23 rfl rfl (kdec dk_cX9_save 28 rfl) ?_
            refine kv_aload_n C 55 rfl 0 (kdec dk_cX9_save 29 rfl) rfl rfl ?_
            refine kv_getr C 58 rfl 0 7 rfl rfl inX9 (by decide) mfl_TaleMachine_60 rfl rfl (kdec dk_cX9_save 30 rfl) ?_
            refine kv_callVNv (As := [.ref (ρ 2), .ref (ρ 5), .ref (ρ 20)]) (rest := []) C 61 rfl 52 (k_s_keep3 l D τ ρ σ w  (kI_strong hI (by rw [e5]; omega)) ) rfl rfl mmn_TaleMachine_157 mim_yX5_keep mse_yX5_keep mcd_yX5_keep min_yX5_keep hd_yX5_keep rfl rfl rfl (by decide) rfl (Nat.le_of_ble_eq_true rfl) (kdec dk_cX9_save 31 rfl) (fun w213 h214 => ?_)
            obtain ⟨I215, f216, p218⟩ := h214
            have I220 := kI_weak I215
            have F219 : kF [(25, some 2), (25, some 3), (25, some 4), (25, some 5), (25, some 6), (25, some 7), (26, none), (27, some 6), (27, some 7), (28, none), (29, none), (30, none), (31, none), (32, none), (33, none), (34, some 2), (34, some 3), (34, some 4), (34, some 5), (34, some 6), (34, some 7), (35, none), (36, some 6), (36, some 7), (37, none), (38, none), (39, none), (40, none), (41, none), (42, none), (43, some 2), (43, some 3), (43, some 4), (43, some 5), (43, some 6), (43, some 7), (44, none), (45, some 6), (45, some 7), (46, none), (47, none), (48, none), (49, none), (50, none), (51, none), (52, some 2), (52, some 3), (52, some 4), (52, some 5), (52, some 6), (52, some 7), (53, none), (54, some 6), (54, some 7), (55, none), (56, none), (57, none), (58, none), (59, none), (60, none)] w w213 := kF_call hF0 f216 (by decide)
            obtain ⟨x221, e222⟩ : ∃ z : Int32, w213 52 5 = z := ⟨_, rfl⟩
            have b223 : (0 : Int) ≤ x221.toInt ∧ x221.toInt ≤ 4 := by rw [← e222]; exact I220 52 5
            rw [e2, e222] at p218
            refine kv_aload_n C 62 rfl 0 (kdec dk_cX9_save 32 rfl) rfl rfl ?_
            refine kv_getr C 65 rfl 0 8 rfl rfl inX9 (by decide) mfl_TaleMachine_66 rfl rfl (kdec dk_cX9_save 33 rfl) ?_
            refine kv_iload_n C 66 rfl 1 (kdec dk_cX9_save 34 rfl) rfl rfl ?_
            refine kv_aldq C 67 rfl 24 3 rfl d137 rfl (by decide) (kdec dk_cX9_save 35 rfl) ?_
            obtain ⟨x224, e225⟩ : ∃ z : Int32, w213 52 3 = z := ⟨_, rfl⟩
            have b226 : (0 : Int) ≤ x224.toInt ∧ x224.toInt ≤ 1536 := by rw [← e225]; exact I220 52 3
            refine kv_getN C 70 rfl 52 3 rfl rfl inX5 (by decide) mfn_TaleMachine_161 rfl rfl (kdec dk_cX9_save 36 rfl) e225 ?_
            have e227 : w213 20 10 = x1 := ((f216 20 10 rfl : w213 20 10 = w 20 10).trans e2)
            have e228 : w213 2 3 = x4 := ((f216 2 3 rfl : w213 2 3 = w 2 3).trans e5)
            have e229 : w213 25 2 = x7 := ((f216 25 2 rfl : w213 25 2 = w 25 2).trans e8)
            have e230 : w213 25 5 = x10 := ((f216 25 5 rfl : w213 25 5 = w 25 5).trans e11)
            have e231 : w213 34 2 = x13 := ((f216 34 2 rfl : w213 34 2 = w 34 2).trans e14)
            have e232 : w213 34 5 = x16 := ((f216 34 5 rfl : w213 34 5 = w 34 5).trans e17)
            have e233 : w213 43 2 = x19 := ((f216 43 2 rfl : w213 43 2 = w 43 2).trans e20)
            have e234 : w213 43 5 = x22 := ((f216 43 5 rfl : w213 43 5 = w 43 5).trans e23)
            obtain ⟨x235, e236⟩ : ∃ z : Int32, w213 52 2 = z := ⟨_, rfl⟩
            have b237 : (0 : Int) ≤ x235.toInt ∧ x235.toInt ≤ 1 := by rw [← e236]; exact I220 52 2
            exact kv_iret C hr hlk (kdec dk_cX9_save 37 rfl) ⟨_, rfl, I220, F219, (by rw [e227, e228]; try omega), (by rw [e2]; try omega), (by rw [e229, e230]; try omega), (by rw [e231, e232]; try omega), (by rw [e233, e234]; try omega), (by rw [e236, e222]; try omega)⟩
        · skip
          refine kv_bipush C 39 rfl (-2) (kdec dk_cX9_save 19 rfl) rfl ?_
          exact kv_iret C hr hlk (kdec dk_cX9_save 20 rfl) ⟨_, rfl, hI, hF0, (by rw [e2, e5]; try omega), (by rw [e2]; try omega), (by rw [e8, e11]; try omega), (by rw [e14, e17]; try omega), (by rw [e20, e23]; try omega), (by rw [e26, e29]; try omega)⟩
    · skip
      refine kv_iconst C 14 rfl (-1) (kdec dk_cX9_save 7 rfl) rfl ?_
      exact kv_iret C hr hlk (kdec dk_cX9_save 8 rfl) ⟨_, rfl, hI, hF0, (by rw [e2, e5]; try omega), (by rw [e2]; try omega), (by rw [e8, e11]; try omega), (by rw [e14, e17]; try omega), (by rw [e20, e23]; try omega), (by rw [e26, e29]; try omega)⟩

set_option maxHeartbeats 4000000 in
set_option maxRecDepth 100000 in
theorem k_m_restore (l : Launch) (D : va_G) (τ : Nat → ClassId) (ρ σ : Nat → Nat) (w : kw) (a1 : Int32) (hI : kI false w) (hp0 : (w 20 10).toInt = 0 ∨ (w 2 3).toInt ≤ 1024) (hp1 : (w 25 2).toInt = 0 ∨ 1 ≤ (w 25 5).toInt) (hp2 : (w 34 2).toInt = 0 ∨ 1 ≤ (w 34 5).toInt) (hp3 : (w 43 2).toInt = 0 ∨ 1 ≤ (w 43 5).toInt) (hp4 : (w 52 2).toInt = 0 ∨ 1 ≤ (w 52 5).toInt) :
    kM l D τ ρ σ yX9_restore cX9_restore 2 (some .int) { frames := 5, cells := 0, slots := 0, locals := 180 } [.ref (ρ 0), .int a1] w
      (fun o w' => ∃ r : Int32, o = some (.int r) ∧ kI false w' ∧ kF [(2, some 9), (3, none), (5, some 6), (5, some 7), (6, none), (7, none), (8, none), (9, none), (10, none), (11, none), (20, some 8), (20, some 10), (20, some 13), (20, some 14)] w w' ∧ ((w' 20 10).toInt = 0 ∨ (w' 2 3).toInt ≤ 1024) ∧ (¬ (w 20 10).toInt = 0 ∨ (a1.toInt < 0 ∨ 3 < a1.toInt) ∧ r.toInt = -1 ∨ 0 ≤ a1.toInt ∧ a1.toInt ≤ 3 ∧ r.toInt = -2) ∧ ((w 20 10).toInt = 0 ∧ (w' 20 10).toInt = 0 ∨ 1 ≤ (w 20 10).toInt ∧ 1 ≤ (w' 20 10).toInt)) := by
  refine kM_of (own := "TaleMachine") rfl (by decide) (Nat.le_of_ble_eq_true rfl) ?_
  intro p e s m args below meth c C hr hlk
  have hF0 : kF [(2, some 9), (3, none), (5, some 6), (5, some 7), (6, none), (7, none), (8, none), (9, none), (10, none), (11, none), (20, some 8), (20, some 10), (20, some 13), (20, some 14)] w w := kF.rf
  have c_m2 : (-2 : Int32).toInt = -2 := by decide
  have c_m1 : (-1 : Int32).toInt = -1 := by decide
  have c_1 : (1 : Int32).toInt = 1 := by decide
  have c_4 : (4 : Int32).toInt = 4 := by decide
  refine kV.L (L' := [(0, .ref (ρ 0)), (1, .int a1)]) rfl ?_
  obtain ⟨x1, e2⟩ : ∃ z : Int32, w 20 10 = z := ⟨_, rfl⟩
  have b3 : (0 : Int) ≤ x1.toInt ∧ x1.toInt ≤ 4 := by rw [← e2]; exact hI 20 10
  obtain ⟨x4, e5⟩ : ∃ z : Int32, w 2 3 = z := ⟨_, rfl⟩
  have b6 : (0 : Int) ≤ x4.toInt ∧ x4.toInt ≤ 65535 := by rw [← e5]; exact hI 2 3
  rw [e2, e5] at hp0
  obtain ⟨x7, e8⟩ : ∃ z : Int32, w 25 2 = z := ⟨_, rfl⟩
  have b9 : (0 : Int) ≤ x7.toInt ∧ x7.toInt ≤ 1 := by rw [← e8]; exact hI 25 2
  obtain ⟨x10, e11⟩ : ∃ z : Int32, w 25 5 = z := ⟨_, rfl⟩
  have b12 : (0 : Int) ≤ x10.toInt ∧ x10.toInt ≤ 4 := by rw [← e11]; exact hI 25 5
  rw [e8, e11] at hp1
  obtain ⟨x13, e14⟩ : ∃ z : Int32, w 34 2 = z := ⟨_, rfl⟩
  have b15 : (0 : Int) ≤ x13.toInt ∧ x13.toInt ≤ 1 := by rw [← e14]; exact hI 34 2
  obtain ⟨x16, e17⟩ : ∃ z : Int32, w 34 5 = z := ⟨_, rfl⟩
  have b18 : (0 : Int) ≤ x16.toInt ∧ x16.toInt ≤ 4 := by rw [← e17]; exact hI 34 5
  rw [e14, e17] at hp2
  obtain ⟨x19, e20⟩ : ∃ z : Int32, w 43 2 = z := ⟨_, rfl⟩
  have b21 : (0 : Int) ≤ x19.toInt ∧ x19.toInt ≤ 1 := by rw [← e20]; exact hI 43 2
  obtain ⟨x22, e23⟩ : ∃ z : Int32, w 43 5 = z := ⟨_, rfl⟩
  have b24 : (0 : Int) ≤ x22.toInt ∧ x22.toInt ≤ 4 := by rw [← e23]; exact hI 43 5
  rw [e20, e23] at hp3
  obtain ⟨x25, e26⟩ : ∃ z : Int32, w 52 2 = z := ⟨_, rfl⟩
  have b27 : (0 : Int) ≤ x25.toInt ∧ x25.toInt ≤ 1 := by rw [← e26]; exact hI 52 2
  obtain ⟨x28, e29⟩ : ∃ z : Int32, w 52 5 = z := ⟨_, rfl⟩
  have b30 : (0 : Int) ≤ x28.toInt ∧ x28.toInt ≤ 4 := by rw [← e29]; exact hI 52 5
  rw [e26, e29] at hp4
  have g31 := kf_rng a1
  refine kv_iload_n C 1 rfl 1 (kdec dk_cX9_restore 0 rfl) rfl rfl ?_
  refine kv_if_lt C 4 rfl 13 (kdec dk_cX9_restore 1 rfl) (by decide) (fun d32 => ?_) (fun d32 => ?_)
  · skip
    refine kv_iconst C 14 rfl (-1) (kdec dk_cX9_restore 7 rfl) rfl ?_
    exact kv_iret C hr hlk (kdec dk_cX9_restore 8 rfl) ⟨_, rfl, hI, hF0, (by rw [e2, e5]; try omega), (by rw [e2]; try omega), (by rw [e2]; try omega)⟩
  · skip
    refine kv_iload_n C 5 rfl 1 (kdec dk_cX9_restore 2 rfl) rfl rfl ?_
    refine kv_aload_n C 6 rfl 0 (kdec dk_cX9_restore 3 rfl) rfl rfl ?_
    refine kv_getr C 9 rfl 0 8 rfl rfl inX9 (by decide) mfl_TaleMachine_66 rfl rfl (kdec dk_cX9_restore 4 rfl) ?_
    refine kv_alenq C 10 rfl 24 4 rfl rfl (kdec dk_cX9_restore 5 rfl) ?_
    refine kv_icmp_lt C 13 rfl 15 (kdec dk_cX9_restore 6 rfl) (by decide) (fun d33 => ?_) (fun d33 => ?_)
    · skip
      refine kv_aload_n C 16 rfl 0 (kdec dk_cX9_restore 9 rfl) rfl rfl ?_
      refine kv_getr C 19 rfl 0 7 rfl rfl inX9 (by decide) mfl_TaleMachine_60 rfl rfl (kdec dk_cX9_restore 10 rfl) ?_
      refine kv_getN C 22 rfl 20 10 rfl rfl inX1 (by decide) mfn_TaleMachine_86 rfl rfl (kdec dk_cX9_restore 11 rfl) e2 ?_
      refine kv_if_eq C 25 rfl 37 (kdec dk_cX9_restore 12 rfl) (by decide) (fun d34 => ?_) (fun d34 => ?_)
      · skip
        refine kv_bipush C 39 rfl (-2) (kdec dk_cX9_restore 19 rfl) rfl ?_
        exact kv_iret C hr hlk (kdec dk_cX9_restore 20 rfl) ⟨_, rfl, hI, hF0, (by rw [e2, e5]; try omega), (by rw [e2]; try omega), (by rw [e2]; try omega)⟩
      · skip
        refine kv_aload_n C 26 rfl 0 (kdec dk_cX9_restore 13 rfl) rfl rfl ?_
        refine kv_getr C 29 rfl 0 8 rfl rfl inX9 (by decide) mfl_TaleMachine_66 rfl rfl (kdec dk_cX9_restore 14 rfl) ?_
        refine kv_iload_n C 30 rfl 1 (kdec dk_cX9_restore 15 rfl) rfl rfl ?_
        have d35 : (a1 : Int32).toInt = 0 ∨ (a1 : Int32).toInt = 1 ∨ (a1 : Int32).toInt = 2 ∨ (a1 : Int32).toInt = 3 := by omega
        rcases d35 with d35 | d35 | d35 | d35
        · skip
          refine kv_aldq C 31 rfl 24 0 rfl d35 rfl (by decide) (kdec dk_cX9_restore 16 rfl) ?_
          refine kv_getN C 34 rfl 25 2 rfl rfl inX5 (by decide) mfn_TaleMachine_82 rfl rfl (kdec dk_cX9_restore 17 rfl) e8 ?_
          refine kv_if_ne C 37 rfl 40 (kdec dk_cX9_restore 18 rfl) (by decide) (fun d36 => ?_) (fun d36 => ?_)
          · skip
            refine kv_aload_n C 41 rfl 0 (kdec dk_cX9_restore 21 rfl) rfl rfl ?_
            refine kv_getr C 44 rfl 0 8 rfl rfl inX9 (by decide) mfl_TaleMachine_66 rfl rfl (kdec dk_cX9_restore 22 rfl) ?_
            refine kv_iload_n C 45 rfl 1 (kdec dk_cX9_restore 23 rfl) rfl rfl ?_
            refine kv_aldq C 46 rfl 24 0 rfl d35 rfl (by decide) (kdec dk_cX9_restore 24 rfl) ?_
            refine kv_aload_n C 47 rfl 0 (kdec dk_cX9_restore 25 rfl) rfl rfl ?_
            refine kv_getr C 50 rfl 0 1 rfl rfl inX9 (by decide) mfl_TaleMachine_16 rfl rfl (kdec dk_cX9_restore 26 rfl) ?_
            refine kv_aload_n C 51 rfl 0 (kdec dk_cX9_restore 27 rfl) rfl rfl ?_
            refine kv_getr C 54 rfl 0 2 rfl rfl inX9 (by decide) mfl_TaleMachine_23 rfl rfl (kdec dk_cX9_restore 28 rfl) ?_
            refine kv_aload_n C 55 rfl 0 (kdec dk_cX9_restore 29 rfl) rfl rfl ?_
            refine kv_getr C 58 rfl 0 7 rfl rfl inX9 (by decide) mfl_TaleMachine_60 rfl rfl (kdec dk_cX9_restore 30 rfl) ?_
            refine kv_callVNv (As := [.ref (ρ 2), .ref (ρ 5), .ref (ρ 20)]) (rest := []) C 61 rfl 25 (k_s_giveBack0 l D τ ρ σ w  (kI_strong hI (by rw [e5]; omega)) ) rfl rfl mmn_TaleMachine_162 mim_yX5_giveBack mse_yX5_giveBack mcd_yX5_giveBack min_yX5_giveBack hd_yX5_giveBack rfl rfl rfl (by decide) rfl (Nat.le_of_ble_eq_true rfl) (kdec dk_cX9_restore 31 rfl) (fun w37 h38 => ?_)
            obtain ⟨I39, f40, p42⟩ := h38
            have I44 := kI_weak I39
            have F43 : kF [(2, some 9), (3, none), (5, some 6), (5, some 7), (6, none), (7, none), (8, none), (9, none), (10, none), (11, none), (20, some 8), (20, some 10), (20, some 13), (20, some 14)] w w37 := kF_call hF0 f40 (by decide)
            obtain ⟨x45, e46⟩ : ∃ z : Int32, w37 20 10 = z := ⟨_, rfl⟩
            have b47 : (0 : Int) ≤ x45.toInt ∧ x45.toInt ≤ 4 := by rw [← e46]; exact I44 20 10
            rw [e11, e46] at p42
            refine kv_iconst C 62 rfl 1 (kdec dk_cX9_restore 32 rfl) rfl ?_
            have e48 : w37 2 3 = x4 := ((f40 2 3 rfl : w37 2 3 = w 2 3).trans e5)
            exact kv_iret C hr hlk (kdec dk_cX9_restore 33 rfl) ⟨_, rfl, I44, F43, (by rw [e46, e48]; try omega), (by rw [e2]; try omega), (by rw [e2, e46]; try omega)⟩
          · skip
            refine kv_bipush C 39 rfl (-2) (kdec dk_cX9_restore 19 rfl) rfl ?_
            exact kv_iret C hr hlk (kdec dk_cX9_restore 20 rfl) ⟨_, rfl, hI, hF0, (by rw [e2, e5]; try omega), (by rw [e2]; try omega), (by rw [e2]; try omega)⟩
        · skip
          refine kv_aldq C 31 rfl 24 1 rfl d35 rfl (by decide) (kdec dk_cX9_restore 16 rfl) ?_
          refine kv_getN C 34 rfl 34 2 rfl rfl inX5 (by decide) mfn_TaleMachine_82 rfl rfl (kdec dk_cX9_restore 17 rfl) e14 ?_
          refine kv_if_ne C 37 rfl 40 (kdec dk_cX9_restore 18 rfl) (by decide) (fun d49 => ?_) (fun d49 => ?_)
          · skip
            refine kv_aload_n C 41 rfl 0 (kdec dk_cX9_restore 21 rfl) rfl rfl ?_
            refine kv_getr C 44 rfl 0 8 rfl rfl inX9 (by decide) mfl_TaleMachine_66 rfl rfl (kdec dk_cX9_restore 22 rfl) ?_
            refine kv_iload_n C 45 rfl 1 (kdec dk_cX9_restore 23 rfl) rfl rfl ?_
            refine kv_aldq C 46 rfl 24 1 rfl d35 rfl (by decide) (kdec dk_cX9_restore 24 rfl) ?_
            refine kv_aload_n C 47 rfl 0 (kdec dk_cX9_restore 25 rfl) rfl rfl ?_
            refine kv_getr C 50 rfl 0 1 rfl rfl inX9 (by decide) mfl_TaleMachine_16 rfl rfl (kdec dk_cX9_restore 26 rfl) ?_
            refine kv_aload_n C 51 rfl 0 (kdec dk_cX9_restore 27 rfl) rfl rfl ?_
            refine kv_getr C 54 rfl 0 2 rfl rfl inX9 (by decide) mfl_TaleMachine_23 rfl rfl (kdec dk_cX9_restore 28 rfl) ?_
            refine kv_aload_n C 55 rfl 0 (kdec dk_cX9_restore 29 rfl) rfl rfl ?_
            refine kv_getr C 58 rfl 0 7 rfl rfl inX9 (by decide) mfl_TaleMachine_60 rfl rfl (kdec dk_cX9_restore 30 rfl) ?_
            refine kv_callVNv (As := [.ref (ρ 2), .ref (ρ 5), .ref (ρ 20)]) (rest := []) C 61 rfl 34 (k_s_giveBack1 l D τ ρ σ w  (kI_strong hI (by rw [e5]; omega)) ) rfl rfl mmn_TaleMachine_162 mim_yX5_giveBack mse_yX5_giveBack mcd_yX5_giveBack min_yX5_giveBack hd_yX5_giveBack rfl rfl rfl (by decide) rfl (Nat.le_of_ble_eq_true rfl) (kdec dk_cX9_restore 31 rfl) (fun w50 h51 => ?_)
            obtain ⟨I52, f53, p55⟩ := h51
            have I57 := kI_weak I52
            have F56 : kF [(2, some 9), (3, none), (5, some 6), (5, some 7), (6, none), (7, none), (8, none), (9, none), (10, none), (11, none), (20, some 8), (20, some 10), (20, some 13), (20, some 14)] w w50 := kF_call hF0 f53 (by decide)
            obtain ⟨x58, e59⟩ : ∃ z : Int32, w50 20 10 = z := ⟨_, rfl⟩
            have b60 : (0 : Int) ≤ x58.toInt ∧ x58.toInt ≤ 4 := by rw [← e59]; exact I57 20 10
            rw [e17, e59] at p55
            refine kv_iconst C 62 rfl 1 (kdec dk_cX9_restore 32 rfl) rfl ?_
            have e61 : w50 2 3 = x4 := ((f53 2 3 rfl : w50 2 3 = w 2 3).trans e5)
            exact kv_iret C hr hlk (kdec dk_cX9_restore 33 rfl) ⟨_, rfl, I57, F56, (by rw [e59, e61]; try omega), (by rw [e2]; try omega), (by rw [e2, e59]; try omega)⟩
          · skip
            refine kv_bipush C 39 rfl (-2) (kdec dk_cX9_restore 19 rfl) rfl ?_
            exact kv_iret C hr hlk (kdec dk_cX9_restore 20 rfl) ⟨_, rfl, hI, hF0, (by rw [e2, e5]; try omega), (by rw [e2]; try omega), (by rw [e2]; try omega)⟩
        · skip
          refine kv_aldq C 31 rfl 24 2 rfl d35 rfl (by decide) (kdec dk_cX9_restore 16 rfl) ?_
          refine kv_getN C 34 rfl 43 2 rfl rfl inX5 (by decide) mfn_TaleMachine_82 rfl rfl (kdec dk_cX9_restore 17 rfl) e20 ?_
          refine kv_if_ne C 37 rfl 40 (kdec dk_cX9_restore 18 rfl) (by decide) (fun d62 => ?_) (fun d62 => ?_)
          · skip
            refine kv_aload_n C 41 rfl 0 (kdec dk_cX9_restore 21 rfl) rfl rfl ?_
            refine kv_getr C 44 rfl 0 8 rfl rfl inX9 (by decide) mfl_TaleMachine_66 rfl rfl (kdec dk_cX9_restore 22 rfl) ?_
            refine kv_iload_n C 45 rfl 1 (kdec dk_cX9_restore 23 rfl) rfl rfl ?_
            refine kv_aldq C 46 rfl 24 2 rfl d35 rfl (by decide) (kdec dk_cX9_restore 24 rfl) ?_
            refine kv_aload_n C 47 rfl 0 (kdec dk_cX9_restore 25 rfl) rfl rfl ?_
            refine kv_getr C 50 rfl 0 1 rfl rfl inX9 (by decide) mfl_TaleMachine_16 rfl rfl (kdec dk_cX9_restore 26 rfl) ?_
            refine kv_aload_n C 51 rfl 0 (kdec dk_cX9_restore 27 rfl) rfl rfl ?_
            refine kv_getr C 54 rfl 0 2 rfl rfl inX9 (by decide) mfl_TaleMachine_23 rfl rfl (kdec dk_cX9_restore 28 rfl) ?_
            refine kv_aload_n C 55 rfl 0 (kdec dk_cX9_restore 29 rfl) rfl rfl ?_
            refine kv_getr C 58 rfl 0 7 rfl rfl inX9 (by decide) mfl_TaleMachine_60 rfl rfl (kdec dk_cX9_restore 30 rfl) ?_
            refine kv_callVNv (As := [.ref (ρ 2), .ref (ρ 5), .ref (ρ 20)]) (rest := []) C 61 rfl 43 (k_s_giveBack2 l D τ ρ σ w  (kI_strong hI (by rw [e5]; omega)) ) rfl rfl mmn_TaleMachine_162 mim_yX5_giveBack mse_yX5_giveBack mcd_yX5_giveBack min_yX5_giveBack hd_yX5_giveBack rfl rfl rfl (by decide) rfl (Nat.le_of_ble_eq_true rfl) (kdec dk_cX9_restore 31 rfl) (fun w63 h64 => ?_)
            obtain ⟨I65, f66, p68⟩ := h64
            have I70 := kI_weak I65
            have F69 : kF [(2, some 9), (3, none), (5, some 6), (5, some 7), (6, none), (7, none), (8, none), (9, none), (10, none), (11, none), (20, some 8), (20, some 10), (20, some 13), (20, some 14)] w w63 := kF_call hF0 f66 (by decide)
            obtain ⟨x71, e72⟩ : ∃ z : Int32, w63 20 10 = z := ⟨_, rfl⟩
            have b73 : (0 : Int) ≤ x71.toInt ∧ x71.toInt ≤ 4 := by rw [← e72]; exact I70 20 10
            rw [e23, e72] at p68
            refine kv_iconst C 62 rfl 1 (kdec dk_cX9_restore 32 rfl) rfl ?_
            have e74 : w63 2 3 = x4 := ((f66 2 3 rfl : w63 2 3 = w 2 3).trans e5)
            exact kv_iret C hr hlk (kdec dk_cX9_restore 33 rfl) ⟨_, rfl, I70, F69, (by rw [e72, e74]; try omega), (by rw [e2]; try omega), (by rw [e2, e72]; try omega)⟩
          · skip
            refine kv_bipush C 39 rfl (-2) (kdec dk_cX9_restore 19 rfl) rfl ?_
            exact kv_iret C hr hlk (kdec dk_cX9_restore 20 rfl) ⟨_, rfl, hI, hF0, (by rw [e2, e5]; try omega), (by rw [e2]; try omega), (by rw [e2]; try omega)⟩
        · skip
          refine kv_aldq C 31 rfl 24 3 rfl d35 rfl (by decide) (kdec dk_cX9_restore 16 rfl) ?_
          refine kv_getN C 34 rfl 52 2 rfl rfl inX5 (by decide) mfn_TaleMachine_82 rfl rfl (kdec dk_cX9_restore 17 rfl) e26 ?_
          refine kv_if_ne C 37 rfl 40 (kdec dk_cX9_restore 18 rfl) (by decide) (fun d75 => ?_) (fun d75 => ?_)
          · skip
            refine kv_aload_n C 41 rfl 0 (kdec dk_cX9_restore 21 rfl) rfl rfl ?_
            refine kv_getr C 44 rfl 0 8 rfl rfl inX9 (by decide) mfl_TaleMachine_66 rfl rfl (kdec dk_cX9_restore 22 rfl) ?_
            refine kv_iload_n C 45 rfl 1 (kdec dk_cX9_restore 23 rfl) rfl rfl ?_
            refine kv_aldq C 46 rfl 24 3 rfl d35 rfl (by decide) (kdec dk_cX9_restore 24 rfl) ?_
            refine kv_aload_n C 47 rfl 0 (kdec dk_cX9_restore 25 rfl) rfl rfl ?_
            refine kv_getr C 50 rfl 0 1 rfl rfl inX9 (by decide) mfl_TaleMachine_16 rfl rfl (kdec dk_cX9_restore 26 rfl) ?_
            refine kv_aload_n C 51 rfl 0 (kdec dk_cX9_restore 27 rfl) rfl rfl ?_
            refine kv_getr C 54 rfl 0 2 rfl rfl inX9 (by decide) mfl_TaleMachine_23 rfl rfl (kdec dk_cX9_restore 28 rfl) ?_
            refine kv_aload_n C 55 rfl 0 (kdec dk_cX9_restore 29 rfl) rfl rfl ?_
            refine kv_getr C 58 rfl 0 7 rfl rfl inX9 (by decide) mfl_TaleMachine_60 rfl rfl (kdec dk_cX9_restore 30 rfl) ?_
            refine kv_callVNv (As := [.ref (ρ 2), .ref (ρ 5), .ref (ρ 20)]) (rest := []) C 61 rfl 52 (k_s_giveBack3 l D τ ρ σ w  (kI_strong hI (by rw [e5]; omega)) ) rfl rfl mmn_TaleMachine_162 mim_yX5_giveBack mse_yX5_giveBack mcd_yX5_giveBack min_yX5_giveBack hd_yX5_giveBack rfl rfl rfl (by decide) rfl (Nat.le_of_ble_eq_true rfl) (kdec dk_cX9_restore 31 rfl) (fun w76 h77 => ?_)
            obtain ⟨I78, f79, p81⟩ := h77
            have I83 := kI_weak I78
            have F82 : kF [(2, some 9), (3, none), (5, some 6), (5, some 7), (6, none), (7, none), (8, none), (9, none), (10, none), (11, none), (20, some 8), (20, some 10), (20, some 13), (20, some 14)] w w76 := kF_call hF0 f79 (by decide)
            obtain ⟨x84, e85⟩ : ∃ z : Int32, w76 20 10 = z := ⟨_, rfl⟩
            have b86 : (0 : Int) ≤ x84.toInt ∧ x84.toInt ≤ 4 := by rw [← e85]; exact I83 20 10
            rw [e29, e85] at p81
            refine kv_iconst C 62 rfl 1 (kdec dk_cX9_restore 32 rfl) rfl ?_
            have e87 : w76 2 3 = x4 := ((f79 2 3 rfl : w76 2 3 = w 2 3).trans e5)
            exact kv_iret C hr hlk (kdec dk_cX9_restore 33 rfl) ⟨_, rfl, I83, F82, (by rw [e85, e87]; try omega), (by rw [e2]; try omega), (by rw [e2, e85]; try omega)⟩
          · skip
            refine kv_bipush C 39 rfl (-2) (kdec dk_cX9_restore 19 rfl) rfl ?_
            exact kv_iret C hr hlk (kdec dk_cX9_restore 20 rfl) ⟨_, rfl, hI, hF0, (by rw [e2, e5]; try omega), (by rw [e2]; try omega), (by rw [e2]; try omega)⟩
    · skip
      refine kv_iconst C 14 rfl (-1) (kdec dk_cX9_restore 7 rfl) rfl ?_
      exact kv_iret C hr hlk (kdec dk_cX9_restore 8 rfl) ⟨_, rfl, hI, hF0, (by rw [e2, e5]; try omega), (by rw [e2]; try omega), (by rw [e2]; try omega)⟩

set_option maxHeartbeats 4000000 in
set_option maxRecDepth 100000 in
theorem k_m_squeezed (l : Launch) (D : va_G) (τ : Nat → ClassId) (ρ σ : Nat → Nat) (w : kw) (a1 : Int32) (a2 : Int32) (hI : kI false w)  :
    kM l D τ ρ σ yX9_squeezed cX9_squeezed 3 (some .int) { frames := 0, cells := 0, slots := 0, locals := 0 } [.ref (ρ 0), .int a1, .int a2] w
      (fun o w' => ∃ r : Int32, o = some (.int r) ∧ kI false w' ∧ kF [] w w' ∧ (¬ ((w 25 2).toInt = 0 ∧ (w 34 2).toInt = 0 ∧ (w 43 2).toInt = 0 ∧ (w 52 2).toInt = 0) ∨ r.toInt = -1)) := by
  refine kM_of (own := "TaleMachine") rfl (by decide) (Nat.le_of_ble_eq_true rfl) ?_
  intro p e s m args below meth c C hr hlk
  have hF0 : kF [] w w := kF.rf
  have c_m1 : (-1 : Int32).toInt = -1 := by decide
  have c_4 : (4 : Int32).toInt = 4 := by decide
  refine kV.L (L' := [(0, .ref (ρ 0)), (1, .int a1), (2, .int a2)]) rfl ?_
  have g1 := kf_rng a1
  have g2 := kf_rng a2
  refine kv_iload_n C 1 rfl 1 (kdec dk_cX9_squeezed 0 rfl) rfl rfl ?_
  refine kv_if_lt C 4 rfl 25 (kdec dk_cX9_squeezed 1 rfl) (by decide) (fun d3 => ?_) (fun d3 => ?_)
  · skip
    refine kv_iconst C 26 rfl (-1) (kdec dk_cX9_squeezed 13 rfl) rfl ?_
    obtain ⟨x4, e5⟩ : ∃ z : Int32, w 25 2 = z := ⟨_, rfl⟩
    have b6 : (0 : Int) ≤ x4.toInt ∧ x4.toInt ≤ 1 := by rw [← e5]; exact hI 25 2
    obtain ⟨x7, e8⟩ : ∃ z : Int32, w 34 2 = z := ⟨_, rfl⟩
    have b9 : (0 : Int) ≤ x7.toInt ∧ x7.toInt ≤ 1 := by rw [← e8]; exact hI 34 2
    obtain ⟨x10, e11⟩ : ∃ z : Int32, w 43 2 = z := ⟨_, rfl⟩
    have b12 : (0 : Int) ≤ x10.toInt ∧ x10.toInt ≤ 1 := by rw [← e11]; exact hI 43 2
    obtain ⟨x13, e14⟩ : ∃ z : Int32, w 52 2 = z := ⟨_, rfl⟩
    have b15 : (0 : Int) ≤ x13.toInt ∧ x13.toInt ≤ 1 := by rw [← e14]; exact hI 52 2
    exact kv_iret C hr hlk (kdec dk_cX9_squeezed 14 rfl) ⟨_, rfl, hI, hF0, (by rw [e5, e8, e11, e14]; try omega)⟩
  · skip
    refine kv_iload_n C 5 rfl 1 (kdec dk_cX9_squeezed 2 rfl) rfl rfl ?_
    refine kv_aload_n C 6 rfl 0 (kdec dk_cX9_squeezed 3 rfl) rfl rfl ?_
    refine kv_getr C 9 rfl 0 8 rfl rfl inX9 (by decide) mfl_TaleMachine_66 rfl rfl (kdec dk_cX9_squeezed 4 rfl) ?_
    refine kv_alenq C 10 rfl 24 4 rfl rfl (kdec dk_cX9_squeezed 5 rfl) ?_
    refine kv_icmp_ge C 13 rfl 25 (kdec dk_cX9_squeezed 6 rfl) (by decide) (fun d16 => ?_) (fun d16 => ?_)
    · skip
      refine kv_iconst C 26 rfl (-1) (kdec dk_cX9_squeezed 13 rfl) rfl ?_
      obtain ⟨x17, e18⟩ : ∃ z : Int32, w 25 2 = z := ⟨_, rfl⟩
      have b19 : (0 : Int) ≤ x17.toInt ∧ x17.toInt ≤ 1 := by rw [← e18]; exact hI 25 2
      obtain ⟨x20, e21⟩ : ∃ z : Int32, w 34 2 = z := ⟨_, rfl⟩
      have b22 : (0 : Int) ≤ x20.toInt ∧ x20.toInt ≤ 1 := by rw [← e21]; exact hI 34 2
      obtain ⟨x23, e24⟩ : ∃ z : Int32, w 43 2 = z := ⟨_, rfl⟩
      have b25 : (0 : Int) ≤ x23.toInt ∧ x23.toInt ≤ 1 := by rw [← e24]; exact hI 43 2
      obtain ⟨x26, e27⟩ : ∃ z : Int32, w 52 2 = z := ⟨_, rfl⟩
      have b28 : (0 : Int) ≤ x26.toInt ∧ x26.toInt ≤ 1 := by rw [← e27]; exact hI 52 2
      exact kv_iret C hr hlk (kdec dk_cX9_squeezed 14 rfl) ⟨_, rfl, hI, hF0, (by rw [e18, e21, e24, e27]; try omega)⟩
    · skip
      refine kv_aload_n C 14 rfl 0 (kdec dk_cX9_squeezed 7 rfl) rfl rfl ?_
      refine kv_getr C 17 rfl 0 8 rfl rfl inX9 (by decide) mfl_TaleMachine_66 rfl rfl (kdec dk_cX9_squeezed 8 rfl) ?_
      refine kv_iload_n C 18 rfl 1 (kdec dk_cX9_squeezed 9 rfl) rfl rfl ?_
      have d29 : (a1 : Int32).toInt = 0 ∨ (a1 : Int32).toInt = 1 ∨ (a1 : Int32).toInt = 2 ∨ (a1 : Int32).toInt = 3 := by omega
      rcases d29 with d29 | d29 | d29 | d29
      · skip
        refine kv_aldq C 19 rfl 24 0 rfl d29 rfl (by decide) (kdec dk_cX9_squeezed 10 rfl) ?_
        obtain ⟨x30, e31⟩ : ∃ z : Int32, w 25 2 = z := ⟨_, rfl⟩
        have b32 : (0 : Int) ≤ x30.toInt ∧ x30.toInt ≤ 1 := by rw [← e31]; exact hI 25 2
        refine kv_getN C 22 rfl 25 2 rfl rfl inX5 (by decide) mfn_TaleMachine_82 rfl rfl (kdec dk_cX9_squeezed 11 rfl) e31 ?_
        refine kv_if_ne C 25 rfl 27 (kdec dk_cX9_squeezed 12 rfl) (by decide) (fun d33 => ?_) (fun d33 => ?_)
        · skip
          refine kv_iload_n C 28 rfl 2 (kdec dk_cX9_squeezed 15 rfl) rfl rfl ?_
          refine kv_if_lt C 31 rfl 58 (kdec dk_cX9_squeezed 16 rfl) (by decide) (fun d34 => ?_) (fun d34 => ?_)
          · skip
            refine kv_iconst C 59 rfl (-1) (kdec dk_cX9_squeezed 32 rfl) rfl ?_
            obtain ⟨x35, e36⟩ : ∃ z : Int32, w 34 2 = z := ⟨_, rfl⟩
            have b37 : (0 : Int) ≤ x35.toInt ∧ x35.toInt ≤ 1 := by rw [← e36]; exact hI 34 2
            obtain ⟨x38, e39⟩ : ∃ z : Int32, w 43 2 = z := ⟨_, rfl⟩
            have b40 : (0 : Int) ≤ x38.toInt ∧ x38.toInt ≤ 1 := by rw [← e39]; exact hI 43 2
            obtain ⟨x41, e42⟩ : ∃ z : Int32, w 52 2 = z := ⟨_, rfl⟩
            have b43 : (0 : Int) ≤ x41.toInt ∧ x41.toInt ≤ 1 := by rw [← e42]; exact hI 52 2
            exact kv_iret C hr hlk (kdec dk_cX9_squeezed 33 rfl) ⟨_, rfl, hI, hF0, (by rw [e31, e36, e39, e42]; try omega)⟩
          · skip
            refine kv_iload_n C 32 rfl 2 (kdec dk_cX9_squeezed 17 rfl) rfl rfl ?_
            refine kv_aload_n C 33 rfl 0 (kdec dk_cX9_squeezed 18 rfl) rfl rfl ?_
            refine kv_getr C 36 rfl 0 8 rfl rfl inX9 (by decide) mfl_TaleMachine_66 rfl rfl (kdec dk_cX9_squeezed 19 rfl) ?_
            refine kv_iload_n C 37 rfl 1 (kdec dk_cX9_squeezed 20 rfl) rfl rfl ?_
            refine kv_aldq C 38 rfl 24 0 rfl d29 rfl (by decide) (kdec dk_cX9_squeezed 21 rfl) ?_
            obtain ⟨x44, e45⟩ : ∃ z : Int32, w 25 3 = z := ⟨_, rfl⟩
            have b46 : (0 : Int) ≤ x44.toInt ∧ x44.toInt ≤ 1536 := by rw [← e45]; exact hI 25 3
            refine kv_getN C 41 rfl 25 3 rfl rfl inX5 (by decide) mfn_TaleMachine_161 rfl rfl (kdec dk_cX9_squeezed 22 rfl) e45 ?_
            refine kv_icmp_ge C 44 rfl 58 (kdec dk_cX9_squeezed 23 rfl) (by decide) (fun d47 => ?_) (fun d47 => ?_)
            · skip
              refine kv_iconst C 59 rfl (-1) (kdec dk_cX9_squeezed 32 rfl) rfl ?_
              obtain ⟨x48, e49⟩ : ∃ z : Int32, w 34 2 = z := ⟨_, rfl⟩
              have b50 : (0 : Int) ≤ x48.toInt ∧ x48.toInt ≤ 1 := by rw [← e49]; exact hI 34 2
              obtain ⟨x51, e52⟩ : ∃ z : Int32, w 43 2 = z := ⟨_, rfl⟩
              have b53 : (0 : Int) ≤ x51.toInt ∧ x51.toInt ≤ 1 := by rw [← e52]; exact hI 43 2
              obtain ⟨x54, e55⟩ : ∃ z : Int32, w 52 2 = z := ⟨_, rfl⟩
              have b56 : (0 : Int) ≤ x54.toInt ∧ x54.toInt ≤ 1 := by rw [← e55]; exact hI 52 2
              exact kv_iret C hr hlk (kdec dk_cX9_squeezed 33 rfl) ⟨_, rfl, hI, hF0, (by rw [e31, e49, e52, e55]; try omega)⟩
            · skip
              refine kv_aload_n C 45 rfl 0 (kdec dk_cX9_squeezed 24 rfl) rfl rfl ?_
              refine kv_getr C 48 rfl 0 8 rfl rfl inX9 (by decide) mfl_TaleMachine_66 rfl rfl (kdec dk_cX9_squeezed 25 rfl) ?_
              refine kv_iload_n C 49 rfl 1 (kdec dk_cX9_squeezed 26 rfl) rfl rfl ?_
              refine kv_aldq C 50 rfl 24 0 rfl d29 rfl (by decide) (kdec dk_cX9_squeezed 27 rfl) ?_
              refine kv_getrN C 53 rfl 25 0 rfl rfl inX5 (by decide) mfn_TaleMachine_165 rfl rfl (kdec dk_cX9_squeezed 28 rfl) ?_
              refine kv_iload_n C 54 rfl 2 (kdec dk_cX9_squeezed 29 rfl) rfl rfl ?_
              obtain ⟨x57, e58⟩ : ∃ z : Int32, w 26 (a2 : Int32).toNatClampNeg = z := ⟨_, rfl⟩
              have b59 : (0 : Int) ≤ x57.toInt ∧ x57.toInt ≤ 255 := by rw [← e58]; exact hI 26 _
              refine kv_iald C 55 rfl 26 rfl (by omega) (by omega) e58 (kdec dk_cX9_squeezed 30 rfl) ?_
              refine kv_goto C 59 (kdec dk_cX9_squeezed 31 rfl) (by decide) ?_
              obtain ⟨x60, e61⟩ : ∃ z : Int32, w 34 2 = z := ⟨_, rfl⟩
              have b62 : (0 : Int) ≤ x60.toInt ∧ x60.toInt ≤ 1 := by rw [← e61]; exact hI 34 2
              obtain ⟨x63, e64⟩ : ∃ z : Int32, w 43 2 = z := ⟨_, rfl⟩
              have b65 : (0 : Int) ≤ x63.toInt ∧ x63.toInt ≤ 1 := by rw [← e64]; exact hI 43 2
              obtain ⟨x66, e67⟩ : ∃ z : Int32, w 52 2 = z := ⟨_, rfl⟩
              have b68 : (0 : Int) ≤ x66.toInt ∧ x66.toInt ≤ 1 := by rw [← e67]; exact hI 52 2
              exact kv_iret C hr hlk (kdec dk_cX9_squeezed 33 rfl) ⟨_, rfl, hI, hF0, (by rw [e31, e61, e64, e67]; try omega)⟩
        · skip
          refine kv_iconst C 26 rfl (-1) (kdec dk_cX9_squeezed 13 rfl) rfl ?_
          obtain ⟨x69, e70⟩ : ∃ z : Int32, w 34 2 = z := ⟨_, rfl⟩
          have b71 : (0 : Int) ≤ x69.toInt ∧ x69.toInt ≤ 1 := by rw [← e70]; exact hI 34 2
          obtain ⟨x72, e73⟩ : ∃ z : Int32, w 43 2 = z := ⟨_, rfl⟩
          have b74 : (0 : Int) ≤ x72.toInt ∧ x72.toInt ≤ 1 := by rw [← e73]; exact hI 43 2
          obtain ⟨x75, e76⟩ : ∃ z : Int32, w 52 2 = z := ⟨_, rfl⟩
          have b77 : (0 : Int) ≤ x75.toInt ∧ x75.toInt ≤ 1 := by rw [← e76]; exact hI 52 2
          exact kv_iret C hr hlk (kdec dk_cX9_squeezed 14 rfl) ⟨_, rfl, hI, hF0, (by rw [e31, e70, e73, e76]; try omega)⟩
      · skip
        refine kv_aldq C 19 rfl 24 1 rfl d29 rfl (by decide) (kdec dk_cX9_squeezed 10 rfl) ?_
        obtain ⟨x78, e79⟩ : ∃ z : Int32, w 34 2 = z := ⟨_, rfl⟩
        have b80 : (0 : Int) ≤ x78.toInt ∧ x78.toInt ≤ 1 := by rw [← e79]; exact hI 34 2
        refine kv_getN C 22 rfl 34 2 rfl rfl inX5 (by decide) mfn_TaleMachine_82 rfl rfl (kdec dk_cX9_squeezed 11 rfl) e79 ?_
        refine kv_if_ne C 25 rfl 27 (kdec dk_cX9_squeezed 12 rfl) (by decide) (fun d81 => ?_) (fun d81 => ?_)
        · skip
          refine kv_iload_n C 28 rfl 2 (kdec dk_cX9_squeezed 15 rfl) rfl rfl ?_
          refine kv_if_lt C 31 rfl 58 (kdec dk_cX9_squeezed 16 rfl) (by decide) (fun d82 => ?_) (fun d82 => ?_)
          · skip
            refine kv_iconst C 59 rfl (-1) (kdec dk_cX9_squeezed 32 rfl) rfl ?_
            obtain ⟨x83, e84⟩ : ∃ z : Int32, w 25 2 = z := ⟨_, rfl⟩
            have b85 : (0 : Int) ≤ x83.toInt ∧ x83.toInt ≤ 1 := by rw [← e84]; exact hI 25 2
            obtain ⟨x86, e87⟩ : ∃ z : Int32, w 43 2 = z := ⟨_, rfl⟩
            have b88 : (0 : Int) ≤ x86.toInt ∧ x86.toInt ≤ 1 := by rw [← e87]; exact hI 43 2
            obtain ⟨x89, e90⟩ : ∃ z : Int32, w 52 2 = z := ⟨_, rfl⟩
            have b91 : (0 : Int) ≤ x89.toInt ∧ x89.toInt ≤ 1 := by rw [← e90]; exact hI 52 2
            exact kv_iret C hr hlk (kdec dk_cX9_squeezed 33 rfl) ⟨_, rfl, hI, hF0, (by rw [e84, e79, e87, e90]; try omega)⟩
          · skip
            refine kv_iload_n C 32 rfl 2 (kdec dk_cX9_squeezed 17 rfl) rfl rfl ?_
            refine kv_aload_n C 33 rfl 0 (kdec dk_cX9_squeezed 18 rfl) rfl rfl ?_
            refine kv_getr C 36 rfl 0 8 rfl rfl inX9 (by decide) mfl_TaleMachine_66 rfl rfl (kdec dk_cX9_squeezed 19 rfl) ?_
            refine kv_iload_n C 37 rfl 1 (kdec dk_cX9_squeezed 20 rfl) rfl rfl ?_
            refine kv_aldq C 38 rfl 24 1 rfl d29 rfl (by decide) (kdec dk_cX9_squeezed 21 rfl) ?_
            obtain ⟨x92, e93⟩ : ∃ z : Int32, w 34 3 = z := ⟨_, rfl⟩
            have b94 : (0 : Int) ≤ x92.toInt ∧ x92.toInt ≤ 1536 := by rw [← e93]; exact hI 34 3
            refine kv_getN C 41 rfl 34 3 rfl rfl inX5 (by decide) mfn_TaleMachine_161 rfl rfl (kdec dk_cX9_squeezed 22 rfl) e93 ?_
            refine kv_icmp_ge C 44 rfl 58 (kdec dk_cX9_squeezed 23 rfl) (by decide) (fun d95 => ?_) (fun d95 => ?_)
            · skip
              refine kv_iconst C 59 rfl (-1) (kdec dk_cX9_squeezed 32 rfl) rfl ?_
              obtain ⟨x96, e97⟩ : ∃ z : Int32, w 25 2 = z := ⟨_, rfl⟩
              have b98 : (0 : Int) ≤ x96.toInt ∧ x96.toInt ≤ 1 := by rw [← e97]; exact hI 25 2
              obtain ⟨x99, e100⟩ : ∃ z : Int32, w 43 2 = z := ⟨_, rfl⟩
              have b101 : (0 : Int) ≤ x99.toInt ∧ x99.toInt ≤ 1 := by rw [← e100]; exact hI 43 2
              obtain ⟨x102, e103⟩ : ∃ z : Int32, w 52 2 = z := ⟨_, rfl⟩
              have b104 : (0 : Int) ≤ x102.toInt ∧ x102.toInt ≤ 1 := by rw [← e103]; exact hI 52 2
              exact kv_iret C hr hlk (kdec dk_cX9_squeezed 33 rfl) ⟨_, rfl, hI, hF0, (by rw [e97, e79, e100, e103]; try omega)⟩
            · skip
              refine kv_aload_n C 45 rfl 0 (kdec dk_cX9_squeezed 24 rfl) rfl rfl ?_
              refine kv_getr C 48 rfl 0 8 rfl rfl inX9 (by decide) mfl_TaleMachine_66 rfl rfl (kdec dk_cX9_squeezed 25 rfl) ?_
              refine kv_iload_n C 49 rfl 1 (kdec dk_cX9_squeezed 26 rfl) rfl rfl ?_
              refine kv_aldq C 50 rfl 24 1 rfl d29 rfl (by decide) (kdec dk_cX9_squeezed 27 rfl) ?_
              refine kv_getrN C 53 rfl 34 0 rfl rfl inX5 (by decide) mfn_TaleMachine_165 rfl rfl (kdec dk_cX9_squeezed 28 rfl) ?_
              refine kv_iload_n C 54 rfl 2 (kdec dk_cX9_squeezed 29 rfl) rfl rfl ?_
              obtain ⟨x105, e106⟩ : ∃ z : Int32, w 35 (a2 : Int32).toNatClampNeg = z := ⟨_, rfl⟩
              have b107 : (0 : Int) ≤ x105.toInt ∧ x105.toInt ≤ 255 := by rw [← e106]; exact hI 35 _
              refine kv_iald C 55 rfl 35 rfl (by omega) (by omega) e106 (kdec dk_cX9_squeezed 30 rfl) ?_
              refine kv_goto C 59 (kdec dk_cX9_squeezed 31 rfl) (by decide) ?_
              obtain ⟨x108, e109⟩ : ∃ z : Int32, w 25 2 = z := ⟨_, rfl⟩
              have b110 : (0 : Int) ≤ x108.toInt ∧ x108.toInt ≤ 1 := by rw [← e109]; exact hI 25 2
              obtain ⟨x111, e112⟩ : ∃ z : Int32, w 43 2 = z := ⟨_, rfl⟩
              have b113 : (0 : Int) ≤ x111.toInt ∧ x111.toInt ≤ 1 := by rw [← e112]; exact hI 43 2
              obtain ⟨x114, e115⟩ : ∃ z : Int32, w 52 2 = z := ⟨_, rfl⟩
              have b116 : (0 : Int) ≤ x114.toInt ∧ x114.toInt ≤ 1 := by rw [← e115]; exact hI 52 2
              exact kv_iret C hr hlk (kdec dk_cX9_squeezed 33 rfl) ⟨_, rfl, hI, hF0, (by rw [e109, e79, e112, e115]; try omega)⟩
        · skip
          refine kv_iconst C 26 rfl (-1) (kdec dk_cX9_squeezed 13 rfl) rfl ?_
          obtain ⟨x117, e118⟩ : ∃ z : Int32, w 25 2 = z := ⟨_, rfl⟩
          have b119 : (0 : Int) ≤ x117.toInt ∧ x117.toInt ≤ 1 := by rw [← e118]; exact hI 25 2
          obtain ⟨x120, e121⟩ : ∃ z : Int32, w 43 2 = z := ⟨_, rfl⟩
          have b122 : (0 : Int) ≤ x120.toInt ∧ x120.toInt ≤ 1 := by rw [← e121]; exact hI 43 2
          obtain ⟨x123, e124⟩ : ∃ z : Int32, w 52 2 = z := ⟨_, rfl⟩
          have b125 : (0 : Int) ≤ x123.toInt ∧ x123.toInt ≤ 1 := by rw [← e124]; exact hI 52 2
          exact kv_iret C hr hlk (kdec dk_cX9_squeezed 14 rfl) ⟨_, rfl, hI, hF0, (by rw [e118, e79, e121, e124]; try omega)⟩
      · skip
        refine kv_aldq C 19 rfl 24 2 rfl d29 rfl (by decide) (kdec dk_cX9_squeezed 10 rfl) ?_
        obtain ⟨x126, e127⟩ : ∃ z : Int32, w 43 2 = z := ⟨_, rfl⟩
        have b128 : (0 : Int) ≤ x126.toInt ∧ x126.toInt ≤ 1 := by rw [← e127]; exact hI 43 2
        refine kv_getN C 22 rfl 43 2 rfl rfl inX5 (by decide) mfn_TaleMachine_82 rfl rfl (kdec dk_cX9_squeezed 11 rfl) e127 ?_
        refine kv_if_ne C 25 rfl 27 (kdec dk_cX9_squeezed 12 rfl) (by decide) (fun d129 => ?_) (fun d129 => ?_)
        · skip
          refine kv_iload_n C 28 rfl 2 (kdec dk_cX9_squeezed 15 rfl) rfl rfl ?_
          refine kv_if_lt C 31 rfl 58 (kdec dk_cX9_squeezed 16 rfl) (by decide) (fun d130 => ?_) (fun d130 => ?_)
          · skip
            refine kv_iconst C 59 rfl (-1) (kdec dk_cX9_squeezed 32 rfl) rfl ?_
            obtain ⟨x131, e132⟩ : ∃ z : Int32, w 25 2 = z := ⟨_, rfl⟩
            have b133 : (0 : Int) ≤ x131.toInt ∧ x131.toInt ≤ 1 := by rw [← e132]; exact hI 25 2
            obtain ⟨x134, e135⟩ : ∃ z : Int32, w 34 2 = z := ⟨_, rfl⟩
            have b136 : (0 : Int) ≤ x134.toInt ∧ x134.toInt ≤ 1 := by rw [← e135]; exact hI 34 2
            obtain ⟨x137, e138⟩ : ∃ z : Int32, w 52 2 = z := ⟨_, rfl⟩
            have b139 : (0 : Int) ≤ x137.toInt ∧ x137.toInt ≤ 1 := by rw [← e138]; exact hI 52 2
            exact kv_iret C hr hlk (kdec dk_cX9_squeezed 33 rfl) ⟨_, rfl, hI, hF0, (by rw [e132, e135, e127, e138]; try omega)⟩
          · skip
            refine kv_iload_n C 32 rfl 2 (kdec dk_cX9_squeezed 17 rfl) rfl rfl ?_
            refine kv_aload_n C 33 rfl 0 (kdec dk_cX9_squeezed 18 rfl) rfl rfl ?_
            refine kv_getr C 36 rfl 0 8 rfl rfl inX9 (by decide) mfl_TaleMachine_66 rfl rfl (kdec dk_cX9_squeezed 19 rfl) ?_
            refine kv_iload_n C 37 rfl 1 (kdec dk_cX9_squeezed 20 rfl) rfl rfl ?_
            refine kv_aldq C 38 rfl 24 2 rfl d29 rfl (by decide) (kdec dk_cX9_squeezed 21 rfl) ?_
            obtain ⟨x140, e141⟩ : ∃ z : Int32, w 43 3 = z := ⟨_, rfl⟩
            have b142 : (0 : Int) ≤ x140.toInt ∧ x140.toInt ≤ 1536 := by rw [← e141]; exact hI 43 3
            refine kv_getN C 41 rfl 43 3 rfl rfl inX5 (by decide) mfn_TaleMachine_161 rfl rfl (kdec dk_cX9_squeezed 22 rfl) e141 ?_
            refine kv_icmp_ge C 44 rfl 58 (kdec dk_cX9_squeezed 23 rfl) (by decide) (fun d143 => ?_) (fun d143 => ?_)
            · skip
              refine kv_iconst C 59 rfl (-1) (kdec dk_cX9_squeezed 32 rfl) rfl ?_
              obtain ⟨x144, e145⟩ : ∃ z : Int32, w 25 2 = z := ⟨_, rfl⟩
              have b146 : (0 : Int) ≤ x144.toInt ∧ x144.toInt ≤ 1 := by rw [← e145]; exact hI 25 2
              obtain ⟨x147, e148⟩ : ∃ z : Int32, w 34 2 = z := ⟨_, rfl⟩
              have b149 : (0 : Int) ≤ x147.toInt ∧ x147.toInt ≤ 1 := by rw [← e148]; exact hI 34 2
              obtain ⟨x150, e151⟩ : ∃ z : Int32, w 52 2 = z := ⟨_, rfl⟩
              have b152 : (0 : Int) ≤ x150.toInt ∧ x150.toInt ≤ 1 := by rw [← e151]; exact hI 52 2
              exact kv_iret C hr hlk (kdec dk_cX9_squeezed 33 rfl) ⟨_, rfl, hI, hF0, (by rw [e145, e148, e127, e151]; try omega)⟩
            · skip
              refine kv_aload_n C 45 rfl 0 (kdec dk_cX9_squeezed 24 rfl) rfl rfl ?_
              refine kv_getr C 48 rfl 0 8 rfl rfl inX9 (by decide) mfl_TaleMachine_66 rfl rfl (kdec dk_cX9_squeezed 25 rfl) ?_
              refine kv_iload_n C 49 rfl 1 (kdec dk_cX9_squeezed 26 rfl) rfl rfl ?_
              refine kv_aldq C 50 rfl 24 2 rfl d29 rfl (by decide) (kdec dk_cX9_squeezed 27 rfl) ?_
              refine kv_getrN C 53 rfl 43 0 rfl rfl inX5 (by decide) mfn_TaleMachine_165 rfl rfl (kdec dk_cX9_squeezed 28 rfl) ?_
              refine kv_iload_n C 54 rfl 2 (kdec dk_cX9_squeezed 29 rfl) rfl rfl ?_
              obtain ⟨x153, e154⟩ : ∃ z : Int32, w 44 (a2 : Int32).toNatClampNeg = z := ⟨_, rfl⟩
              have b155 : (0 : Int) ≤ x153.toInt ∧ x153.toInt ≤ 255 := by rw [← e154]; exact hI 44 _
              refine kv_iald C 55 rfl 44 rfl (by omega) (by omega) e154 (kdec dk_cX9_squeezed 30 rfl) ?_
              refine kv_goto C 59 (kdec dk_cX9_squeezed 31 rfl) (by decide) ?_
              obtain ⟨x156, e157⟩ : ∃ z : Int32, w 25 2 = z := ⟨_, rfl⟩
              have b158 : (0 : Int) ≤ x156.toInt ∧ x156.toInt ≤ 1 := by rw [← e157]; exact hI 25 2
              obtain ⟨x159, e160⟩ : ∃ z : Int32, w 34 2 = z := ⟨_, rfl⟩
              have b161 : (0 : Int) ≤ x159.toInt ∧ x159.toInt ≤ 1 := by rw [← e160]; exact hI 34 2
              obtain ⟨x162, e163⟩ : ∃ z : Int32, w 52 2 = z := ⟨_, rfl⟩
              have b164 : (0 : Int) ≤ x162.toInt ∧ x162.toInt ≤ 1 := by rw [← e163]; exact hI 52 2
              exact kv_iret C hr hlk (kdec dk_cX9_squeezed 33 rfl) ⟨_, rfl, hI, hF0, (by rw [e157, e160, e127, e163]; try omega)⟩
        · skip
          refine kv_iconst C 26 rfl (-1) (kdec dk_cX9_squeezed 13 rfl) rfl ?_
          obtain ⟨x165, e166⟩ : ∃ z : Int32, w 25 2 = z := ⟨_, rfl⟩
          have b167 : (0 : Int) ≤ x165.toInt ∧ x165.toInt ≤ 1 := by rw [← e166]; exact hI 25 2
          obtain ⟨x168, e169⟩ : ∃ z : Int32, w 34 2 = z := ⟨_, rfl⟩
          have b170 : (0 : Int) ≤ x168.toInt ∧ x168.toInt ≤ 1 := by rw [← e169]; exact hI 34 2
          obtain ⟨x171, e172⟩ : ∃ z : Int32, w 52 2 = z := ⟨_, rfl⟩
          have b173 : (0 : Int) ≤ x171.toInt ∧ x171.toInt ≤ 1 := by rw [← e172]; exact hI 52 2
          exact kv_iret C hr hlk (kdec dk_cX9_squeezed 14 rfl) ⟨_, rfl, hI, hF0, (by rw [e166, e169, e127, e172]; try omega)⟩
      · skip
        refine kv_aldq C 19 rfl 24 3 rfl d29 rfl (by decide) (kdec dk_cX9_squeezed 10 rfl) ?_
        obtain ⟨x174, e175⟩ : ∃ z : Int32, w 52 2 = z := ⟨_, rfl⟩
        have b176 : (0 : Int) ≤ x174.toInt ∧ x174.toInt ≤ 1 := by rw [← e175]; exact hI 52 2
        refine kv_getN C 22 rfl 52 2 rfl rfl inX5 (by decide) mfn_TaleMachine_82 rfl rfl (kdec dk_cX9_squeezed 11 rfl) e175 ?_
        refine kv_if_ne C 25 rfl 27 (kdec dk_cX9_squeezed 12 rfl) (by decide) (fun d177 => ?_) (fun d177 => ?_)
        · skip
          refine kv_iload_n C 28 rfl 2 (kdec dk_cX9_squeezed 15 rfl) rfl rfl ?_
          refine kv_if_lt C 31 rfl 58 (kdec dk_cX9_squeezed 16 rfl) (by decide) (fun d178 => ?_) (fun d178 => ?_)
          · skip
            refine kv_iconst C 59 rfl (-1) (kdec dk_cX9_squeezed 32 rfl) rfl ?_
            obtain ⟨x179, e180⟩ : ∃ z : Int32, w 25 2 = z := ⟨_, rfl⟩
            have b181 : (0 : Int) ≤ x179.toInt ∧ x179.toInt ≤ 1 := by rw [← e180]; exact hI 25 2
            obtain ⟨x182, e183⟩ : ∃ z : Int32, w 34 2 = z := ⟨_, rfl⟩
            have b184 : (0 : Int) ≤ x182.toInt ∧ x182.toInt ≤ 1 := by rw [← e183]; exact hI 34 2
            obtain ⟨x185, e186⟩ : ∃ z : Int32, w 43 2 = z := ⟨_, rfl⟩
            have b187 : (0 : Int) ≤ x185.toInt ∧ x185.toInt ≤ 1 := by rw [← e186]; exact hI 43 2
            exact kv_iret C hr hlk (kdec dk_cX9_squeezed 33 rfl) ⟨_, rfl, hI, hF0, (by rw [e180, e183, e186, e175]; try omega)⟩
          · skip
            refine kv_iload_n C 32 rfl 2 (kdec dk_cX9_squeezed 17 rfl) rfl rfl ?_
            refine kv_aload_n C 33 rfl 0 (kdec dk_cX9_squeezed 18 rfl) rfl rfl ?_
            refine kv_getr C 36 rfl 0 8 rfl rfl inX9 (by decide) mfl_TaleMachine_66 rfl rfl (kdec dk_cX9_squeezed 19 rfl) ?_
            refine kv_iload_n C 37 rfl 1 (kdec dk_cX9_squeezed 20 rfl) rfl rfl ?_
            refine kv_aldq C 38 rfl 24 3 rfl d29 rfl (by decide) (kdec dk_cX9_squeezed 21 rfl) ?_
            obtain ⟨x188, e189⟩ : ∃ z : Int32, w 52 3 = z := ⟨_, rfl⟩
            have b190 : (0 : Int) ≤ x188.toInt ∧ x188.toInt ≤ 1536 := by rw [← e189]; exact hI 52 3
            refine kv_getN C 41 rfl 52 3 rfl rfl inX5 (by decide) mfn_TaleMachine_161 rfl rfl (kdec dk_cX9_squeezed 22 rfl) e189 ?_
            refine kv_icmp_ge C 44 rfl 58 (kdec dk_cX9_squeezed 23 rfl) (by decide) (fun d191 => ?_) (fun d191 => ?_)
            · skip
              refine kv_iconst C 59 rfl (-1) (kdec dk_cX9_squeezed 32 rfl) rfl ?_
              obtain ⟨x192, e193⟩ : ∃ z : Int32, w 25 2 = z := ⟨_, rfl⟩
              have b194 : (0 : Int) ≤ x192.toInt ∧ x192.toInt ≤ 1 := by rw [← e193]; exact hI 25 2
              obtain ⟨x195, e196⟩ : ∃ z : Int32, w 34 2 = z := ⟨_, rfl⟩
              have b197 : (0 : Int) ≤ x195.toInt ∧ x195.toInt ≤ 1 := by rw [← e196]; exact hI 34 2
              obtain ⟨x198, e199⟩ : ∃ z : Int32, w 43 2 = z := ⟨_, rfl⟩
              have b200 : (0 : Int) ≤ x198.toInt ∧ x198.toInt ≤ 1 := by rw [← e199]; exact hI 43 2
              exact kv_iret C hr hlk (kdec dk_cX9_squeezed 33 rfl) ⟨_, rfl, hI, hF0, (by rw [e193, e196, e199, e175]; try omega)⟩
            · skip
              refine kv_aload_n C 45 rfl 0 (kdec dk_cX9_squeezed 24 rfl) rfl rfl ?_
              refine kv_getr C 48 rfl 0 8 rfl rfl inX9 (by decide) mfl_TaleMachine_66 rfl rfl (kdec dk_cX9_squeezed 25 rfl) ?_
              refine kv_iload_n C 49 rfl 1 (kdec dk_cX9_squeezed 26 rfl) rfl rfl ?_
              refine kv_aldq C 50 rfl 24 3 rfl d29 rfl (by decide) (kdec dk_cX9_squeezed 27 rfl) ?_
              refine kv_getrN C 53 rfl 52 0 rfl rfl inX5 (by decide) mfn_TaleMachine_165 rfl rfl (kdec dk_cX9_squeezed 28 rfl) ?_
              refine kv_iload_n C 54 rfl 2 (kdec dk_cX9_squeezed 29 rfl) rfl rfl ?_
              obtain ⟨x201, e202⟩ : ∃ z : Int32, w 53 (a2 : Int32).toNatClampNeg = z := ⟨_, rfl⟩
              have b203 : (0 : Int) ≤ x201.toInt ∧ x201.toInt ≤ 255 := by rw [← e202]; exact hI 53 _
              refine kv_iald C 55 rfl 53 rfl (by omega) (by omega) e202 (kdec dk_cX9_squeezed 30 rfl) ?_
              refine kv_goto C 59 (kdec dk_cX9_squeezed 31 rfl) (by decide) ?_
              obtain ⟨x204, e205⟩ : ∃ z : Int32, w 25 2 = z := ⟨_, rfl⟩
              have b206 : (0 : Int) ≤ x204.toInt ∧ x204.toInt ≤ 1 := by rw [← e205]; exact hI 25 2
              obtain ⟨x207, e208⟩ : ∃ z : Int32, w 34 2 = z := ⟨_, rfl⟩
              have b209 : (0 : Int) ≤ x207.toInt ∧ x207.toInt ≤ 1 := by rw [← e208]; exact hI 34 2
              obtain ⟨x210, e211⟩ : ∃ z : Int32, w 43 2 = z := ⟨_, rfl⟩
              have b212 : (0 : Int) ≤ x210.toInt ∧ x210.toInt ≤ 1 := by rw [← e211]; exact hI 43 2
              exact kv_iret C hr hlk (kdec dk_cX9_squeezed 33 rfl) ⟨_, rfl, hI, hF0, (by rw [e205, e208, e211, e175]; try omega)⟩
        · skip
          refine kv_iconst C 26 rfl (-1) (kdec dk_cX9_squeezed 13 rfl) rfl ?_
          obtain ⟨x213, e214⟩ : ∃ z : Int32, w 25 2 = z := ⟨_, rfl⟩
          have b215 : (0 : Int) ≤ x213.toInt ∧ x213.toInt ≤ 1 := by rw [← e214]; exact hI 25 2
          obtain ⟨x216, e217⟩ : ∃ z : Int32, w 34 2 = z := ⟨_, rfl⟩
          have b218 : (0 : Int) ≤ x216.toInt ∧ x216.toInt ≤ 1 := by rw [← e217]; exact hI 34 2
          obtain ⟨x219, e220⟩ : ∃ z : Int32, w 43 2 = z := ⟨_, rfl⟩
          have b221 : (0 : Int) ≤ x219.toInt ∧ x219.toInt ≤ 1 := by rw [← e220]; exact hI 43 2
          exact kv_iret C hr hlk (kdec dk_cX9_squeezed 14 rfl) ⟨_, rfl, hI, hF0, (by rw [e214, e217, e220, e175]; try omega)⟩
