set_option maxHeartbeats 4000000 in
set_option maxRecDepth 100000 in
theorem k_x_in (l : Launch) (D : va_G) (τ : Nat → ClassId) (ρ σ : Nat → Nat) (w : kw) (a1 : Int64) (a2 : Int64) (a3 : Int64) (hI : kI false w)  :
    kM l D τ ρ σ yX10_in cX10_in 6 (some .boolean) { frames := 0, cells := 0, slots := 0, locals := 0 } [.long a1, .long a2, .long a3] w
      (fun o w' => ∃ r : Int32, o = some (.int r) ∧ kI false w' ∧ kF [] w w' ∧ (r.toInt = 1 ∧ a2.toInt ≤ a1.toInt ∧ a1.toInt ≤ a3.toInt ∨ r.toInt = 0 ∧ (a1.toInt < a2.toInt ∨ a3.toInt < a1.toInt)) ∧ (0 ≤ r.toInt ∧ r.toInt ≤ 1)) := by
  refine kM_of (own := "TaleMachineModel") rfl (by decide) (Nat.le_of_ble_eq_true rfl) ?_
  intro p e s m args below meth c C hr hlk
  have hF0 : kF [] w w := kF.rf
  have c_0 : (0 : Int32).toInt = 0 := by decide
  have c_1 : (1 : Int32).toInt = 1 := by decide
  refine kV.L (L' := [(0, .long a1), (2, .long a2), (4, .long a3)]) rfl ?_
  refine kv_lload_n C 1 rfl 0 (kdec dk_cX10_in 0 rfl) rfl rfl ?_
  refine kv_lload_n C 2 rfl 1 (kdec dk_cX10_in 1 rfl) rfl rfl ?_
  refine kv_lcmp C 3 rfl (kdec dk_cX10_in 2 rfl) ?_
  generalize h2e : lg_cmp a1 a2 = x1
  have h2 := kf_lcmp h2e
  refine kv_if_lt C 6 rfl 17 (kdec dk_cX10_in 3 rfl) (by decide) (fun d3 => ?_) (fun d3 => ?_)
  · skip
    refine kv_iconst C 18 rfl 0 (kdec dk_cX10_in 10 rfl) rfl ?_
    exact kv_zret C hr hlk (kdec dk_cX10_in 11 rfl) (kf_bool (by decide)) ⟨_, rfl, hI, hF0, (by omega), (by omega)⟩
  · skip
    refine kv_lload_n C 7 rfl 0 (kdec dk_cX10_in 4 rfl) rfl rfl ?_
    refine kv_lload C 9 rfl 2 (kdec dk_cX10_in 5 rfl) rfl ?_
    refine kv_lcmp C 10 rfl (kdec dk_cX10_in 6 rfl) ?_
    generalize h5e : lg_cmp a1 a3 = x4
    have h5 := kf_lcmp h5e
    refine kv_if_gt C 13 rfl 17 (kdec dk_cX10_in 7 rfl) (by decide) (fun d6 => ?_) (fun d6 => ?_)
    · skip
      refine kv_iconst C 18 rfl 0 (kdec dk_cX10_in 10 rfl) rfl ?_
      exact kv_zret C hr hlk (kdec dk_cX10_in 11 rfl) (kf_bool (by decide)) ⟨_, rfl, hI, hF0, (by omega), (by omega)⟩
    · skip
      refine kv_iconst C 14 rfl 1 (kdec dk_cX10_in 8 rfl) rfl ?_
      refine kv_goto C 18 (kdec dk_cX10_in 9 rfl) (by decide) ?_
      exact kv_zret C hr hlk (kdec dk_cX10_in 11 rfl) (kf_bool (by decide)) ⟨_, rfl, hI, hF0, (by omega), (by omega)⟩

set_option maxHeartbeats 4000000 in
set_option maxRecDepth 100000 in
theorem k_x_four (l : Launch) (D : va_G) (τ : Nat → ClassId) (ρ σ : Nat → Nat) (w : kw) (a1 : Int32) (hI : kI false w) (hp0 : (w 61 2).toInt ≤ 1020) :
    kM l D τ ρ σ yX10_four cX10_four 3 none { frames := 0, cells := 0, slots := 0, locals := 0 } [.ref (ρ 61), .int a1] w
      (fun o w' => o = none ∧ kI false w' ∧ kF [(61, some 2), (63, none)] w w' ∧ ((w' 61 2).toInt = (w 61 2).toInt + 4) ∧ (∀ k9 : Nat, w' 63 k9 = kLay (w 63) (w 61 2).toInt.toNat a1 k9)) := by
  refine kM_of (own := "TaleMachineModel") rfl (by decide) (Nat.le_of_ble_eq_true rfl) ?_
  intro p e s m args below meth c C hr hlk
  have hF0 : kF [(61, some 2), (63, none)] w w := kF.rf
  have c_m8 : (-8 : Int32).toInt = -8 := by decide
  have c_0 : (0 : Int32).toInt = 0 := by decide
  have c_1 : (1 : Int32).toInt = 1 := by decide
  have c_8 : (8 : Int32).toInt = 8 := by decide
  have c_16 : (16 : Int32).toInt = 16 := by decide
  have c_24 : (24 : Int32).toInt = 24 := by decide
  have c_255 : (255 : Int32).toInt = 255 := by decide
  refine kV.L (L' := [(0, .ref (ρ 61)), (1, .int a1)]) rfl ?_
  obtain ⟨x1, e2⟩ : ∃ z : Int32, w 61 2 = z := ⟨_, rfl⟩
  have b3 : (0 : Int) ≤ x1.toInt ∧ x1.toInt ≤ 1024 := by rw [← e2]; exact hI 61 2
  rw [e2] at hp0
  have g4 := kf_rng a1
  refine kv_bipush C 2 rfl 24 (kdec dk_cX10_four 0 rfl) rfl ?_
  refine kv_istore_n C 3 rfl 2 [1, 2, 0] [(0, .ref (ρ 61)), (1, .int a1), (2, .int 24)] (kdec dk_cX10_four 1 rfl) rfl (by decide) rfl ?_
  refine kv_iload_n C 4 rfl 2 (kdec dk_cX10_four 2 rfl) rfl rfl ?_
  refine kv_if_lt C 7 rfl 39 (kdec dk_cX10_four 3 rfl) (by decide) (fun d5 => ?_) (fun d5 => ?_)
  · exfalso; omega
  · skip
    refine kv_aload_n C 8 rfl 0 (kdec dk_cX10_four 4 rfl) rfl rfl ?_
    refine kv_getr C 11 rfl 61 1 rfl rfl inX10 (by decide) mfl_TaleMachineModel_13 rfl rfl (kdec dk_cX10_four 5 rfl) ?_
    refine kv_aload_n C 12 rfl 0 (kdec dk_cX10_four 6 rfl) rfl rfl ?_
    refine kv_get C 15 rfl 61 2 rfl rfl inX10 (by decide) mfl_TaleMachineModel_86 rfl rfl (kdec dk_cX10_four 7 rfl) e2 ?_
    refine kv_iload_n C 16 rfl 1 (kdec dk_cX10_four 8 rfl) rfl rfl ?_
    refine kv_iload_n C 17 rfl 2 (kdec dk_cX10_four 9 rfl) rfl rfl ?_
    refine kv_ishr C 18 rfl (kdec dk_cX10_four 10 rfl) (fun x6 h7e h7l h7u => ?_)
    refine kv_sipush C 21 rfl 255 (kdec dk_cX10_four 11 rfl) rfl ?_
    refine kv_iand C 22 rfl (kdec dk_cX10_four 12 rfl) (fun x8 h9e h9l h9u => ?_)
    have g10 := kf_and255 h9e
    refine kv_iast C 23 rfl 63 rfl (by omega) (by omega) (kdec dk_cX10_four 13 rfl) (fun w11 u12 => ?_)
    have I13 : kI false w11 := kI_put u12 hI (show (0 : Int) ≤ (x8 : Int32).toInt by omega) (show (x8 : Int32).toInt ≤ 255 by omega)
    have F14 : kF [(61, some 2), (63, none)] w w11 := kF_put u12 hF0 rfl
    refine kv_aload_n C 24 rfl 0 (kdec dk_cX10_four 14 rfl) rfl rfl ?_
    refine kv_dup C 25 rfl (kdec dk_cX10_four 15 rfl) rfl ?_
    have e15 : w11 61 2 = x1 := ((kup_ne u12 rfl : w11 61 2 = w 61 2).trans e2)
    refine kv_get C 28 rfl 61 2 rfl rfl inX10 (by decide) mfl_TaleMachineModel_86 rfl rfl (kdec dk_cX10_four 16 rfl) e15 ?_
    refine kv_iconst C 29 rfl 1 (kdec dk_cX10_four 17 rfl) rfl ?_
    refine kv_iadd C 30 rfl (kdec dk_cX10_four 18 rfl) (fun x16 q18 h17e h17 h17l h17u => ?_)
    try have h17n : x16.toInt = x1.toInt + (1 : Int32).toInt := by omega
    clear h17 q18
    refine kv_put C 33 rfl 61 2 rfl rfl inX10 (by decide) mfl_TaleMachineModel_86 rfl tyX10 tyX10_ok nmX10 rfl rfl (kdec dk_cX10_four 19 rfl) rfl rfl (fun w19 u20 => ?_)
    have I21 : kI false w19 := kI_put u20 I13 (show (0 : Int) ≤ (x16 : Int32).toInt by omega) (show (x16 : Int32).toInt ≤ 1024 by omega)
    have F22 : kF [(61, some 2), (63, none)] w w19 := kF_put u20 F14 rfl
    refine kv_iinc C 36 rfl 2 2 [1, 2, 0] (fun v9 => [(0, .ref (ρ 61)), (1, .int a1), (2, .int v9)]) (kdec dk_cX10_four 20 rfl) rfl (by decide) (fun _ => rfl) (-8) rfl (fun x23 q24 h25e h25 h25l h25u => ?_)
    try have h25n : x23.toInt = (24 : Int32).toInt + (-8) := by omega
    clear h25 q24
    obtain rfl : x23 = 16 := by rw [h25e]; decide
    refine kv_goto C 3 (kdec dk_cX10_four 21 rfl) (by decide) ?_
    refine kv_iload_n C 4 rfl 2 (kdec dk_cX10_four 2 rfl) rfl rfl ?_
    refine kv_if_lt C 7 rfl 39 (kdec dk_cX10_four 3 rfl) (by decide) (fun d26 => ?_) (fun d26 => ?_)
    · exfalso; omega
    · skip
      refine kv_aload_n C 8 rfl 0 (kdec dk_cX10_four 4 rfl) rfl rfl ?_
      refine kv_getr C 11 rfl 61 1 rfl rfl inX10 (by decide) mfl_TaleMachineModel_13 rfl rfl (kdec dk_cX10_four 5 rfl) ?_
      refine kv_aload_n C 12 rfl 0 (kdec dk_cX10_four 6 rfl) rfl rfl ?_
      refine kv_get C 15 rfl 61 2 rfl rfl inX10 (by decide) mfl_TaleMachineModel_86 rfl rfl (kdec dk_cX10_four 7 rfl) (kup_eq u20) ?_
      refine kv_iload_n C 16 rfl 1 (kdec dk_cX10_four 8 rfl) rfl rfl ?_
      refine kv_iload_n C 17 rfl 2 (kdec dk_cX10_four 9 rfl) rfl rfl ?_
      refine kv_ishr C 18 rfl (kdec dk_cX10_four 10 rfl) (fun x27 h28e h28l h28u => ?_)
      refine kv_sipush C 21 rfl 255 (kdec dk_cX10_four 11 rfl) rfl ?_
      refine kv_iand C 22 rfl (kdec dk_cX10_four 12 rfl) (fun x29 h30e h30l h30u => ?_)
      have g31 := kf_and255 h30e
      refine kv_iast C 23 rfl 63 rfl (by omega) (by omega) (kdec dk_cX10_four 13 rfl) (fun w32 u33 => ?_)
      have I34 : kI false w32 := kI_put u33 I21 (show (0 : Int) ≤ (x29 : Int32).toInt by omega) (show (x29 : Int32).toInt ≤ 255 by omega)
      have F35 : kF [(61, some 2), (63, none)] w w32 := kF_put u33 F22 rfl
      refine kv_aload_n C 24 rfl 0 (kdec dk_cX10_four 14 rfl) rfl rfl ?_
      refine kv_dup C 25 rfl (kdec dk_cX10_four 15 rfl) rfl ?_
      have e36 : w32 61 2 = x16 := ((kup_ne u33 rfl : w32 61 2 = w19 61 2).trans (kup_eq u20))
      refine kv_get C 28 rfl 61 2 rfl rfl inX10 (by decide) mfl_TaleMachineModel_86 rfl rfl (kdec dk_cX10_four 16 rfl) e36 ?_
      refine kv_iconst C 29 rfl 1 (kdec dk_cX10_four 17 rfl) rfl ?_
      refine kv_iadd C 30 rfl (kdec dk_cX10_four 18 rfl) (fun x37 q39 h38e h38 h38l h38u => ?_)
      try have h38n : x37.toInt = x16.toInt + (1 : Int32).toInt := by omega
      clear h38 q39
      refine kv_put C 33 rfl 61 2 rfl rfl inX10 (by decide) mfl_TaleMachineModel_86 rfl tyX10 tyX10_ok nmX10 rfl rfl (kdec dk_cX10_four 19 rfl) rfl rfl (fun w40 u41 => ?_)
      have I42 : kI false w40 := kI_put u41 I34 (show (0 : Int) ≤ (x37 : Int32).toInt by omega) (show (x37 : Int32).toInt ≤ 1024 by omega)
      have F43 : kF [(61, some 2), (63, none)] w w40 := kF_put u41 F35 rfl
      refine kv_iinc C 36 rfl 2 2 [1, 2, 0] (fun v9 => [(0, .ref (ρ 61)), (1, .int a1), (2, .int v9)]) (kdec dk_cX10_four 20 rfl) rfl (by decide) (fun _ => rfl) (-8) rfl (fun x44 q45 h46e h46 h46l h46u => ?_)
      try have h46n : x44.toInt = (16 : Int32).toInt + (-8) := by omega
      clear h46 q45
      obtain rfl : x44 = 8 := by rw [h46e]; decide
      refine kv_goto C 3 (kdec dk_cX10_four 21 rfl) (by decide) ?_
      refine kv_iload_n C 4 rfl 2 (kdec dk_cX10_four 2 rfl) rfl rfl ?_
      refine kv_if_lt C 7 rfl 39 (kdec dk_cX10_four 3 rfl) (by decide) (fun d47 => ?_) (fun d47 => ?_)
      · exfalso; omega
      · skip
        refine kv_aload_n C 8 rfl 0 (kdec dk_cX10_four 4 rfl) rfl rfl ?_
        refine kv_getr C 11 rfl 61 1 rfl rfl inX10 (by decide) mfl_TaleMachineModel_13 rfl rfl (kdec dk_cX10_four 5 rfl) ?_
        refine kv_aload_n C 12 rfl 0 (kdec dk_cX10_four 6 rfl) rfl rfl ?_
        refine kv_get C 15 rfl 61 2 rfl rfl inX10 (by decide) mfl_TaleMachineModel_86 rfl rfl (kdec dk_cX10_four 7 rfl) (kup_eq u41) ?_
        refine kv_iload_n C 16 rfl 1 (kdec dk_cX10_four 8 rfl) rfl rfl ?_
        refine kv_iload_n C 17 rfl 2 (kdec dk_cX10_four 9 rfl) rfl rfl ?_
        refine kv_ishr C 18 rfl (kdec dk_cX10_four 10 rfl) (fun x48 h49e h49l h49u => ?_)
        refine kv_sipush C 21 rfl 255 (kdec dk_cX10_four 11 rfl) rfl ?_
        refine kv_iand C 22 rfl (kdec dk_cX10_four 12 rfl) (fun x50 h51e h51l h51u => ?_)
        have g52 := kf_and255 h51e
        refine kv_iast C 23 rfl 63 rfl (by omega) (by omega) (kdec dk_cX10_four 13 rfl) (fun w53 u54 => ?_)
        have I55 : kI false w53 := kI_put u54 I42 (show (0 : Int) ≤ (x50 : Int32).toInt by omega) (show (x50 : Int32).toInt ≤ 255 by omega)
        have F56 : kF [(61, some 2), (63, none)] w w53 := kF_put u54 F43 rfl
        refine kv_aload_n C 24 rfl 0 (kdec dk_cX10_four 14 rfl) rfl rfl ?_
        refine kv_dup C 25 rfl (kdec dk_cX10_four 15 rfl) rfl ?_
        have e57 : w53 61 2 = x37 := ((kup_ne u54 rfl : w53 61 2 = w40 61 2).trans (kup_eq u41))
        refine kv_get C 28 rfl 61 2 rfl rfl inX10 (by decide) mfl_TaleMachineModel_86 rfl rfl (kdec dk_cX10_four 16 rfl) e57 ?_
        refine kv_iconst C 29 rfl 1 (kdec dk_cX10_four 17 rfl) rfl ?_
        refine kv_iadd C 30 rfl (kdec dk_cX10_four 18 rfl) (fun x58 q60 h59e h59 h59l h59u => ?_)
        try have h59n : x58.toInt = x37.toInt + (1 : Int32).toInt := by omega
        clear h59 q60
        refine kv_put C 33 rfl 61 2 rfl rfl inX10 (by decide) mfl_TaleMachineModel_86 rfl tyX10 tyX10_ok nmX10 rfl rfl (kdec dk_cX10_four 19 rfl) rfl rfl (fun w61 u62 => ?_)
        have I63 : kI false w61 := kI_put u62 I55 (show (0 : Int) ≤ (x58 : Int32).toInt by omega) (show (x58 : Int32).toInt ≤ 1024 by omega)
        have F64 : kF [(61, some 2), (63, none)] w w61 := kF_put u62 F56 rfl
        refine kv_iinc C 36 rfl 2 2 [1, 2, 0] (fun v9 => [(0, .ref (ρ 61)), (1, .int a1), (2, .int v9)]) (kdec dk_cX10_four 20 rfl) rfl (by decide) (fun _ => rfl) (-8) rfl (fun x65 q66 h67e h67 h67l h67u => ?_)
        try have h67n : x65.toInt = (8 : Int32).toInt + (-8) := by omega
        clear h67 q66
        obtain rfl : x65 = 0 := by rw [h67e]; decide
        refine kv_goto C 3 (kdec dk_cX10_four 21 rfl) (by decide) ?_
        refine kv_iload_n C 4 rfl 2 (kdec dk_cX10_four 2 rfl) rfl rfl ?_
        refine kv_if_lt C 7 rfl 39 (kdec dk_cX10_four 3 rfl) (by decide) (fun d68 => ?_) (fun d68 => ?_)
        · exfalso; omega
        · skip
          refine kv_aload_n C 8 rfl 0 (kdec dk_cX10_four 4 rfl) rfl rfl ?_
          refine kv_getr C 11 rfl 61 1 rfl rfl inX10 (by decide) mfl_TaleMachineModel_13 rfl rfl (kdec dk_cX10_four 5 rfl) ?_
          refine kv_aload_n C 12 rfl 0 (kdec dk_cX10_four 6 rfl) rfl rfl ?_
          refine kv_get C 15 rfl 61 2 rfl rfl inX10 (by decide) mfl_TaleMachineModel_86 rfl rfl (kdec dk_cX10_four 7 rfl) (kup_eq u62) ?_
          refine kv_iload_n C 16 rfl 1 (kdec dk_cX10_four 8 rfl) rfl rfl ?_
          refine kv_iload_n C 17 rfl 2 (kdec dk_cX10_four 9 rfl) rfl rfl ?_
          refine kv_ishr C 18 rfl (kdec dk_cX10_four 10 rfl) (fun x69 h70e h70l h70u => ?_)
          refine kv_sipush C 21 rfl 255 (kdec dk_cX10_four 11 rfl) rfl ?_
          refine kv_iand C 22 rfl (kdec dk_cX10_four 12 rfl) (fun x71 h72e h72l h72u => ?_)
          have g73 := kf_and255 h72e
          refine kv_iast C 23 rfl 63 rfl (by omega) (by omega) (kdec dk_cX10_four 13 rfl) (fun w74 u75 => ?_)
          have I76 : kI false w74 := kI_put u75 I63 (show (0 : Int) ≤ (x71 : Int32).toInt by omega) (show (x71 : Int32).toInt ≤ 255 by omega)
          have F77 : kF [(61, some 2), (63, none)] w w74 := kF_put u75 F64 rfl
          refine kv_aload_n C 24 rfl 0 (kdec dk_cX10_four 14 rfl) rfl rfl ?_
          refine kv_dup C 25 rfl (kdec dk_cX10_four 15 rfl) rfl ?_
          have e78 : w74 61 2 = x58 := ((kup_ne u75 rfl : w74 61 2 = w61 61 2).trans (kup_eq u62))
          refine kv_get C 28 rfl 61 2 rfl rfl inX10 (by decide) mfl_TaleMachineModel_86 rfl rfl (kdec dk_cX10_four 16 rfl) e78 ?_
          refine kv_iconst C 29 rfl 1 (kdec dk_cX10_four 17 rfl) rfl ?_
          refine kv_iadd C 30 rfl (kdec dk_cX10_four 18 rfl) (fun x79 q81 h80e h80 h80l h80u => ?_)
          try have h80n : x79.toInt = x58.toInt + (1 : Int32).toInt := by omega
          clear h80 q81
          refine kv_put C 33 rfl 61 2 rfl rfl inX10 (by decide) mfl_TaleMachineModel_86 rfl tyX10 tyX10_ok nmX10 rfl rfl (kdec dk_cX10_four 19 rfl) rfl rfl (fun w82 u83 => ?_)
          have I84 : kI false w82 := kI_put u83 I76 (show (0 : Int) ≤ (x79 : Int32).toInt by omega) (show (x79 : Int32).toInt ≤ 1024 by omega)
          have F85 : kF [(61, some 2), (63, none)] w w82 := kF_put u83 F77 rfl
          refine kv_iinc C 36 rfl 2 2 [1, 2, 0] (fun v9 => [(0, .ref (ρ 61)), (1, .int a1), (2, .int v9)]) (kdec dk_cX10_four 20 rfl) rfl (by decide) (fun _ => rfl) (-8) rfl (fun x86 q87 h88e h88 h88l h88u => ?_)
          try have h88n : x86.toInt = (0 : Int32).toInt + (-8) := by omega
          clear h88 q87
          obtain rfl : x86 = (-8) := by rw [h88e]; decide
          refine kv_goto C 3 (kdec dk_cX10_four 21 rfl) (by decide) ?_
          refine kv_iload_n C 4 rfl 2 (kdec dk_cX10_four 2 rfl) rfl rfl ?_
          refine kv_if_lt C 7 rfl 39 (kdec dk_cX10_four 3 rfl) (by decide) (fun d89 => ?_) (fun d89 => ?_)
          · skip
            exact kv_vret C hr hlk (kdec dk_cX10_four 22 rfl) ⟨rfl, I84, F85, (by rw [e2, (kup_eq u83)]; try omega), (by rw [e2]; exact kLay_of (f := w 63) (kRow_ne u83 rfl (kRow_put u75 (kRow_ne u62 rfl (kRow_put u54 (kRow_ne u41 rfl (kRow_put u33 (kRow_ne u20 rfl (kRow_put u12 (fun _ => rfl))))))))) (by omega) (by omega) (by omega) (by omega) (kByte_s 24 (by decide) h7e h9e) (kByte_s 16 (by decide) h28e h30e) (kByte_s 8 (by decide) h49e h51e) (kByte_s 0 (by decide) h70e h72e))⟩
          · exfalso; omega

set_option maxHeartbeats 4000000 in
set_option maxRecDepth 100000 in
theorem k_x_feed (l : Launch) (D : va_G) (τ : Nat → ClassId) (ρ σ : Nat → Nat) (w : kw) (a1 : Int32) (a2 : Int32) (a3 : Int32) (a4 : Int32) (a5 : Int32) (a6 : Int32) (a7 : Int32) (a8 : Int32) (hI : kI false w)  :
    kM l D τ ρ σ yX10_feed cX10_feed 9 (some .int) { frames := 1, cells := 0, slots := 0, locals := 36 } [.ref (ρ 61), .int a1, .int a2, .int a3, .int a4, .int a5, .int a6, .int a7, .int a8] w
      (fun o w' => ∃ r : Int32, o = some (.int r) ∧ kI false w' ∧ kF [(61, some 2), (63, none)] w w' ∧ ((w 61 2).toInt ≤ 992 ∧ (w' 61 2).toInt = (w 61 2).toInt + 32 ∧ r.toInt = (w 61 2).toInt + 32 ∨ 992 < (w 61 2).toInt ∧ (w' 61 2).toInt = (w 61 2).toInt ∧ r.toInt = -3) ∧ ((w 61 2).toInt ≤ 992 ∧ (∀ k9 : Nat, w' 63 k9 = kFeed (w 63) (w 61 2).toInt.toNat a1 a2 a3 a4 a5 a6 a7 a8 k9) ∨ 992 < (w 61 2).toInt ∧ ∀ k9 : Nat, w' 63 k9 = w 63 k9)) := by
  refine kM_of (own := "TaleMachineModel") rfl (by decide) (Nat.le_of_ble_eq_true rfl) ?_
  intro p e s m args below meth c C hr hlk
  have hF0 : kF [(61, some 2), (63, none)] w w := kF.rf
  have c_m3 : (-3 : Int32).toInt = -3 := by decide
  have c_32 : (32 : Int32).toInt = 32 := by decide
  have c_1024 : (1024 : Int32).toInt = 1024 := by decide
  refine kV.L (L' := [(0, .ref (ρ 61)), (1, .int a1), (2, .int a2), (3, .int a3), (4, .int a4), (5, .int a5), (6, .int a6), (7, .int a7), (8, .int a8)]) rfl ?_
  have g1 := kf_rng a1
  have g2 := kf_rng a2
  have g3 := kf_rng a3
  have g4 := kf_rng a4
  have g5 := kf_rng a5
  have g6 := kf_rng a6
  have g7 := kf_rng a7
  have g8 := kf_rng a8
  refine kv_aload_n C 1 rfl 0 (kdec dk_cX10_feed 0 rfl) rfl rfl ?_
  obtain ⟨x9, e10⟩ : ∃ z : Int32, w 61 2 = z := ⟨_, rfl⟩
  have b11 : (0 : Int) ≤ x9.toInt ∧ x9.toInt ≤ 1024 := by rw [← e10]; exact hI 61 2
  refine kv_get C 4 rfl 61 2 rfl rfl inX10 (by decide) mfl_TaleMachineModel_86 rfl rfl (kdec dk_cX10_feed 1 rfl) e10 ?_
  refine kv_bipush C 6 rfl 32 (kdec dk_cX10_feed 2 rfl) rfl ?_
  refine kv_iadd C 7 rfl (kdec dk_cX10_feed 3 rfl) (fun x12 q14 h13e h13 h13l h13u => ?_)
  try have h13n : x12.toInt = x9.toInt + (32 : Int32).toInt := by omega
  clear h13 q14
  refine kv_sipush C 10 rfl 1024 (kdec dk_cX10_feed 4 rfl) rfl ?_
  refine kv_icmp_le C 13 rfl 16 (kdec dk_cX10_feed 5 rfl) (by decide) (fun d15 => ?_) (fun d15 => ?_)
  · skip
    refine kv_aload_n C 17 rfl 0 (kdec dk_cX10_feed 8 rfl) rfl rfl ?_
    refine kv_iload_n C 18 rfl 1 (kdec dk_cX10_feed 9 rfl) rfl rfl ?_
    refine kv_callVv (As := [.int a1]) (rest := []) C 21 rfl 61 (k_x_four l D τ ρ σ w a1 hI (by rw [e10]; try omega)) rfl rfl mml_TaleMachineModel_90 mim_yX10_four mse_yX10_four mcd_yX10_four min_yX10_four hd_yX10_four rfl rfl rfl (by decide) rfl (Nat.le_of_ble_eq_true rfl) (kdec dk_cX10_feed 10 rfl) (fun w16 h17 => ?_)
    obtain ⟨I18, f19, p21, R22⟩ := h17
    have F23 : kF [(61, some 2), (63, none)] w w16 := kF_call hF0 f19 (by decide)
    obtain ⟨x24, e25⟩ : ∃ z : Int32, w16 61 2 = z := ⟨_, rfl⟩
    have b26 : (0 : Int) ≤ x24.toInt ∧ x24.toInt ≤ 1024 := by rw [← e25]; exact I18 61 2
    rw [e10, e25] at p21
    refine kv_aload_n C 22 rfl 0 (kdec dk_cX10_feed 11 rfl) rfl rfl ?_
    refine kv_iload_n C 23 rfl 2 (kdec dk_cX10_feed 12 rfl) rfl rfl ?_
    refine kv_callVv (As := [.int a2]) (rest := []) C 26 rfl 61 (k_x_four l D τ ρ σ w16 a2 I18 (by rw [e25]; try omega)) rfl rfl mml_TaleMachineModel_90 mim_yX10_four mse_yX10_four mcd_yX10_four min_yX10_four hd_yX10_four rfl rfl rfl (by decide) rfl (Nat.le_of_ble_eq_true rfl) (kdec dk_cX10_feed 13 rfl) (fun w27 h28 => ?_)
    obtain ⟨I29, f30, p32, R33⟩ := h28
    have F34 : kF [(61, some 2), (63, none)] w w27 := kF_call F23 f30 (by decide)
    obtain ⟨x35, e36⟩ : ∃ z : Int32, w27 61 2 = z := ⟨_, rfl⟩
    have b37 : (0 : Int) ≤ x35.toInt ∧ x35.toInt ≤ 1024 := by rw [← e36]; exact I29 61 2
    rw [e25, e36] at p32
    refine kv_aload_n C 27 rfl 0 (kdec dk_cX10_feed 14 rfl) rfl rfl ?_
    refine kv_iload_n C 28 rfl 3 (kdec dk_cX10_feed 15 rfl) rfl rfl ?_
    refine kv_callVv (As := [.int a3]) (rest := []) C 31 rfl 61 (k_x_four l D τ ρ σ w27 a3 I29 (by rw [e36]; try omega)) rfl rfl mml_TaleMachineModel_90 mim_yX10_four mse_yX10_four mcd_yX10_four min_yX10_four hd_yX10_four rfl rfl rfl (by decide) rfl (Nat.le_of_ble_eq_true rfl) (kdec dk_cX10_feed 16 rfl) (fun w38 h39 => ?_)
    obtain ⟨I40, f41, p43, R44⟩ := h39
    have F45 : kF [(61, some 2), (63, none)] w w38 := kF_call F34 f41 (by decide)
    obtain ⟨x46, e47⟩ : ∃ z : Int32, w38 61 2 = z := ⟨_, rfl⟩
    have b48 : (0 : Int) ≤ x46.toInt ∧ x46.toInt ≤ 1024 := by rw [← e47]; exact I40 61 2
    rw [e36, e47] at p43
    refine kv_aload_n C 32 rfl 0 (kdec dk_cX10_feed 17 rfl) rfl rfl ?_
    refine kv_iload C 34 rfl 4 (kdec dk_cX10_feed 18 rfl) rfl ?_
    refine kv_callVv (As := [.int a4]) (rest := []) C 37 rfl 61 (k_x_four l D τ ρ σ w38 a4 I40 (by rw [e47]; try omega)) rfl rfl mml_TaleMachineModel_90 mim_yX10_four mse_yX10_four mcd_yX10_four min_yX10_four hd_yX10_four rfl rfl rfl (by decide) rfl (Nat.le_of_ble_eq_true rfl) (kdec dk_cX10_feed 19 rfl) (fun w49 h50 => ?_)
    obtain ⟨I51, f52, p54, R55⟩ := h50
    have F56 : kF [(61, some 2), (63, none)] w w49 := kF_call F45 f52 (by decide)
    obtain ⟨x57, e58⟩ : ∃ z : Int32, w49 61 2 = z := ⟨_, rfl⟩
    have b59 : (0 : Int) ≤ x57.toInt ∧ x57.toInt ≤ 1024 := by rw [← e58]; exact I51 61 2
    rw [e47, e58] at p54
    refine kv_aload_n C 38 rfl 0 (kdec dk_cX10_feed 20 rfl) rfl rfl ?_
    refine kv_iload C 40 rfl 5 (kdec dk_cX10_feed 21 rfl) rfl ?_
    refine kv_callVv (As := [.int a5]) (rest := []) C 43 rfl 61 (k_x_four l D τ ρ σ w49 a5 I51 (by rw [e58]; try omega)) rfl rfl mml_TaleMachineModel_90 mim_yX10_four mse_yX10_four mcd_yX10_four min_yX10_four hd_yX10_four rfl rfl rfl (by decide) rfl (Nat.le_of_ble_eq_true rfl) (kdec dk_cX10_feed 22 rfl) (fun w60 h61 => ?_)
    obtain ⟨I62, f63, p65, R66⟩ := h61
    have F67 : kF [(61, some 2), (63, none)] w w60 := kF_call F56 f63 (by decide)
    obtain ⟨x68, e69⟩ : ∃ z : Int32, w60 61 2 = z := ⟨_, rfl⟩
    have b70 : (0 : Int) ≤ x68.toInt ∧ x68.toInt ≤ 1024 := by rw [← e69]; exact I62 61 2
    rw [e58, e69] at p65
    refine kv_aload_n C 44 rfl 0 (kdec dk_cX10_feed 23 rfl) rfl rfl ?_
    refine kv_iload C 46 rfl 6 (kdec dk_cX10_feed 24 rfl) rfl ?_
    refine kv_callVv (As := [.int a6]) (rest := []) C 49 rfl 61 (k_x_four l D τ ρ σ w60 a6 I62 (by rw [e69]; try omega)) rfl rfl mml_TaleMachineModel_90 mim_yX10_four mse_yX10_four mcd_yX10_four min_yX10_four hd_yX10_four rfl rfl rfl (by decide) rfl (Nat.le_of_ble_eq_true rfl) (kdec dk_cX10_feed 25 rfl) (fun w71 h72 => ?_)
    obtain ⟨I73, f74, p76, R77⟩ := h72
    have F78 : kF [(61, some 2), (63, none)] w w71 := kF_call F67 f74 (by decide)
    obtain ⟨x79, e80⟩ : ∃ z : Int32, w71 61 2 = z := ⟨_, rfl⟩
    have b81 : (0 : Int) ≤ x79.toInt ∧ x79.toInt ≤ 1024 := by rw [← e80]; exact I73 61 2
    rw [e69, e80] at p76
    refine kv_aload_n C 50 rfl 0 (kdec dk_cX10_feed 26 rfl) rfl rfl ?_
    refine kv_iload C 52 rfl 7 (kdec dk_cX10_feed 27 rfl) rfl ?_
    refine kv_callVv (As := [.int a7]) (rest := []) C 55 rfl 61 (k_x_four l D τ ρ σ w71 a7 I73 (by rw [e80]; try omega)) rfl rfl mml_TaleMachineModel_90 mim_yX10_four mse_yX10_four mcd_yX10_four min_yX10_four hd_yX10_four rfl rfl rfl (by decide) rfl (Nat.le_of_ble_eq_true rfl) (kdec dk_cX10_feed 28 rfl) (fun w82 h83 => ?_)
    obtain ⟨I84, f85, p87, R88⟩ := h83
    have F89 : kF [(61, some 2), (63, none)] w w82 := kF_call F78 f85 (by decide)
    obtain ⟨x90, e91⟩ : ∃ z : Int32, w82 61 2 = z := ⟨_, rfl⟩
    have b92 : (0 : Int) ≤ x90.toInt ∧ x90.toInt ≤ 1024 := by rw [← e91]; exact I84 61 2
    rw [e80, e91] at p87
    refine kv_aload_n C 56 rfl 0 (kdec dk_cX10_feed 29 rfl) rfl rfl ?_
    refine kv_iload C 58 rfl 8 (kdec dk_cX10_feed 30 rfl) rfl ?_
    refine kv_callVv (As := [.int a8]) (rest := []) C 61 rfl 61 (k_x_four l D τ ρ σ w82 a8 I84 (by rw [e91]; try omega)) rfl rfl mml_TaleMachineModel_90 mim_yX10_four mse_yX10_four mcd_yX10_four min_yX10_four hd_yX10_four rfl rfl rfl (by decide) rfl (Nat.le_of_ble_eq_true rfl) (kdec dk_cX10_feed 31 rfl) (fun w93 h94 => ?_)
    obtain ⟨I95, f96, p98, R99⟩ := h94
    have F100 : kF [(61, some 2), (63, none)] w w93 := kF_call F89 f96 (by decide)
    obtain ⟨x101, e102⟩ : ∃ z : Int32, w93 61 2 = z := ⟨_, rfl⟩
    have b103 : (0 : Int) ≤ x101.toInt ∧ x101.toInt ≤ 1024 := by rw [← e102]; exact I95 61 2
    rw [e91, e102] at p98
    refine kv_aload_n C 62 rfl 0 (kdec dk_cX10_feed 32 rfl) rfl rfl ?_
    refine kv_get C 65 rfl 61 2 rfl rfl inX10 (by decide) mfl_TaleMachineModel_86 rfl rfl (kdec dk_cX10_feed 33 rfl) e102 ?_
    exact kv_iret C hr hlk (kdec dk_cX10_feed 34 rfl) ⟨_, rfl, I95, F100, (by rw [e10, e102]; try omega), (Or.inl ⟨by rw [e10]; omega, (kLay_step (kLay_step (kLay_step (kLay_step (kLay_step (kLay_step (kLay_step (kLay_step (fun _ => rfl) R22 rfl) R33 (show (w16 61 2).toInt.toNat = (w 61 2).toInt.toNat + 4 by rw [e25, e10]; omega)) R44 (show (w27 61 2).toInt.toNat = (w 61 2).toInt.toNat + 8 by rw [e36, e10]; omega)) R55 (show (w38 61 2).toInt.toNat = (w 61 2).toInt.toNat + 12 by rw [e47, e10]; omega)) R66 (show (w49 61 2).toInt.toNat = (w 61 2).toInt.toNat + 16 by rw [e58, e10]; omega)) R77 (show (w60 61 2).toInt.toNat = (w 61 2).toInt.toNat + 20 by rw [e69, e10]; omega)) R88 (show (w71 61 2).toInt.toNat = (w 61 2).toInt.toNat + 24 by rw [e80, e10]; omega)) R99 (show (w82 61 2).toInt.toNat = (w 61 2).toInt.toNat + 28 by rw [e91, e10]; omega))⟩)⟩
  · skip
    refine kv_bipush C 15 rfl (-3) (kdec dk_cX10_feed 6 rfl) rfl ?_
    exact kv_iret C hr hlk (kdec dk_cX10_feed 7 rfl) ⟨_, rfl, hI, hF0, (by rw [e10]; try omega), (Or.inr ⟨by rw [e10]; omega, fun _ => rfl⟩)⟩

set_option maxHeartbeats 4000000 in
set_option maxRecDepth 100000 in
theorem k_x_end (l : Launch) (D : va_G) (τ : Nat → ClassId) (ρ σ : Nat → Nat) (w : kw) (a1 : Int32) (hI : kI false w)  :
    kM l D τ ρ σ yX10_end cX10_end 3 (some .int) { frames := 1, cells := 0, slots := 0, locals := 36 } [.ref (ρ 61), .int a1] w
      (fun o w' => ∃ r : Int32, o = some (.int r) ∧ kI false w' ∧ kF [(61, some 2)] w w' ∧ (0 ≤ a1.toInt ∧ a1.toInt ≤ (w 61 2).toInt ∧ (w' 61 2).toInt = a1.toInt ∧ r.toInt = (w 61 2).toInt ∨ (a1.toInt < 0 ∨ (w 61 2).toInt < a1.toInt) ∧ (w' 61 2).toInt = (w 61 2).toInt ∧ r.toInt = -1)) := by
  refine kM_of (own := "TaleMachineModel") rfl (by decide) (Nat.le_of_ble_eq_true rfl) ?_
  intro p e s m args below meth c C hr hlk
  have hF0 : kF [(61, some 2)] w w := kF.rf
  have c_m1 : (-1 : Int32).toInt = -1 := by decide
  refine kV.L (L' := [(0, .ref (ρ 61)), (1, .int a1)]) rfl ?_
  have g1 := kf_rng a1
  refine kv_iload_n C 1 rfl 1 (kdec dk_cX10_end 0 rfl) rfl rfl ?_
  refine kv_i2l C 2 rfl (kdec dk_cX10_end 1 rfl) ?_
  have h2 := kf_i2l a1
  refine kv_lconst C 3 rfl 0 (kdec dk_cX10_end 2 rfl) rfl ?_
  have h3 : (0 : Int64).toInt = 0 := by decide
  refine kv_aload_n C 4 rfl 0 (kdec dk_cX10_end 3 rfl) rfl rfl ?_
  obtain ⟨x4, e5⟩ : ∃ z : Int32, w 61 2 = z := ⟨_, rfl⟩
  have b6 : (0 : Int) ≤ x4.toInt ∧ x4.toInt ≤ 1024 := by rw [← e5]; exact hI 61 2
  refine kv_get C 7 rfl 61 2 rfl rfl inX10 (by decide) mfl_TaleMachineModel_86 rfl rfl (kdec dk_cX10_end 4 rfl) e5 ?_
  refine kv_i2l C 8 rfl (kdec dk_cX10_end 5 rfl) ?_
  have h7 := kf_i2l x4
  refine kv_callSi (As := [.long (a1 : Int32).toInt64, .long (0 : Int64), .long (x4 : Int32).toInt64]) (rest := []) C 11 rfl (k_x_in l D τ ρ σ w (a1 : Int32).toInt64 (0 : Int64) (x4 : Int32).toInt64 hI ) mml_TaleMachineModel_94 mst_yX10_in mcd_yX10_in min_yX10_in hd_yX10_in rfl rfl rfl (by decide) rfl (Nat.le_of_ble_eq_true rfl) (kdec dk_cX10_end 6 rfl) (fun x12 w8 h9 => ?_)
  obtain ⟨I10, f11, p13, p14⟩ := h9
  have F15 : kF [(61, some 2)] w w8 := kF_call hF0 f11 (by decide)
  have g16 := kf_rng x12
  refine kv_if_ne C 14 rfl 16 (kdec dk_cX10_end 7 rfl) (by decide) (fun d17 => ?_) (fun d17 => ?_)
  · skip
    refine kv_aload_n C 17 rfl 0 (kdec dk_cX10_end 10 rfl) rfl rfl ?_
    have e18 : w8 61 2 = x4 := ((f11 61 2 rfl : w8 61 2 = w 61 2).trans e5)
    refine kv_get C 20 rfl 61 2 rfl rfl inX10 (by decide) mfl_TaleMachineModel_86 rfl rfl (kdec dk_cX10_end 11 rfl) e18 ?_
    refine kv_istore_n C 21 rfl 2 [1, 2, 0] [(0, .ref (ρ 61)), (1, .int a1), (2, .int x4)] (kdec dk_cX10_end 12 rfl) rfl (by decide) rfl ?_
    refine kv_aload_n C 22 rfl 0 (kdec dk_cX10_end 13 rfl) rfl rfl ?_
    refine kv_iload_n C 23 rfl 1 (kdec dk_cX10_end 14 rfl) rfl rfl ?_
    refine kv_put C 26 rfl 61 2 rfl rfl inX10 (by decide) mfl_TaleMachineModel_86 rfl tyX10 tyX10_ok nmX10 rfl rfl (kdec dk_cX10_end 15 rfl) rfl rfl (fun w19 u20 => ?_)
    have I21 : kI false w19 := kI_put u20 I10 (show (0 : Int) ≤ (a1 : Int32).toInt by omega) (show (a1 : Int32).toInt ≤ 1024 by omega)
    have F22 : kF [(61, some 2)] w w19 := kF_put u20 F15 rfl
    refine kv_iload_n C 27 rfl 2 (kdec dk_cX10_end 16 rfl) rfl rfl ?_
    exact kv_iret C hr hlk (kdec dk_cX10_end 17 rfl) ⟨_, rfl, I21, F22, (by rw [e5, (kup_eq u20)]; try omega)⟩
  · skip
    refine kv_iconst C 15 rfl (-1) (kdec dk_cX10_end 8 rfl) rfl ?_
    have e23 : w8 61 2 = x4 := ((f11 61 2 rfl : w8 61 2 = w 61 2).trans e5)
    exact kv_iret C hr hlk (kdec dk_cX10_end 9 rfl) ⟨_, rfl, I10, F15, (by rw [e5, e23]; try omega)⟩

set_option maxHeartbeats 4000000 in
set_option maxRecDepth 100000 in
theorem k_x_tapeWord14 (l : Launch) (D : va_G) (τ : Nat → ClassId) (ρ σ : Nat → Nat) (w : kw)  (hI : kI false w)  :
    kM l D τ ρ σ yX10_tapeWord cX10_tapeWord 2 (some .int) { frames := 0, cells := 0, slots := 0, locals := 0 } [.ref (ρ 61), .int 14] w
      (fun o w' => ∃ r : Int32, o = some (.int r) ∧ kI false w' ∧ kF [] w w' ∧ (r.toInt = 256 * (w 63 14).toInt + (w 63 15).toInt)) := by
  refine kM_of (own := "TaleMachineModel") rfl (by decide) (Nat.le_of_ble_eq_true rfl) ?_
  intro p e s m args below meth c C hr hlk
  have hF0 : kF [] w w := kF.rf
  have c_1 : (1 : Int32).toInt = 1 := by decide
  have c_14 : (14 : Int32).toInt = 14 := by decide
  have c_15 : (15 : Int32).toInt = 15 := by decide
  have c_256 : (256 : Int32).toInt = 256 := by decide
  refine kV.L (L' := [(0, .ref (ρ 61)), (1, .int 14)]) rfl ?_
  refine kv_sipush C 3 rfl 256 (kdec dk_cX10_tapeWord 0 rfl) rfl ?_
  refine kv_aload_n C 4 rfl 0 (kdec dk_cX10_tapeWord 1 rfl) rfl rfl ?_
  refine kv_getr C 7 rfl 61 1 rfl rfl inX10 (by decide) mfl_TaleMachineModel_13 rfl rfl (kdec dk_cX10_tapeWord 2 rfl) ?_
  refine kv_iload_n C 8 rfl 1 (kdec dk_cX10_tapeWord 3 rfl) rfl rfl ?_
  obtain ⟨x1, e2⟩ : ∃ z : Int32, w 63 14 = z := ⟨_, rfl⟩
  have b3 : (0 : Int) ≤ x1.toInt ∧ x1.toInt ≤ 255 := by rw [← e2]; exact hI 63 14
  refine kv_iald C 9 rfl 63 rfl (by omega) (by omega) (show w 63 (14 : Int32).toNatClampNeg = x1 from e2) (kdec dk_cX10_tapeWord 4 rfl) ?_
  refine kv_imul C 10 rfl (kdec dk_cX10_tapeWord 5 rfl) (fun x4 h5e h5l h5u => ?_)
  obtain ⟨q6, g7⟩ := kf_mul 256 x1
  rw [← h5e, c_256] at g7
  try have h5n : x4.toInt = 256 * x1.toInt := by omega
  clear g7 q6
  refine kv_aload_n C 11 rfl 0 (kdec dk_cX10_tapeWord 6 rfl) rfl rfl ?_
  refine kv_getr C 14 rfl 61 1 rfl rfl inX10 (by decide) mfl_TaleMachineModel_13 rfl rfl (kdec dk_cX10_tapeWord 7 rfl) ?_
  refine kv_iload_n C 15 rfl 1 (kdec dk_cX10_tapeWord 8 rfl) rfl rfl ?_
  refine kv_iconst C 16 rfl 1 (kdec dk_cX10_tapeWord 9 rfl) rfl ?_
  refine kv_iadd C 17 rfl (kdec dk_cX10_tapeWord 10 rfl) (fun x8 q10 h9e h9 h9l h9u => ?_)
  try have h9n : x8.toInt = (14 : Int32).toInt + (1 : Int32).toInt := by omega
  clear h9 q10
  obtain rfl : x8 = 15 := by rw [h9e]; decide
  obtain ⟨x11, e12⟩ : ∃ z : Int32, w 63 15 = z := ⟨_, rfl⟩
  have b13 : (0 : Int) ≤ x11.toInt ∧ x11.toInt ≤ 255 := by rw [← e12]; exact hI 63 15
  refine kv_iald C 18 rfl 63 rfl (by omega) (by omega) (show w 63 (15 : Int32).toNatClampNeg = x11 from e12) (kdec dk_cX10_tapeWord 11 rfl) ?_
  refine kv_iadd C 19 rfl (kdec dk_cX10_tapeWord 12 rfl) (fun x14 q16 h15e h15 h15l h15u => ?_)
  try have h15n : x14.toInt = x4.toInt + x11.toInt := by omega
  clear h15 q16
  exact kv_iret C hr hlk (kdec dk_cX10_tapeWord 13 rfl) ⟨_, rfl, hI, hF0, (by rw [e2, e12]; try omega)⟩

set_option maxHeartbeats 4000000 in
set_option maxRecDepth 100000 in
theorem k_x_tapeWord4 (l : Launch) (D : va_G) (τ : Nat → ClassId) (ρ σ : Nat → Nat) (w : kw)  (hI : kI false w)  :
    kM l D τ ρ σ yX10_tapeWord cX10_tapeWord 2 (some .int) { frames := 0, cells := 0, slots := 0, locals := 0 } [.ref (ρ 61), .int 4] w
      (fun o w' => ∃ r : Int32, o = some (.int r) ∧ kI false w' ∧ kF [] w w' ∧ (r.toInt = 256 * (w 63 4).toInt + (w 63 5).toInt)) := by
  refine kM_of (own := "TaleMachineModel") rfl (by decide) (Nat.le_of_ble_eq_true rfl) ?_
  intro p e s m args below meth c C hr hlk
  have hF0 : kF [] w w := kF.rf
  have c_1 : (1 : Int32).toInt = 1 := by decide
  have c_4 : (4 : Int32).toInt = 4 := by decide
  have c_5 : (5 : Int32).toInt = 5 := by decide
  have c_256 : (256 : Int32).toInt = 256 := by decide
  refine kV.L (L' := [(0, .ref (ρ 61)), (1, .int 4)]) rfl ?_
  refine kv_sipush C 3 rfl 256 (kdec dk_cX10_tapeWord 0 rfl) rfl ?_
  refine kv_aload_n C 4 rfl 0 (kdec dk_cX10_tapeWord 1 rfl) rfl rfl ?_
  refine kv_getr C 7 rfl 61 1 rfl rfl inX10 (by decide) mfl_TaleMachineModel_13 rfl rfl (kdec dk_cX10_tapeWord 2 rfl) ?_
  refine kv_iload_n C 8 rfl 1 (kdec dk_cX10_tapeWord 3 rfl) rfl rfl ?_
  obtain ⟨x1, e2⟩ : ∃ z : Int32, w 63 4 = z := ⟨_, rfl⟩
  have b3 : (0 : Int) ≤ x1.toInt ∧ x1.toInt ≤ 255 := by rw [← e2]; exact hI 63 4
  refine kv_iald C 9 rfl 63 rfl (by omega) (by omega) (show w 63 (4 : Int32).toNatClampNeg = x1 from e2) (kdec dk_cX10_tapeWord 4 rfl) ?_
  refine kv_imul C 10 rfl (kdec dk_cX10_tapeWord 5 rfl) (fun x4 h5e h5l h5u => ?_)
  obtain ⟨q6, g7⟩ := kf_mul 256 x1
  rw [← h5e, c_256] at g7
  try have h5n : x4.toInt = 256 * x1.toInt := by omega
  clear g7 q6
  refine kv_aload_n C 11 rfl 0 (kdec dk_cX10_tapeWord 6 rfl) rfl rfl ?_
  refine kv_getr C 14 rfl 61 1 rfl rfl inX10 (by decide) mfl_TaleMachineModel_13 rfl rfl (kdec dk_cX10_tapeWord 7 rfl) ?_
  refine kv_iload_n C 15 rfl 1 (kdec dk_cX10_tapeWord 8 rfl) rfl rfl ?_
  refine kv_iconst C 16 rfl 1 (kdec dk_cX10_tapeWord 9 rfl) rfl ?_
  refine kv_iadd C 17 rfl (kdec dk_cX10_tapeWord 10 rfl) (fun x8 q10 h9e h9 h9l h9u => ?_)
  try have h9n : x8.toInt = (4 : Int32).toInt + (1 : Int32).toInt := by omega
  clear h9 q10
  obtain rfl : x8 = 5 := by rw [h9e]; decide
  obtain ⟨x11, e12⟩ : ∃ z : Int32, w 63 5 = z := ⟨_, rfl⟩
  have b13 : (0 : Int) ≤ x11.toInt ∧ x11.toInt ≤ 255 := by rw [← e12]; exact hI 63 5
  refine kv_iald C 18 rfl 63 rfl (by omega) (by omega) (show w 63 (5 : Int32).toNatClampNeg = x11 from e12) (kdec dk_cX10_tapeWord 11 rfl) ?_
  refine kv_iadd C 19 rfl (kdec dk_cX10_tapeWord 12 rfl) (fun x14 q16 h15e h15 h15l h15u => ?_)
  try have h15n : x14.toInt = x4.toInt + x11.toInt := by omega
  clear h15 q16
  exact kv_iret C hr hlk (kdec dk_cX10_tapeWord 13 rfl) ⟨_, rfl, hI, hF0, (by rw [e2, e12]; try omega)⟩

set_option maxHeartbeats 4000000 in
set_option maxRecDepth 100000 in
theorem k_x_tapeWord6 (l : Launch) (D : va_G) (τ : Nat → ClassId) (ρ σ : Nat → Nat) (w : kw)  (hI : kI false w)  :
    kM l D τ ρ σ yX10_tapeWord cX10_tapeWord 2 (some .int) { frames := 0, cells := 0, slots := 0, locals := 0 } [.ref (ρ 61), .int 6] w
      (fun o w' => ∃ r : Int32, o = some (.int r) ∧ kI false w' ∧ kF [] w w' ∧ (r.toInt = 256 * (w 63 6).toInt + (w 63 7).toInt)) := by
  refine kM_of (own := "TaleMachineModel") rfl (by decide) (Nat.le_of_ble_eq_true rfl) ?_
  intro p e s m args below meth c C hr hlk
  have hF0 : kF [] w w := kF.rf
  have c_1 : (1 : Int32).toInt = 1 := by decide
  have c_6 : (6 : Int32).toInt = 6 := by decide
  have c_7 : (7 : Int32).toInt = 7 := by decide
  have c_256 : (256 : Int32).toInt = 256 := by decide
  refine kV.L (L' := [(0, .ref (ρ 61)), (1, .int 6)]) rfl ?_
  refine kv_sipush C 3 rfl 256 (kdec dk_cX10_tapeWord 0 rfl) rfl ?_
  refine kv_aload_n C 4 rfl 0 (kdec dk_cX10_tapeWord 1 rfl) rfl rfl ?_
  refine kv_getr C 7 rfl 61 1 rfl rfl inX10 (by decide) mfl_TaleMachineModel_13 rfl rfl (kdec dk_cX10_tapeWord 2 rfl) ?_
  refine kv_iload_n C 8 rfl 1 (kdec dk_cX10_tapeWord 3 rfl) rfl rfl ?_
  obtain ⟨x1, e2⟩ : ∃ z : Int32, w 63 6 = z := ⟨_, rfl⟩
  have b3 : (0 : Int) ≤ x1.toInt ∧ x1.toInt ≤ 255 := by rw [← e2]; exact hI 63 6
  refine kv_iald C 9 rfl 63 rfl (by omega) (by omega) (show w 63 (6 : Int32).toNatClampNeg = x1 from e2) (kdec dk_cX10_tapeWord 4 rfl) ?_
  refine kv_imul C 10 rfl (kdec dk_cX10_tapeWord 5 rfl) (fun x4 h5e h5l h5u => ?_)
  obtain ⟨q6, g7⟩ := kf_mul 256 x1
  rw [← h5e, c_256] at g7
  try have h5n : x4.toInt = 256 * x1.toInt := by omega
  clear g7 q6
  refine kv_aload_n C 11 rfl 0 (kdec dk_cX10_tapeWord 6 rfl) rfl rfl ?_
  refine kv_getr C 14 rfl 61 1 rfl rfl inX10 (by decide) mfl_TaleMachineModel_13 rfl rfl (kdec dk_cX10_tapeWord 7 rfl) ?_
  refine kv_iload_n C 15 rfl 1 (kdec dk_cX10_tapeWord 8 rfl) rfl rfl ?_
  refine kv_iconst C 16 rfl 1 (kdec dk_cX10_tapeWord 9 rfl) rfl ?_
  refine kv_iadd C 17 rfl (kdec dk_cX10_tapeWord 10 rfl) (fun x8 q10 h9e h9 h9l h9u => ?_)
  try have h9n : x8.toInt = (6 : Int32).toInt + (1 : Int32).toInt := by omega
  clear h9 q10
  obtain rfl : x8 = 7 := by rw [h9e]; decide
  obtain ⟨x11, e12⟩ : ∃ z : Int32, w 63 7 = z := ⟨_, rfl⟩
  have b13 : (0 : Int) ≤ x11.toInt ∧ x11.toInt ≤ 255 := by rw [← e12]; exact hI 63 7
  refine kv_iald C 18 rfl 63 rfl (by omega) (by omega) (show w 63 (7 : Int32).toNatClampNeg = x11 from e12) (kdec dk_cX10_tapeWord 11 rfl) ?_
  refine kv_iadd C 19 rfl (kdec dk_cX10_tapeWord 12 rfl) (fun x14 q16 h15e h15 h15l h15u => ?_)
  try have h15n : x14.toInt = x4.toInt + x11.toInt := by omega
  clear h15 q16
  exact kv_iret C hr hlk (kdec dk_cX10_tapeWord 13 rfl) ⟨_, rfl, hI, hF0, (by rw [e2, e12]; try omega)⟩

set_option maxHeartbeats 4000000 in
set_option maxRecDepth 100000 in
theorem k_x_tapeWord26 (l : Launch) (D : va_G) (τ : Nat → ClassId) (ρ σ : Nat → Nat) (w : kw)  (hI : kI false w)  :
    kM l D τ ρ σ yX10_tapeWord cX10_tapeWord 2 (some .int) { frames := 0, cells := 0, slots := 0, locals := 0 } [.ref (ρ 61), .int 26] w
      (fun o w' => ∃ r : Int32, o = some (.int r) ∧ kI false w' ∧ kF [] w w' ∧ (r.toInt = 256 * (w 63 26).toInt + (w 63 27).toInt)) := by
  refine kM_of (own := "TaleMachineModel") rfl (by decide) (Nat.le_of_ble_eq_true rfl) ?_
  intro p e s m args below meth c C hr hlk
  have hF0 : kF [] w w := kF.rf
  have c_1 : (1 : Int32).toInt = 1 := by decide
  have c_26 : (26 : Int32).toInt = 26 := by decide
  have c_27 : (27 : Int32).toInt = 27 := by decide
  have c_256 : (256 : Int32).toInt = 256 := by decide
  refine kV.L (L' := [(0, .ref (ρ 61)), (1, .int 26)]) rfl ?_
  refine kv_sipush C 3 rfl 256 (kdec dk_cX10_tapeWord 0 rfl) rfl ?_
  refine kv_aload_n C 4 rfl 0 (kdec dk_cX10_tapeWord 1 rfl) rfl rfl ?_
  refine kv_getr C 7 rfl 61 1 rfl rfl inX10 (by decide) mfl_TaleMachineModel_13 rfl rfl (kdec dk_cX10_tapeWord 2 rfl) ?_
  refine kv_iload_n C 8 rfl 1 (kdec dk_cX10_tapeWord 3 rfl) rfl rfl ?_
  obtain ⟨x1, e2⟩ : ∃ z : Int32, w 63 26 = z := ⟨_, rfl⟩
  have b3 : (0 : Int) ≤ x1.toInt ∧ x1.toInt ≤ 255 := by rw [← e2]; exact hI 63 26
  refine kv_iald C 9 rfl 63 rfl (by omega) (by omega) (show w 63 (26 : Int32).toNatClampNeg = x1 from e2) (kdec dk_cX10_tapeWord 4 rfl) ?_
  refine kv_imul C 10 rfl (kdec dk_cX10_tapeWord 5 rfl) (fun x4 h5e h5l h5u => ?_)
  obtain ⟨q6, g7⟩ := kf_mul 256 x1
  rw [← h5e, c_256] at g7
  try have h5n : x4.toInt = 256 * x1.toInt := by omega
  clear g7 q6
  refine kv_aload_n C 11 rfl 0 (kdec dk_cX10_tapeWord 6 rfl) rfl rfl ?_
  refine kv_getr C 14 rfl 61 1 rfl rfl inX10 (by decide) mfl_TaleMachineModel_13 rfl rfl (kdec dk_cX10_tapeWord 7 rfl) ?_
  refine kv_iload_n C 15 rfl 1 (kdec dk_cX10_tapeWord 8 rfl) rfl rfl ?_
  refine kv_iconst C 16 rfl 1 (kdec dk_cX10_tapeWord 9 rfl) rfl ?_
  refine kv_iadd C 17 rfl (kdec dk_cX10_tapeWord 10 rfl) (fun x8 q10 h9e h9 h9l h9u => ?_)
  try have h9n : x8.toInt = (26 : Int32).toInt + (1 : Int32).toInt := by omega
  clear h9 q10
  obtain rfl : x8 = 27 := by rw [h9e]; decide
  obtain ⟨x11, e12⟩ : ∃ z : Int32, w 63 27 = z := ⟨_, rfl⟩
  have b13 : (0 : Int) ≤ x11.toInt ∧ x11.toInt ≤ 255 := by rw [← e12]; exact hI 63 27
  refine kv_iald C 18 rfl 63 rfl (by omega) (by omega) (show w 63 (27 : Int32).toNatClampNeg = x11 from e12) (kdec dk_cX10_tapeWord 11 rfl) ?_
  refine kv_iadd C 19 rfl (kdec dk_cX10_tapeWord 12 rfl) (fun x14 q16 h15e h15 h15l h15u => ?_)
  try have h15n : x14.toInt = x4.toInt + x11.toInt := by omega
  clear h15 q16
  exact kv_iret C hr hlk (kdec dk_cX10_tapeWord 13 rfl) ⟨_, rfl, hI, hF0, (by rw [e2, e12]; try omega)⟩

set_option maxHeartbeats 4000000 in
set_option maxRecDepth 100000 in
theorem k_x_tapeWord28 (l : Launch) (D : va_G) (τ : Nat → ClassId) (ρ σ : Nat → Nat) (w : kw)  (hI : kI false w)  :
    kM l D τ ρ σ yX10_tapeWord cX10_tapeWord 2 (some .int) { frames := 0, cells := 0, slots := 0, locals := 0 } [.ref (ρ 61), .int 28] w
      (fun o w' => ∃ r : Int32, o = some (.int r) ∧ kI false w' ∧ kF [] w w' ∧ (r.toInt = 256 * (w 63 28).toInt + (w 63 29).toInt)) := by
  refine kM_of (own := "TaleMachineModel") rfl (by decide) (Nat.le_of_ble_eq_true rfl) ?_
  intro p e s m args below meth c C hr hlk
  have hF0 : kF [] w w := kF.rf
  have c_1 : (1 : Int32).toInt = 1 := by decide
  have c_28 : (28 : Int32).toInt = 28 := by decide
  have c_29 : (29 : Int32).toInt = 29 := by decide
  have c_256 : (256 : Int32).toInt = 256 := by decide
  refine kV.L (L' := [(0, .ref (ρ 61)), (1, .int 28)]) rfl ?_
  refine kv_sipush C 3 rfl 256 (kdec dk_cX10_tapeWord 0 rfl) rfl ?_
  refine kv_aload_n C 4 rfl 0 (kdec dk_cX10_tapeWord 1 rfl) rfl rfl ?_
  refine kv_getr C 7 rfl 61 1 rfl rfl inX10 (by decide) mfl_TaleMachineModel_13 rfl rfl (kdec dk_cX10_tapeWord 2 rfl) ?_
  refine kv_iload_n C 8 rfl 1 (kdec dk_cX10_tapeWord 3 rfl) rfl rfl ?_
  obtain ⟨x1, e2⟩ : ∃ z : Int32, w 63 28 = z := ⟨_, rfl⟩
  have b3 : (0 : Int) ≤ x1.toInt ∧ x1.toInt ≤ 255 := by rw [← e2]; exact hI 63 28
  refine kv_iald C 9 rfl 63 rfl (by omega) (by omega) (show w 63 (28 : Int32).toNatClampNeg = x1 from e2) (kdec dk_cX10_tapeWord 4 rfl) ?_
  refine kv_imul C 10 rfl (kdec dk_cX10_tapeWord 5 rfl) (fun x4 h5e h5l h5u => ?_)
  obtain ⟨q6, g7⟩ := kf_mul 256 x1
  rw [← h5e, c_256] at g7
  try have h5n : x4.toInt = 256 * x1.toInt := by omega
  clear g7 q6
  refine kv_aload_n C 11 rfl 0 (kdec dk_cX10_tapeWord 6 rfl) rfl rfl ?_
  refine kv_getr C 14 rfl 61 1 rfl rfl inX10 (by decide) mfl_TaleMachineModel_13 rfl rfl (kdec dk_cX10_tapeWord 7 rfl) ?_
  refine kv_iload_n C 15 rfl 1 (kdec dk_cX10_tapeWord 8 rfl) rfl rfl ?_
  refine kv_iconst C 16 rfl 1 (kdec dk_cX10_tapeWord 9 rfl) rfl ?_
  refine kv_iadd C 17 rfl (kdec dk_cX10_tapeWord 10 rfl) (fun x8 q10 h9e h9 h9l h9u => ?_)
  try have h9n : x8.toInt = (28 : Int32).toInt + (1 : Int32).toInt := by omega
  clear h9 q10
  obtain rfl : x8 = 29 := by rw [h9e]; decide
  obtain ⟨x11, e12⟩ : ∃ z : Int32, w 63 29 = z := ⟨_, rfl⟩
  have b13 : (0 : Int) ≤ x11.toInt ∧ x11.toInt ≤ 255 := by rw [← e12]; exact hI 63 29
  refine kv_iald C 18 rfl 63 rfl (by omega) (by omega) (show w 63 (29 : Int32).toNatClampNeg = x11 from e12) (kdec dk_cX10_tapeWord 11 rfl) ?_
  refine kv_iadd C 19 rfl (kdec dk_cX10_tapeWord 12 rfl) (fun x14 q16 h15e h15 h15l h15u => ?_)
  try have h15n : x14.toInt = x4.toInt + x11.toInt := by omega
  clear h15 q16
  exact kv_iret C hr hlk (kdec dk_cX10_tapeWord 13 rfl) ⟨_, rfl, hI, hF0, (by rw [e2, e12]; try omega)⟩

set_option maxHeartbeats 4000000 in
set_option maxRecDepth 100000 in
theorem k_x_tapeWord8 (l : Launch) (D : va_G) (τ : Nat → ClassId) (ρ σ : Nat → Nat) (w : kw)  (hI : kI false w)  :
    kM l D τ ρ σ yX10_tapeWord cX10_tapeWord 2 (some .int) { frames := 0, cells := 0, slots := 0, locals := 0 } [.ref (ρ 61), .int 8] w
      (fun o w' => ∃ r : Int32, o = some (.int r) ∧ kI false w' ∧ kF [] w w' ∧ (r.toInt = 256 * (w 63 8).toInt + (w 63 9).toInt)) := by
  refine kM_of (own := "TaleMachineModel") rfl (by decide) (Nat.le_of_ble_eq_true rfl) ?_
  intro p e s m args below meth c C hr hlk
  have hF0 : kF [] w w := kF.rf
  have c_1 : (1 : Int32).toInt = 1 := by decide
  have c_8 : (8 : Int32).toInt = 8 := by decide
  have c_9 : (9 : Int32).toInt = 9 := by decide
  have c_256 : (256 : Int32).toInt = 256 := by decide
  refine kV.L (L' := [(0, .ref (ρ 61)), (1, .int 8)]) rfl ?_
  refine kv_sipush C 3 rfl 256 (kdec dk_cX10_tapeWord 0 rfl) rfl ?_
  refine kv_aload_n C 4 rfl 0 (kdec dk_cX10_tapeWord 1 rfl) rfl rfl ?_
  refine kv_getr C 7 rfl 61 1 rfl rfl inX10 (by decide) mfl_TaleMachineModel_13 rfl rfl (kdec dk_cX10_tapeWord 2 rfl) ?_
  refine kv_iload_n C 8 rfl 1 (kdec dk_cX10_tapeWord 3 rfl) rfl rfl ?_
  obtain ⟨x1, e2⟩ : ∃ z : Int32, w 63 8 = z := ⟨_, rfl⟩
  have b3 : (0 : Int) ≤ x1.toInt ∧ x1.toInt ≤ 255 := by rw [← e2]; exact hI 63 8
  refine kv_iald C 9 rfl 63 rfl (by omega) (by omega) (show w 63 (8 : Int32).toNatClampNeg = x1 from e2) (kdec dk_cX10_tapeWord 4 rfl) ?_
  refine kv_imul C 10 rfl (kdec dk_cX10_tapeWord 5 rfl) (fun x4 h5e h5l h5u => ?_)
  obtain ⟨q6, g7⟩ := kf_mul 256 x1
  rw [← h5e, c_256] at g7
  try have h5n : x4.toInt = 256 * x1.toInt := by omega
  clear g7 q6
  refine kv_aload_n C 11 rfl 0 (kdec dk_cX10_tapeWord 6 rfl) rfl rfl ?_
  refine kv_getr C 14 rfl 61 1 rfl rfl inX10 (by decide) mfl_TaleMachineModel_13 rfl rfl (kdec dk_cX10_tapeWord 7 rfl) ?_
  refine kv_iload_n C 15 rfl 1 (kdec dk_cX10_tapeWord 8 rfl) rfl rfl ?_
  refine kv_iconst C 16 rfl 1 (kdec dk_cX10_tapeWord 9 rfl) rfl ?_
  refine kv_iadd C 17 rfl (kdec dk_cX10_tapeWord 10 rfl) (fun x8 q10 h9e h9 h9l h9u => ?_)
  try have h9n : x8.toInt = (8 : Int32).toInt + (1 : Int32).toInt := by omega
  clear h9 q10
  obtain rfl : x8 = 9 := by rw [h9e]; decide
  obtain ⟨x11, e12⟩ : ∃ z : Int32, w 63 9 = z := ⟨_, rfl⟩
  have b13 : (0 : Int) ≤ x11.toInt ∧ x11.toInt ≤ 255 := by rw [← e12]; exact hI 63 9
  refine kv_iald C 18 rfl 63 rfl (by omega) (by omega) (show w 63 (9 : Int32).toNatClampNeg = x11 from e12) (kdec dk_cX10_tapeWord 11 rfl) ?_
  refine kv_iadd C 19 rfl (kdec dk_cX10_tapeWord 12 rfl) (fun x14 q16 h15e h15 h15l h15u => ?_)
  try have h15n : x14.toInt = x4.toInt + x11.toInt := by omega
  clear h15 q16
  exact kv_iret C hr hlk (kdec dk_cX10_tapeWord 13 rfl) ⟨_, rfl, hI, hF0, (by rw [e2, e12]; try omega)⟩

set_option maxHeartbeats 4000000 in
set_option maxRecDepth 100000 in
theorem k_x_tapeWord10 (l : Launch) (D : va_G) (τ : Nat → ClassId) (ρ σ : Nat → Nat) (w : kw)  (hI : kI false w)  :
    kM l D τ ρ σ yX10_tapeWord cX10_tapeWord 2 (some .int) { frames := 0, cells := 0, slots := 0, locals := 0 } [.ref (ρ 61), .int 10] w
      (fun o w' => ∃ r : Int32, o = some (.int r) ∧ kI false w' ∧ kF [] w w' ∧ (r.toInt = 256 * (w 63 10).toInt + (w 63 11).toInt)) := by
  refine kM_of (own := "TaleMachineModel") rfl (by decide) (Nat.le_of_ble_eq_true rfl) ?_
  intro p e s m args below meth c C hr hlk
  have hF0 : kF [] w w := kF.rf
  have c_1 : (1 : Int32).toInt = 1 := by decide
  have c_10 : (10 : Int32).toInt = 10 := by decide
  have c_11 : (11 : Int32).toInt = 11 := by decide
  have c_256 : (256 : Int32).toInt = 256 := by decide
  refine kV.L (L' := [(0, .ref (ρ 61)), (1, .int 10)]) rfl ?_
  refine kv_sipush C 3 rfl 256 (kdec dk_cX10_tapeWord 0 rfl) rfl ?_
  refine kv_aload_n C 4 rfl 0 (kdec dk_cX10_tapeWord 1 rfl) rfl rfl ?_
  refine kv_getr C 7 rfl 61 1 rfl rfl inX10 (by decide) mfl_TaleMachineModel_13 rfl rfl (kdec dk_cX10_tapeWord 2 rfl) ?_
  refine kv_iload_n C 8 rfl 1 (kdec dk_cX10_tapeWord 3 rfl) rfl rfl ?_
  obtain ⟨x1, e2⟩ : ∃ z : Int32, w 63 10 = z := ⟨_, rfl⟩
  have b3 : (0 : Int) ≤ x1.toInt ∧ x1.toInt ≤ 255 := by rw [← e2]; exact hI 63 10
  refine kv_iald C 9 rfl 63 rfl (by omega) (by omega) (show w 63 (10 : Int32).toNatClampNeg = x1 from e2) (kdec dk_cX10_tapeWord 4 rfl) ?_
  refine kv_imul C 10 rfl (kdec dk_cX10_tapeWord 5 rfl) (fun x4 h5e h5l h5u => ?_)
  obtain ⟨q6, g7⟩ := kf_mul 256 x1
  rw [← h5e, c_256] at g7
  try have h5n : x4.toInt = 256 * x1.toInt := by omega
  clear g7 q6
  refine kv_aload_n C 11 rfl 0 (kdec dk_cX10_tapeWord 6 rfl) rfl rfl ?_
  refine kv_getr C 14 rfl 61 1 rfl rfl inX10 (by decide) mfl_TaleMachineModel_13 rfl rfl (kdec dk_cX10_tapeWord 7 rfl) ?_
  refine kv_iload_n C 15 rfl 1 (kdec dk_cX10_tapeWord 8 rfl) rfl rfl ?_
  refine kv_iconst C 16 rfl 1 (kdec dk_cX10_tapeWord 9 rfl) rfl ?_
  refine kv_iadd C 17 rfl (kdec dk_cX10_tapeWord 10 rfl) (fun x8 q10 h9e h9 h9l h9u => ?_)
  try have h9n : x8.toInt = (10 : Int32).toInt + (1 : Int32).toInt := by omega
  clear h9 q10
  obtain rfl : x8 = 11 := by rw [h9e]; decide
  obtain ⟨x11, e12⟩ : ∃ z : Int32, w 63 11 = z := ⟨_, rfl⟩
  have b13 : (0 : Int) ≤ x11.toInt ∧ x11.toInt ≤ 255 := by rw [← e12]; exact hI 63 11
  refine kv_iald C 18 rfl 63 rfl (by omega) (by omega) (show w 63 (11 : Int32).toNatClampNeg = x11 from e12) (kdec dk_cX10_tapeWord 11 rfl) ?_
  refine kv_iadd C 19 rfl (kdec dk_cX10_tapeWord 12 rfl) (fun x14 q16 h15e h15 h15l h15u => ?_)
  try have h15n : x14.toInt = x4.toInt + x11.toInt := by omega
  clear h15 q16
  exact kv_iret C hr hlk (kdec dk_cX10_tapeWord 13 rfl) ⟨_, rfl, hI, hF0, (by rw [e2, e12]; try omega)⟩

set_option maxHeartbeats 4000000 in
set_option maxRecDepth 100000 in
theorem k_x_tapeWord12 (l : Launch) (D : va_G) (τ : Nat → ClassId) (ρ σ : Nat → Nat) (w : kw)  (hI : kI false w)  :
    kM l D τ ρ σ yX10_tapeWord cX10_tapeWord 2 (some .int) { frames := 0, cells := 0, slots := 0, locals := 0 } [.ref (ρ 61), .int 12] w
      (fun o w' => ∃ r : Int32, o = some (.int r) ∧ kI false w' ∧ kF [] w w' ∧ (r.toInt = 256 * (w 63 12).toInt + (w 63 13).toInt)) := by
  refine kM_of (own := "TaleMachineModel") rfl (by decide) (Nat.le_of_ble_eq_true rfl) ?_
  intro p e s m args below meth c C hr hlk
  have hF0 : kF [] w w := kF.rf
  have c_1 : (1 : Int32).toInt = 1 := by decide
  have c_12 : (12 : Int32).toInt = 12 := by decide
  have c_13 : (13 : Int32).toInt = 13 := by decide
  have c_256 : (256 : Int32).toInt = 256 := by decide
  refine kV.L (L' := [(0, .ref (ρ 61)), (1, .int 12)]) rfl ?_
  refine kv_sipush C 3 rfl 256 (kdec dk_cX10_tapeWord 0 rfl) rfl ?_
  refine kv_aload_n C 4 rfl 0 (kdec dk_cX10_tapeWord 1 rfl) rfl rfl ?_
  refine kv_getr C 7 rfl 61 1 rfl rfl inX10 (by decide) mfl_TaleMachineModel_13 rfl rfl (kdec dk_cX10_tapeWord 2 rfl) ?_
  refine kv_iload_n C 8 rfl 1 (kdec dk_cX10_tapeWord 3 rfl) rfl rfl ?_
  obtain ⟨x1, e2⟩ : ∃ z : Int32, w 63 12 = z := ⟨_, rfl⟩
  have b3 : (0 : Int) ≤ x1.toInt ∧ x1.toInt ≤ 255 := by rw [← e2]; exact hI 63 12
  refine kv_iald C 9 rfl 63 rfl (by omega) (by omega) (show w 63 (12 : Int32).toNatClampNeg = x1 from e2) (kdec dk_cX10_tapeWord 4 rfl) ?_
  refine kv_imul C 10 rfl (kdec dk_cX10_tapeWord 5 rfl) (fun x4 h5e h5l h5u => ?_)
  obtain ⟨q6, g7⟩ := kf_mul 256 x1
  rw [← h5e, c_256] at g7
  try have h5n : x4.toInt = 256 * x1.toInt := by omega
  clear g7 q6
  refine kv_aload_n C 11 rfl 0 (kdec dk_cX10_tapeWord 6 rfl) rfl rfl ?_
  refine kv_getr C 14 rfl 61 1 rfl rfl inX10 (by decide) mfl_TaleMachineModel_13 rfl rfl (kdec dk_cX10_tapeWord 7 rfl) ?_
  refine kv_iload_n C 15 rfl 1 (kdec dk_cX10_tapeWord 8 rfl) rfl rfl ?_
  refine kv_iconst C 16 rfl 1 (kdec dk_cX10_tapeWord 9 rfl) rfl ?_
  refine kv_iadd C 17 rfl (kdec dk_cX10_tapeWord 10 rfl) (fun x8 q10 h9e h9 h9l h9u => ?_)
  try have h9n : x8.toInt = (12 : Int32).toInt + (1 : Int32).toInt := by omega
  clear h9 q10
  obtain rfl : x8 = 13 := by rw [h9e]; decide
  obtain ⟨x11, e12⟩ : ∃ z : Int32, w 63 13 = z := ⟨_, rfl⟩
  have b13 : (0 : Int) ≤ x11.toInt ∧ x11.toInt ≤ 255 := by rw [← e12]; exact hI 63 13
  refine kv_iald C 18 rfl 63 rfl (by omega) (by omega) (show w 63 (13 : Int32).toNatClampNeg = x11 from e12) (kdec dk_cX10_tapeWord 11 rfl) ?_
  refine kv_iadd C 19 rfl (kdec dk_cX10_tapeWord 12 rfl) (fun x14 q16 h15e h15 h15l h15u => ?_)
  try have h15n : x14.toInt = x4.toInt + x11.toInt := by omega
  clear h15 q16
  exact kv_iret C hr hlk (kdec dk_cX10_tapeWord 13 rfl) ⟨_, rfl, hI, hF0, (by rw [e2, e12]; try omega)⟩

set_option maxHeartbeats 4000000 in
set_option maxRecDepth 100000 in
theorem k_x_tapeWord24 (l : Launch) (D : va_G) (τ : Nat → ClassId) (ρ σ : Nat → Nat) (w : kw)  (hI : kI false w)  :
    kM l D τ ρ σ yX10_tapeWord cX10_tapeWord 2 (some .int) { frames := 0, cells := 0, slots := 0, locals := 0 } [.ref (ρ 61), .int 24] w
      (fun o w' => ∃ r : Int32, o = some (.int r) ∧ kI false w' ∧ kF [] w w' ∧ (r.toInt = 256 * (w 63 24).toInt + (w 63 25).toInt)) := by
  refine kM_of (own := "TaleMachineModel") rfl (by decide) (Nat.le_of_ble_eq_true rfl) ?_
  intro p e s m args below meth c C hr hlk
  have hF0 : kF [] w w := kF.rf
  have c_1 : (1 : Int32).toInt = 1 := by decide
  have c_24 : (24 : Int32).toInt = 24 := by decide
  have c_25 : (25 : Int32).toInt = 25 := by decide
  have c_256 : (256 : Int32).toInt = 256 := by decide
  refine kV.L (L' := [(0, .ref (ρ 61)), (1, .int 24)]) rfl ?_
  refine kv_sipush C 3 rfl 256 (kdec dk_cX10_tapeWord 0 rfl) rfl ?_
  refine kv_aload_n C 4 rfl 0 (kdec dk_cX10_tapeWord 1 rfl) rfl rfl ?_
  refine kv_getr C 7 rfl 61 1 rfl rfl inX10 (by decide) mfl_TaleMachineModel_13 rfl rfl (kdec dk_cX10_tapeWord 2 rfl) ?_
  refine kv_iload_n C 8 rfl 1 (kdec dk_cX10_tapeWord 3 rfl) rfl rfl ?_
  obtain ⟨x1, e2⟩ : ∃ z : Int32, w 63 24 = z := ⟨_, rfl⟩
  have b3 : (0 : Int) ≤ x1.toInt ∧ x1.toInt ≤ 255 := by rw [← e2]; exact hI 63 24
  refine kv_iald C 9 rfl 63 rfl (by omega) (by omega) (show w 63 (24 : Int32).toNatClampNeg = x1 from e2) (kdec dk_cX10_tapeWord 4 rfl) ?_
  refine kv_imul C 10 rfl (kdec dk_cX10_tapeWord 5 rfl) (fun x4 h5e h5l h5u => ?_)
  obtain ⟨q6, g7⟩ := kf_mul 256 x1
  rw [← h5e, c_256] at g7
  try have h5n : x4.toInt = 256 * x1.toInt := by omega
  clear g7 q6
  refine kv_aload_n C 11 rfl 0 (kdec dk_cX10_tapeWord 6 rfl) rfl rfl ?_
  refine kv_getr C 14 rfl 61 1 rfl rfl inX10 (by decide) mfl_TaleMachineModel_13 rfl rfl (kdec dk_cX10_tapeWord 7 rfl) ?_
  refine kv_iload_n C 15 rfl 1 (kdec dk_cX10_tapeWord 8 rfl) rfl rfl ?_
  refine kv_iconst C 16 rfl 1 (kdec dk_cX10_tapeWord 9 rfl) rfl ?_
  refine kv_iadd C 17 rfl (kdec dk_cX10_tapeWord 10 rfl) (fun x8 q10 h9e h9 h9l h9u => ?_)
  try have h9n : x8.toInt = (24 : Int32).toInt + (1 : Int32).toInt := by omega
  clear h9 q10
  obtain rfl : x8 = 25 := by rw [h9e]; decide
  obtain ⟨x11, e12⟩ : ∃ z : Int32, w 63 25 = z := ⟨_, rfl⟩
  have b13 : (0 : Int) ≤ x11.toInt ∧ x11.toInt ≤ 255 := by rw [← e12]; exact hI 63 25
  refine kv_iald C 18 rfl 63 rfl (by omega) (by omega) (show w 63 (25 : Int32).toNatClampNeg = x11 from e12) (kdec dk_cX10_tapeWord 11 rfl) ?_
  refine kv_iadd C 19 rfl (kdec dk_cX10_tapeWord 12 rfl) (fun x14 q16 h15e h15 h15l h15u => ?_)
  try have h15n : x14.toInt = x4.toInt + x11.toInt := by omega
  clear h15 q16
  exact kv_iret C hr hlk (kdec dk_cX10_tapeWord 13 rfl) ⟨_, rfl, hI, hF0, (by rw [e2, e12]; try omega)⟩

set_option maxHeartbeats 4000000 in
set_option maxRecDepth 100000 in
theorem k_x_faultOf (l : Launch) (D : va_G) (τ : Nat → ClassId) (ρ σ : Nat → Nat) (w : kw) (a1 : Int32) (hI : kI false w) (hp0 : 0 ≤ a1.toInt ∧ a1.toInt ≤ 1024) :
    kM l D τ ρ σ yX10_faultOf cX10_faultOf 5 (some .int) { frames := 1, cells := 0, slots := 0, locals := 36 } [.ref (ρ 61), .int a1] w
      (fun o w' => ∃ r : Int32, o = some (.int r) ∧ kI false w' ∧ kF [] w w' ∧ (0 ≤ r.toInt ∧ r.toInt ≤ 7) ∧ (64 ≤ a1.toInt ∨ r.toInt = 1) ∧ (¬ r.toInt = 0 ∨ 256 * (w 63 14).toInt + (w 63 15).toInt ≤ a1.toInt) ∧ (r.toInt = kFn (w 63) a1.toInt)) := by
  refine kM_of (own := "TaleMachineModel") rfl (by decide) (Nat.le_of_ble_eq_true rfl) ?_
  intro p e s m args below meth c C hr hlk
  have hF0 : kF [] w w := kF.rf
  have c_0 : (0 : Int32).toInt = 0 := by decide
  have c_1 : (1 : Int32).toInt = 1 := by decide
  have c_2 : (2 : Int32).toInt = 2 := by decide
  have c_3 : (3 : Int32).toInt = 3 := by decide
  have c_4 : (4 : Int32).toInt = 4 := by decide
  have c_5 : (5 : Int32).toInt = 5 := by decide
  have c_6 : (6 : Int32).toInt = 6 := by decide
  have c_7 : (7 : Int32).toInt = 7 := by decide
  have c_14 : (14 : Int32).toInt = 14 := by decide
  have c_26 : (26 : Int32).toInt = 26 := by decide
  have c_28 : (28 : Int32).toInt = 28 := by decide
  have c_64 : (64 : Int32).toInt = 64 := by decide
  have c_65535 : (65535 : Int32).toInt = 65535 := by decide
  refine kV.L (L' := [(0, .ref (ρ 61)), (1, .int a1)]) rfl ?_
  have g1 := kf_rng a1
  have cut102 : ∀ (n_102 : Nat) (w_102 : kw) (l1_102 l2_102 l3_102 l4_102 : Int32), kI false w_102 → kF [] w w_102 → (64 ≤ l4_102.toInt ∧ l4_102.toInt ≤ a1.toInt ∧ a1.toInt ≤ 1024) → (64 ≤ l1_102.toInt ∧ l1_102.toInt ≤ 1024 ∧ l1_102.toInt = a1.toInt) → ((w 63 0).toInt = 3 ∧ 64 ≤ (256 * (w 63 14).toInt + (w 63 15).toInt) ∧ (256 * (w 63 14).toInt + (w 63 15).toInt) ≤ a1.toInt ∧ (256 * (w 63 14).toInt + (w 63 15).toInt) ≤ (256 * (w 63 4).toInt + (w 63 5).toInt) ∧ (256 * (w 63 4).toInt + (w 63 5).toInt) ≤ a1.toInt ∧ (256 * (w 63 6).toInt + (w 63 7).toInt) < a1.toInt) → (l2_102.toInt = 2 * (256 * (w 63 26).toInt + (w 63 27).toInt) ∧ (l2_102.toInt = 0 ∨ l2_102.toInt = a1.toInt)) → (0 ≤ l3_102.toInt ∧ l3_102.toInt ≤ 255 * (l4_102.toInt - 64)) → (l3_102.toInt = kS (w 63) (l4_102.toInt - 64).toNat) → ((1025 - l4_102.toInt) : Int) < (n_102 : Int) → kV p l e { frames := 1, cells := 0, slots := 0, locals := 36 } s m args below meth c (kQ below args s D τ ρ (fun o w' => ∃ r : Int32, o = some (.int r) ∧ kI false w' ∧ kF [] w w' ∧ (0 ≤ r.toInt ∧ r.toInt ≤ 7) ∧ (64 ≤ a1.toInt ∨ r.toInt = 1) ∧ (¬ r.toInt = 0 ∨ 256 * (w 63 14).toInt + (w 63 15).toInt ≤ a1.toInt) ∧ (r.toInt = kFn (w 63) a1.toInt))) 5 D τ ρ 102 [(0, .ref (ρ 61)), (1, .int l1_102), (2, .int l2_102), (3, .int l3_102), (4, .int l4_102)] [] w_102 := by
    intro n_102
    induction n_102 with
    | zero => intro w_102 l1_102 l2_102 l3_102 l4_102 I_102 F_102 k102_0 k102_1 k102_2 k102_3 k102_4 R102_Sm hmz; exfalso; omega
    | succ n_102 ih102 =>
      intro w_102 l1_102 l2_102 l3_102 l4_102 I_102 F_102 k102_0 k102_1 k102_2 k102_3 k102_4 R102_Sm hm102
      have gl1_102 := kf_rng l1_102
      have gl2_102 := kf_rng l2_102
      have gl3_102 := kf_rng l3_102
      have gl4_102 := kf_rng l4_102
      obtain ⟨x2, e3⟩ : ∃ z : Int32, w 63 0 = z := ⟨_, rfl⟩
      have b4 : (0 : Int) ≤ x2.toInt ∧ x2.toInt ≤ 255 := by rw [← e3]; exact hI 63 0
      obtain ⟨x5, e6⟩ : ∃ z : Int32, w 63 14 = z := ⟨_, rfl⟩
      have b7 : (0 : Int) ≤ x5.toInt ∧ x5.toInt ≤ 255 := by rw [← e6]; exact hI 63 14
      obtain ⟨x8, e9⟩ : ∃ z : Int32, w 63 15 = z := ⟨_, rfl⟩
      have b10 : (0 : Int) ≤ x8.toInt ∧ x8.toInt ≤ 255 := by rw [← e9]; exact hI 63 15
      obtain ⟨x11, e12⟩ : ∃ z : Int32, w 63 4 = z := ⟨_, rfl⟩
      have b13 : (0 : Int) ≤ x11.toInt ∧ x11.toInt ≤ 255 := by rw [← e12]; exact hI 63 4
      obtain ⟨x14, e15⟩ : ∃ z : Int32, w 63 5 = z := ⟨_, rfl⟩
      have b16 : (0 : Int) ≤ x14.toInt ∧ x14.toInt ≤ 255 := by rw [← e15]; exact hI 63 5
      obtain ⟨x17, e18⟩ : ∃ z : Int32, w 63 6 = z := ⟨_, rfl⟩
      have b19 : (0 : Int) ≤ x17.toInt ∧ x17.toInt ≤ 255 := by rw [← e18]; exact hI 63 6
      obtain ⟨x20, e21⟩ : ∃ z : Int32, w 63 7 = z := ⟨_, rfl⟩
      have b22 : (0 : Int) ≤ x20.toInt ∧ x20.toInt ≤ 255 := by rw [← e21]; exact hI 63 7
      rw [e3, e6, e9, e12, e15, e18, e21] at k102_2
      obtain ⟨x23, e24⟩ : ∃ z : Int32, w 63 26 = z := ⟨_, rfl⟩
      have b25 : (0 : Int) ≤ x23.toInt ∧ x23.toInt ≤ 255 := by rw [← e24]; exact hI 63 26
      obtain ⟨x26, e27⟩ : ∃ z : Int32, w 63 27 = z := ⟨_, rfl⟩
      have b28 : (0 : Int) ≤ x26.toInt ∧ x26.toInt ≤ 255 := by rw [← e27]; exact hI 63 27
      rw [e24, e27] at k102_3
      refine kv_iload C 104 rfl 4 (kdec dk_cX10_faultOf 62 rfl) rfl ?_
      refine kv_iload_n C 105 rfl 1 (kdec dk_cX10_faultOf 63 rfl) rfl rfl ?_
      refine kv_icmp_ge C 108 rfl 124 (kdec dk_cX10_faultOf 64 rfl) (by decide) (fun d29 => ?_) (fun d29 => ?_)
      · skip
        refine kv_iload_n C 125 rfl 2 (kdec dk_cX10_faultOf 74 rfl) rfl rfl ?_
        refine kv_if_eq C 128 rfl 146 (kdec dk_cX10_faultOf 75 rfl) (by decide) (fun d30 => ?_) (fun d30 => ?_)
        · skip
          refine kv_iconst C 147 rfl 0 (kdec dk_cX10_faultOf 85 rfl) rfl ?_
          obtain ⟨x31, e32⟩ : ∃ z : Int32, w 63 28 = z := ⟨_, rfl⟩
          have b33 : (0 : Int) ≤ x31.toInt ∧ x31.toInt ≤ 255 := by rw [← e32]; exact hI 63 28
          obtain ⟨x34, e35⟩ : ∃ z : Int32, w 63 29 = z := ⟨_, rfl⟩
          have b36 : (0 : Int) ≤ x34.toInt ∧ x34.toInt ≤ 255 := by rw [← e35]; exact hI 63 29
          exact kv_iret C hr hlk (kdec dk_cX10_faultOf 86 rfl) ⟨_, rfl, I_102, F_102, (by omega), (by omega), (by rw [e6, e9]; try omega), (by have hs9 : kS (w 63) (a1.toInt - 64).toNat = l3_102.toInt := (by rw [show (a1.toInt - 64).toNat = (l4_102.toInt - 64).toNat by omega]; exact R102_Sm.symm); unfold kFn kWd; rw [e3, e6, e9, e12, e15, e18, e21, e24, e27, e32, e35, hs9]; (repeat' split) <;> omega)⟩
        · skip
          refine kv_iload_n C 129 rfl 3 (kdec dk_cX10_faultOf 76 rfl) rfl rfl ?_
          refine kv_ldc C 131 rfl 65535 (kdec dk_cX10_faultOf 77 rfl) mco_TaleMachineModel_104 ?_
          refine kv_iand C 132 rfl (kdec dk_cX10_faultOf 78 rfl) (fun x37 h38e h38l h38u => ?_)
          have g39 := kf_and65535 h38e
          refine kv_aload_n C 133 rfl 0 (kdec dk_cX10_faultOf 79 rfl) rfl rfl ?_
          refine kv_bipush C 135 rfl 28 (kdec dk_cX10_faultOf 80 rfl) rfl ?_
          refine kv_callVi (As := [.int 28]) (rest := [.int x37]) C 138 rfl 61 (k_x_tapeWord28 l D τ ρ σ w_102  I_102 ) rfl rfl mml_TaleMachineModel_98 mim_yX10_tapeWord mse_yX10_tapeWord mcd_yX10_tapeWord min_yX10_tapeWord hd_yX10_tapeWord rfl rfl rfl (by decide) rfl (Nat.le_of_ble_eq_true rfl) (kdec dk_cX10_faultOf 81 rfl) (fun x44 w40 h41 => ?_)
          obtain ⟨I42, f43, p45⟩ := h41
          have F46 : kF [] w w40 := kF_call F_102 f43 (by decide)
          have g47 := kf_rng x44
          obtain ⟨x48, e49⟩ : ∃ z : Int32, w 63 28 = z := ⟨_, rfl⟩
          have b50 : (0 : Int) ≤ x48.toInt ∧ x48.toInt ≤ 255 := by rw [← e49]; exact hI 63 28
          have e51 : w_102 63 28 = x48 := ((F_102 63 28 rfl : w_102 63 28 = w 63 28).trans e49)
          obtain ⟨x52, e53⟩ : ∃ z : Int32, w 63 29 = z := ⟨_, rfl⟩
          have b54 : (0 : Int) ≤ x52.toInt ∧ x52.toInt ≤ 255 := by rw [← e53]; exact hI 63 29
          have e55 : w_102 63 29 = x52 := ((F_102 63 29 rfl : w_102 63 29 = w 63 29).trans e53)
          rw [e51, e55] at p45
          refine kv_icmp_eq C 141 rfl 146 (kdec dk_cX10_faultOf 82 rfl) (by decide) (fun d56 => ?_) (fun d56 => ?_)
          · skip
            refine kv_iconst C 147 rfl 0 (kdec dk_cX10_faultOf 85 rfl) rfl ?_
            exact kv_iret C hr hlk (kdec dk_cX10_faultOf 86 rfl) ⟨_, rfl, I42, F46, (by omega), (by omega), (by rw [e6, e9]; try omega), (by have hs9 : kS (w 63) (a1.toInt - 64).toNat = l3_102.toInt := (by rw [show (a1.toInt - 64).toNat = (l4_102.toInt - 64).toNat by omega]; exact R102_Sm.symm); unfold kFn kWd; rw [e3, e6, e9, e12, e15, e18, e21, e24, e27, e49, e53, hs9]; (repeat' split) <;> omega)⟩
          · skip
            refine kv_bipush C 143 rfl 7 (kdec dk_cX10_faultOf 83 rfl) rfl ?_
            refine kv_goto C 147 (kdec dk_cX10_faultOf 84 rfl) (by decide) ?_
            exact kv_iret C hr hlk (kdec dk_cX10_faultOf 86 rfl) ⟨_, rfl, I42, F46, (by omega), (by omega), (by rw [e6, e9]; try omega), (by have hs9 : kS (w 63) (a1.toInt - 64).toNat = l3_102.toInt := (by rw [show (a1.toInt - 64).toNat = (l4_102.toInt - 64).toNat by omega]; exact R102_Sm.symm); unfold kFn kWd; rw [e3, e6, e9, e12, e15, e18, e21, e24, e27, e49, e53, hs9]; (repeat' split) <;> omega)⟩
      · skip
        refine kv_iload_n C 109 rfl 3 (kdec dk_cX10_faultOf 65 rfl) rfl rfl ?_
        refine kv_aload_n C 110 rfl 0 (kdec dk_cX10_faultOf 66 rfl) rfl rfl ?_
        refine kv_getr C 113 rfl 61 1 rfl rfl inX10 (by decide) mfl_TaleMachineModel_13 rfl rfl (kdec dk_cX10_faultOf 67 rfl) ?_
        refine kv_iload C 115 rfl 4 (kdec dk_cX10_faultOf 68 rfl) rfl ?_
        obtain ⟨x57, e58⟩ : ∃ z : Int32, w_102 63 (l4_102 : Int32).toNatClampNeg = z := ⟨_, rfl⟩
        have b59 : (0 : Int) ≤ x57.toInt ∧ x57.toInt ≤ 255 := by rw [← e58]; exact I_102 63 _
        refine kv_iald C 116 rfl 63 rfl (by omega) (by omega) e58 (kdec dk_cX10_faultOf 69 rfl) ?_
        refine kv_iadd C 117 rfl (kdec dk_cX10_faultOf 70 rfl) (fun x60 q62 h61e h61 h61l h61u => ?_)
        try have h61n : x60.toInt = l3_102.toInt + x57.toInt := by omega
        clear h61 q62
        refine kv_istore_n C 118 rfl 3 [1, 2, 3, 0, 4] [(0, .ref (ρ 61)), (1, .int l1_102), (2, .int l2_102), (3, .int x60), (4, .int l4_102)] (kdec dk_cX10_faultOf 71 rfl) rfl (by decide) rfl ?_
        refine kv_iinc C 121 rfl 4 4 [1, 2, 3, 4, 0] (fun v9 => [(0, .ref (ρ 61)), (1, .int l1_102), (2, .int l2_102), (3, .int x60), (4, .int v9)]) (kdec dk_cX10_faultOf 72 rfl) rfl (by decide) (fun _ => rfl) 1 rfl (fun x63 q64 h65e h65 h65l h65u => ?_)
        try have h65n : x63.toInt = l4_102.toInt + 1 := by omega
        clear h65 q64
        refine kv_goto C 102 (kdec dk_cX10_faultOf 73 rfl) (by decide) ?_
        exact ih102 w_102 l1_102 l2_102 x60 x63 I_102 F_102 (by omega) (by omega) (by rw [e3, e6, e9, e12, e15, e18, e21]; try omega) (by rw [e24, e27]; try omega) (by omega) (by rw [kS_step (i := l4_102) (j := x63) (by omega) (by omega) ((F_102 63 _ rfl).symm.trans e58)]; omega) (by omega)
  refine kv_iload_n C 1 rfl 1 (kdec dk_cX10_faultOf 0 rfl) rfl rfl ?_
  refine kv_bipush C 3 rfl 64 (kdec dk_cX10_faultOf 1 rfl) rfl ?_
  refine kv_icmp_ge C 6 rfl 8 (kdec dk_cX10_faultOf 2 rfl) (by decide) (fun d66 => ?_) (fun d66 => ?_)
  · skip
    refine kv_aload_n C 9 rfl 0 (kdec dk_cX10_faultOf 5 rfl) rfl rfl ?_
    refine kv_getr C 12 rfl 61 1 rfl rfl inX10 (by decide) mfl_TaleMachineModel_13 rfl rfl (kdec dk_cX10_faultOf 6 rfl) ?_
    refine kv_iconst C 13 rfl 0 (kdec dk_cX10_faultOf 7 rfl) rfl ?_
    obtain ⟨x67, e68⟩ : ∃ z : Int32, w 63 0 = z := ⟨_, rfl⟩
    have b69 : (0 : Int) ≤ x67.toInt ∧ x67.toInt ≤ 255 := by rw [← e68]; exact hI 63 0
    refine kv_iald C 14 rfl 63 rfl (by omega) (by omega) (show w 63 (0 : Int32).toNatClampNeg = x67 from e68) (kdec dk_cX10_faultOf 8 rfl) ?_
    refine kv_iconst C 15 rfl 3 (kdec dk_cX10_faultOf 9 rfl) rfl ?_
    refine kv_icmp_eq C 18 rfl 20 (kdec dk_cX10_faultOf 10 rfl) (by decide) (fun d70 => ?_) (fun d70 => ?_)
    · skip
      refine kv_aload_n C 21 rfl 0 (kdec dk_cX10_faultOf 13 rfl) rfl rfl ?_
      refine kv_bipush C 23 rfl 14 (kdec dk_cX10_faultOf 14 rfl) rfl ?_
      refine kv_callVi (As := [.int 14]) (rest := []) C 26 rfl 61 (k_x_tapeWord14 l D τ ρ σ w  hI ) rfl rfl mml_TaleMachineModel_98 mim_yX10_tapeWord mse_yX10_tapeWord mcd_yX10_tapeWord min_yX10_tapeWord hd_yX10_tapeWord rfl rfl rfl (by decide) rfl (Nat.le_of_ble_eq_true rfl) (kdec dk_cX10_faultOf 15 rfl) (fun x75 w71 h72 => ?_)
      obtain ⟨I73, f74, p76⟩ := h72
      have F77 : kF [] w w71 := kF_call hF0 f74 (by decide)
      have g78 := kf_rng x75
      obtain ⟨x79, e80⟩ : ∃ z : Int32, w 63 14 = z := ⟨_, rfl⟩
      have b81 : (0 : Int) ≤ x79.toInt ∧ x79.toInt ≤ 255 := by rw [← e80]; exact hI 63 14
      obtain ⟨x82, e83⟩ : ∃ z : Int32, w 63 15 = z := ⟨_, rfl⟩
      have b84 : (0 : Int) ≤ x82.toInt ∧ x82.toInt ≤ 255 := by rw [← e83]; exact hI 63 15
      rw [e80, e83] at p76
      refine kv_i2l C 27 rfl (kdec dk_cX10_faultOf 16 rfl) ?_
      have h85 := kf_i2l x75
      refine kv_ldc2 C 30 rfl 64 (kdec dk_cX10_faultOf 17 rfl) mcl_TaleMachineModel_102 ?_
      have h86 : (64 : Int64).toInt = 64 := by decide
      refine kv_iload_n C 31 rfl 1 (kdec dk_cX10_faultOf 18 rfl) rfl rfl ?_
      refine kv_i2l C 32 rfl (kdec dk_cX10_faultOf 19 rfl) ?_
      have h87 := kf_i2l a1
      refine kv_callSi (As := [.long (x75 : Int32).toInt64, .long (64 : Int64), .long (a1 : Int32).toInt64]) (rest := []) C 35 rfl (k_x_in l D τ ρ σ w71 (x75 : Int32).toInt64 (64 : Int64) (a1 : Int32).toInt64 I73 ) mml_TaleMachineModel_94 mst_yX10_in mcd_yX10_in min_yX10_in hd_yX10_in rfl rfl rfl (by decide) rfl (Nat.le_of_ble_eq_true rfl) (kdec dk_cX10_faultOf 20 rfl) (fun x92 w88 h89 => ?_)
      obtain ⟨I90, f91, p93, p94⟩ := h89
      have F95 : kF [] w w88 := kF_call F77 f91 (by decide)
      have g96 := kf_rng x92
      refine kv_if_ne C 38 rfl 40 (kdec dk_cX10_faultOf 21 rfl) (by decide) (fun d97 => ?_) (fun d97 => ?_)
      · skip
        refine kv_aload_n C 41 rfl 0 (kdec dk_cX10_faultOf 24 rfl) rfl rfl ?_
        refine kv_iconst C 42 rfl 4 (kdec dk_cX10_faultOf 25 rfl) rfl ?_
        refine kv_callVi (As := [.int 4]) (rest := []) C 45 rfl 61 (k_x_tapeWord4 l D τ ρ σ w88  I90 ) rfl rfl mml_TaleMachineModel_98 mim_yX10_tapeWord mse_yX10_tapeWord mcd_yX10_tapeWord min_yX10_tapeWord hd_yX10_tapeWord rfl rfl rfl (by decide) rfl (Nat.le_of_ble_eq_true rfl) (kdec dk_cX10_faultOf 26 rfl) (fun x102 w98 h99 => ?_)
        obtain ⟨I100, f101, p103⟩ := h99
        have F104 : kF [] w w98 := kF_call F95 f101 (by decide)
        have g105 := kf_rng x102
        obtain ⟨x106, e107⟩ : ∃ z : Int32, w 63 4 = z := ⟨_, rfl⟩
        have b108 : (0 : Int) ≤ x106.toInt ∧ x106.toInt ≤ 255 := by rw [← e107]; exact hI 63 4
        have e109 : w88 63 4 = x106 := ((f91 63 4 rfl : w88 63 4 = w71 63 4).trans ((f74 63 4 rfl : w71 63 4 = w 63 4).trans e107))
        obtain ⟨x110, e111⟩ : ∃ z : Int32, w 63 5 = z := ⟨_, rfl⟩
        have b112 : (0 : Int) ≤ x110.toInt ∧ x110.toInt ≤ 255 := by rw [← e111]; exact hI 63 5
        have e113 : w88 63 5 = x110 := ((f91 63 5 rfl : w88 63 5 = w71 63 5).trans ((f74 63 5 rfl : w71 63 5 = w 63 5).trans e111))
        rw [e109, e113] at p103
        refine kv_i2l C 46 rfl (kdec dk_cX10_faultOf 27 rfl) ?_
        have h114 := kf_i2l x102
        refine kv_aload_n C 47 rfl 0 (kdec dk_cX10_faultOf 28 rfl) rfl rfl ?_
        refine kv_bipush C 49 rfl 14 (kdec dk_cX10_faultOf 29 rfl) rfl ?_
        refine kv_callVi (As := [.int 14]) (rest := [.long (x102 : Int32).toInt64]) C 52 rfl 61 (k_x_tapeWord14 l D τ ρ σ w98  I100 ) rfl rfl mml_TaleMachineModel_98 mim_yX10_tapeWord mse_yX10_tapeWord mcd_yX10_tapeWord min_yX10_tapeWord hd_yX10_tapeWord rfl rfl rfl (by decide) rfl (Nat.le_of_ble_eq_true rfl) (kdec dk_cX10_faultOf 30 rfl) (fun x119 w115 h116 => ?_)
        obtain ⟨I117, f118, p120⟩ := h116
        have F121 : kF [] w w115 := kF_call F104 f118 (by decide)
        have g122 := kf_rng x119
        have e123 : w98 63 14 = x79 := ((f101 63 14 rfl : w98 63 14 = w88 63 14).trans ((f91 63 14 rfl : w88 63 14 = w71 63 14).trans ((f74 63 14 rfl : w71 63 14 = w 63 14).trans e80)))
        have e124 : w98 63 15 = x82 := ((f101 63 15 rfl : w98 63 15 = w88 63 15).trans ((f91 63 15 rfl : w88 63 15 = w71 63 15).trans ((f74 63 15 rfl : w71 63 15 = w 63 15).trans e83)))
        rw [e123, e124] at p120
        refine kv_i2l C 53 rfl (kdec dk_cX10_faultOf 31 rfl) ?_
        have h125 := kf_i2l x119
        refine kv_iload_n C 54 rfl 1 (kdec dk_cX10_faultOf 32 rfl) rfl rfl ?_
        refine kv_i2l C 55 rfl (kdec dk_cX10_faultOf 33 rfl) ?_
        have h126 := kf_i2l a1
        refine kv_callSi (As := [.long (x102 : Int32).toInt64, .long (x119 : Int32).toInt64, .long (a1 : Int32).toInt64]) (rest := []) C 58 rfl (k_x_in l D τ ρ σ w115 (x102 : Int32).toInt64 (x119 : Int32).toInt64 (a1 : Int32).toInt64 I117 ) mml_TaleMachineModel_94 mst_yX10_in mcd_yX10_in min_yX10_in hd_yX10_in rfl rfl rfl (by decide) rfl (Nat.le_of_ble_eq_true rfl) (kdec dk_cX10_faultOf 34 rfl) (fun x131 w127 h128 => ?_)
        obtain ⟨I129, f130, p132, p133⟩ := h128
        have F134 : kF [] w w127 := kF_call F121 f130 (by decide)
        have g135 := kf_rng x131
        refine kv_if_ne C 61 rfl 63 (kdec dk_cX10_faultOf 35 rfl) (by decide) (fun d136 => ?_) (fun d136 => ?_)
        · skip
          refine kv_aload_n C 64 rfl 0 (kdec dk_cX10_faultOf 38 rfl) rfl rfl ?_
          refine kv_bipush C 66 rfl 6 (kdec dk_cX10_faultOf 39 rfl) rfl ?_
          refine kv_callVi (As := [.int 6]) (rest := []) C 69 rfl 61 (k_x_tapeWord6 l D τ ρ σ w127  I129 ) rfl rfl mml_TaleMachineModel_98 mim_yX10_tapeWord mse_yX10_tapeWord mcd_yX10_tapeWord min_yX10_tapeWord hd_yX10_tapeWord rfl rfl rfl (by decide) rfl (Nat.le_of_ble_eq_true rfl) (kdec dk_cX10_faultOf 40 rfl) (fun x141 w137 h138 => ?_)
          obtain ⟨I139, f140, p142⟩ := h138
          have F143 : kF [] w w137 := kF_call F134 f140 (by decide)
          have g144 := kf_rng x141
          obtain ⟨x145, e146⟩ : ∃ z : Int32, w 63 6 = z := ⟨_, rfl⟩
          have b147 : (0 : Int) ≤ x145.toInt ∧ x145.toInt ≤ 255 := by rw [← e146]; exact hI 63 6
          have e148 : w127 63 6 = x145 := ((f130 63 6 rfl : w127 63 6 = w115 63 6).trans ((f118 63 6 rfl : w115 63 6 = w98 63 6).trans ((f101 63 6 rfl : w98 63 6 = w88 63 6).trans ((f91 63 6 rfl : w88 63 6 = w71 63 6).trans ((f74 63 6 rfl : w71 63 6 = w 63 6).trans e146)))))
          obtain ⟨x149, e150⟩ : ∃ z : Int32, w 63 7 = z := ⟨_, rfl⟩
          have b151 : (0 : Int) ≤ x149.toInt ∧ x149.toInt ≤ 255 := by rw [← e150]; exact hI 63 7
          have e152 : w127 63 7 = x149 := ((f130 63 7 rfl : w127 63 7 = w115 63 7).trans ((f118 63 7 rfl : w115 63 7 = w98 63 7).trans ((f101 63 7 rfl : w98 63 7 = w88 63 7).trans ((f91 63 7 rfl : w88 63 7 = w71 63 7).trans ((f74 63 7 rfl : w71 63 7 = w 63 7).trans e150)))))
          rw [e148, e152] at p142
          refine kv_iload_n C 70 rfl 1 (kdec dk_cX10_faultOf 41 rfl) rfl rfl ?_
          refine kv_icmp_lt C 73 rfl 75 (kdec dk_cX10_faultOf 42 rfl) (by decide) (fun d153 => ?_) (fun d153 => ?_)
          · skip
            refine kv_iconst C 76 rfl 2 (kdec dk_cX10_faultOf 45 rfl) rfl ?_
            refine kv_aload_n C 77 rfl 0 (kdec dk_cX10_faultOf 46 rfl) rfl rfl ?_
            refine kv_bipush C 79 rfl 26 (kdec dk_cX10_faultOf 47 rfl) rfl ?_
            refine kv_callVi (As := [.int 26]) (rest := [.int 2]) C 82 rfl 61 (k_x_tapeWord26 l D τ ρ σ w137  I139 ) rfl rfl mml_TaleMachineModel_98 mim_yX10_tapeWord mse_yX10_tapeWord mcd_yX10_tapeWord min_yX10_tapeWord hd_yX10_tapeWord rfl rfl rfl (by decide) rfl (Nat.le_of_ble_eq_true rfl) (kdec dk_cX10_faultOf 48 rfl) (fun x158 w154 h155 => ?_)
            obtain ⟨I156, f157, p159⟩ := h155
            have F160 : kF [] w w154 := kF_call F143 f157 (by decide)
            have g161 := kf_rng x158
            obtain ⟨x162, e163⟩ : ∃ z : Int32, w 63 26 = z := ⟨_, rfl⟩
            have b164 : (0 : Int) ≤ x162.toInt ∧ x162.toInt ≤ 255 := by rw [← e163]; exact hI 63 26
            have e165 : w137 63 26 = x162 := ((f140 63 26 rfl : w137 63 26 = w127 63 26).trans ((f130 63 26 rfl : w127 63 26 = w115 63 26).trans ((f118 63 26 rfl : w115 63 26 = w98 63 26).trans ((f101 63 26 rfl : w98 63 26 = w88 63 26).trans ((f91 63 26 rfl : w88 63 26 = w71 63 26).trans ((f74 63 26 rfl : w71 63 26 = w 63 26).trans e163))))))
            obtain ⟨x166, e167⟩ : ∃ z : Int32, w 63 27 = z := ⟨_, rfl⟩
            have b168 : (0 : Int) ≤ x166.toInt ∧ x166.toInt ≤ 255 := by rw [← e167]; exact hI 63 27
            have e169 : w137 63 27 = x166 := ((f140 63 27 rfl : w137 63 27 = w127 63 27).trans ((f130 63 27 rfl : w127 63 27 = w115 63 27).trans ((f118 63 27 rfl : w115 63 27 = w98 63 27).trans ((f101 63 27 rfl : w98 63 27 = w88 63 27).trans ((f91 63 27 rfl : w88 63 27 = w71 63 27).trans ((f74 63 27 rfl : w71 63 27 = w 63 27).trans e167))))))
            rw [e165, e169] at p159
            refine kv_imul C 83 rfl (kdec dk_cX10_faultOf 49 rfl) (fun x170 h171e h171l h171u => ?_)
            obtain ⟨q172, g173⟩ := kf_mul 2 x158
            rw [← h171e, c_2] at g173
            try have h171n : x170.toInt = 2 * x158.toInt := by omega
            clear g173 q172
            refine kv_istore_n C 84 rfl 2 [1, 2, 0] [(0, .ref (ρ 61)), (1, .int a1), (2, .int x170)] (kdec dk_cX10_faultOf 50 rfl) rfl (by decide) rfl ?_
            refine kv_iload_n C 85 rfl 2 (kdec dk_cX10_faultOf 51 rfl) rfl rfl ?_
            refine kv_if_eq C 88 rfl 96 (kdec dk_cX10_faultOf 52 rfl) (by decide) (fun d174 => ?_) (fun d174 => ?_)
            · skip
              refine kv_iconst C 97 rfl 0 (kdec dk_cX10_faultOf 58 rfl) rfl ?_
              refine kv_istore_n C 98 rfl 3 [1, 2, 3, 0] [(0, .ref (ρ 61)), (1, .int a1), (2, .int x170), (3, .int 0)] (kdec dk_cX10_faultOf 59 rfl) rfl (by decide) rfl ?_
              refine kv_bipush C 100 rfl 64 (kdec dk_cX10_faultOf 60 rfl) rfl ?_
              refine kv_istore C 102 rfl 4 [1, 2, 3, 4, 0] [(0, .ref (ρ 61)), (1, .int a1), (2, .int x170), (3, .int 0), (4, .int 64)] (kdec dk_cX10_faultOf 61 rfl) (by decide) rfl ?_
              exact cut102 ((((1025 - (64 : Int32).toInt)) : Int).toNat + 1) w154 a1 x170 0 64 I156 F160 (by omega) (by omega) (by rw [e68, e80, e83, e107, e111, e146, e150]; try omega) (by rw [e163, e167]; try omega) (by omega) (by rw [c_0, c_64]; rfl) (by omega)
            · skip
              refine kv_iload_n C 89 rfl 2 (kdec dk_cX10_faultOf 53 rfl) rfl rfl ?_
              refine kv_iload_n C 90 rfl 1 (kdec dk_cX10_faultOf 54 rfl) rfl rfl ?_
              refine kv_icmp_eq C 93 rfl 96 (kdec dk_cX10_faultOf 55 rfl) (by decide) (fun d175 => ?_) (fun d175 => ?_)
              · skip
                refine kv_iconst C 97 rfl 0 (kdec dk_cX10_faultOf 58 rfl) rfl ?_
                refine kv_istore_n C 98 rfl 3 [1, 2, 3, 0] [(0, .ref (ρ 61)), (1, .int a1), (2, .int x170), (3, .int 0)] (kdec dk_cX10_faultOf 59 rfl) rfl (by decide) rfl ?_
                refine kv_bipush C 100 rfl 64 (kdec dk_cX10_faultOf 60 rfl) rfl ?_
                refine kv_istore C 102 rfl 4 [1, 2, 3, 4, 0] [(0, .ref (ρ 61)), (1, .int a1), (2, .int x170), (3, .int 0), (4, .int 64)] (kdec dk_cX10_faultOf 61 rfl) (by decide) rfl ?_
                exact cut102 ((((1025 - (64 : Int32).toInt)) : Int).toNat + 1) w154 a1 x170 0 64 I156 F160 (by omega) (by omega) (by rw [e68, e80, e83, e107, e111, e146, e150]; try omega) (by rw [e163, e167]; try omega) (by omega) (by rw [c_0, c_64]; rfl) (by omega)
              · skip
                refine kv_bipush C 95 rfl 6 (kdec dk_cX10_faultOf 56 rfl) rfl ?_
                obtain ⟨x176, e177⟩ : ∃ z : Int32, w 63 28 = z := ⟨_, rfl⟩
                have b178 : (0 : Int) ≤ x176.toInt ∧ x176.toInt ≤ 255 := by rw [← e177]; exact hI 63 28
                obtain ⟨x179, e180⟩ : ∃ z : Int32, w 63 29 = z := ⟨_, rfl⟩
                have b181 : (0 : Int) ≤ x179.toInt ∧ x179.toInt ≤ 255 := by rw [← e180]; exact hI 63 29
                exact kv_iret C hr hlk (kdec dk_cX10_faultOf 57 rfl) ⟨_, rfl, I156, F160, (by omega), (by omega), (by rw [e80, e83]; try omega), (by unfold kFn kWd; rw [e68, e80, e83, e107, e111, e146, e150, e163, e167, e177, e180]; (repeat' split) <;> omega)⟩
          · skip
            refine kv_iconst C 74 rfl 5 (kdec dk_cX10_faultOf 43 rfl) rfl ?_
            obtain ⟨x182, e183⟩ : ∃ z : Int32, w 63 26 = z := ⟨_, rfl⟩
            have b184 : (0 : Int) ≤ x182.toInt ∧ x182.toInt ≤ 255 := by rw [← e183]; exact hI 63 26
            obtain ⟨x185, e186⟩ : ∃ z : Int32, w 63 27 = z := ⟨_, rfl⟩
            have b187 : (0 : Int) ≤ x185.toInt ∧ x185.toInt ≤ 255 := by rw [← e186]; exact hI 63 27
            obtain ⟨x188, e189⟩ : ∃ z : Int32, w 63 28 = z := ⟨_, rfl⟩
            have b190 : (0 : Int) ≤ x188.toInt ∧ x188.toInt ≤ 255 := by rw [← e189]; exact hI 63 28
            obtain ⟨x191, e192⟩ : ∃ z : Int32, w 63 29 = z := ⟨_, rfl⟩
            have b193 : (0 : Int) ≤ x191.toInt ∧ x191.toInt ≤ 255 := by rw [← e192]; exact hI 63 29
            exact kv_iret C hr hlk (kdec dk_cX10_faultOf 44 rfl) ⟨_, rfl, I139, F143, (by omega), (by omega), (by rw [e80, e83]; try omega), (by unfold kFn kWd; rw [e68, e80, e83, e107, e111, e146, e150, e183, e186, e189, e192]; (repeat' split) <;> omega)⟩
        · skip
          refine kv_iconst C 62 rfl 4 (kdec dk_cX10_faultOf 36 rfl) rfl ?_
          obtain ⟨x194, e195⟩ : ∃ z : Int32, w 63 6 = z := ⟨_, rfl⟩
          have b196 : (0 : Int) ≤ x194.toInt ∧ x194.toInt ≤ 255 := by rw [← e195]; exact hI 63 6
          obtain ⟨x197, e198⟩ : ∃ z : Int32, w 63 7 = z := ⟨_, rfl⟩
          have b199 : (0 : Int) ≤ x197.toInt ∧ x197.toInt ≤ 255 := by rw [← e198]; exact hI 63 7
          obtain ⟨x200, e201⟩ : ∃ z : Int32, w 63 26 = z := ⟨_, rfl⟩
          have b202 : (0 : Int) ≤ x200.toInt ∧ x200.toInt ≤ 255 := by rw [← e201]; exact hI 63 26
          obtain ⟨x203, e204⟩ : ∃ z : Int32, w 63 27 = z := ⟨_, rfl⟩
          have b205 : (0 : Int) ≤ x203.toInt ∧ x203.toInt ≤ 255 := by rw [← e204]; exact hI 63 27
          obtain ⟨x206, e207⟩ : ∃ z : Int32, w 63 28 = z := ⟨_, rfl⟩
          have b208 : (0 : Int) ≤ x206.toInt ∧ x206.toInt ≤ 255 := by rw [← e207]; exact hI 63 28
          obtain ⟨x209, e210⟩ : ∃ z : Int32, w 63 29 = z := ⟨_, rfl⟩
          have b211 : (0 : Int) ≤ x209.toInt ∧ x209.toInt ≤ 255 := by rw [← e210]; exact hI 63 29
          exact kv_iret C hr hlk (kdec dk_cX10_faultOf 37 rfl) ⟨_, rfl, I129, F134, (by omega), (by omega), (by rw [e80, e83]; try omega), (by unfold kFn kWd; rw [e68, e80, e83, e107, e111, e195, e198, e201, e204, e207, e210]; (repeat' split) <;> omega)⟩
      · skip
        refine kv_iconst C 39 rfl 3 (kdec dk_cX10_faultOf 22 rfl) rfl ?_
        obtain ⟨x212, e213⟩ : ∃ z : Int32, w 63 4 = z := ⟨_, rfl⟩
        have b214 : (0 : Int) ≤ x212.toInt ∧ x212.toInt ≤ 255 := by rw [← e213]; exact hI 63 4
        obtain ⟨x215, e216⟩ : ∃ z : Int32, w 63 5 = z := ⟨_, rfl⟩
        have b217 : (0 : Int) ≤ x215.toInt ∧ x215.toInt ≤ 255 := by rw [← e216]; exact hI 63 5
        obtain ⟨x218, e219⟩ : ∃ z : Int32, w 63 6 = z := ⟨_, rfl⟩
        have b220 : (0 : Int) ≤ x218.toInt ∧ x218.toInt ≤ 255 := by rw [← e219]; exact hI 63 6
        obtain ⟨x221, e222⟩ : ∃ z : Int32, w 63 7 = z := ⟨_, rfl⟩
        have b223 : (0 : Int) ≤ x221.toInt ∧ x221.toInt ≤ 255 := by rw [← e222]; exact hI 63 7
        obtain ⟨x224, e225⟩ : ∃ z : Int32, w 63 26 = z := ⟨_, rfl⟩
        have b226 : (0 : Int) ≤ x224.toInt ∧ x224.toInt ≤ 255 := by rw [← e225]; exact hI 63 26
        obtain ⟨x227, e228⟩ : ∃ z : Int32, w 63 27 = z := ⟨_, rfl⟩
        have b229 : (0 : Int) ≤ x227.toInt ∧ x227.toInt ≤ 255 := by rw [← e228]; exact hI 63 27
        obtain ⟨x230, e231⟩ : ∃ z : Int32, w 63 28 = z := ⟨_, rfl⟩
        have b232 : (0 : Int) ≤ x230.toInt ∧ x230.toInt ≤ 255 := by rw [← e231]; exact hI 63 28
        obtain ⟨x233, e234⟩ : ∃ z : Int32, w 63 29 = z := ⟨_, rfl⟩
        have b235 : (0 : Int) ≤ x233.toInt ∧ x233.toInt ≤ 255 := by rw [← e234]; exact hI 63 29
        exact kv_iret C hr hlk (kdec dk_cX10_faultOf 23 rfl) ⟨_, rfl, I90, F95, (by omega), (by omega), (by rw [e80, e83]; try omega), (by unfold kFn kWd; rw [e68, e80, e83, e213, e216, e219, e222, e225, e228, e231, e234]; (repeat' split) <;> omega)⟩
    · skip
      refine kv_iconst C 19 rfl 2 (kdec dk_cX10_faultOf 11 rfl) rfl ?_
      obtain ⟨x236, e237⟩ : ∃ z : Int32, w 63 14 = z := ⟨_, rfl⟩
      have b238 : (0 : Int) ≤ x236.toInt ∧ x236.toInt ≤ 255 := by rw [← e237]; exact hI 63 14
      obtain ⟨x239, e240⟩ : ∃ z : Int32, w 63 15 = z := ⟨_, rfl⟩
      have b241 : (0 : Int) ≤ x239.toInt ∧ x239.toInt ≤ 255 := by rw [← e240]; exact hI 63 15
      obtain ⟨x242, e243⟩ : ∃ z : Int32, w 63 4 = z := ⟨_, rfl⟩
      have b244 : (0 : Int) ≤ x242.toInt ∧ x242.toInt ≤ 255 := by rw [← e243]; exact hI 63 4
      obtain ⟨x245, e246⟩ : ∃ z : Int32, w 63 5 = z := ⟨_, rfl⟩
      have b247 : (0 : Int) ≤ x245.toInt ∧ x245.toInt ≤ 255 := by rw [← e246]; exact hI 63 5
      obtain ⟨x248, e249⟩ : ∃ z : Int32, w 63 6 = z := ⟨_, rfl⟩
      have b250 : (0 : Int) ≤ x248.toInt ∧ x248.toInt ≤ 255 := by rw [← e249]; exact hI 63 6
      obtain ⟨x251, e252⟩ : ∃ z : Int32, w 63 7 = z := ⟨_, rfl⟩
      have b253 : (0 : Int) ≤ x251.toInt ∧ x251.toInt ≤ 255 := by rw [← e252]; exact hI 63 7
      obtain ⟨x254, e255⟩ : ∃ z : Int32, w 63 26 = z := ⟨_, rfl⟩
      have b256 : (0 : Int) ≤ x254.toInt ∧ x254.toInt ≤ 255 := by rw [← e255]; exact hI 63 26
      obtain ⟨x257, e258⟩ : ∃ z : Int32, w 63 27 = z := ⟨_, rfl⟩
      have b259 : (0 : Int) ≤ x257.toInt ∧ x257.toInt ≤ 255 := by rw [← e258]; exact hI 63 27
      obtain ⟨x260, e261⟩ : ∃ z : Int32, w 63 28 = z := ⟨_, rfl⟩
      have b262 : (0 : Int) ≤ x260.toInt ∧ x260.toInt ≤ 255 := by rw [← e261]; exact hI 63 28
      obtain ⟨x263, e264⟩ : ∃ z : Int32, w 63 29 = z := ⟨_, rfl⟩
      have b265 : (0 : Int) ≤ x263.toInt ∧ x263.toInt ≤ 255 := by rw [← e264]; exact hI 63 29
      exact kv_iret C hr hlk (kdec dk_cX10_faultOf 12 rfl) ⟨_, rfl, hI, hF0, (by omega), (by omega), (by rw [e237, e240]; try omega), (by unfold kFn kWd; rw [e68, e237, e240, e243, e246, e249, e252, e255, e258, e261, e264]; (repeat' split) <;> omega)⟩
  · skip
    refine kv_iconst C 7 rfl 1 (kdec dk_cX10_faultOf 3 rfl) rfl ?_
    obtain ⟨x266, e267⟩ : ∃ z : Int32, w 63 14 = z := ⟨_, rfl⟩
    have b268 : (0 : Int) ≤ x266.toInt ∧ x266.toInt ≤ 255 := by rw [← e267]; exact hI 63 14
    obtain ⟨x269, e270⟩ : ∃ z : Int32, w 63 15 = z := ⟨_, rfl⟩
    have b271 : (0 : Int) ≤ x269.toInt ∧ x269.toInt ≤ 255 := by rw [← e270]; exact hI 63 15
    obtain ⟨x272, e273⟩ : ∃ z : Int32, w 63 0 = z := ⟨_, rfl⟩
    have b274 : (0 : Int) ≤ x272.toInt ∧ x272.toInt ≤ 255 := by rw [← e273]; exact hI 63 0
    obtain ⟨x275, e276⟩ : ∃ z : Int32, w 63 4 = z := ⟨_, rfl⟩
    have b277 : (0 : Int) ≤ x275.toInt ∧ x275.toInt ≤ 255 := by rw [← e276]; exact hI 63 4
    obtain ⟨x278, e279⟩ : ∃ z : Int32, w 63 5 = z := ⟨_, rfl⟩
    have b280 : (0 : Int) ≤ x278.toInt ∧ x278.toInt ≤ 255 := by rw [← e279]; exact hI 63 5
    obtain ⟨x281, e282⟩ : ∃ z : Int32, w 63 6 = z := ⟨_, rfl⟩
    have b283 : (0 : Int) ≤ x281.toInt ∧ x281.toInt ≤ 255 := by rw [← e282]; exact hI 63 6
    obtain ⟨x284, e285⟩ : ∃ z : Int32, w 63 7 = z := ⟨_, rfl⟩
    have b286 : (0 : Int) ≤ x284.toInt ∧ x284.toInt ≤ 255 := by rw [← e285]; exact hI 63 7
    obtain ⟨x287, e288⟩ : ∃ z : Int32, w 63 26 = z := ⟨_, rfl⟩
    have b289 : (0 : Int) ≤ x287.toInt ∧ x287.toInt ≤ 255 := by rw [← e288]; exact hI 63 26
    obtain ⟨x290, e291⟩ : ∃ z : Int32, w 63 27 = z := ⟨_, rfl⟩
    have b292 : (0 : Int) ≤ x290.toInt ∧ x290.toInt ≤ 255 := by rw [← e291]; exact hI 63 27
    obtain ⟨x293, e294⟩ : ∃ z : Int32, w 63 28 = z := ⟨_, rfl⟩
    have b295 : (0 : Int) ≤ x293.toInt ∧ x293.toInt ≤ 255 := by rw [← e294]; exact hI 63 28
    obtain ⟨x296, e297⟩ : ∃ z : Int32, w 63 29 = z := ⟨_, rfl⟩
    have b298 : (0 : Int) ≤ x296.toInt ∧ x296.toInt ≤ 255 := by rw [← e297]; exact hI 63 29
    exact kv_iret C hr hlk (kdec dk_cX10_faultOf 4 rfl) ⟨_, rfl, hI, hF0, (by omega), (by omega), (by rw [e267, e270]; try omega), (by unfold kFn kWd; rw [e273, e267, e270, e276, e279, e282, e285, e288, e291, e294, e297]; (repeat' split) <;> omega)⟩
