set_option maxHeartbeats 4000000 in
set_option maxRecDepth 100000 in
theorem k_r_hear (l : Launch) (D : va_G) (τ : Nat → ClassId) (ρ σ : Nat → Nat) (w : kw) (a1 : Int32) (a2 : Int32) (hI : kI true w)  :
    kM l D τ ρ σ yX4_hear cX4_hear 7 none { frames := 0, cells := 0, slots := 0, locals := 0 } [.ref (ρ 17), .int a1, .int a2] w
      (fun o w' => o = none ∧ kI true w' ∧ kF [(17, some 3), (18, none)] w w') := by
  refine kM_of (own := "TaleMachine$Reader") rfl (by decide) (Nat.le_of_ble_eq_true rfl) ?_
  intro p e s m args below meth c C hr hlk
  have hF0 : kF [(17, some 3), (18, none)] w w := kF.rf
  have c_0 : (0 : Int32).toInt = 0 := by decide
  have c_1 : (1 : Int32).toInt = 1 := by decide
  have c_3 : (3 : Int32).toInt = 3 := by decide
  have c_4 : (4 : Int32).toInt = 4 := by decide
  have c_8 : (8 : Int32).toInt = 8 := by decide
  have c_24 : (24 : Int32).toInt = 24 := by decide
  have c_32 : (32 : Int32).toInt = 32 := by decide
  have c_65 : (65 : Int32).toInt = 65 := by decide
  have c_90 : (90 : Int32).toInt = 90 := by decide
  have c_255 : (255 : Int32).toInt = 255 := by decide
  refine kV.L (L' := [(0, .ref (ρ 17)), (1, .int a1), (2, .int a2)]) rfl ?_
  have g1 := kf_rng a1
  have g2 := kf_rng a2
  have cut10 : ∀ (n_10 : Nat) (w_10 : kw) (l1_10 l2_10 l3_10 l4_10 : Int32), kI true w_10 → kF [(17, some 3), (18, none)] w w_10 → (0 ≤ l4_10.toInt ∧ l4_10.toInt ≤ 8) → ((w_10 17 3).toInt ≤ l4_10.toInt) → ((9 - l4_10.toInt) : Int) < (n_10 : Int) → kV p l e { frames := 0, cells := 0, slots := 0, locals := 0 } s m args below meth c (kQ below args s D τ ρ (fun o w' => o = none ∧ kI true w' ∧ kF [(17, some 3), (18, none)] w w')) 7 D τ ρ 10 [(0, .ref (ρ 17)), (1, .int l1_10), (2, .int l2_10), (3, .int l3_10), (4, .int l4_10)] [] w_10 := by
    intro n_10
    induction n_10 with
    | zero => intro w_10 l1_10 l2_10 l3_10 l4_10 I_10 F_10 k10_0 k10_1 hmz; exfalso; omega
    | succ n_10 ih10 =>
      intro w_10 l1_10 l2_10 l3_10 l4_10 I_10 F_10 k10_0 k10_1 hm10
      have gl1_10 := kf_rng l1_10
      have gl2_10 := kf_rng l2_10
      have gl3_10 := kf_rng l3_10
      have gl4_10 := kf_rng l4_10
      obtain ⟨x3, e4⟩ : ∃ z : Int32, w_10 17 3 = z := ⟨_, rfl⟩
      have b5 : (0 : Int) ≤ x3.toInt ∧ x3.toInt ≤ 8 := by rw [← e4]; exact I_10 17 3
      rw [e4] at k10_1
      have cut111 : ∀ (w_111 : kw) (l1_111 l2_111 l3_111 l4_111 : Int32), kI true w_111 → kF [(17, some 3), (18, none)] w w_111 → (l4_111.toInt = l4_10.toInt ∧ 0 ≤ l4_111.toInt ∧ l4_111.toInt < 8) → ((w_111 17 3).toInt ≤ l4_111.toInt + 1) → kV p l e { frames := 0, cells := 0, slots := 0, locals := 0 } s m args below meth c (kQ below args s D τ ρ (fun o w' => o = none ∧ kI true w' ∧ kF [(17, some 3), (18, none)] w w')) 7 D τ ρ 111 [(0, .ref (ρ 17)), (1, .int l1_111), (2, .int l2_111), (3, .int l3_111), (4, .int l4_111)] [] w_111 := by
        intro w_111 l1_111 l2_111 l3_111 l4_111 I_111 F_111 k111_0 k111_1
        have gl1_111 := kf_rng l1_111
        have gl2_111 := kf_rng l2_111
        have gl3_111 := kf_rng l3_111
        have gl4_111 := kf_rng l4_111
        obtain ⟨x6, e7⟩ : ∃ z : Int32, w_111 17 3 = z := ⟨_, rfl⟩
        have b8 : (0 : Int) ≤ x6.toInt ∧ x6.toInt ≤ 8 := by rw [← e7]; exact I_111 17 3
        rw [e7] at k111_1
        refine kv_iinc C 114 rfl 4 4 [1, 2, 3, 4, 0] (fun v9 => [(0, .ref (ρ 17)), (1, .int l1_111), (2, .int l2_111), (3, .int l3_111), (4, .int v9)]) (kdec dk_cX4_hear 61 rfl) rfl (by decide) (fun _ => rfl) 1 rfl (fun x9 q10 h11e h11 h11l h11u => ?_)
        try have h11n : x9.toInt = l4_111.toInt + 1 := by omega
        clear h11 q10
        refine kv_goto C 10 (kdec dk_cX4_hear 62 rfl) (by decide) ?_
        exact ih10 w_111 l1_111 l2_111 l3_111 x9 I_111 F_111 (by omega) (by rw [e7]; try omega) (by omega)
      have cut32 : ∀ (w_32 : kw) (l1_32 l2_32 l3_32 l4_32 s0_32 : Int32), kI true w_32 → kF [(17, some 3), (18, none)] w w_32 → (l4_32.toInt = l4_10.toInt ∧ 0 ≤ l4_32.toInt ∧ l4_32.toInt < 8) → ((w_32 17 3).toInt ≤ l4_32.toInt) → kV p l e { frames := 0, cells := 0, slots := 0, locals := 0 } s m args below meth c (kQ below args s D τ ρ (fun o w' => o = none ∧ kI true w' ∧ kF [(17, some 3), (18, none)] w w')) 7 D τ ρ 32 [(0, .ref (ρ 17)), (1, .int l1_32), (2, .int l2_32), (3, .int l3_32), (4, .int l4_32)] [.int s0_32] w_32 := by
        intro w_32 l1_32 l2_32 l3_32 l4_32 s0_32 I_32 F_32 k32_0 k32_1
        have gl1_32 := kf_rng l1_32
        have gl2_32 := kf_rng l2_32
        have gl3_32 := kf_rng l3_32
        have gl4_32 := kf_rng l4_32
        have gs0_32 := kf_rng s0_32
        obtain ⟨x12, e13⟩ : ∃ z : Int32, w_32 17 3 = z := ⟨_, rfl⟩
        have b14 : (0 : Int) ≤ x12.toInt ∧ x12.toInt ≤ 8 := by rw [← e13]; exact I_32 17 3
        rw [e13] at k32_1
        refine kv_istore C 34 rfl 5 [1, 2, 3, 4, 5, 0] [(0, .ref (ρ 17)), (1, .int l1_32), (2, .int l2_32), (3, .int l3_32), (4, .int l4_32), (5, .int s0_32)] (kdec dk_cX4_hear 18 rfl) (by decide) rfl ?_
        refine kv_iload C 36 rfl 5 (kdec dk_cX4_hear 19 rfl) rfl ?_
        refine kv_bipush C 38 rfl 24 (kdec dk_cX4_hear 20 rfl) rfl ?_
        refine kv_bipush C 40 rfl 8 (kdec dk_cX4_hear 21 rfl) rfl ?_
        refine kv_iload C 42 rfl 4 (kdec dk_cX4_hear 22 rfl) rfl ?_
        refine kv_iconst C 43 rfl 3 (kdec dk_cX4_hear 23 rfl) rfl ?_
        refine kv_iand C 44 rfl (kdec dk_cX4_hear 24 rfl) (fun x15 h16e h16l h16u => ?_)
        have g17 := kf_and3 h16e
        refine kv_imul C 45 rfl (kdec dk_cX4_hear 25 rfl) (fun x18 h19e h19l h19u => ?_)
        obtain ⟨q20, g21⟩ := kf_mul 8 x15
        rw [← h19e, c_8] at g21
        try have h19n : x18.toInt = 8 * x15.toInt := by omega
        clear g21 q20
        refine kv_isub C 46 rfl (kdec dk_cX4_hear 26 rfl) (fun x22 q24 h23e h23 h23l h23u => ?_)
        try have h23n : x22.toInt = (24 : Int32).toInt - x18.toInt := by omega
        clear h23 q24
        refine kv_iushr C 47 rfl (kdec dk_cX4_hear 27 rfl) (fun x25 h26e h26l h26u => ?_)
        refine kv_sipush C 50 rfl 255 (kdec dk_cX4_hear 28 rfl) rfl ?_
        refine kv_iand C 51 rfl (kdec dk_cX4_hear 29 rfl) (fun x27 h28e h28l h28u => ?_)
        have g29 := kf_and255 h28e
        refine kv_istore C 53 rfl 6 [1, 2, 3, 4, 5, 6, 0] [(0, .ref (ρ 17)), (1, .int l1_32), (2, .int l2_32), (3, .int l3_32), (4, .int l4_32), (5, .int s0_32), (6, .int x27)] (kdec dk_cX4_hear 30 rfl) (by decide) rfl ?_
        refine kv_iload C 55 rfl 6 (kdec dk_cX4_hear 31 rfl) rfl ?_
        refine kv_if_ne C 58 rfl 62 (kdec dk_cX4_hear 32 rfl) (by decide) (fun d30 => ?_) (fun d30 => ?_)
        · skip
          refine kv_iconst C 63 rfl 0 (kdec dk_cX4_hear 35 rfl) rfl ?_
          refine kv_istore_n C 64 rfl 3 [1, 2, 3, 0, 4, 5, 6] [(0, .ref (ρ 17)), (1, .int l1_32), (2, .int l2_32), (3, .int 0), (4, .int l4_32), (5, .int s0_32), (6, .int x27)] (kdec dk_cX4_hear 36 rfl) rfl (by decide) rfl ?_
          refine kv_iload_n C 65 rfl 3 (kdec dk_cX4_hear 37 rfl) rfl rfl ?_
          refine kv_if_ne C 68 rfl 111 (kdec dk_cX4_hear 38 rfl) (by decide) (fun d31 => ?_) (fun d31 => ?_)
          · exfalso; omega
          · skip
            refine kv_aload_n C 69 rfl 0 (kdec dk_cX4_hear 39 rfl) rfl rfl ?_
            refine kv_getr C 72 rfl 17 1 rfl rfl inX4 (by decide) mfl_TaleMachine_Reader_15 rfl rfl (kdec dk_cX4_hear 40 rfl) ?_
            refine kv_aload_n C 73 rfl 0 (kdec dk_cX4_hear 41 rfl) rfl rfl ?_
            refine kv_get C 76 rfl 17 3 rfl rfl inX4 (by decide) mfl_TaleMachine_Reader_22 rfl rfl (kdec dk_cX4_hear 42 rfl) e13 ?_
            refine kv_iload C 78 rfl 6 (kdec dk_cX4_hear 43 rfl) rfl ?_
            refine kv_bipush C 80 rfl 65 (kdec dk_cX4_hear 44 rfl) rfl ?_
            refine kv_icmp_lt C 83 rfl 98 (kdec dk_cX4_hear 45 rfl) (by decide) (fun d32 => ?_) (fun d32 => ?_)
            · skip
              refine kv_iload C 100 rfl 6 (kdec dk_cX4_hear 53 rfl) rfl ?_
              refine kv_iast C 101 rfl 18 rfl (by omega) (by omega) (kdec dk_cX4_hear 54 rfl) (fun w33 u34 => ?_)
              have I35 : kI true w33 := kI_put u34 I_32 (kf_rng _).1 (kf_rng _).2
              have F36 : kF [(17, some 3), (18, none)] w w33 := kF_put u34 F_32 rfl
              refine kv_aload_n C 102 rfl 0 (kdec dk_cX4_hear 55 rfl) rfl rfl ?_
              refine kv_dup C 103 rfl (kdec dk_cX4_hear 56 rfl) rfl ?_
              have e37 : w33 17 3 = x12 := ((kup_ne u34 rfl : w33 17 3 = w_32 17 3).trans e13)
              refine kv_get C 106 rfl 17 3 rfl rfl inX4 (by decide) mfl_TaleMachine_Reader_22 rfl rfl (kdec dk_cX4_hear 57 rfl) e37 ?_
              refine kv_iconst C 107 rfl 1 (kdec dk_cX4_hear 58 rfl) rfl ?_
              refine kv_iadd C 108 rfl (kdec dk_cX4_hear 59 rfl) (fun x38 q40 h39e h39 h39l h39u => ?_)
              try have h39n : x38.toInt = x12.toInt + (1 : Int32).toInt := by omega
              clear h39 q40
              refine kv_put C 111 rfl 17 3 rfl rfl inX4 (by decide) mfl_TaleMachine_Reader_22 rfl tyX4 tyX4_ok nmX4 rfl rfl (kdec dk_cX4_hear 60 rfl) rfl rfl (fun w41 u42 => ?_)
              have I43 : kI true w41 := kI_put u42 I35 (show (0 : Int) ≤ (x38 : Int32).toInt by omega) (show (x38 : Int32).toInt ≤ 8 by omega)
              have F44 : kF [(17, some 3), (18, none)] w w41 := kF_put u42 F36 rfl
              refine kV.sub [0, 1, 2, 3, 4] (L' := [(0, .ref (ρ 17)), (1, .int l1_32), (2, .int l2_32), (3, .int 0), (4, .int l4_32)]) rfl ?_
              exact cut111 w41 l1_32 l2_32 0 l4_32 I43 F44 (by omega) (by rw [(kup_eq u42)]; try omega)
            · skip
              refine kv_iload C 85 rfl 6 (kdec dk_cX4_hear 46 rfl) rfl ?_
              refine kv_bipush C 87 rfl 90 (kdec dk_cX4_hear 47 rfl) rfl ?_
              refine kv_icmp_gt C 90 rfl 98 (kdec dk_cX4_hear 48 rfl) (by decide) (fun d45 => ?_) (fun d45 => ?_)
              · skip
                refine kv_iload C 100 rfl 6 (kdec dk_cX4_hear 53 rfl) rfl ?_
                refine kv_iast C 101 rfl 18 rfl (by omega) (by omega) (kdec dk_cX4_hear 54 rfl) (fun w46 u47 => ?_)
                have I48 : kI true w46 := kI_put u47 I_32 (kf_rng _).1 (kf_rng _).2
                have F49 : kF [(17, some 3), (18, none)] w w46 := kF_put u47 F_32 rfl
                refine kv_aload_n C 102 rfl 0 (kdec dk_cX4_hear 55 rfl) rfl rfl ?_
                refine kv_dup C 103 rfl (kdec dk_cX4_hear 56 rfl) rfl ?_
                have e50 : w46 17 3 = x12 := ((kup_ne u47 rfl : w46 17 3 = w_32 17 3).trans e13)
                refine kv_get C 106 rfl 17 3 rfl rfl inX4 (by decide) mfl_TaleMachine_Reader_22 rfl rfl (kdec dk_cX4_hear 57 rfl) e50 ?_
                refine kv_iconst C 107 rfl 1 (kdec dk_cX4_hear 58 rfl) rfl ?_
                refine kv_iadd C 108 rfl (kdec dk_cX4_hear 59 rfl) (fun x51 q53 h52e h52 h52l h52u => ?_)
                try have h52n : x51.toInt = x12.toInt + (1 : Int32).toInt := by omega
                clear h52 q53
                refine kv_put C 111 rfl 17 3 rfl rfl inX4 (by decide) mfl_TaleMachine_Reader_22 rfl tyX4 tyX4_ok nmX4 rfl rfl (kdec dk_cX4_hear 60 rfl) rfl rfl (fun w54 u55 => ?_)
                have I56 : kI true w54 := kI_put u55 I48 (show (0 : Int) ≤ (x51 : Int32).toInt by omega) (show (x51 : Int32).toInt ≤ 8 by omega)
                have F57 : kF [(17, some 3), (18, none)] w w54 := kF_put u55 F49 rfl
                refine kV.sub [0, 1, 2, 3, 4] (L' := [(0, .ref (ρ 17)), (1, .int l1_32), (2, .int l2_32), (3, .int 0), (4, .int l4_32)]) rfl ?_
                exact cut111 w54 l1_32 l2_32 0 l4_32 I56 F57 (by omega) (by rw [(kup_eq u55)]; try omega)
              · skip
                refine kv_iload C 92 rfl 6 (kdec dk_cX4_hear 49 rfl) rfl ?_
                refine kv_bipush C 94 rfl 32 (kdec dk_cX4_hear 50 rfl) rfl ?_
                refine kv_iadd C 95 rfl (kdec dk_cX4_hear 51 rfl) (fun x58 q60 h59e h59 h59l h59u => ?_)
                try have h59n : x58.toInt = x27.toInt + (32 : Int32).toInt := by omega
                clear h59 q60
                refine kv_goto C 100 (kdec dk_cX4_hear 52 rfl) (by decide) ?_
                refine kv_iast C 101 rfl 18 rfl (by omega) (by omega) (kdec dk_cX4_hear 54 rfl) (fun w61 u62 => ?_)
                have I63 : kI true w61 := kI_put u62 I_32 (kf_rng _).1 (kf_rng _).2
                have F64 : kF [(17, some 3), (18, none)] w w61 := kF_put u62 F_32 rfl
                refine kv_aload_n C 102 rfl 0 (kdec dk_cX4_hear 55 rfl) rfl rfl ?_
                refine kv_dup C 103 rfl (kdec dk_cX4_hear 56 rfl) rfl ?_
                have e65 : w61 17 3 = x12 := ((kup_ne u62 rfl : w61 17 3 = w_32 17 3).trans e13)
                refine kv_get C 106 rfl 17 3 rfl rfl inX4 (by decide) mfl_TaleMachine_Reader_22 rfl rfl (kdec dk_cX4_hear 57 rfl) e65 ?_
                refine kv_iconst C 107 rfl 1 (kdec dk_cX4_hear 58 rfl) rfl ?_
                refine kv_iadd C 108 rfl (kdec dk_cX4_hear 59 rfl) (fun x66 q68 h67e h67 h67l h67u => ?_)
                try have h67n : x66.toInt = x12.toInt + (1 : Int32).toInt := by omega
                clear h67 q68
                refine kv_put C 111 rfl 17 3 rfl rfl inX4 (by decide) mfl_TaleMachine_Reader_22 rfl tyX4 tyX4_ok nmX4 rfl rfl (kdec dk_cX4_hear 60 rfl) rfl rfl (fun w69 u70 => ?_)
                have I71 : kI true w69 := kI_put u70 I63 (show (0 : Int) ≤ (x66 : Int32).toInt by omega) (show (x66 : Int32).toInt ≤ 8 by omega)
                have F72 : kF [(17, some 3), (18, none)] w w69 := kF_put u70 F64 rfl
                refine kV.sub [0, 1, 2, 3, 4] (L' := [(0, .ref (ρ 17)), (1, .int l1_32), (2, .int l2_32), (3, .int 0), (4, .int l4_32)]) rfl ?_
                exact cut111 w69 l1_32 l2_32 0 l4_32 I71 F72 (by omega) (by rw [(kup_eq u70)]; try omega)
        · skip
          refine kv_iconst C 59 rfl 1 (kdec dk_cX4_hear 33 rfl) rfl ?_
          refine kv_goto C 63 (kdec dk_cX4_hear 34 rfl) (by decide) ?_
          refine kv_istore_n C 64 rfl 3 [1, 2, 3, 0, 4, 5, 6] [(0, .ref (ρ 17)), (1, .int l1_32), (2, .int l2_32), (3, .int 1), (4, .int l4_32), (5, .int s0_32), (6, .int x27)] (kdec dk_cX4_hear 36 rfl) rfl (by decide) rfl ?_
          refine kv_iload_n C 65 rfl 3 (kdec dk_cX4_hear 37 rfl) rfl rfl ?_
          refine kv_if_ne C 68 rfl 111 (kdec dk_cX4_hear 38 rfl) (by decide) (fun d73 => ?_) (fun d73 => ?_)
          · skip
            refine kV.sub [0, 1, 2, 3, 4] (L' := [(0, .ref (ρ 17)), (1, .int l1_32), (2, .int l2_32), (3, .int 1), (4, .int l4_32)]) rfl ?_
            exact cut111 w_32 l1_32 l2_32 1 l4_32 I_32 F_32 (by omega) (by rw [e13]; try omega)
          · exfalso; omega
      refine kv_iload C 12 rfl 4 (kdec dk_cX4_hear 7 rfl) rfl ?_
      refine kv_bipush C 14 rfl 8 (kdec dk_cX4_hear 8 rfl) rfl ?_
      refine kv_icmp_ge C 17 rfl 117 (kdec dk_cX4_hear 9 rfl) (by decide) (fun d74 => ?_) (fun d74 => ?_)
      · skip
        exact kv_vret C hr hlk (kdec dk_cX4_hear 63 rfl) ⟨rfl, I_10, F_10⟩
      · skip
        refine kv_iload_n C 18 rfl 3 (kdec dk_cX4_hear 10 rfl) rfl rfl ?_
        refine kv_if_ne C 21 rfl 117 (kdec dk_cX4_hear 11 rfl) (by decide) (fun d75 => ?_) (fun d75 => ?_)
        · skip
          exact kv_vret C hr hlk (kdec dk_cX4_hear 63 rfl) ⟨rfl, I_10, F_10⟩
        · skip
          refine kv_iload C 23 rfl 4 (kdec dk_cX4_hear 12 rfl) rfl ?_
          refine kv_iconst C 24 rfl 4 (kdec dk_cX4_hear 13 rfl) rfl ?_
          refine kv_icmp_ge C 27 rfl 31 (kdec dk_cX4_hear 14 rfl) (by decide) (fun d76 => ?_) (fun d76 => ?_)
          · skip
            refine kv_iload_n C 32 rfl 2 (kdec dk_cX4_hear 17 rfl) rfl rfl ?_
            exact cut32 w_10 l1_10 l2_10 l3_10 l4_10 l2_10 I_10 F_10 (by omega) (by rw [e4]; try omega)
          · skip
            refine kv_iload_n C 28 rfl 1 (kdec dk_cX4_hear 15 rfl) rfl rfl ?_
            refine kv_goto C 32 (kdec dk_cX4_hear 16 rfl) (by decide) ?_
            exact cut32 w_10 l1_10 l2_10 l3_10 l4_10 l1_10 I_10 F_10 (by omega) (by rw [e4]; try omega)
  refine kv_aload_n C 1 rfl 0 (kdec dk_cX4_hear 0 rfl) rfl rfl ?_
  refine kv_iconst C 2 rfl 0 (kdec dk_cX4_hear 1 rfl) rfl ?_
  refine kv_put C 5 rfl 17 3 rfl rfl inX4 (by decide) mfl_TaleMachine_Reader_22 rfl tyX4 tyX4_ok nmX4 rfl rfl (kdec dk_cX4_hear 2 rfl) rfl rfl (fun w77 u78 => ?_)
  have I79 : kI true w77 := kI_put u78 hI (show (0 : Int) ≤ (0 : Int32).toInt by omega) (show (0 : Int32).toInt ≤ 8 by omega)
  have F80 : kF [(17, some 3), (18, none)] w w77 := kF_put u78 hF0 rfl
  refine kv_iconst C 6 rfl 0 (kdec dk_cX4_hear 3 rfl) rfl ?_
  refine kv_istore_n C 7 rfl 3 [1, 2, 3, 0] [(0, .ref (ρ 17)), (1, .int a1), (2, .int a2), (3, .int 0)] (kdec dk_cX4_hear 4 rfl) rfl (by decide) rfl ?_
  refine kv_iconst C 8 rfl 0 (kdec dk_cX4_hear 5 rfl) rfl ?_
  refine kv_istore C 10 rfl 4 [1, 2, 3, 4, 0] [(0, .ref (ρ 17)), (1, .int a1), (2, .int a2), (3, .int 0), (4, .int 0)] (kdec dk_cX4_hear 6 rfl) (by decide) rfl ?_
  exact cut10 ((((9 - (0 : Int32).toInt)) : Int).toNat + 1) w77 a1 a2 0 0 I79 F80 (by omega) (by rw [(kup_eq u78)]; try omega) (by omega)

set_option maxHeartbeats 4000000 in
set_option maxRecDepth 100000 in
theorem k_r_layLine (l : Launch) (D : va_G) (τ : Nat → ClassId) (ρ σ : Nat → Nat) (w : kw) (a1 : Int32) (hI : kI true w)  :
    kM l D τ ρ σ yX4_layLine cX4_layLine 3 none { frames := 2, cells := 0, slots := 0, locals := 72 } [.ref (ρ 17), .int a1] w
      (fun o w' => o = none ∧ kI true w' ∧ kF [(2, some 9), (3, none), (17, some 3)] w w') := by
  refine kM_of (own := "TaleMachine$Reader") rfl (by decide) (Nat.le_of_ble_eq_true rfl) ?_
  intro p e s m args below meth c C hr hlk
  have hF0 : kF [(2, some 9), (3, none), (17, some 3)] w w := kF.rf
  have c_0 : (0 : Int32).toInt = 0 := by decide
  have c_1 : (1 : Int32).toInt = 1 := by decide
  refine kV.L (L' := [(0, .ref (ρ 17)), (1, .int a1)]) rfl ?_
  have g1 := kf_rng a1
  have cut21 : ∀ (n_21 : Nat) (w_21 : kw) (l1_21 l2_21 : Int32), kI true w_21 → kF [(2, some 9), (3, none), (17, some 3)] w w_21 → (0 ≤ l2_21.toInt ∧ l2_21.toInt ≤ 8) → ((9 - l2_21.toInt) : Int) < (n_21 : Int) → kV p l e { frames := 2, cells := 0, slots := 0, locals := 72 } s m args below meth c (kQ below args s D τ ρ (fun o w' => o = none ∧ kI true w' ∧ kF [(2, some 9), (3, none), (17, some 3)] w w')) 3 D τ ρ 21 [(0, .ref (ρ 17)), (1, .int l1_21), (2, .int l2_21)] [] w_21 := by
    intro n_21
    induction n_21 with
    | zero => intro w_21 l1_21 l2_21 I_21 F_21 k21_0 hmz; exfalso; omega
    | succ n_21 ih21 =>
      intro w_21 l1_21 l2_21 I_21 F_21 k21_0 hm21
      have gl1_21 := kf_rng l1_21
      have gl2_21 := kf_rng l2_21
      refine kv_iload_n C 22 rfl 2 (kdec dk_cX4_layLine 11 rfl) rfl rfl ?_
      refine kv_aload_n C 23 rfl 0 (kdec dk_cX4_layLine 12 rfl) rfl rfl ?_
      obtain ⟨x2, e3⟩ : ∃ z : Int32, w_21 17 3 = z := ⟨_, rfl⟩
      have b4 : (0 : Int) ≤ x2.toInt ∧ x2.toInt ≤ 8 := by rw [← e3]; exact I_21 17 3
      refine kv_get C 26 rfl 17 3 rfl rfl inX4 (by decide) mfl_TaleMachine_Reader_22 rfl rfl (kdec dk_cX4_layLine 13 rfl) e3 ?_
      refine kv_icmp_ge C 29 rfl 53 (kdec dk_cX4_layLine 14 rfl) (by decide) (fun d5 => ?_) (fun d5 => ?_)
      · skip
        refine kv_aload_n C 54 rfl 0 (kdec dk_cX4_layLine 29 rfl) rfl rfl ?_
        refine kv_getr C 57 rfl 17 0 rfl rfl inX4 (by decide) mfl_TaleMachine_Reader_9 rfl rfl (kdec dk_cX4_layLine 30 rfl) ?_
        refine kv_iload_n C 58 rfl 1 (kdec dk_cX4_layLine 31 rfl) rfl rfl ?_
        refine kv_iconst C 59 rfl 1 (kdec dk_cX4_layLine 32 rfl) rfl ?_
        refine kv_iadd C 60 rfl (kdec dk_cX4_layLine 33 rfl) (fun x6 q8 h7e h7 h7l h7u => ?_)
        try have h7n : x6.toInt = l1_21.toInt + (1 : Int32).toInt := by omega
        clear h7 q8
        refine kv_aload_n C 61 rfl 0 (kdec dk_cX4_layLine 34 rfl) rfl rfl ?_
        refine kv_get C 64 rfl 17 3 rfl rfl inX4 (by decide) mfl_TaleMachine_Reader_22 rfl rfl (kdec dk_cX4_layLine 35 rfl) e3 ?_
        refine kv_iadd C 65 rfl (kdec dk_cX4_layLine 36 rfl) (fun x9 q11 h10e h10 h10l h10u => ?_)
        try have h10n : x9.toInt = x6.toInt + x2.toInt := by omega
        clear h10 q11
        refine kv_iconst C 66 rfl 0 (kdec dk_cX4_layLine 37 rfl) rfl ?_
        refine kv_callVNv (As := [.int x9, .int 0]) (rest := []) C 69 rfl 2 (k_putByte l D τ ρ σ w_21 x9 0 I_21 ) rfl rfl mmn_TaleMachine_Reader_53 mim_yX6_putByte mse_yX6_putByte mcd_yX6_putByte min_yX6_putByte hd_yX6_putByte rfl rfl rfl (by decide) rfl (Nat.le_of_ble_eq_true rfl) (kdec dk_cX4_layLine 38 rfl) (fun w12 h13 => ?_)
        obtain ⟨I14, f15, p17⟩ := h13
        have F18 : kF [(2, some 9), (3, none), (17, some 3)] w w12 := kF_call F_21 f15 (by decide)
        obtain ⟨x19, e20⟩ : ∃ z : Int32, w_21 2 9 = z := ⟨_, rfl⟩
        have b21 : (0 : Int) ≤ x19.toInt ∧ x19.toInt ≤ 13 := by rw [← e20]; exact I_21 2 9
        obtain ⟨x22, e23⟩ : ∃ z : Int32, w12 2 9 = z := ⟨_, rfl⟩
        have b24 : (0 : Int) ≤ x22.toInt ∧ x22.toInt ≤ 13 := by rw [← e23]; exact I14 2 9
        rw [e20, e23] at p17
        exact kv_vret C hr hlk (kdec dk_cX4_layLine 39 rfl) ⟨rfl, I14, F18⟩
      · skip
        refine kv_aload_n C 30 rfl 0 (kdec dk_cX4_layLine 15 rfl) rfl rfl ?_
        refine kv_getr C 33 rfl 17 0 rfl rfl inX4 (by decide) mfl_TaleMachine_Reader_9 rfl rfl (kdec dk_cX4_layLine 16 rfl) ?_
        refine kv_iload_n C 34 rfl 1 (kdec dk_cX4_layLine 17 rfl) rfl rfl ?_
        refine kv_iconst C 35 rfl 1 (kdec dk_cX4_layLine 18 rfl) rfl ?_
        refine kv_iadd C 36 rfl (kdec dk_cX4_layLine 19 rfl) (fun x25 q27 h26e h26 h26l h26u => ?_)
        try have h26n : x25.toInt = l1_21.toInt + (1 : Int32).toInt := by omega
        clear h26 q27
        refine kv_iload_n C 37 rfl 2 (kdec dk_cX4_layLine 20 rfl) rfl rfl ?_
        refine kv_iadd C 38 rfl (kdec dk_cX4_layLine 21 rfl) (fun x28 q30 h29e h29 h29l h29u => ?_)
        try have h29n : x28.toInt = x25.toInt + l2_21.toInt := by omega
        clear h29 q30
        refine kv_aload_n C 39 rfl 0 (kdec dk_cX4_layLine 22 rfl) rfl rfl ?_
        refine kv_getr C 42 rfl 17 1 rfl rfl inX4 (by decide) mfl_TaleMachine_Reader_15 rfl rfl (kdec dk_cX4_layLine 23 rfl) ?_
        refine kv_iload_n C 43 rfl 2 (kdec dk_cX4_layLine 24 rfl) rfl rfl ?_
        obtain ⟨x31, e32⟩ : ∃ z : Int32, w_21 18 (l2_21 : Int32).toNatClampNeg = z := ⟨_, rfl⟩
        have b33 : (-2147483648 : Int) ≤ x31.toInt ∧ x31.toInt ≤ 2147483647 := by rw [← e32]; exact I_21 18 _
        refine kv_iald C 44 rfl 18 rfl (by omega) (by omega) e32 (kdec dk_cX4_layLine 25 rfl) ?_
        refine kv_callVNv (As := [.int x28, .int x31]) (rest := []) C 47 rfl 2 (k_putByte l D τ ρ σ w_21 x28 x31 I_21 ) rfl rfl mmn_TaleMachine_Reader_53 mim_yX6_putByte mse_yX6_putByte mcd_yX6_putByte min_yX6_putByte hd_yX6_putByte rfl rfl rfl (by decide) rfl (Nat.le_of_ble_eq_true rfl) (kdec dk_cX4_layLine 26 rfl) (fun w34 h35 => ?_)
        obtain ⟨I36, f37, p39⟩ := h35
        have F40 : kF [(2, some 9), (3, none), (17, some 3)] w w34 := kF_call F_21 f37 (by decide)
        obtain ⟨x41, e42⟩ : ∃ z : Int32, w_21 2 9 = z := ⟨_, rfl⟩
        have b43 : (0 : Int) ≤ x41.toInt ∧ x41.toInt ≤ 13 := by rw [← e42]; exact I_21 2 9
        obtain ⟨x44, e45⟩ : ∃ z : Int32, w34 2 9 = z := ⟨_, rfl⟩
        have b46 : (0 : Int) ≤ x44.toInt ∧ x44.toInt ≤ 13 := by rw [← e45]; exact I36 2 9
        rw [e42, e45] at p39
        refine kv_iinc C 50 rfl 2 2 [1, 2, 0] (fun v9 => [(0, .ref (ρ 17)), (1, .int l1_21), (2, .int v9)]) (kdec dk_cX4_layLine 27 rfl) rfl (by decide) (fun _ => rfl) 1 rfl (fun x47 q48 h49e h49 h49l h49u => ?_)
        try have h49n : x47.toInt = l2_21.toInt + 1 := by omega
        clear h49 q48
        refine kv_goto C 21 (kdec dk_cX4_layLine 28 rfl) (by decide) ?_
        exact ih21 w34 l1_21 x47 I36 F40 (by omega) (by omega)
  refine kv_aload_n C 1 rfl 0 (kdec dk_cX4_layLine 0 rfl) rfl rfl ?_
  refine kv_aload_n C 2 rfl 0 (kdec dk_cX4_layLine 1 rfl) rfl rfl ?_
  obtain ⟨x50, e51⟩ : ∃ z : Int32, w 17 3 = z := ⟨_, rfl⟩
  have b52 : (0 : Int) ≤ x50.toInt ∧ x50.toInt ≤ 8 := by rw [← e51]; exact hI 17 3
  refine kv_get C 5 rfl 17 3 rfl rfl inX4 (by decide) mfl_TaleMachine_Reader_22 rfl rfl (kdec dk_cX4_layLine 2 rfl) e51 ?_
  refine kv_aload_n C 6 rfl 0 (kdec dk_cX4_layLine 3 rfl) rfl rfl ?_
  refine kv_getr C 9 rfl 17 0 rfl rfl inX4 (by decide) mfl_TaleMachine_Reader_9 rfl rfl (kdec dk_cX4_layLine 4 rfl) ?_
  refine kv_iload_n C 10 rfl 1 (kdec dk_cX4_layLine 5 rfl) rfl rfl ?_
  refine kv_callVNi (As := [.int a1]) (rest := [.int x50, .ref (ρ 17)]) C 13 rfl 2 (k_byteAt l D τ ρ σ w a1 hI ) rfl rfl mmn_TaleMachine_Reader_33 mim_yX6_byteAt mse_yX6_byteAt mcd_yX6_byteAt min_yX6_byteAt hd_yX6_byteAt rfl rfl rfl (by decide) rfl (Nat.le_of_ble_eq_true rfl) (kdec dk_cX4_layLine 6 rfl) (fun x57 w53 h54 => ?_)
  obtain ⟨I55, f56, p58, p59⟩ := h54
  have F60 : kF [(2, some 9), (3, none), (17, some 3)] w w53 := kF_call hF0 f56 (by decide)
  have g61 := kf_rng x57
  obtain ⟨x62, e63⟩ : ∃ z : Int32, w 2 9 = z := ⟨_, rfl⟩
  have b64 : (0 : Int) ≤ x62.toInt ∧ x62.toInt ≤ 13 := by rw [← e63]; exact hI 2 9
  obtain ⟨x65, e66⟩ : ∃ z : Int32, w53 2 9 = z := ⟨_, rfl⟩
  have b67 : (0 : Int) ≤ x65.toInt ∧ x65.toInt ≤ 13 := by rw [← e66]; exact I55 2 9
  rw [e63, e66] at p59
  refine kv_min C 16 rfl mml_TaleMachine_Reader_56 jm_min_s jm_init jm_min_c (by decide) (Nat.le_of_ble_eq_true rfl) (kdec dk_cX4_layLine 7 rfl) (fun x68 h69 => ?_)
  have g70 := kf_rng x68
  refine kv_put C 19 rfl 17 3 rfl rfl inX4 (by decide) mfl_TaleMachine_Reader_22 rfl tyX4 tyX4_ok nmX4 rfl rfl (kdec dk_cX4_layLine 8 rfl) rfl rfl (fun w71 u72 => ?_)
  have I73 : kI true w71 := kI_put u72 I55 (show (0 : Int) ≤ (x68 : Int32).toInt by omega) (show (x68 : Int32).toInt ≤ 8 by omega)
  have F74 : kF [(2, some 9), (3, none), (17, some 3)] w w71 := kF_put u72 F60 rfl
  refine kv_iconst C 20 rfl 0 (kdec dk_cX4_layLine 9 rfl) rfl ?_
  refine kv_istore_n C 21 rfl 2 [1, 2, 0] [(0, .ref (ρ 17)), (1, .int a1), (2, .int 0)] (kdec dk_cX4_layLine 10 rfl) rfl (by decide) rfl ?_
  exact cut21 ((((9 - (0 : Int32).toInt)) : Int).toNat + 1) w71 a1 0 I73 F74 (by omega) (by omega)

set_option maxHeartbeats 4000000 in
set_option maxRecDepth 100000 in
theorem k_r_isSeparator (l : Launch) (D : va_G) (τ : Nat → ClassId) (ρ σ : Nat → Nat) (w : kw) (a1 : Int32) (hI : kI true w)  :
    kM l D τ ρ σ yX4_isSeparator cX4_isSeparator 4 (some .boolean) { frames := 2, cells := 0, slots := 0, locals := 72 } [.ref (ρ 17), .int a1] w
      (fun o w' => ∃ r : Int32, o = some (.int r) ∧ kI true w' ∧ kF [(2, some 9)] w w' ∧ (0 ≤ r.toInt ∧ r.toInt ≤ 1)) := by
  refine kM_of (own := "TaleMachine$Reader") rfl (by decide) (Nat.le_of_ble_eq_true rfl) ?_
  intro p e s m args below meth c C hr hlk
  have hF0 : kF [(2, some 9)] w w := kF.rf
  have c_0 : (0 : Int32).toInt = 0 := by decide
  have c_1 : (1 : Int32).toInt = 1 := by decide
  refine kV.L (L' := [(0, .ref (ρ 17)), (1, .int a1)]) rfl ?_
  have g1 := kf_rng a1
  have cut17 : ∀ (n_17 : Nat) (w_17 : kw) (l1_17 l2_17 l3_17 : Int32), kI true w_17 → kF [(2, some 9)] w w_17 → (0 ≤ l2_17.toInt ∧ l2_17.toInt ≤ 255) → (1 ≤ l3_17.toInt ∧ l3_17.toInt ≤ 256) → ((257 - l3_17.toInt) : Int) < (n_17 : Int) → kV p l e { frames := 2, cells := 0, slots := 0, locals := 72 } s m args below meth c (kQ below args s D τ ρ (fun o w' => ∃ r : Int32, o = some (.int r) ∧ kI true w' ∧ kF [(2, some 9)] w w' ∧ (0 ≤ r.toInt ∧ r.toInt ≤ 1))) 4 D τ ρ 17 [(0, .ref (ρ 17)), (1, .int l1_17), (2, .int l2_17), (3, .int l3_17)] [] w_17 := by
    intro n_17
    induction n_17 with
    | zero => intro w_17 l1_17 l2_17 l3_17 I_17 F_17 k17_0 k17_1 hmz; exfalso; omega
    | succ n_17 ih17 =>
      intro w_17 l1_17 l2_17 l3_17 I_17 F_17 k17_0 k17_1 hm17
      have gl1_17 := kf_rng l1_17
      have gl2_17 := kf_rng l2_17
      have gl3_17 := kf_rng l3_17
      have cut54 : ∀ (w_54 : kw) (l1_54 l2_54 l3_54 : Int32), kI true w_54 → kF [(2, some 9)] w w_54 → (0 ≤ l2_54.toInt ∧ l2_54.toInt ≤ 255) → (1 ≤ l3_54.toInt ∧ l3_54.toInt ≤ 255 ∧ l3_54.toInt = l3_17.toInt) → kV p l e { frames := 2, cells := 0, slots := 0, locals := 72 } s m args below meth c (kQ below args s D τ ρ (fun o w' => ∃ r : Int32, o = some (.int r) ∧ kI true w' ∧ kF [(2, some 9)] w w' ∧ (0 ≤ r.toInt ∧ r.toInt ≤ 1))) 4 D τ ρ 54 [(0, .ref (ρ 17)), (1, .int l1_54), (2, .int l2_54), (3, .int l3_54)] [] w_54 := by
        intro w_54 l1_54 l2_54 l3_54 I_54 F_54 k54_0 k54_1
        have gl1_54 := kf_rng l1_54
        have gl2_54 := kf_rng l2_54
        have gl3_54 := kf_rng l3_54
        refine kv_iinc C 57 rfl 3 3 [1, 2, 3, 0] (fun v9 => [(0, .ref (ρ 17)), (1, .int l1_54), (2, .int l2_54), (3, .int v9)]) (kdec dk_cX4_isSeparator 28 rfl) rfl (by decide) (fun _ => rfl) 1 rfl (fun x2 q3 h4e h4 h4l h4u => ?_)
        try have h4n : x2.toInt = l3_54.toInt + 1 := by omega
        clear h4 q3
        refine kv_goto C 17 (kdec dk_cX4_isSeparator 29 rfl) (by decide) ?_
        exact ih17 w_54 l1_54 l2_54 x2 I_54 F_54 (by omega) (by omega) (by omega)
      refine kv_iload_n C 18 rfl 3 (kdec dk_cX4_isSeparator 9 rfl) rfl rfl ?_
      refine kv_iload_n C 19 rfl 2 (kdec dk_cX4_isSeparator 10 rfl) rfl rfl ?_
      refine kv_icmp_gt C 22 rfl 60 (kdec dk_cX4_isSeparator 11 rfl) (by decide) (fun d5 => ?_) (fun d5 => ?_)
      · skip
        refine kv_iconst C 61 rfl 0 (kdec dk_cX4_isSeparator 30 rfl) rfl ?_
        exact kv_zret C hr hlk (kdec dk_cX4_isSeparator 31 rfl) (kf_bool (by decide)) ⟨_, rfl, I_17, F_17, (by omega)⟩
      · skip
        refine kv_aload_n C 23 rfl 0 (kdec dk_cX4_isSeparator 12 rfl) rfl rfl ?_
        refine kv_getr C 26 rfl 17 0 rfl rfl inX4 (by decide) mfl_TaleMachine_Reader_9 rfl rfl (kdec dk_cX4_isSeparator 13 rfl) ?_
        refine kv_aload_n C 27 rfl 0 (kdec dk_cX4_isSeparator 14 rfl) rfl rfl ?_
        refine kv_getr C 30 rfl 17 0 rfl rfl inX4 (by decide) mfl_TaleMachine_Reader_9 rfl rfl (kdec dk_cX4_isSeparator 15 rfl) ?_
        obtain ⟨x6, e7⟩ : ∃ z : Int32, w 2 5 = z := ⟨_, rfl⟩
        have b8 : (0 : Int) ≤ x6.toInt ∧ x6.toInt ≤ 65535 := by rw [← e7]; exact hI 2 5
        have e9 : w_17 2 5 = x6 := ((F_17 2 5 rfl : w_17 2 5 = w 2 5).trans e7)
        refine kv_getN C 33 rfl 2 5 rfl rfl inX6 (by decide) mfn_TaleMachine_Reader_62 rfl rfl (kdec dk_cX4_isSeparator 16 rfl) e9 ?_
        refine kv_iload_n C 34 rfl 3 (kdec dk_cX4_isSeparator 17 rfl) rfl rfl ?_
        refine kv_iadd C 35 rfl (kdec dk_cX4_isSeparator 18 rfl) (fun x10 q12 h11e h11 h11l h11u => ?_)
        try have h11n : x10.toInt = x6.toInt + l3_17.toInt := by omega
        clear h11 q12
        refine kv_callVNi (As := [.int x10]) (rest := []) C 38 rfl 2 (k_byteAt l D τ ρ σ w_17 x10 I_17 ) rfl rfl mmn_TaleMachine_Reader_33 mim_yX6_byteAt mse_yX6_byteAt mcd_yX6_byteAt min_yX6_byteAt hd_yX6_byteAt rfl rfl rfl (by decide) rfl (Nat.le_of_ble_eq_true rfl) (kdec dk_cX4_isSeparator 19 rfl) (fun x17 w13 h14 => ?_)
        obtain ⟨I15, f16, p18, p19⟩ := h14
        have F20 : kF [(2, some 9)] w w13 := kF_call F_17 f16 (by decide)
        have g21 := kf_rng x17
        obtain ⟨x22, e23⟩ : ∃ z : Int32, w_17 2 9 = z := ⟨_, rfl⟩
        have b24 : (0 : Int) ≤ x22.toInt ∧ x22.toInt ≤ 13 := by rw [← e23]; exact I_17 2 9
        obtain ⟨x25, e26⟩ : ∃ z : Int32, w13 2 9 = z := ⟨_, rfl⟩
        have b27 : (0 : Int) ≤ x25.toInt ∧ x25.toInt ≤ 13 := by rw [← e26]; exact I15 2 9
        rw [e23, e26] at p19
        refine kv_iload_n C 39 rfl 1 (kdec dk_cX4_isSeparator 20 rfl) rfl rfl ?_
        refine kv_icmp_ne C 42 rfl 54 (kdec dk_cX4_isSeparator 21 rfl) (by decide) (fun d28 => ?_) (fun d28 => ?_)
        · skip
          exact cut54 w13 l1_17 l2_17 l3_17 I15 F20 (by omega) (by omega)
        · skip
          refine kv_aload_n C 43 rfl 0 (kdec dk_cX4_isSeparator 22 rfl) rfl rfl ?_
          refine kv_getr C 46 rfl 17 0 rfl rfl inX4 (by decide) mfl_TaleMachine_Reader_9 rfl rfl (kdec dk_cX4_isSeparator 23 rfl) ?_
          refine kv_getN C 49 rfl 2 9 rfl rfl inX6 (by decide) mfn_TaleMachine_Reader_65 rfl rfl (kdec dk_cX4_isSeparator 24 rfl) e26 ?_
          refine kv_if_ne C 52 rfl 54 (kdec dk_cX4_isSeparator 25 rfl) (by decide) (fun d29 => ?_) (fun d29 => ?_)
          · skip
            exact cut54 w13 l1_17 l2_17 l3_17 I15 F20 (by omega) (by omega)
          · skip
            refine kv_iconst C 53 rfl 1 (kdec dk_cX4_isSeparator 26 rfl) rfl ?_
            exact kv_zret C hr hlk (kdec dk_cX4_isSeparator 27 rfl) (kf_bool (by decide)) ⟨_, rfl, I15, F20, (by omega)⟩
  refine kv_aload_n C 1 rfl 0 (kdec dk_cX4_isSeparator 0 rfl) rfl rfl ?_
  refine kv_getr C 4 rfl 17 0 rfl rfl inX4 (by decide) mfl_TaleMachine_Reader_9 rfl rfl (kdec dk_cX4_isSeparator 1 rfl) ?_
  refine kv_aload_n C 5 rfl 0 (kdec dk_cX4_isSeparator 2 rfl) rfl rfl ?_
  refine kv_getr C 8 rfl 17 0 rfl rfl inX4 (by decide) mfl_TaleMachine_Reader_9 rfl rfl (kdec dk_cX4_isSeparator 3 rfl) ?_
  obtain ⟨x30, e31⟩ : ∃ z : Int32, w 2 5 = z := ⟨_, rfl⟩
  have b32 : (0 : Int) ≤ x30.toInt ∧ x30.toInt ≤ 65535 := by rw [← e31]; exact hI 2 5
  refine kv_getN C 11 rfl 2 5 rfl rfl inX6 (by decide) mfn_TaleMachine_Reader_62 rfl rfl (kdec dk_cX4_isSeparator 4 rfl) e31 ?_
  refine kv_callVNi (As := [.int x30]) (rest := []) C 14 rfl 2 (k_byteAt l D τ ρ σ w x30 hI ) rfl rfl mmn_TaleMachine_Reader_33 mim_yX6_byteAt mse_yX6_byteAt mcd_yX6_byteAt min_yX6_byteAt hd_yX6_byteAt rfl rfl rfl (by decide) rfl (Nat.le_of_ble_eq_true rfl) (kdec dk_cX4_isSeparator 5 rfl) (fun x37 w33 h34 => ?_)
  obtain ⟨I35, f36, p38, p39⟩ := h34
  have F40 : kF [(2, some 9)] w w33 := kF_call hF0 f36 (by decide)
  have g41 := kf_rng x37
  obtain ⟨x42, e43⟩ : ∃ z : Int32, w 2 9 = z := ⟨_, rfl⟩
  have b44 : (0 : Int) ≤ x42.toInt ∧ x42.toInt ≤ 13 := by rw [← e43]; exact hI 2 9
  obtain ⟨x45, e46⟩ : ∃ z : Int32, w33 2 9 = z := ⟨_, rfl⟩
  have b47 : (0 : Int) ≤ x45.toInt ∧ x45.toInt ≤ 13 := by rw [← e46]; exact I35 2 9
  rw [e43, e46] at p39
  refine kv_istore_n C 15 rfl 2 [1, 2, 0] [(0, .ref (ρ 17)), (1, .int a1), (2, .int x37)] (kdec dk_cX4_isSeparator 6 rfl) rfl (by decide) rfl ?_
  refine kv_iconst C 16 rfl 1 (kdec dk_cX4_isSeparator 7 rfl) rfl ?_
  refine kv_istore_n C 17 rfl 3 [1, 2, 3, 0] [(0, .ref (ρ 17)), (1, .int a1), (2, .int x37), (3, .int 1)] (kdec dk_cX4_isSeparator 8 rfl) rfl (by decide) rfl ?_
  exact cut17 ((((257 - (1 : Int32).toInt)) : Int).toNat + 1) w33 a1 x37 1 I35 F40 (by omega) (by omega) (by omega)

set_option maxHeartbeats 4000000 in
set_option maxRecDepth 100000 in
theorem k_r_addLetter (l : Launch) (D : va_G) (τ : Nat → ClassId) (ρ σ : Nat → Nat) (w : kw) (a1 : Int32) (hI : kI true w)  :
    kM l D τ ρ σ yX4_addLetter cX4_addLetter 2 none { frames := 0, cells := 0, slots := 0, locals := 0 } [.ref (ρ 17), .int a1] w
      (fun o w' => o = none ∧ kI true w' ∧ kF [(17, some 4), (19, none)] w w') := by
  refine kM_of (own := "TaleMachine$Reader") rfl (by decide) (Nat.le_of_ble_eq_true rfl) ?_
  intro p e s m args below meth c C hr hlk
  have hF0 : kF [(17, some 4), (19, none)] w w := kF.rf
  have c_1 : (1 : Int32).toInt = 1 := by decide
  have c_6 : (6 : Int32).toInt = 6 := by decide
  refine kV.L (L' := [(0, .ref (ρ 17)), (1, .int a1)]) rfl ?_
  have g1 := kf_rng a1
  refine kv_aload_n C 1 rfl 0 (kdec dk_cX4_addLetter 0 rfl) rfl rfl ?_
  obtain ⟨x2, e3⟩ : ∃ z : Int32, w 17 4 = z := ⟨_, rfl⟩
  have b4 : (0 : Int) ≤ x2.toInt ∧ x2.toInt ≤ 6 := by rw [← e3]; exact hI 17 4
  refine kv_get C 4 rfl 17 4 rfl rfl inX4 (by decide) mfl_TaleMachine_Reader_81 rfl rfl (kdec dk_cX4_addLetter 1 rfl) e3 ?_
  refine kv_bipush C 6 rfl 6 (kdec dk_cX4_addLetter 2 rfl) rfl ?_
  refine kv_icmp_ge C 9 rfl 29 (kdec dk_cX4_addLetter 3 rfl) (by decide) (fun d5 => ?_) (fun d5 => ?_)
  · skip
    exact kv_vret C hr hlk (kdec dk_cX4_addLetter 16 rfl) ⟨rfl, hI, hF0⟩
  · skip
    refine kv_aload_n C 10 rfl 0 (kdec dk_cX4_addLetter 4 rfl) rfl rfl ?_
    refine kv_getr C 13 rfl 17 2 rfl rfl inX4 (by decide) mfl_TaleMachine_Reader_19 rfl rfl (kdec dk_cX4_addLetter 5 rfl) ?_
    refine kv_aload_n C 14 rfl 0 (kdec dk_cX4_addLetter 6 rfl) rfl rfl ?_
    refine kv_get C 17 rfl 17 4 rfl rfl inX4 (by decide) mfl_TaleMachine_Reader_81 rfl rfl (kdec dk_cX4_addLetter 7 rfl) e3 ?_
    refine kv_iload_n C 18 rfl 1 (kdec dk_cX4_addLetter 8 rfl) rfl rfl ?_
    refine kv_iast C 19 rfl 19 rfl (by omega) (by omega) (kdec dk_cX4_addLetter 9 rfl) (fun w6 u7 => ?_)
    have I8 : kI true w6 := kI_put u7 hI (kf_rng _).1 (kf_rng _).2
    have F9 : kF [(17, some 4), (19, none)] w w6 := kF_put u7 hF0 rfl
    refine kv_aload_n C 20 rfl 0 (kdec dk_cX4_addLetter 10 rfl) rfl rfl ?_
    refine kv_dup C 21 rfl (kdec dk_cX4_addLetter 11 rfl) rfl ?_
    have e10 : w6 17 4 = x2 := ((kup_ne u7 rfl : w6 17 4 = w 17 4).trans e3)
    refine kv_get C 24 rfl 17 4 rfl rfl inX4 (by decide) mfl_TaleMachine_Reader_81 rfl rfl (kdec dk_cX4_addLetter 12 rfl) e10 ?_
    refine kv_iconst C 25 rfl 1 (kdec dk_cX4_addLetter 13 rfl) rfl ?_
    refine kv_iadd C 26 rfl (kdec dk_cX4_addLetter 14 rfl) (fun x11 q13 h12e h12 h12l h12u => ?_)
    try have h12n : x11.toInt = x2.toInt + (1 : Int32).toInt := by omega
    clear h12 q13
    refine kv_put C 29 rfl 17 4 rfl rfl inX4 (by decide) mfl_TaleMachine_Reader_81 rfl tyX4 tyX4_ok nmX4 rfl rfl (kdec dk_cX4_addLetter 15 rfl) rfl rfl (fun w14 u15 => ?_)
    have I16 : kI true w14 := kI_put u15 I8 (show (0 : Int) ≤ (x11 : Int32).toInt by omega) (show (x11 : Int32).toInt ≤ 6 by omega)
    have F17 : kF [(17, some 4), (19, none)] w w14 := kF_put u15 F9 rfl
    exact kv_vret C hr hlk (kdec dk_cX4_addLetter 16 rfl) ⟨rfl, I16, F17⟩

set_option maxHeartbeats 4000000 in
set_option maxRecDepth 100000 in
theorem k_r_spell (l : Launch) (D : va_G) (τ : Nat → ClassId) (ρ σ : Nat → Nat) (w : kw) (a1 : Int32) (a2 : Int32) (hI : kI true w) (hp0 : 0 ≤ a1.toInt ∧ a1.toInt ≤ 8) (hp1 : a2.toInt ≤ 8) :
    kM l D τ ρ σ yX4_spell cX4_spell 6 none { frames := 4, cells := 0, slots := 0, locals := 144 } [.ref (ρ 17), .int a1, .int a2] w
      (fun o w' => o = none ∧ kI true w' ∧ kF [(17, some 4), (19, none)] w w') := by
  refine kM_of (own := "TaleMachine$Reader") rfl (by decide) (Nat.le_of_ble_eq_true rfl) ?_
  intro p e s m args below meth c C hr hlk
  have hF0 : kF [(17, some 4), (19, none)] w w := kF.rf
  have c_0 : (0 : Int32).toInt = 0 := by decide
  have c_5 : (5 : Int32).toInt = 5 := by decide
  have c_6 : (6 : Int32).toInt = 6 := by decide
  have c_8 : (8 : Int32).toInt = 8 := by decide
  have c_31 : (31 : Int32).toInt = 31 := by decide
  have c_97 : (97 : Int32).toInt = 97 := by decide
  have c_122 : (122 : Int32).toInt = 122 := by decide
  refine kV.L (L' := [(0, .ref (ρ 17)), (1, .int a1), (2, .int a2)]) rfl ?_
  have g1 := kf_rng a1
  have g2 := kf_rng a2
  have cut120 : ∀ (n_120 : Nat) (w_120 : kw) (l3_120 : Int32), kI true w_120 → kF [(17, some 4), (19, none)] w w_120 → (0 ≤ l3_120.toInt ∧ l3_120.toInt ≤ 6) → ((7 - l3_120.toInt) : Int) < (n_120 : Int) → kV p l e { frames := 4, cells := 0, slots := 0, locals := 144 } s m args below meth c (kQ below args s D τ ρ (fun o w' => o = none ∧ kI true w' ∧ kF [(17, some 4), (19, none)] w w')) 6 D τ ρ 120 [(0, .ref (ρ 17)), (3, .int l3_120)] [] w_120 := by
    intro n_120
    induction n_120 with
    | zero => intro w_120 l3_120 I_120 F_120 k120_0 hmz; exfalso; omega
    | succ n_120 ih120 =>
      intro w_120 l3_120 I_120 F_120 k120_0 hm120
      have gl3_120 := kf_rng l3_120
      refine kv_iload_n C 121 rfl 1 (kdec dk_cX4_spell 64 rfl) rfl rfl ?_
      refine kv_bipush C 123 rfl 6 (kdec dk_cX4_spell 65 rfl) rfl ?_
      refine kv_icmp_ge C 126 rfl 139 (kdec dk_cX4_spell 66 rfl) (by decide) (fun d3 => ?_) (fun d3 => ?_)
      · skip
        exact kv_vret C hr hlk (kdec dk_cX4_spell 74 rfl) ⟨rfl, I_120, F_120⟩
      · skip
        refine kv_aload_n C 127 rfl 0 (kdec dk_cX4_spell 67 rfl) rfl rfl ?_
        refine kv_getr C 130 rfl 17 2 rfl rfl inX4 (by decide) mfl_TaleMachine_Reader_19 rfl rfl (kdec dk_cX4_spell 68 rfl) ?_
        refine kv_iload_n C 131 rfl 1 (kdec dk_cX4_spell 69 rfl) rfl rfl ?_
        refine kv_iconst C 132 rfl 5 (kdec dk_cX4_spell 70 rfl) rfl ?_
        refine kv_iast C 133 rfl 19 rfl (by omega) (by omega) (kdec dk_cX4_spell 71 rfl) (fun w4 u5 => ?_)
        have I6 : kI true w4 := kI_put u5 I_120 (kf_rng _).1 (kf_rng _).2
        have F7 : kF [(17, some 4), (19, none)] w w4 := kF_put u5 F_120 rfl
        refine kv_iinc C 136 rfl 3 1 [1, 0] (fun v9 => [(0, .ref (ρ 17)), (3, .int v9)]) (kdec dk_cX4_spell 72 rfl) rfl (by decide) (fun _ => rfl) 1 rfl (fun x8 q9 h10e h10 h10l h10u => ?_)
        try have h10n : x8.toInt = l3_120.toInt + 1 := by omega
        clear h10 q9
        refine kv_goto C 120 (kdec dk_cX4_spell 73 rfl) (by decide) ?_
        exact ih120 w4 x8 I6 F7 (by omega) (by omega)
  have cut7 : ∀ (n_7 : Nat) (w_7 : kw) (l2_7 l3_7 : Int32), kI true w_7 → kF [(17, some 4), (19, none)] w w_7 → (0 ≤ l3_7.toInt ∧ l3_7.toInt ≤ 8) → (l2_7.toInt ≤ 8) → ((9 - l3_7.toInt) : Int) < (n_7 : Int) → kV p l e { frames := 4, cells := 0, slots := 0, locals := 144 } s m args below meth c (kQ below args s D τ ρ (fun o w' => o = none ∧ kI true w' ∧ kF [(17, some 4), (19, none)] w w')) 6 D τ ρ 7 [(0, .ref (ρ 17)), (2, .int l2_7), (3, .int l3_7)] [] w_7 := by
    intro n_7
    induction n_7 with
    | zero => intro w_7 l2_7 l3_7 I_7 F_7 k7_0 k7_1 hmz; exfalso; omega
    | succ n_7 ih7 =>
      intro w_7 l2_7 l3_7 I_7 F_7 k7_0 k7_1 hm7
      have gl2_7 := kf_rng l2_7
      have gl3_7 := kf_rng l3_7
      have cut109 : ∀ (w_109 : kw) (l2_109 l3_109 : Int32), kI true w_109 → kF [(17, some 4), (19, none)] w w_109 → (0 ≤ l3_109.toInt ∧ l3_109.toInt < 8 ∧ l3_109.toInt = l3_7.toInt) → (l2_109.toInt ≤ 8) → kV p l e { frames := 4, cells := 0, slots := 0, locals := 144 } s m args below meth c (kQ below args s D τ ρ (fun o w' => o = none ∧ kI true w' ∧ kF [(17, some 4), (19, none)] w w')) 6 D τ ρ 109 [(0, .ref (ρ 17)), (2, .int l2_109), (3, .int l3_109)] [] w_109 := by
        intro w_109 l2_109 l3_109 I_109 F_109 k109_0 k109_1
        have gl2_109 := kf_rng l2_109
        have gl3_109 := kf_rng l3_109
        refine kv_iinc C 112 rfl 3 2 [1, 2, 0] (fun v9 => [(0, .ref (ρ 17)), (2, .int l2_109), (3, .int v9)]) (kdec dk_cX4_spell 59 rfl) rfl (by decide) (fun _ => rfl) 1 rfl (fun x11 q12 h13e h13 h13l h13u => ?_)
        try have h13n : x11.toInt = l3_109.toInt + 1 := by omega
        clear h13 q12
        refine kv_goto C 7 (kdec dk_cX4_spell 60 rfl) (by decide) ?_
        exact ih7 w_109 l2_109 x11 I_109 F_109 (by omega) (by omega) (by omega)
      have cut59 : ∀ (w_59 : kw) (l2_59 l3_59 l4_59 l5_59 : Int32), kI true w_59 → kF [(17, some 4), (19, none)] w w_59 → (0 ≤ l3_59.toInt ∧ l3_59.toInt < 8 ∧ l3_59.toInt = l3_7.toInt) → (l2_59.toInt ≤ 8) → kV p l e { frames := 4, cells := 0, slots := 0, locals := 144 } s m args below meth c (kQ below args s D τ ρ (fun o w' => o = none ∧ kI true w' ∧ kF [(17, some 4), (19, none)] w w')) 6 D τ ρ 59 [(0, .ref (ρ 17)), (2, .int l2_59), (3, .int l3_59), (4, .int l4_59), (5, .int l5_59)] [] w_59 := by
        intro w_59 l2_59 l3_59 l4_59 l5_59 I_59 F_59 k59_0 k59_1
        have gl2_59 := kf_rng l2_59
        have gl3_59 := kf_rng l3_59
        have gl4_59 := kf_rng l4_59
        have gl5_59 := kf_rng l5_59
        refine kv_iload C 61 rfl 4 (kdec dk_cX4_spell 32 rfl) rfl ?_
        refine kv_if_lt C 64 rfl 81 (kdec dk_cX4_spell 33 rfl) (by decide) (fun d14 => ?_) (fun d14 => ?_)
        · skip
          refine kv_aload_n C 82 rfl 0 (kdec dk_cX4_spell 43 rfl) rfl rfl ?_
          refine kv_iconst C 83 rfl 5 (kdec dk_cX4_spell 44 rfl) rfl ?_
          refine kv_callVv (As := [.int 5]) (rest := []) C 86 rfl 17 (k_r_addLetter l D τ ρ σ w_59 5 I_59 ) rfl rfl mml_TaleMachine_Reader_91 mim_yX4_addLetter mse_yX4_addLetter mcd_yX4_addLetter min_yX4_addLetter hd_yX4_addLetter rfl rfl rfl (by decide) rfl (Nat.le_of_ble_eq_true rfl) (kdec dk_cX4_spell 45 rfl) (fun w15 h16 => ?_)
          obtain ⟨I17, f18⟩ := h16
          have F20 : kF [(17, some 4), (19, none)] w w15 := kF_call F_59 f18 (by decide)
          refine kv_aload_n C 87 rfl 0 (kdec dk_cX4_spell 46 rfl) rfl rfl ?_
          refine kv_bipush C 89 rfl 6 (kdec dk_cX4_spell 47 rfl) rfl ?_
          refine kv_callVv (As := [.int 6]) (rest := []) C 92 rfl 17 (k_r_addLetter l D τ ρ σ w15 6 I17 ) rfl rfl mml_TaleMachine_Reader_91 mim_yX4_addLetter mse_yX4_addLetter mcd_yX4_addLetter min_yX4_addLetter hd_yX4_addLetter rfl rfl rfl (by decide) rfl (Nat.le_of_ble_eq_true rfl) (kdec dk_cX4_spell 48 rfl) (fun w21 h22 => ?_)
          obtain ⟨I23, f24⟩ := h22
          have F26 : kF [(17, some 4), (19, none)] w w21 := kF_call F20 f24 (by decide)
          refine kv_aload_n C 93 rfl 0 (kdec dk_cX4_spell 49 rfl) rfl rfl ?_
          refine kv_iload C 95 rfl 3 (kdec dk_cX4_spell 50 rfl) rfl ?_
          refine kv_iconst C 96 rfl 5 (kdec dk_cX4_spell 51 rfl) rfl ?_
          refine kv_ishr C 97 rfl (kdec dk_cX4_spell 52 rfl) (fun x27 h28e h28l h28u => ?_)
          refine kv_callVv (As := [.int x27]) (rest := []) C 100 rfl 17 (k_r_addLetter l D τ ρ σ w21 x27 I23 ) rfl rfl mml_TaleMachine_Reader_91 mim_yX4_addLetter mse_yX4_addLetter mcd_yX4_addLetter min_yX4_addLetter hd_yX4_addLetter rfl rfl rfl (by decide) rfl (Nat.le_of_ble_eq_true rfl) (kdec dk_cX4_spell 53 rfl) (fun w29 h30 => ?_)
          obtain ⟨I31, f32⟩ := h30
          have F34 : kF [(17, some 4), (19, none)] w w29 := kF_call F26 f32 (by decide)
          refine kv_aload_n C 101 rfl 0 (kdec dk_cX4_spell 54 rfl) rfl rfl ?_
          refine kv_iload C 103 rfl 3 (kdec dk_cX4_spell 55 rfl) rfl ?_
          refine kv_bipush C 105 rfl 31 (kdec dk_cX4_spell 56 rfl) rfl ?_
          refine kv_iand C 106 rfl (kdec dk_cX4_spell 57 rfl) (fun x35 h36e h36l h36u => ?_)
          have g37 := kf_and31 h36e
          refine kv_callVv (As := [.int x35]) (rest := []) C 109 rfl 17 (k_r_addLetter l D τ ρ σ w29 x35 I31 ) rfl rfl mml_TaleMachine_Reader_91 mim_yX4_addLetter mse_yX4_addLetter mcd_yX4_addLetter min_yX4_addLetter hd_yX4_addLetter rfl rfl rfl (by decide) rfl (Nat.le_of_ble_eq_true rfl) (kdec dk_cX4_spell 58 rfl) (fun w38 h39 => ?_)
          obtain ⟨I40, f41⟩ := h39
          have F43 : kF [(17, some 4), (19, none)] w w38 := kF_call F34 f41 (by decide)
          refine kV.sub [0, 1, 2] (L' := [(0, .ref (ρ 17)), (2, .int l2_59), (3, .int l3_59)]) rfl ?_
          exact cut109 w38 l2_59 l3_59 I40 F43 (by omega) (by omega)
        · skip
          refine kv_aload_n C 65 rfl 0 (kdec dk_cX4_spell 34 rfl) rfl rfl ?_
          refine kv_iconst C 66 rfl 5 (kdec dk_cX4_spell 35 rfl) rfl ?_
          refine kv_callVv (As := [.int 5]) (rest := []) C 69 rfl 17 (k_r_addLetter l D τ ρ σ w_59 5 I_59 ) rfl rfl mml_TaleMachine_Reader_91 mim_yX4_addLetter mse_yX4_addLetter mcd_yX4_addLetter min_yX4_addLetter hd_yX4_addLetter rfl rfl rfl (by decide) rfl (Nat.le_of_ble_eq_true rfl) (kdec dk_cX4_spell 36 rfl) (fun w44 h45 => ?_)
          obtain ⟨I46, f47⟩ := h45
          have F49 : kF [(17, some 4), (19, none)] w w44 := kF_call F_59 f47 (by decide)
          refine kv_aload_n C 70 rfl 0 (kdec dk_cX4_spell 37 rfl) rfl rfl ?_
          refine kv_iload C 72 rfl 4 (kdec dk_cX4_spell 38 rfl) rfl ?_
          refine kv_bipush C 74 rfl 8 (kdec dk_cX4_spell 39 rfl) rfl ?_
          refine kv_iadd C 75 rfl (kdec dk_cX4_spell 40 rfl) (fun x50 q52 h51e h51 h51l h51u => ?_)
          try have h51n : x50.toInt = l5_59.toInt + (8 : Int32).toInt := by omega
          clear h51 q52
          refine kv_callVv (As := [.int x50]) (rest := []) C 78 rfl 17 (k_r_addLetter l D τ ρ σ w44 x50 I46 ) rfl rfl mml_TaleMachine_Reader_91 mim_yX4_addLetter mse_yX4_addLetter mcd_yX4_addLetter min_yX4_addLetter hd_yX4_addLetter rfl rfl rfl (by decide) rfl (Nat.le_of_ble_eq_true rfl) (kdec dk_cX4_spell 41 rfl) (fun w53 h54 => ?_)
          obtain ⟨I55, f56⟩ := h54
          have F58 : kF [(17, some 4), (19, none)] w w53 := kF_call F49 f56 (by decide)
          refine kv_goto C 109 (kdec dk_cX4_spell 42 rfl) (by decide) ?_
          refine kV.sub [0, 1, 2] (L' := [(0, .ref (ρ 17)), (2, .int l2_59), (3, .int l3_59)]) rfl ?_
          exact cut109 w53 l2_59 l3_59 I55 F58 (by omega) (by omega)
      refine kv_iload_n C 8 rfl 2 (kdec dk_cX4_spell 5 rfl) rfl rfl ?_
      refine kv_iload_n C 9 rfl 1 (kdec dk_cX4_spell 6 rfl) rfl rfl ?_
      refine kv_icmp_ge C 12 rfl 115 (kdec dk_cX4_spell 7 rfl) (by decide) (fun d59 => ?_) (fun d59 => ?_)
      · skip
        refine kv_aload_n C 116 rfl 0 (kdec dk_cX4_spell 61 rfl) rfl rfl ?_
        obtain ⟨x60, e61⟩ : ∃ z : Int32, w_7 17 4 = z := ⟨_, rfl⟩
        have b62 : (0 : Int) ≤ x60.toInt ∧ x60.toInt ≤ 6 := by rw [← e61]; exact I_7 17 4
        refine kv_get C 119 rfl 17 4 rfl rfl inX4 (by decide) mfl_TaleMachine_Reader_81 rfl rfl (kdec dk_cX4_spell 62 rfl) e61 ?_
        refine kv_istore_n C 120 rfl 3 [1, 2, 0] [(0, .ref (ρ 17)), (2, .int l2_7), (3, .int x60)] (kdec dk_cX4_spell 63 rfl) rfl (by decide) rfl ?_
        refine kV.sub [0, 2] (L' := [(0, .ref (ρ 17)), (3, .int x60)]) rfl ?_
        exact cut120 ((((7 - (x60 : Int32).toInt)) : Int).toNat + 1) w_7 x60 I_7 F_7 (by omega) (by omega)
      · skip
        refine kv_aload_n C 13 rfl 0 (kdec dk_cX4_spell 8 rfl) rfl rfl ?_
        refine kv_getr C 16 rfl 17 1 rfl rfl inX4 (by decide) mfl_TaleMachine_Reader_15 rfl rfl (kdec dk_cX4_spell 9 rfl) ?_
        refine kv_iload_n C 17 rfl 2 (kdec dk_cX4_spell 10 rfl) rfl rfl ?_
        obtain ⟨x63, e64⟩ : ∃ z : Int32, w_7 18 (l3_7 : Int32).toNatClampNeg = z := ⟨_, rfl⟩
        have b65 : (-2147483648 : Int) ≤ x63.toInt ∧ x63.toInt ≤ 2147483647 := by rw [← e64]; exact I_7 18 _
        refine kv_iald C 18 rfl 18 rfl (by omega) (by omega) e64 (kdec dk_cX4_spell 11 rfl) ?_
        refine kv_istore C 20 rfl 4 [1, 2, 3, 0] [(0, .ref (ρ 17)), (2, .int l2_7), (3, .int l3_7), (4, .int x63)] (kdec dk_cX4_spell 12 rfl) (by decide) rfl ?_
        refine kv_ldcR C 22 rfl (kdec dk_cX4_spell 13 rfl) ?_
        refine kv_iload C 24 rfl 3 (kdec dk_cX4_spell 14 rfl) rfl ?_
        refine kv_i2c C 25 rfl (kdec dk_cX4_spell 15 rfl) (fun x66 h67e h67l h67u => ?_)
        refine kv_callStri (As := [.int x66]) (rest := []) C 28 rfl (k_j_indexOf l D τ ρ σ w_7 x66 I_7 ) mml_TaleMachine_Reader_86 mim_yJ0_indexOf_0f7a4 mse_yJ0_indexOf_0f7a4 mcd_yJ0_indexOf_0f7a4 min_yJ0_indexOf_0f7a4 hd_yJ0_indexOf_0f7a4 rfl rfl rfl (by decide) rfl (Nat.le_of_ble_eq_true rfl) (kdec dk_cX4_spell 16 rfl) (fun x72 w68 h69 => ?_)
        obtain ⟨I70, f71⟩ := h69
        have F73 : kF [(17, some 4), (19, none)] w w68 := kF_call F_7 f71 (by decide)
        have g74 := kf_rng x72
        refine kv_istore C 30 rfl 5 [1, 2, 3, 4, 0] [(0, .ref (ρ 17)), (2, .int l2_7), (3, .int l3_7), (4, .int x63), (5, .int x72)] (kdec dk_cX4_spell 17 rfl) (by decide) rfl ?_
        refine kv_iload C 32 rfl 3 (kdec dk_cX4_spell 18 rfl) rfl ?_
        refine kv_bipush C 34 rfl 97 (kdec dk_cX4_spell 19 rfl) rfl ?_
        refine kv_icmp_lt C 37 rfl 59 (kdec dk_cX4_spell 20 rfl) (by decide) (fun d75 => ?_) (fun d75 => ?_)
        · skip
          exact cut59 w68 l2_7 l3_7 x63 x72 I70 F73 (by omega) (by omega)
        · skip
          refine kv_iload C 39 rfl 3 (kdec dk_cX4_spell 21 rfl) rfl ?_
          refine kv_bipush C 41 rfl 122 (kdec dk_cX4_spell 22 rfl) rfl ?_
          refine kv_icmp_gt C 44 rfl 59 (kdec dk_cX4_spell 23 rfl) (by decide) (fun d76 => ?_) (fun d76 => ?_)
          · skip
            exact cut59 w68 l2_7 l3_7 x63 x72 I70 F73 (by omega) (by omega)
          · skip
            refine kv_aload_n C 45 rfl 0 (kdec dk_cX4_spell 24 rfl) rfl rfl ?_
            refine kv_iload C 47 rfl 3 (kdec dk_cX4_spell 25 rfl) rfl ?_
            refine kv_bipush C 49 rfl 97 (kdec dk_cX4_spell 26 rfl) rfl ?_
            refine kv_isub C 50 rfl (kdec dk_cX4_spell 27 rfl) (fun x77 q79 h78e h78 h78l h78u => ?_)
            try have h78n : x77.toInt = x63.toInt - (97 : Int32).toInt := by omega
            clear h78 q79
            refine kv_bipush C 52 rfl 6 (kdec dk_cX4_spell 28 rfl) rfl ?_
            refine kv_iadd C 53 rfl (kdec dk_cX4_spell 29 rfl) (fun x80 q82 h81e h81 h81l h81u => ?_)
            try have h81n : x80.toInt = x77.toInt + (6 : Int32).toInt := by omega
            clear h81 q82
            refine kv_callVv (As := [.int x80]) (rest := []) C 56 rfl 17 (k_r_addLetter l D τ ρ σ w68 x80 I70 ) rfl rfl mml_TaleMachine_Reader_91 mim_yX4_addLetter mse_yX4_addLetter mcd_yX4_addLetter min_yX4_addLetter hd_yX4_addLetter rfl rfl rfl (by decide) rfl (Nat.le_of_ble_eq_true rfl) (kdec dk_cX4_spell 30 rfl) (fun w83 h84 => ?_)
            obtain ⟨I85, f86⟩ := h84
            have F88 : kF [(17, some 4), (19, none)] w w83 := kF_call F73 f86 (by decide)
            refine kv_goto C 109 (kdec dk_cX4_spell 31 rfl) (by decide) ?_
            refine kV.sub [0, 1, 2] (L' := [(0, .ref (ρ 17)), (2, .int l2_7), (3, .int l3_7)]) rfl ?_
            exact cut109 w83 l2_7 l3_7 I85 F88 (by omega) (by omega)
  refine kv_aload_n C 1 rfl 0 (kdec dk_cX4_spell 0 rfl) rfl rfl ?_
  refine kv_iconst C 2 rfl 0 (kdec dk_cX4_spell 1 rfl) rfl ?_
  refine kv_put C 5 rfl 17 4 rfl rfl inX4 (by decide) mfl_TaleMachine_Reader_81 rfl tyX4 tyX4_ok nmX4 rfl rfl (kdec dk_cX4_spell 2 rfl) rfl rfl (fun w89 u90 => ?_)
  have I91 : kI true w89 := kI_put u90 hI (show (0 : Int) ≤ (0 : Int32).toInt by omega) (show (0 : Int32).toInt ≤ 6 by omega)
  have F92 : kF [(17, some 4), (19, none)] w w89 := kF_put u90 hF0 rfl
  refine kv_iload_n C 6 rfl 1 (kdec dk_cX4_spell 3 rfl) rfl rfl ?_
  refine kv_istore_n C 7 rfl 3 [1, 2, 3, 0] [(0, .ref (ρ 17)), (1, .int a1), (2, .int a2), (3, .int a1)] (kdec dk_cX4_spell 4 rfl) rfl (by decide) rfl ?_
  refine kV.sub [0, 2, 3] (L' := [(0, .ref (ρ 17)), (2, .int a2), (3, .int a1)]) rfl ?_
  exact cut7 ((((9 - (a1 : Int32).toInt)) : Int).toNat + 1) w89 a2 a1 I91 F92 (by omega) (by omega) (by omega)

set_option maxHeartbeats 4000000 in
set_option maxRecDepth 100000 in
theorem k_r_spelledWord (l : Launch) (D : va_G) (τ : Nat → ClassId) (ρ σ : Nat → Nat) (w : kw) (a1 : Int32) (hI : kI true w) (hp0 : 0 ≤ a1.toInt ∧ a1.toInt ≤ 3) :
    kM l D τ ρ σ yX4_spelledWord cX4_spelledWord 2 (some .int) { frames := 0, cells := 0, slots := 0, locals := 0 } [.ref (ρ 17), .int a1] w
      (fun o w' => ∃ r : Int32, o = some (.int r) ∧ kI true w' ∧ kF [] w w') := by
  refine kM_of (own := "TaleMachine$Reader") rfl (by decide) (Nat.le_of_ble_eq_true rfl) ?_
  intro p e s m args below meth c C hr hlk
  have hF0 : kF [] w w := kF.rf
  have c_1 : (1 : Int32).toInt = 1 := by decide
  have c_2 : (2 : Int32).toInt = 2 := by decide
  have c_32 : (32 : Int32).toInt = 32 := by decide
  have c_1024 : (1024 : Int32).toInt = 1024 := by decide
  refine kV.L (L' := [(0, .ref (ρ 17)), (1, .int a1)]) rfl ?_
  have g1 := kf_rng a1
  refine kv_aload_n C 1 rfl 0 (kdec dk_cX4_spelledWord 0 rfl) rfl rfl ?_
  refine kv_getr C 4 rfl 17 2 rfl rfl inX4 (by decide) mfl_TaleMachine_Reader_19 rfl rfl (kdec dk_cX4_spelledWord 1 rfl) ?_
  refine kv_iload_n C 5 rfl 1 (kdec dk_cX4_spelledWord 2 rfl) rfl rfl ?_
  obtain ⟨x2, e3⟩ : ∃ z : Int32, w 19 (a1 : Int32).toNatClampNeg = z := ⟨_, rfl⟩
  have b4 : (-2147483648 : Int) ≤ x2.toInt ∧ x2.toInt ≤ 2147483647 := by rw [← e3]; exact hI 19 _
  refine kv_iald C 6 rfl 19 rfl (by omega) (by omega) e3 (kdec dk_cX4_spelledWord 3 rfl) ?_
  refine kv_sipush C 9 rfl 1024 (kdec dk_cX4_spelledWord 4 rfl) rfl ?_
  refine kv_imul C 10 rfl (kdec dk_cX4_spelledWord 5 rfl) (fun x5 h6e h6l h6u => ?_)
  obtain ⟨q7, g8⟩ := kf_mul x2 1024
  rw [← h6e, c_1024] at g8
  try have h6n : x5.toInt = 1024 * x2.toInt := by omega
  clear g8 q7
  refine kv_aload_n C 11 rfl 0 (kdec dk_cX4_spelledWord 6 rfl) rfl rfl ?_
  refine kv_getr C 14 rfl 17 2 rfl rfl inX4 (by decide) mfl_TaleMachine_Reader_19 rfl rfl (kdec dk_cX4_spelledWord 7 rfl) ?_
  refine kv_iload_n C 15 rfl 1 (kdec dk_cX4_spelledWord 8 rfl) rfl rfl ?_
  refine kv_iconst C 16 rfl 1 (kdec dk_cX4_spelledWord 9 rfl) rfl ?_
  refine kv_iadd C 17 rfl (kdec dk_cX4_spelledWord 10 rfl) (fun x9 q11 h10e h10 h10l h10u => ?_)
  try have h10n : x9.toInt = a1.toInt + (1 : Int32).toInt := by omega
  clear h10 q11
  obtain ⟨x12, e13⟩ : ∃ z : Int32, w 19 (x9 : Int32).toNatClampNeg = z := ⟨_, rfl⟩
  have b14 : (-2147483648 : Int) ≤ x12.toInt ∧ x12.toInt ≤ 2147483647 := by rw [← e13]; exact hI 19 _
  refine kv_iald C 18 rfl 19 rfl (by omega) (by omega) e13 (kdec dk_cX4_spelledWord 11 rfl) ?_
  refine kv_bipush C 20 rfl 32 (kdec dk_cX4_spelledWord 12 rfl) rfl ?_
  refine kv_imul C 21 rfl (kdec dk_cX4_spelledWord 13 rfl) (fun x15 h16e h16l h16u => ?_)
  obtain ⟨q17, g18⟩ := kf_mul x12 32
  rw [← h16e, c_32] at g18
  try have h16n : x15.toInt = 32 * x12.toInt := by omega
  clear g18 q17
  refine kv_iadd C 22 rfl (kdec dk_cX4_spelledWord 14 rfl) (fun x19 q21 h20e h20 h20l h20u => ?_)
  try have h20n : x19.toInt = x5.toInt + x15.toInt := by omega
  clear h20 q21
  refine kv_aload_n C 23 rfl 0 (kdec dk_cX4_spelledWord 15 rfl) rfl rfl ?_
  refine kv_getr C 26 rfl 17 2 rfl rfl inX4 (by decide) mfl_TaleMachine_Reader_19 rfl rfl (kdec dk_cX4_spelledWord 16 rfl) ?_
  refine kv_iload_n C 27 rfl 1 (kdec dk_cX4_spelledWord 17 rfl) rfl rfl ?_
  refine kv_iconst C 28 rfl 2 (kdec dk_cX4_spelledWord 18 rfl) rfl ?_
  refine kv_iadd C 29 rfl (kdec dk_cX4_spelledWord 19 rfl) (fun x22 q24 h23e h23 h23l h23u => ?_)
  try have h23n : x22.toInt = a1.toInt + (2 : Int32).toInt := by omega
  clear h23 q24
  obtain ⟨x25, e26⟩ : ∃ z : Int32, w 19 (x22 : Int32).toNatClampNeg = z := ⟨_, rfl⟩
  have b27 : (-2147483648 : Int) ≤ x25.toInt ∧ x25.toInt ≤ 2147483647 := by rw [← e26]; exact hI 19 _
  refine kv_iald C 30 rfl 19 rfl (by omega) (by omega) e26 (kdec dk_cX4_spelledWord 20 rfl) ?_
  refine kv_iadd C 31 rfl (kdec dk_cX4_spelledWord 21 rfl) (fun x28 q30 h29e h29 h29l h29u => ?_)
  try have h29n : x28.toInt = x19.toInt + x25.toInt := by omega
  clear h29 q30
  exact kv_iret C hr hlk (kdec dk_cX4_spelledWord 22 rfl) ⟨_, rfl, hI, hF0⟩

set_option maxHeartbeats 4000000 in
set_option maxRecDepth 100000 in
theorem k_r_entryOf (l : Launch) (D : va_G) (τ : Nat → ClassId) (ρ σ : Nat → Nat) (w : kw) (a1 : Int32) (a2 : Int32) (hI : kI true w)  :
    kM l D τ ρ σ yX4_entryOf cX4_entryOf 10 (some .int) { frames := 2, cells := 0, slots := 0, locals := 72 } [.ref (ρ 17), .int a1, .int a2] w
      (fun o w' => ∃ r : Int32, o = some (.int r) ∧ kI true w' ∧ kF [(2, some 9)] w w') := by
  refine kM_of (own := "TaleMachine$Reader") rfl (by decide) (Nat.le_of_ble_eq_true rfl) ?_
  intro p e s m args below meth c C hr hlk
  have hF0 : kF [(2, some 9)] w w := kF.rf
  have c_0 : (0 : Int32).toInt = 0 := by decide
  have c_1 : (1 : Int32).toInt = 1 := by decide
  have c_2 : (2 : Int32).toInt = 2 := by decide
  have c_3 : (3 : Int32).toInt = 3 := by decide
  have c_255 : (255 : Int32).toInt = 255 := by decide
  refine kV.L (L' := [(0, .ref (ρ 17)), (1, .int a1), (2, .int a2)]) rfl ?_
  have g1 := kf_rng a1
  have g2 := kf_rng a2
  have cut61 : ∀ (n_61 : Nat) (w_61 : kw) (l1_61 l2_61 l4_61 l5_61 l6_61 l7_61 : Int32), kI true w_61 → kF [(2, some 9)] w w_61 → (0 ≤ l7_61.toInt ∧ l7_61.toInt ≤ 255) → (l5_61.toInt ≤ 255) → ((256 - l7_61.toInt) : Int) < (n_61 : Int) → kV p l e { frames := 2, cells := 0, slots := 0, locals := 72 } s m args below meth c (kQ below args s D τ ρ (fun o w' => ∃ r : Int32, o = some (.int r) ∧ kI true w' ∧ kF [(2, some 9)] w w')) 10 D τ ρ 61 [(0, .ref (ρ 17)), (1, .int l1_61), (2, .int l2_61), (4, .int l4_61), (5, .int l5_61), (6, .int l6_61), (7, .int l7_61)] [] w_61 := by
    intro n_61
    induction n_61 with
    | zero => intro w_61 l1_61 l2_61 l4_61 l5_61 l6_61 l7_61 I_61 F_61 k61_0 k61_1 hmz; exfalso; omega
    | succ n_61 ih61 =>
      intro w_61 l1_61 l2_61 l4_61 l5_61 l6_61 l7_61 I_61 F_61 k61_0 k61_1 hm61
      have gl1_61 := kf_rng l1_61
      have gl2_61 := kf_rng l2_61
      have gl4_61 := kf_rng l4_61
      have gl5_61 := kf_rng l5_61
      have gl6_61 := kf_rng l6_61
      have gl7_61 := kf_rng l7_61
      have cut117 : ∀ (w_117 : kw) (l1_117 l2_117 l4_117 l5_117 l6_117 l7_117 : Int32), kI true w_117 → kF [(2, some 9)] w w_117 → (0 ≤ l7_117.toInt ∧ l7_117.toInt < 255 ∧ l7_117.toInt = l7_61.toInt) → (l5_117.toInt ≤ 255) → kV p l e { frames := 2, cells := 0, slots := 0, locals := 72 } s m args below meth c (kQ below args s D τ ρ (fun o w' => ∃ r : Int32, o = some (.int r) ∧ kI true w' ∧ kF [(2, some 9)] w w')) 10 D τ ρ 117 [(0, .ref (ρ 17)), (1, .int l1_117), (2, .int l2_117), (4, .int l4_117), (5, .int l5_117), (6, .int l6_117), (7, .int l7_117)] [] w_117 := by
        intro w_117 l1_117 l2_117 l4_117 l5_117 l6_117 l7_117 I_117 F_117 k117_0 k117_1
        have gl1_117 := kf_rng l1_117
        have gl2_117 := kf_rng l2_117
        have gl4_117 := kf_rng l4_117
        have gl5_117 := kf_rng l5_117
        have gl6_117 := kf_rng l6_117
        have gl7_117 := kf_rng l7_117
        refine kv_iload C 119 rfl 5 (kdec dk_cX4_entryOf 60 rfl) rfl ?_
        refine kv_iload C 121 rfl 3 (kdec dk_cX4_entryOf 61 rfl) rfl ?_
        refine kv_iadd C 122 rfl (kdec dk_cX4_entryOf 62 rfl) (fun x3 q5 h4e h4 h4l h4u => ?_)
        try have h4n : x3.toInt = l6_117.toInt + l4_117.toInt := by omega
        clear h4 q5
        refine kv_istore C 124 rfl 6 [1, 2, 3, 4, 5, 0, 6] [(0, .ref (ρ 17)), (1, .int l1_117), (2, .int l2_117), (4, .int l4_117), (5, .int l5_117), (6, .int x3), (7, .int l7_117)] (kdec dk_cX4_entryOf 63 rfl) (by decide) rfl ?_
        refine kv_iinc C 127 rfl 7 6 [1, 2, 3, 4, 5, 6, 0] (fun v9 => [(0, .ref (ρ 17)), (1, .int l1_117), (2, .int l2_117), (4, .int l4_117), (5, .int l5_117), (6, .int x3), (7, .int v9)]) (kdec dk_cX4_entryOf 64 rfl) rfl (by decide) (fun _ => rfl) 1 rfl (fun x6 q7 h8e h8 h8l h8u => ?_)
        try have h8n : x6.toInt = l7_117.toInt + 1 := by omega
        clear h8 q7
        refine kv_goto C 61 (kdec dk_cX4_entryOf 65 rfl) (by decide) ?_
        exact ih61 w_117 l1_117 l2_117 l4_117 l5_117 x3 x6 I_117 F_117 (by omega) (by omega) (by omega)
      refine kv_iload C 63 rfl 6 (kdec dk_cX4_entryOf 33 rfl) rfl ?_
      refine kv_iload C 65 rfl 4 (kdec dk_cX4_entryOf 34 rfl) rfl ?_
      refine kv_icmp_ge C 68 rfl 130 (kdec dk_cX4_entryOf 35 rfl) (by decide) (fun d9 => ?_) (fun d9 => ?_)
      · skip
        refine kv_iconst C 131 rfl 0 (kdec dk_cX4_entryOf 66 rfl) rfl ?_
        exact kv_iret C hr hlk (kdec dk_cX4_entryOf 67 rfl) ⟨_, rfl, I_61, F_61⟩
      · skip
        refine kv_aload_n C 69 rfl 0 (kdec dk_cX4_entryOf 36 rfl) rfl rfl ?_
        refine kv_getr C 72 rfl 17 0 rfl rfl inX4 (by decide) mfl_TaleMachine_Reader_9 rfl rfl (kdec dk_cX4_entryOf 37 rfl) ?_
        obtain ⟨x10, e11⟩ : ∃ z : Int32, w_61 2 9 = z := ⟨_, rfl⟩
        have b12 : (0 : Int) ≤ x10.toInt ∧ x10.toInt ≤ 13 := by rw [← e11]; exact I_61 2 9
        refine kv_getN C 75 rfl 2 9 rfl rfl inX6 (by decide) mfn_TaleMachine_Reader_65 rfl rfl (kdec dk_cX4_entryOf 38 rfl) e11 ?_
        refine kv_if_ne C 78 rfl 130 (kdec dk_cX4_entryOf 39 rfl) (by decide) (fun d13 => ?_) (fun d13 => ?_)
        · skip
          refine kv_iconst C 131 rfl 0 (kdec dk_cX4_entryOf 66 rfl) rfl ?_
          exact kv_iret C hr hlk (kdec dk_cX4_entryOf 67 rfl) ⟨_, rfl, I_61, F_61⟩
        · skip
          refine kv_aload_n C 79 rfl 0 (kdec dk_cX4_entryOf 40 rfl) rfl rfl ?_
          refine kv_getr C 82 rfl 17 0 rfl rfl inX4 (by decide) mfl_TaleMachine_Reader_9 rfl rfl (kdec dk_cX4_entryOf 41 rfl) ?_
          refine kv_iload C 84 rfl 5 (kdec dk_cX4_entryOf 42 rfl) rfl ?_
          refine kv_callVNi (As := [.int l6_61]) (rest := []) C 87 rfl 2 (k_wordAt l D τ ρ σ w_61 l6_61 I_61 ) rfl rfl mmn_TaleMachine_Reader_94 mim_yX6_wordAt mse_yX6_wordAt mcd_yX6_wordAt min_yX6_wordAt hd_yX6_wordAt rfl rfl rfl (by decide) rfl (Nat.le_of_ble_eq_true rfl) (kdec dk_cX4_entryOf 43 rfl) (fun x18 w14 h15 => ?_)
          obtain ⟨I16, f17, p19, p20⟩ := h15
          have F21 : kF [(2, some 9)] w w14 := kF_call F_61 f17 (by decide)
          have g22 := kf_rng x18
          obtain ⟨x23, e24⟩ : ∃ z : Int32, w14 2 9 = z := ⟨_, rfl⟩
          have b25 : (0 : Int) ≤ x23.toInt ∧ x23.toInt ≤ 13 := by rw [← e24]; exact I16 2 9
          rw [e11, e24] at p20
          refine kv_istore C 89 rfl 8 [1, 2, 3, 4, 5, 6, 7, 0] [(0, .ref (ρ 17)), (1, .int l1_61), (2, .int l2_61), (4, .int l4_61), (5, .int l5_61), (6, .int l6_61), (7, .int l7_61), (8, .int x18)] (kdec dk_cX4_entryOf 44 rfl) (by decide) rfl ?_
          refine kv_aload_n C 90 rfl 0 (kdec dk_cX4_entryOf 45 rfl) rfl rfl ?_
          refine kv_getr C 93 rfl 17 0 rfl rfl inX4 (by decide) mfl_TaleMachine_Reader_9 rfl rfl (kdec dk_cX4_entryOf 46 rfl) ?_
          refine kv_iload C 95 rfl 5 (kdec dk_cX4_entryOf 47 rfl) rfl ?_
          refine kv_iconst C 96 rfl 2 (kdec dk_cX4_entryOf 48 rfl) rfl ?_
          refine kv_iadd C 97 rfl (kdec dk_cX4_entryOf 49 rfl) (fun x26 q28 h27e h27 h27l h27u => ?_)
          try have h27n : x26.toInt = l6_61.toInt + (2 : Int32).toInt := by omega
          clear h27 q28
          refine kv_callVNi (As := [.int x26]) (rest := []) C 100 rfl 2 (k_wordAt l D τ ρ σ w14 x26 I16 ) rfl rfl mmn_TaleMachine_Reader_94 mim_yX6_wordAt mse_yX6_wordAt mcd_yX6_wordAt min_yX6_wordAt hd_yX6_wordAt rfl rfl rfl (by decide) rfl (Nat.le_of_ble_eq_true rfl) (kdec dk_cX4_entryOf 50 rfl) (fun x33 w29 h30 => ?_)
          obtain ⟨I31, f32, p34, p35⟩ := h30
          have F36 : kF [(2, some 9)] w w29 := kF_call F21 f32 (by decide)
          have g37 := kf_rng x33
          obtain ⟨x38, e39⟩ : ∃ z : Int32, w29 2 9 = z := ⟨_, rfl⟩
          have b40 : (0 : Int) ≤ x38.toInt ∧ x38.toInt ≤ 13 := by rw [← e39]; exact I31 2 9
          rw [e24, e39] at p35
          refine kv_istore C 102 rfl 9 [1, 2, 3, 4, 5, 6, 7, 8, 0] [(0, .ref (ρ 17)), (1, .int l1_61), (2, .int l2_61), (4, .int l4_61), (5, .int l5_61), (6, .int l6_61), (7, .int l7_61), (8, .int x18), (9, .int x33)] (kdec dk_cX4_entryOf 51 rfl) (by decide) rfl ?_
          refine kv_iload C 104 rfl 7 (kdec dk_cX4_entryOf 52 rfl) rfl ?_
          refine kv_iload_n C 105 rfl 1 (kdec dk_cX4_entryOf 53 rfl) rfl rfl ?_
          refine kv_icmp_ne C 108 rfl 117 (kdec dk_cX4_entryOf 54 rfl) (by decide) (fun d41 => ?_) (fun d41 => ?_)
          · skip
            refine kV.sub [0, 1, 2, 3, 4, 5, 6] (L' := [(0, .ref (ρ 17)), (1, .int l1_61), (2, .int l2_61), (4, .int l4_61), (5, .int l5_61), (6, .int l6_61), (7, .int l7_61)]) rfl ?_
            exact cut117 w29 l1_61 l2_61 l4_61 l5_61 l6_61 l7_61 I31 F36 (by omega) (by omega)
          · skip
            refine kv_iload C 110 rfl 8 (kdec dk_cX4_entryOf 55 rfl) rfl ?_
            refine kv_iload_n C 111 rfl 2 (kdec dk_cX4_entryOf 56 rfl) rfl rfl ?_
            refine kv_icmp_ne C 114 rfl 117 (kdec dk_cX4_entryOf 57 rfl) (by decide) (fun d42 => ?_) (fun d42 => ?_)
            · skip
              refine kV.sub [0, 1, 2, 3, 4, 5, 6] (L' := [(0, .ref (ρ 17)), (1, .int l1_61), (2, .int l2_61), (4, .int l4_61), (5, .int l5_61), (6, .int l6_61), (7, .int l7_61)]) rfl ?_
              exact cut117 w29 l1_61 l2_61 l4_61 l5_61 l6_61 l7_61 I31 F36 (by omega) (by omega)
            · skip
              refine kv_iload C 116 rfl 5 (kdec dk_cX4_entryOf 58 rfl) rfl ?_
              exact kv_iret C hr hlk (kdec dk_cX4_entryOf 59 rfl) ⟨_, rfl, I31, F36⟩
  refine kv_aload_n C 1 rfl 0 (kdec dk_cX4_entryOf 0 rfl) rfl rfl ?_
  refine kv_getr C 4 rfl 17 0 rfl rfl inX4 (by decide) mfl_TaleMachine_Reader_9 rfl rfl (kdec dk_cX4_entryOf 1 rfl) ?_
  obtain ⟨x43, e44⟩ : ∃ z : Int32, w 2 5 = z := ⟨_, rfl⟩
  have b45 : (0 : Int) ≤ x43.toInt ∧ x43.toInt ≤ 65535 := by rw [← e44]; exact hI 2 5
  refine kv_getN C 7 rfl 2 5 rfl rfl inX6 (by decide) mfn_TaleMachine_Reader_62 rfl rfl (kdec dk_cX4_entryOf 2 rfl) e44 ?_
  refine kv_iconst C 8 rfl 1 (kdec dk_cX4_entryOf 3 rfl) rfl ?_
  refine kv_iadd C 9 rfl (kdec dk_cX4_entryOf 4 rfl) (fun x46 q48 h47e h47 h47l h47u => ?_)
  try have h47n : x46.toInt = x43.toInt + (1 : Int32).toInt := by omega
  clear h47 q48
  refine kv_aload_n C 10 rfl 0 (kdec dk_cX4_entryOf 5 rfl) rfl rfl ?_
  refine kv_getr C 13 rfl 17 0 rfl rfl inX4 (by decide) mfl_TaleMachine_Reader_9 rfl rfl (kdec dk_cX4_entryOf 6 rfl) ?_
  refine kv_aload_n C 14 rfl 0 (kdec dk_cX4_entryOf 7 rfl) rfl rfl ?_
  refine kv_getr C 17 rfl 17 0 rfl rfl inX4 (by decide) mfl_TaleMachine_Reader_9 rfl rfl (kdec dk_cX4_entryOf 8 rfl) ?_
  refine kv_getN C 20 rfl 2 5 rfl rfl inX6 (by decide) mfn_TaleMachine_Reader_62 rfl rfl (kdec dk_cX4_entryOf 9 rfl) e44 ?_
  refine kv_callVNi (As := [.int x43]) (rest := [.int x46]) C 23 rfl 2 (k_byteAt l D τ ρ σ w x43 hI ) rfl rfl mmn_TaleMachine_Reader_33 mim_yX6_byteAt mse_yX6_byteAt mcd_yX6_byteAt min_yX6_byteAt hd_yX6_byteAt rfl rfl rfl (by decide) rfl (Nat.le_of_ble_eq_true rfl) (kdec dk_cX4_entryOf 10 rfl) (fun x53 w49 h50 => ?_)
  obtain ⟨I51, f52, p54, p55⟩ := h50
  have F56 : kF [(2, some 9)] w w49 := kF_call hF0 f52 (by decide)
  have g57 := kf_rng x53
  obtain ⟨x58, e59⟩ : ∃ z : Int32, w 2 9 = z := ⟨_, rfl⟩
  have b60 : (0 : Int) ≤ x58.toInt ∧ x58.toInt ≤ 13 := by rw [← e59]; exact hI 2 9
  obtain ⟨x61, e62⟩ : ∃ z : Int32, w49 2 9 = z := ⟨_, rfl⟩
  have b63 : (0 : Int) ≤ x61.toInt ∧ x61.toInt ≤ 13 := by rw [← e62]; exact I51 2 9
  rw [e59, e62] at p55
  refine kv_iadd C 24 rfl (kdec dk_cX4_entryOf 11 rfl) (fun x64 q66 h65e h65 h65l h65u => ?_)
  try have h65n : x64.toInt = x46.toInt + x53.toInt := by omega
  clear h65 q66
  refine kv_istore_n C 25 rfl 3 [1, 2, 3, 0] [(0, .ref (ρ 17)), (1, .int a1), (2, .int a2), (3, .int x64)] (kdec dk_cX4_entryOf 12 rfl) rfl (by decide) rfl ?_
  refine kv_aload_n C 26 rfl 0 (kdec dk_cX4_entryOf 13 rfl) rfl rfl ?_
  refine kv_getr C 29 rfl 17 0 rfl rfl inX4 (by decide) mfl_TaleMachine_Reader_9 rfl rfl (kdec dk_cX4_entryOf 14 rfl) ?_
  refine kv_iload_n C 30 rfl 3 (kdec dk_cX4_entryOf 15 rfl) rfl rfl ?_
  refine kv_callVNi (As := [.int x64]) (rest := []) C 33 rfl 2 (k_byteAt l D τ ρ σ w49 x64 I51 ) rfl rfl mmn_TaleMachine_Reader_33 mim_yX6_byteAt mse_yX6_byteAt mcd_yX6_byteAt min_yX6_byteAt hd_yX6_byteAt rfl rfl rfl (by decide) rfl (Nat.le_of_ble_eq_true rfl) (kdec dk_cX4_entryOf 16 rfl) (fun x71 w67 h68 => ?_)
  obtain ⟨I69, f70, p72, p73⟩ := h68
  have F74 : kF [(2, some 9)] w w67 := kF_call F56 f70 (by decide)
  have g75 := kf_rng x71
  obtain ⟨x76, e77⟩ : ∃ z : Int32, w67 2 9 = z := ⟨_, rfl⟩
  have b78 : (0 : Int) ≤ x76.toInt ∧ x76.toInt ≤ 13 := by rw [← e77]; exact I69 2 9
  rw [e62, e77] at p73
  refine kv_istore C 35 rfl 4 [1, 2, 3, 4, 0] [(0, .ref (ρ 17)), (1, .int a1), (2, .int a2), (3, .int x64), (4, .int x71)] (kdec dk_cX4_entryOf 17 rfl) (by decide) rfl ?_
  refine kv_aload_n C 36 rfl 0 (kdec dk_cX4_entryOf 18 rfl) rfl rfl ?_
  refine kv_getr C 39 rfl 17 0 rfl rfl inX4 (by decide) mfl_TaleMachine_Reader_9 rfl rfl (kdec dk_cX4_entryOf 19 rfl) ?_
  refine kv_iload_n C 40 rfl 3 (kdec dk_cX4_entryOf 20 rfl) rfl rfl ?_
  refine kv_iconst C 41 rfl 1 (kdec dk_cX4_entryOf 21 rfl) rfl ?_
  refine kv_iadd C 42 rfl (kdec dk_cX4_entryOf 22 rfl) (fun x79 q81 h80e h80 h80l h80u => ?_)
  try have h80n : x79.toInt = x64.toInt + (1 : Int32).toInt := by omega
  clear h80 q81
  refine kv_callVNi (As := [.int x79]) (rest := []) C 45 rfl 2 (k_wordAt l D τ ρ σ w67 x79 I69 ) rfl rfl mmn_TaleMachine_Reader_94 mim_yX6_wordAt mse_yX6_wordAt mcd_yX6_wordAt min_yX6_wordAt hd_yX6_wordAt rfl rfl rfl (by decide) rfl (Nat.le_of_ble_eq_true rfl) (kdec dk_cX4_entryOf 23 rfl) (fun x86 w82 h83 => ?_)
  obtain ⟨I84, f85, p87, p88⟩ := h83
  have F89 : kF [(2, some 9)] w w82 := kF_call F74 f85 (by decide)
  have g90 := kf_rng x86
  obtain ⟨x91, e92⟩ : ∃ z : Int32, w82 2 9 = z := ⟨_, rfl⟩
  have b93 : (0 : Int) ≤ x91.toInt ∧ x91.toInt ≤ 13 := by rw [← e92]; exact I84 2 9
  rw [e77, e92] at p88
  refine kv_sipush C 48 rfl 255 (kdec dk_cX4_entryOf 24 rfl) rfl ?_
  refine kv_min C 51 rfl mml_TaleMachine_Reader_56 jm_min_s jm_init jm_min_c (by decide) (Nat.le_of_ble_eq_true rfl) (kdec dk_cX4_entryOf 25 rfl) (fun x94 h95 => ?_)
  have g96 := kf_rng x94
  refine kv_istore C 53 rfl 5 [1, 2, 3, 4, 5, 0] [(0, .ref (ρ 17)), (1, .int a1), (2, .int a2), (3, .int x64), (4, .int x71), (5, .int x94)] (kdec dk_cX4_entryOf 26 rfl) (by decide) rfl ?_
  refine kv_iload_n C 54 rfl 3 (kdec dk_cX4_entryOf 27 rfl) rfl rfl ?_
  refine kv_iconst C 55 rfl 3 (kdec dk_cX4_entryOf 28 rfl) rfl ?_
  refine kv_iadd C 56 rfl (kdec dk_cX4_entryOf 29 rfl) (fun x97 q99 h98e h98 h98l h98u => ?_)
  try have h98n : x97.toInt = x64.toInt + (3 : Int32).toInt := by omega
  clear h98 q99
  refine kv_istore C 58 rfl 6 [1, 2, 3, 4, 5, 6, 0] [(0, .ref (ρ 17)), (1, .int a1), (2, .int a2), (3, .int x64), (4, .int x71), (5, .int x94), (6, .int x97)] (kdec dk_cX4_entryOf 30 rfl) (by decide) rfl ?_
  refine kv_iconst C 59 rfl 0 (kdec dk_cX4_entryOf 31 rfl) rfl ?_
  refine kv_istore C 61 rfl 7 [1, 2, 3, 4, 5, 6, 7, 0] [(0, .ref (ρ 17)), (1, .int a1), (2, .int a2), (3, .int x64), (4, .int x71), (5, .int x94), (6, .int x97), (7, .int 0)] (kdec dk_cX4_entryOf 32 rfl) (by decide) rfl ?_
  refine kV.sub [0, 1, 2, 4, 5, 6, 7] (L' := [(0, .ref (ρ 17)), (1, .int a1), (2, .int a2), (4, .int x71), (5, .int x94), (6, .int x97), (7, .int 0)]) rfl ?_
  exact cut61 ((((256 - (0 : Int32).toInt)) : Int).toNat + 1) w82 a1 a2 x71 x94 x97 0 I84 F89 (by omega) (by omega) (by omega)

set_option maxHeartbeats 4000000 in
set_option maxRecDepth 100000 in
theorem k_r_tellWord (l : Launch) (D : va_G) (τ : Nat → ClassId) (ρ σ : Nat → Nat) (w : kw) (a1 : Int32) (a2 : Int32) (hI : kI true w) (hp0 : 0 ≤ a1.toInt ∧ a1.toInt ≤ 8) (hp1 : a2.toInt ≤ 8) :
    kM l D τ ρ σ yX4_tellWord cX4_tellWord 3 none { frames := 5, cells := 0, slots := 0, locals := 180 } [.ref (ρ 17), .int a1, .int a2] w
      (fun o w' => o = none ∧ kI true w' ∧ kF [(2, some 9), (3, none), (17, some 4), (17, some 5), (17, some 7), (19, none)] w w') := by
  refine kM_of (own := "TaleMachine$Reader") rfl (by decide) (Nat.le_of_ble_eq_true rfl) ?_
  intro p e s m args below meth c C hr hlk
  have hF0 : kF [(2, some 9), (3, none), (17, some 4), (17, some 5), (17, some 7), (19, none)] w w := kF.rf
  have c_0 : (0 : Int32).toInt = 0 := by decide
  have c_1 : (1 : Int32).toInt = 1 := by decide
  have c_2 : (2 : Int32).toInt = 2 := by decide
  have c_3 : (3 : Int32).toInt = 3 := by decide
  have c_4 : (4 : Int32).toInt = 4 := by decide
  have c_32768 : (32768 : Int32).toInt = 32768 := by decide
  refine kV.L (L' := [(0, .ref (ρ 17)), (1, .int a1), (2, .int a2)]) rfl ?_
  have g1 := kf_rng a1
  have g2 := kf_rng a2
  refine kv_iload_n C 1 rfl 1 (kdec dk_cX4_tellWord 0 rfl) rfl rfl ?_
  refine kv_iload_n C 2 rfl 2 (kdec dk_cX4_tellWord 1 rfl) rfl rfl ?_
  refine kv_icmp_eq C 5 rfl 16 (kdec dk_cX4_tellWord 2 rfl) (by decide) (fun d3 => ?_) (fun d3 => ?_)
  · skip
    exact kv_vret C hr hlk (kdec dk_cX4_tellWord 8 rfl) ⟨rfl, hI, hF0⟩
  · skip
    refine kv_aload_n C 6 rfl 0 (kdec dk_cX4_tellWord 3 rfl) rfl rfl ?_
    obtain ⟨x4, e5⟩ : ∃ z : Int32, w 17 7 = z := ⟨_, rfl⟩
    have b6 : (-2147483648 : Int) ≤ x4.toInt ∧ x4.toInt ≤ 2147483647 := by rw [← e5]; exact hI 17 7
    refine kv_get C 9 rfl 17 7 rfl rfl inX4 (by decide) mfl_TaleMachine_Reader_42 rfl rfl (kdec dk_cX4_tellWord 4 rfl) e5 ?_
    refine kv_aload_n C 10 rfl 0 (kdec dk_cX4_tellWord 5 rfl) rfl rfl ?_
    obtain ⟨x7, e8⟩ : ∃ z : Int32, w 17 6 = z := ⟨_, rfl⟩
    have b9 : (-2147483648 : Int) ≤ x7.toInt ∧ x7.toInt ≤ 2147483647 := by rw [← e8]; exact hI 17 6
    refine kv_get C 13 rfl 17 6 rfl rfl inX4 (by decide) mfl_TaleMachine_Reader_39 rfl rfl (kdec dk_cX4_tellWord 6 rfl) e8 ?_
    refine kv_icmp_lt C 16 rfl 17 (kdec dk_cX4_tellWord 7 rfl) (by decide) (fun d10 => ?_) (fun d10 => ?_)
    · skip
      refine kv_aload_n C 18 rfl 0 (kdec dk_cX4_tellWord 9 rfl) rfl rfl ?_
      refine kv_iload_n C 19 rfl 1 (kdec dk_cX4_tellWord 10 rfl) rfl rfl ?_
      refine kv_iload_n C 20 rfl 2 (kdec dk_cX4_tellWord 11 rfl) rfl rfl ?_
      refine kv_callVv (As := [.int a1, .int a2]) (rest := []) C 23 rfl 17 (k_r_spell l D τ ρ σ w a1 a2 hI (by omega) (by omega)) rfl rfl mml_TaleMachine_Reader_68 mim_yX4_spell mse_yX4_spell mcd_yX4_spell min_yX4_spell hd_yX4_spell rfl rfl rfl (by decide) rfl (Nat.le_of_ble_eq_true rfl) (kdec dk_cX4_tellWord 12 rfl) (fun w11 h12 => ?_)
      obtain ⟨I13, f14⟩ := h12
      have F16 : kF [(2, some 9), (3, none), (17, some 4), (17, some 5), (17, some 7), (19, none)] w w11 := kF_call hF0 f14 (by decide)
      refine kv_aload_n C 24 rfl 0 (kdec dk_cX4_tellWord 13 rfl) rfl rfl ?_
      refine kv_getr C 27 rfl 17 0 rfl rfl inX4 (by decide) mfl_TaleMachine_Reader_9 rfl rfl (kdec dk_cX4_tellWord 14 rfl) ?_
      refine kv_aload_n C 28 rfl 0 (kdec dk_cX4_tellWord 15 rfl) rfl rfl ?_
      obtain ⟨x17, e18⟩ : ∃ z : Int32, w 17 5 = z := ⟨_, rfl⟩
      have b19 : (-2147483648 : Int) ≤ x17.toInt ∧ x17.toInt ≤ 2147483647 := by rw [← e18]; exact hI 17 5
      have e20 : w11 17 5 = x17 := ((f14 17 5 rfl : w11 17 5 = w 17 5).trans e18)
      refine kv_get C 31 rfl 17 5 rfl rfl inX4 (by decide) mfl_TaleMachine_Reader_30 rfl rfl (kdec dk_cX4_tellWord 16 rfl) e20 ?_
      refine kv_aload_n C 32 rfl 0 (kdec dk_cX4_tellWord 17 rfl) rfl rfl ?_
      refine kv_aload_n C 33 rfl 0 (kdec dk_cX4_tellWord 18 rfl) rfl rfl ?_
      refine kv_iconst C 34 rfl 0 (kdec dk_cX4_tellWord 19 rfl) rfl ?_
      refine kv_callVi (As := [.int 0]) (rest := [.ref (ρ 17), .int x17, .ref (ρ 2)]) C 37 rfl 17 (k_r_spelledWord l D τ ρ σ w11 0 I13 (by omega)) rfl rfl mml_TaleMachine_Reader_71 mim_yX4_spelledWord mse_yX4_spelledWord mcd_yX4_spelledWord min_yX4_spelledWord hd_yX4_spelledWord rfl rfl rfl (by decide) rfl (Nat.le_of_ble_eq_true rfl) (kdec dk_cX4_tellWord 20 rfl) (fun x25 w21 h22 => ?_)
      obtain ⟨I23, f24⟩ := h22
      have F26 : kF [(2, some 9), (3, none), (17, some 4), (17, some 5), (17, some 7), (19, none)] w w21 := kF_call F16 f24 (by decide)
      have g27 := kf_rng x25
      refine kv_aload_n C 38 rfl 0 (kdec dk_cX4_tellWord 21 rfl) rfl rfl ?_
      refine kv_iconst C 39 rfl 3 (kdec dk_cX4_tellWord 22 rfl) rfl ?_
      refine kv_callVi (As := [.int 3]) (rest := [.int x25, .ref (ρ 17), .int x17, .ref (ρ 2)]) C 42 rfl 17 (k_r_spelledWord l D τ ρ σ w21 3 I23 (by omega)) rfl rfl mml_TaleMachine_Reader_71 mim_yX4_spelledWord mse_yX4_spelledWord mcd_yX4_spelledWord min_yX4_spelledWord hd_yX4_spelledWord rfl rfl rfl (by decide) rfl (Nat.le_of_ble_eq_true rfl) (kdec dk_cX4_tellWord 23 rfl) (fun x32 w28 h29 => ?_)
      obtain ⟨I30, f31⟩ := h29
      have F33 : kF [(2, some 9), (3, none), (17, some 4), (17, some 5), (17, some 7), (19, none)] w w28 := kF_call F26 f31 (by decide)
      have g34 := kf_rng x32
      refine kv_ldc C 44 rfl 32768 (kdec dk_cX4_tellWord 24 rfl) mco_TaleMachine_Reader_74 ?_
      refine kv_ior C 45 rfl (kdec dk_cX4_tellWord 25 rfl) (fun x35 h36e h36l h36u => ?_)
      refine kv_callVi (As := [.int x25, .int x35]) (rest := [.int x17, .ref (ρ 2)]) C 48 rfl 17 (k_r_entryOf l D τ ρ σ w28 x25 x35 I30 ) rfl rfl mml_TaleMachine_Reader_75 mim_yX4_entryOf mse_yX4_entryOf mcd_yX4_entryOf min_yX4_entryOf hd_yX4_entryOf rfl rfl rfl (by decide) rfl (Nat.le_of_ble_eq_true rfl) (kdec dk_cX4_tellWord 26 rfl) (fun x41 w37 h38 => ?_)
      obtain ⟨I39, f40⟩ := h38
      have F42 : kF [(2, some 9), (3, none), (17, some 4), (17, some 5), (17, some 7), (19, none)] w w37 := kF_call F33 f40 (by decide)
      have g43 := kf_rng x41
      refine kv_callVNv (As := [.int x17, .int x41]) (rest := []) C 51 rfl 2 (k_putWord l D τ ρ σ w37 x17 x41 I39 ) rfl rfl mmn_TaleMachine_Reader_78 mim_yX6_putWord mse_yX6_putWord mcd_yX6_putWord min_yX6_putWord hd_yX6_putWord rfl rfl rfl (by decide) rfl (Nat.le_of_ble_eq_true rfl) (kdec dk_cX4_tellWord 27 rfl) (fun w44 h45 => ?_)
      obtain ⟨I46, f47, p49⟩ := h45
      have F50 : kF [(2, some 9), (3, none), (17, some 4), (17, some 5), (17, some 7), (19, none)] w w44 := kF_call F42 f47 (by decide)
      obtain ⟨x51, e52⟩ : ∃ z : Int32, w37 2 9 = z := ⟨_, rfl⟩
      have b53 : (0 : Int) ≤ x51.toInt ∧ x51.toInt ≤ 13 := by rw [← e52]; exact I39 2 9
      obtain ⟨x54, e55⟩ : ∃ z : Int32, w44 2 9 = z := ⟨_, rfl⟩
      have b56 : (0 : Int) ≤ x54.toInt ∧ x54.toInt ≤ 13 := by rw [← e55]; exact I46 2 9
      rw [e52, e55] at p49
      refine kv_aload_n C 52 rfl 0 (kdec dk_cX4_tellWord 28 rfl) rfl rfl ?_
      refine kv_getr C 55 rfl 17 0 rfl rfl inX4 (by decide) mfl_TaleMachine_Reader_9 rfl rfl (kdec dk_cX4_tellWord 29 rfl) ?_
      refine kv_aload_n C 56 rfl 0 (kdec dk_cX4_tellWord 30 rfl) rfl rfl ?_
      have e57 : w44 17 5 = x17 := ((f47 17 5 rfl : w44 17 5 = w37 17 5).trans ((f40 17 5 rfl : w37 17 5 = w28 17 5).trans ((f31 17 5 rfl : w28 17 5 = w21 17 5).trans ((f24 17 5 rfl : w21 17 5 = w11 17 5).trans e20))))
      refine kv_get C 59 rfl 17 5 rfl rfl inX4 (by decide) mfl_TaleMachine_Reader_30 rfl rfl (kdec dk_cX4_tellWord 31 rfl) e57 ?_
      refine kv_iconst C 60 rfl 2 (kdec dk_cX4_tellWord 32 rfl) rfl ?_
      refine kv_iadd C 61 rfl (kdec dk_cX4_tellWord 33 rfl) (fun x58 q60 h59e h59 h59l h59u => ?_)
      try have h59n : x58.toInt = x17.toInt + (2 : Int32).toInt := by omega
      clear h59 q60
      refine kv_iload_n C 62 rfl 2 (kdec dk_cX4_tellWord 34 rfl) rfl rfl ?_
      refine kv_iload_n C 63 rfl 1 (kdec dk_cX4_tellWord 35 rfl) rfl rfl ?_
      refine kv_isub C 64 rfl (kdec dk_cX4_tellWord 36 rfl) (fun x61 q63 h62e h62 h62l h62u => ?_)
      try have h62n : x61.toInt = a2.toInt - a1.toInt := by omega
      clear h62 q63
      refine kv_callVNv (As := [.int x58, .int x61]) (rest := []) C 67 rfl 2 (k_putByte l D τ ρ σ w44 x58 x61 I46 ) rfl rfl mmn_TaleMachine_Reader_53 mim_yX6_putByte mse_yX6_putByte mcd_yX6_putByte min_yX6_putByte hd_yX6_putByte rfl rfl rfl (by decide) rfl (Nat.le_of_ble_eq_true rfl) (kdec dk_cX4_tellWord 37 rfl) (fun w64 h65 => ?_)
      obtain ⟨I66, f67, p69⟩ := h65
      have F70 : kF [(2, some 9), (3, none), (17, some 4), (17, some 5), (17, some 7), (19, none)] w w64 := kF_call F50 f67 (by decide)
      obtain ⟨x71, e72⟩ : ∃ z : Int32, w64 2 9 = z := ⟨_, rfl⟩
      have b73 : (0 : Int) ≤ x71.toInt ∧ x71.toInt ≤ 13 := by rw [← e72]; exact I66 2 9
      rw [e55, e72] at p69
      refine kv_aload_n C 68 rfl 0 (kdec dk_cX4_tellWord 38 rfl) rfl rfl ?_
      refine kv_getr C 71 rfl 17 0 rfl rfl inX4 (by decide) mfl_TaleMachine_Reader_9 rfl rfl (kdec dk_cX4_tellWord 39 rfl) ?_
      refine kv_aload_n C 72 rfl 0 (kdec dk_cX4_tellWord 40 rfl) rfl rfl ?_
      have e74 : w64 17 5 = x17 := ((f67 17 5 rfl : w64 17 5 = w44 17 5).trans e57)
      refine kv_get C 75 rfl 17 5 rfl rfl inX4 (by decide) mfl_TaleMachine_Reader_30 rfl rfl (kdec dk_cX4_tellWord 41 rfl) e74 ?_
      refine kv_iconst C 76 rfl 3 (kdec dk_cX4_tellWord 42 rfl) rfl ?_
      refine kv_iadd C 77 rfl (kdec dk_cX4_tellWord 43 rfl) (fun x75 q77 h76e h76 h76l h76u => ?_)
      try have h76n : x75.toInt = x17.toInt + (3 : Int32).toInt := by omega
      clear h76 q77
      refine kv_iload_n C 78 rfl 1 (kdec dk_cX4_tellWord 44 rfl) rfl rfl ?_
      refine kv_iconst C 79 rfl 1 (kdec dk_cX4_tellWord 45 rfl) rfl ?_
      refine kv_iadd C 80 rfl (kdec dk_cX4_tellWord 46 rfl) (fun x78 q80 h79e h79 h79l h79u => ?_)
      try have h79n : x78.toInt = a1.toInt + (1 : Int32).toInt := by omega
      clear h79 q80
      refine kv_callVNv (As := [.int x75, .int x78]) (rest := []) C 83 rfl 2 (k_putByte l D τ ρ σ w64 x75 x78 I66 ) rfl rfl mmn_TaleMachine_Reader_53 mim_yX6_putByte mse_yX6_putByte mcd_yX6_putByte min_yX6_putByte hd_yX6_putByte rfl rfl rfl (by decide) rfl (Nat.le_of_ble_eq_true rfl) (kdec dk_cX4_tellWord 47 rfl) (fun w81 h82 => ?_)
      obtain ⟨I83, f84, p86⟩ := h82
      have F87 : kF [(2, some 9), (3, none), (17, some 4), (17, some 5), (17, some 7), (19, none)] w w81 := kF_call F70 f84 (by decide)
      obtain ⟨x88, e89⟩ : ∃ z : Int32, w81 2 9 = z := ⟨_, rfl⟩
      have b90 : (0 : Int) ≤ x88.toInt ∧ x88.toInt ≤ 13 := by rw [← e89]; exact I83 2 9
      rw [e72, e89] at p86
      refine kv_aload_n C 84 rfl 0 (kdec dk_cX4_tellWord 48 rfl) rfl rfl ?_
      refine kv_dup C 85 rfl (kdec dk_cX4_tellWord 49 rfl) rfl ?_
      have e91 : w81 17 5 = x17 := ((f84 17 5 rfl : w81 17 5 = w64 17 5).trans e74)
      refine kv_get C 88 rfl 17 5 rfl rfl inX4 (by decide) mfl_TaleMachine_Reader_30 rfl rfl (kdec dk_cX4_tellWord 50 rfl) e91 ?_
      refine kv_iconst C 89 rfl 4 (kdec dk_cX4_tellWord 51 rfl) rfl ?_
      refine kv_iadd C 90 rfl (kdec dk_cX4_tellWord 52 rfl) (fun x92 q94 h93e h93 h93l h93u => ?_)
      try have h93n : x92.toInt = x17.toInt + (4 : Int32).toInt := by omega
      clear h93 q94
      refine kv_put C 93 rfl 17 5 rfl rfl inX4 (by decide) mfl_TaleMachine_Reader_30 rfl tyX4 tyX4_ok nmX4 rfl rfl (kdec dk_cX4_tellWord 53 rfl) rfl rfl (fun w95 u96 => ?_)
      have I97 : kI true w95 := kI_put u96 I83 (kf_rng _).1 (kf_rng _).2
      have F98 : kF [(2, some 9), (3, none), (17, some 4), (17, some 5), (17, some 7), (19, none)] w w95 := kF_put u96 F87 rfl
      refine kv_aload_n C 94 rfl 0 (kdec dk_cX4_tellWord 54 rfl) rfl rfl ?_
      refine kv_dup C 95 rfl (kdec dk_cX4_tellWord 55 rfl) rfl ?_
      have e99 : w95 17 7 = x4 := ((kup_ne u96 rfl : w95 17 7 = w81 17 7).trans ((f84 17 7 rfl : w81 17 7 = w64 17 7).trans ((f67 17 7 rfl : w64 17 7 = w44 17 7).trans ((f47 17 7 rfl : w44 17 7 = w37 17 7).trans ((f40 17 7 rfl : w37 17 7 = w28 17 7).trans ((f31 17 7 rfl : w28 17 7 = w21 17 7).trans ((f24 17 7 rfl : w21 17 7 = w11 17 7).trans ((f14 17 7 rfl : w11 17 7 = w 17 7).trans e5))))))))
      refine kv_get C 98 rfl 17 7 rfl rfl inX4 (by decide) mfl_TaleMachine_Reader_42 rfl rfl (kdec dk_cX4_tellWord 56 rfl) e99 ?_
      refine kv_iconst C 99 rfl 1 (kdec dk_cX4_tellWord 57 rfl) rfl ?_
      refine kv_iadd C 100 rfl (kdec dk_cX4_tellWord 58 rfl) (fun x100 q102 h101e h101 h101l h101u => ?_)
      try have h101n : x100.toInt = x4.toInt + (1 : Int32).toInt := by omega
      clear h101 q102
      refine kv_put C 103 rfl 17 7 rfl rfl inX4 (by decide) mfl_TaleMachine_Reader_42 rfl tyX4 tyX4_ok nmX4 rfl rfl (kdec dk_cX4_tellWord 59 rfl) rfl rfl (fun w103 u104 => ?_)
      have I105 : kI true w103 := kI_put u104 I97 (kf_rng _).1 (kf_rng _).2
      have F106 : kF [(2, some 9), (3, none), (17, some 4), (17, some 5), (17, some 7), (19, none)] w w103 := kF_put u104 F98 rfl
      exact kv_vret C hr hlk (kdec dk_cX4_tellWord 60 rfl) ⟨rfl, I105, F106⟩
    · skip
      exact kv_vret C hr hlk (kdec dk_cX4_tellWord 8 rfl) ⟨rfl, hI, hF0⟩

set_option maxHeartbeats 4000000 in
set_option maxRecDepth 100000 in
theorem k_r_part (l : Launch) (D : va_G) (τ : Nat → ClassId) (ρ σ : Nat → Nat) (w : kw) (a1 : Int32) (a2 : Int32) (hI : kI true w)  :
    kM l D τ ρ σ yX4_part cX4_part 7 (some .int) { frames := 6, cells := 0, slots := 0, locals := 216 } [.ref (ρ 17), .int a1, .int a2] w
      (fun o w' => ∃ r : Int32, o = some (.int r) ∧ kI true w' ∧ kF [(2, some 9), (3, none), (17, some 3), (17, some 4), (17, some 5), (17, some 6), (17, some 7), (19, none)] w w') := by
  refine kM_of (own := "TaleMachine$Reader") rfl (by decide) (Nat.le_of_ble_eq_true rfl) ?_
  intro p e s m args below meth c C hr hlk
  have hF0 : kF [(2, some 9), (3, none), (17, some 3), (17, some 4), (17, some 5), (17, some 6), (17, some 7), (19, none)] w w := kF.rf
  have c_0 : (0 : Int32).toInt = 0 := by decide
  have c_1 : (1 : Int32).toInt = 1 := by decide
  have c_2 : (2 : Int32).toInt = 2 := by decide
  have c_32 : (32 : Int32).toInt = 32 := by decide
  refine kV.L (L' := [(0, .ref (ρ 17)), (1, .int a1), (2, .int a2)]) rfl ?_
  have g1 := kf_rng a1
  have g2 := kf_rng a2
  have cut131 : ∀ (w_131 : kw) (l2_131 l3_131 : Int32), kI true w_131 → kF [(2, some 9), (3, none), (17, some 3), (17, some 4), (17, some 5), (17, some 6), (17, some 7), (19, none)] w w_131 → (0 ≤ l3_131.toInt ∧ l3_131.toInt ≤ 8) → kV p l e { frames := 6, cells := 0, slots := 0, locals := 216 } s m args below meth c (kQ below args s D τ ρ (fun o w' => ∃ r : Int32, o = some (.int r) ∧ kI true w' ∧ kF [(2, some 9), (3, none), (17, some 3), (17, some 4), (17, some 5), (17, some 6), (17, some 7), (19, none)] w w')) 7 D τ ρ 131 [(0, .ref (ρ 17)), (2, .int l2_131), (3, .int l3_131)] [] w_131 := by
    intro w_131 l2_131 l3_131 I_131 F_131 k131_0
    have gl2_131 := kf_rng l2_131
    have gl3_131 := kf_rng l3_131
    refine kv_aload_n C 132 rfl 0 (kdec dk_cX4_part 70 rfl) rfl rfl ?_
    refine kv_iload_n C 133 rfl 2 (kdec dk_cX4_part 71 rfl) rfl rfl ?_
    refine kv_aload_n C 134 rfl 0 (kdec dk_cX4_part 72 rfl) rfl rfl ?_
    obtain ⟨x3, e4⟩ : ∃ z : Int32, w_131 17 3 = z := ⟨_, rfl⟩
    have b5 : (0 : Int) ≤ x3.toInt ∧ x3.toInt ≤ 8 := by rw [← e4]; exact I_131 17 3
    refine kv_get C 137 rfl 17 3 rfl rfl inX4 (by decide) mfl_TaleMachine_Reader_22 rfl rfl (kdec dk_cX4_part 73 rfl) e4 ?_
    refine kv_callVv (As := [.int l3_131, .int x3]) (rest := []) C 140 rfl 17 (k_r_tellWord l D τ ρ σ w_131 l3_131 x3 I_131 (by omega) (by omega)) rfl rfl mml_TaleMachine_Reader_49 mim_yX4_tellWord mse_yX4_tellWord mcd_yX4_tellWord min_yX4_tellWord hd_yX4_tellWord rfl rfl rfl (by decide) rfl (Nat.le_of_ble_eq_true rfl) (kdec dk_cX4_part 74 rfl) (fun w6 h7 => ?_)
    obtain ⟨I8, f9⟩ := h7
    have F11 : kF [(2, some 9), (3, none), (17, some 3), (17, some 4), (17, some 5), (17, some 6), (17, some 7), (19, none)] w w6 := kF_call F_131 f9 (by decide)
    refine kv_aload_n C 141 rfl 0 (kdec dk_cX4_part 75 rfl) rfl rfl ?_
    refine kv_getr C 144 rfl 17 0 rfl rfl inX4 (by decide) mfl_TaleMachine_Reader_9 rfl rfl (kdec dk_cX4_part 76 rfl) ?_
    refine kv_iload_n C 145 rfl 1 (kdec dk_cX4_part 77 rfl) rfl rfl ?_
    refine kv_iconst C 146 rfl 1 (kdec dk_cX4_part 78 rfl) rfl ?_
    refine kv_iadd C 147 rfl (kdec dk_cX4_part 79 rfl) (fun x12 q14 h13e h13 h13l h13u => ?_)
    try have h13n : x12.toInt = l2_131.toInt + (1 : Int32).toInt := by omega
    clear h13 q14
    refine kv_aload_n C 148 rfl 0 (kdec dk_cX4_part 80 rfl) rfl rfl ?_
    obtain ⟨x15, e16⟩ : ∃ z : Int32, w6 17 7 = z := ⟨_, rfl⟩
    have b17 : (-2147483648 : Int) ≤ x15.toInt ∧ x15.toInt ≤ 2147483647 := by rw [← e16]; exact I8 17 7
    refine kv_get C 151 rfl 17 7 rfl rfl inX4 (by decide) mfl_TaleMachine_Reader_42 rfl rfl (kdec dk_cX4_part 81 rfl) e16 ?_
    refine kv_callVNv (As := [.int x12, .int x15]) (rest := []) C 154 rfl 2 (k_putByte l D τ ρ σ w6 x12 x15 I8 ) rfl rfl mmn_TaleMachine_Reader_53 mim_yX6_putByte mse_yX6_putByte mcd_yX6_putByte min_yX6_putByte hd_yX6_putByte rfl rfl rfl (by decide) rfl (Nat.le_of_ble_eq_true rfl) (kdec dk_cX4_part 82 rfl) (fun w18 h19 => ?_)
    obtain ⟨I20, f21, p23⟩ := h19
    have F24 : kF [(2, some 9), (3, none), (17, some 3), (17, some 4), (17, some 5), (17, some 6), (17, some 7), (19, none)] w w18 := kF_call F11 f21 (by decide)
    obtain ⟨x25, e26⟩ : ∃ z : Int32, w6 2 9 = z := ⟨_, rfl⟩
    have b27 : (0 : Int) ≤ x25.toInt ∧ x25.toInt ≤ 13 := by rw [← e26]; exact I8 2 9
    obtain ⟨x28, e29⟩ : ∃ z : Int32, w18 2 9 = z := ⟨_, rfl⟩
    have b30 : (0 : Int) ≤ x28.toInt ∧ x28.toInt ≤ 13 := by rw [← e29]; exact I20 2 9
    rw [e26, e29] at p23
    refine kv_aload_n C 155 rfl 0 (kdec dk_cX4_part 83 rfl) rfl rfl ?_
    have e31 : w18 17 7 = x15 := ((f21 17 7 rfl : w18 17 7 = w6 17 7).trans e16)
    refine kv_get C 158 rfl 17 7 rfl rfl inX4 (by decide) mfl_TaleMachine_Reader_42 rfl rfl (kdec dk_cX4_part 84 rfl) e31 ?_
    exact kv_iret C hr hlk (kdec dk_cX4_part 85 rfl) ⟨_, rfl, I20, F24⟩
  have cut34 : ∀ (n_34 : Nat) (w_34 : kw) (l2_34 l3_34 l4_34 : Int32), kI true w_34 → kF [(2, some 9), (3, none), (17, some 3), (17, some 4), (17, some 5), (17, some 6), (17, some 7), (19, none)] w w_34 → (0 ≤ l3_34.toInt ∧ l3_34.toInt ≤ 8) → (0 ≤ l4_34.toInt ∧ l4_34.toInt ≤ 8) → ((9 - l4_34.toInt) : Int) < (n_34 : Int) → kV p l e { frames := 6, cells := 0, slots := 0, locals := 216 } s m args below meth c (kQ below args s D τ ρ (fun o w' => ∃ r : Int32, o = some (.int r) ∧ kI true w' ∧ kF [(2, some 9), (3, none), (17, some 3), (17, some 4), (17, some 5), (17, some 6), (17, some 7), (19, none)] w w')) 7 D τ ρ 34 [(0, .ref (ρ 17)), (2, .int l2_34), (3, .int l3_34), (4, .int l4_34)] [] w_34 := by
    intro n_34
    induction n_34 with
    | zero => intro w_34 l2_34 l3_34 l4_34 I_34 F_34 k34_0 k34_1 hmz; exfalso; omega
    | succ n_34 ih34 =>
      intro w_34 l2_34 l3_34 l4_34 I_34 F_34 k34_0 k34_1 hm34
      have gl2_34 := kf_rng l2_34
      have gl3_34 := kf_rng l3_34
      have gl4_34 := kf_rng l4_34
      have cut125 : ∀ (w_125 : kw) (l2_125 l3_125 l4_125 : Int32), kI true w_125 → kF [(2, some 9), (3, none), (17, some 3), (17, some 4), (17, some 5), (17, some 6), (17, some 7), (19, none)] w w_125 → (0 ≤ l3_125.toInt ∧ l3_125.toInt ≤ 8) → (0 ≤ l4_125.toInt ∧ l4_125.toInt < 8 ∧ l4_125.toInt = l4_34.toInt) → kV p l e { frames := 6, cells := 0, slots := 0, locals := 216 } s m args below meth c (kQ below args s D τ ρ (fun o w' => ∃ r : Int32, o = some (.int r) ∧ kI true w' ∧ kF [(2, some 9), (3, none), (17, some 3), (17, some 4), (17, some 5), (17, some 6), (17, some 7), (19, none)] w w')) 7 D τ ρ 125 [(0, .ref (ρ 17)), (2, .int l2_125), (3, .int l3_125), (4, .int l4_125)] [] w_125 := by
        intro w_125 l2_125 l3_125 l4_125 I_125 F_125 k125_0 k125_1
        have gl2_125 := kf_rng l2_125
        have gl3_125 := kf_rng l3_125
        have gl4_125 := kf_rng l4_125
        refine kv_iinc C 128 rfl 4 3 [1, 2, 3, 0] (fun v9 => [(0, .ref (ρ 17)), (2, .int l2_125), (3, .int l3_125), (4, .int v9)]) (kdec dk_cX4_part 68 rfl) rfl (by decide) (fun _ => rfl) 1 rfl (fun x32 q33 h34e h34 h34l h34u => ?_)
        try have h34n : x32.toInt = l4_125.toInt + 1 := by omega
        clear h34 q33
        refine kv_goto C 34 (kdec dk_cX4_part 69 rfl) (by decide) ?_
        exact ih34 w_125 l2_125 l3_125 x32 I_125 F_125 (by omega) (by omega) (by omega)
      have cut110 : ∀ (w_110 : kw) (l2_110 l3_110 l4_110 l6_110 : Int32), kI true w_110 → kF [(2, some 9), (3, none), (17, some 3), (17, some 4), (17, some 5), (17, some 6), (17, some 7), (19, none)] w w_110 → (0 ≤ l3_110.toInt ∧ l3_110.toInt ≤ 8) → (0 ≤ l4_110.toInt ∧ l4_110.toInt < 8 ∧ l4_110.toInt = l4_34.toInt) → kV p l e { frames := 6, cells := 0, slots := 0, locals := 216 } s m args below meth c (kQ below args s D τ ρ (fun o w' => ∃ r : Int32, o = some (.int r) ∧ kI true w' ∧ kF [(2, some 9), (3, none), (17, some 3), (17, some 4), (17, some 5), (17, some 6), (17, some 7), (19, none)] w w')) 7 D τ ρ 110 [(0, .ref (ρ 17)), (2, .int l2_110), (3, .int l3_110), (4, .int l4_110), (6, .int l6_110)] [] w_110 := by
        intro w_110 l2_110 l3_110 l4_110 l6_110 I_110 F_110 k110_0 k110_1
        have gl2_110 := kf_rng l2_110
        have gl3_110 := kf_rng l3_110
        have gl4_110 := kf_rng l4_110
        have gl6_110 := kf_rng l6_110
        refine kv_iload C 112 rfl 4 (kdec dk_cX4_part 60 rfl) rfl ?_
        refine kv_if_eq C 115 rfl 125 (kdec dk_cX4_part 61 rfl) (by decide) (fun d35 => ?_) (fun d35 => ?_)
        · skip
          refine kV.sub [0, 1, 2, 3] (L' := [(0, .ref (ρ 17)), (2, .int l2_110), (3, .int l3_110), (4, .int l4_110)]) rfl ?_
          exact cut125 w_110 l2_110 l3_110 l4_110 I_110 F_110 (by omega) (by omega)
        · skip
          refine kv_aload_n C 116 rfl 0 (kdec dk_cX4_part 62 rfl) rfl rfl ?_
          refine kv_iload C 118 rfl 3 (kdec dk_cX4_part 63 rfl) rfl ?_
          refine kv_iload C 120 rfl 3 (kdec dk_cX4_part 64 rfl) rfl ?_
          refine kv_iconst C 121 rfl 1 (kdec dk_cX4_part 65 rfl) rfl ?_
          refine kv_iadd C 122 rfl (kdec dk_cX4_part 66 rfl) (fun x36 q38 h37e h37 h37l h37u => ?_)
          try have h37n : x36.toInt = l4_110.toInt + (1 : Int32).toInt := by omega
          clear h37 q38
          refine kv_callVv (As := [.int l4_110, .int x36]) (rest := []) C 125 rfl 17 (k_r_tellWord l D τ ρ σ w_110 l4_110 x36 I_110 (by omega) (by omega)) rfl rfl mml_TaleMachine_Reader_49 mim_yX4_tellWord mse_yX4_tellWord mcd_yX4_tellWord min_yX4_tellWord hd_yX4_tellWord rfl rfl rfl (by decide) rfl (Nat.le_of_ble_eq_true rfl) (kdec dk_cX4_part 67 rfl) (fun w39 h40 => ?_)
          obtain ⟨I41, f42⟩ := h40
          have F44 : kF [(2, some 9), (3, none), (17, some 3), (17, some 4), (17, some 5), (17, some 6), (17, some 7), (19, none)] w w39 := kF_call F_110 f42 (by decide)
          refine kV.sub [0, 1, 2, 3] (L' := [(0, .ref (ρ 17)), (2, .int l2_110), (3, .int l3_110), (4, .int l4_110)]) rfl ?_
          exact cut125 w39 l2_110 l3_110 l4_110 I41 F44 (by omega) (by omega)
      have cut98 : ∀ (w_98 : kw) (l2_98 l3_98 l4_98 l6_98 : Int32), kI true w_98 → kF [(2, some 9), (3, none), (17, some 3), (17, some 4), (17, some 5), (17, some 6), (17, some 7), (19, none)] w w_98 → (0 ≤ l3_98.toInt ∧ l3_98.toInt ≤ 8) → (0 ≤ l4_98.toInt ∧ l4_98.toInt < 8 ∧ l4_98.toInt = l4_34.toInt) → kV p l e { frames := 6, cells := 0, slots := 0, locals := 216 } s m args below meth c (kQ below args s D τ ρ (fun o w' => ∃ r : Int32, o = some (.int r) ∧ kI true w' ∧ kF [(2, some 9), (3, none), (17, some 3), (17, some 4), (17, some 5), (17, some 6), (17, some 7), (19, none)] w w')) 7 D τ ρ 98 [(0, .ref (ρ 17)), (2, .int l2_98), (3, .int l3_98), (4, .int l4_98), (6, .int l6_98)] [] w_98 := by
        intro w_98 l2_98 l3_98 l4_98 l6_98 I_98 F_98 k98_0 k98_1
        have gl2_98 := kf_rng l2_98
        have gl3_98 := kf_rng l3_98
        have gl4_98 := kf_rng l4_98
        have gl6_98 := kf_rng l6_98
        refine kv_aload_n C 99 rfl 0 (kdec dk_cX4_part 52 rfl) rfl rfl ?_
        refine kv_iload_n C 100 rfl 2 (kdec dk_cX4_part 53 rfl) rfl rfl ?_
        refine kv_iload C 102 rfl 3 (kdec dk_cX4_part 54 rfl) rfl ?_
        refine kv_callVv (As := [.int l3_98, .int l4_98]) (rest := []) C 105 rfl 17 (k_r_tellWord l D τ ρ σ w_98 l3_98 l4_98 I_98 (by omega) (by omega)) rfl rfl mml_TaleMachine_Reader_49 mim_yX4_tellWord mse_yX4_tellWord mcd_yX4_tellWord min_yX4_tellWord hd_yX4_tellWord rfl rfl rfl (by decide) rfl (Nat.le_of_ble_eq_true rfl) (kdec dk_cX4_part 55 rfl) (fun w45 h46 => ?_)
        obtain ⟨I47, f48⟩ := h46
        have F50 : kF [(2, some 9), (3, none), (17, some 3), (17, some 4), (17, some 5), (17, some 6), (17, some 7), (19, none)] w w45 := kF_call F_98 f48 (by decide)
        refine kv_iload C 107 rfl 3 (kdec dk_cX4_part 56 rfl) rfl ?_
        refine kv_iconst C 108 rfl 1 (kdec dk_cX4_part 57 rfl) rfl ?_
        refine kv_iadd C 109 rfl (kdec dk_cX4_part 58 rfl) (fun x51 q53 h52e h52 h52l h52u => ?_)
        try have h52n : x51.toInt = l4_98.toInt + (1 : Int32).toInt := by omega
        clear h52 q53
        refine kv_istore_n C 110 rfl 3 [1, 2, 0, 3, 4] [(0, .ref (ρ 17)), (2, .int l2_98), (3, .int x51), (4, .int l4_98), (6, .int l6_98)] (kdec dk_cX4_part 59 rfl) rfl (by decide) rfl ?_
        exact cut110 w45 l2_98 x51 l4_98 l6_98 I47 F50 (by omega) (by omega)
      have cut86 : ∀ (w_86 : kw) (l2_86 l3_86 l4_86 l5_86 s0_86 : Int32), kI true w_86 → kF [(2, some 9), (3, none), (17, some 3), (17, some 4), (17, some 5), (17, some 6), (17, some 7), (19, none)] w w_86 → (0 ≤ l3_86.toInt ∧ l3_86.toInt ≤ 8) → (0 ≤ l4_86.toInt ∧ l4_86.toInt < 8 ∧ l4_86.toInt = l4_34.toInt) → kV p l e { frames := 6, cells := 0, slots := 0, locals := 216 } s m args below meth c (kQ below args s D τ ρ (fun o w' => ∃ r : Int32, o = some (.int r) ∧ kI true w' ∧ kF [(2, some 9), (3, none), (17, some 3), (17, some 4), (17, some 5), (17, some 6), (17, some 7), (19, none)] w w')) 7 D τ ρ 86 [(0, .ref (ρ 17)), (2, .int l2_86), (3, .int l3_86), (4, .int l4_86), (5, .int l5_86)] [.int s0_86] w_86 := by
        intro w_86 l2_86 l3_86 l4_86 l5_86 s0_86 I_86 F_86 k86_0 k86_1
        have gl2_86 := kf_rng l2_86
        have gl3_86 := kf_rng l3_86
        have gl4_86 := kf_rng l4_86
        have gl5_86 := kf_rng l5_86
        have gs0_86 := kf_rng s0_86
        refine kv_istore C 88 rfl 6 [1, 2, 3, 4, 5, 0] [(0, .ref (ρ 17)), (2, .int l2_86), (3, .int l3_86), (4, .int l4_86), (5, .int l5_86), (6, .int s0_86)] (kdec dk_cX4_part 47 rfl) (by decide) rfl ?_
        refine kv_iload C 90 rfl 4 (kdec dk_cX4_part 48 rfl) rfl ?_
        refine kv_if_ne C 93 rfl 98 (kdec dk_cX4_part 49 rfl) (by decide) (fun d54 => ?_) (fun d54 => ?_)
        · skip
          refine kV.sub [0, 1, 2, 3, 5] (L' := [(0, .ref (ρ 17)), (2, .int l2_86), (3, .int l3_86), (4, .int l4_86), (6, .int s0_86)]) rfl ?_
          exact cut98 w_86 l2_86 l3_86 l4_86 s0_86 I_86 F_86 (by omega) (by omega)
        · skip
          refine kv_iload C 95 rfl 5 (kdec dk_cX4_part 50 rfl) rfl ?_
          refine kv_if_eq C 98 rfl 110 (kdec dk_cX4_part 51 rfl) (by decide) (fun d55 => ?_) (fun d55 => ?_)
          · skip
            refine kV.sub [0, 1, 2, 3, 5] (L' := [(0, .ref (ρ 17)), (2, .int l2_86), (3, .int l3_86), (4, .int l4_86), (6, .int s0_86)]) rfl ?_
            exact cut110 w_86 l2_86 l3_86 l4_86 s0_86 I_86 F_86 (by omega) (by omega)
          · skip
            refine kV.sub [0, 1, 2, 3, 5] (L' := [(0, .ref (ρ 17)), (2, .int l2_86), (3, .int l3_86), (4, .int l4_86), (6, .int s0_86)]) rfl ?_
            exact cut98 w_86 l2_86 l3_86 l4_86 s0_86 I_86 F_86 (by omega) (by omega)
      have cut60 : ∀ (w_60 : kw) (l2_60 l3_60 l4_60 s0_60 : Int32), kI true w_60 → kF [(2, some 9), (3, none), (17, some 3), (17, some 4), (17, some 5), (17, some 6), (17, some 7), (19, none)] w w_60 → (0 ≤ l3_60.toInt ∧ l3_60.toInt ≤ 8) → (0 ≤ l4_60.toInt ∧ l4_60.toInt < 8 ∧ l4_60.toInt = l4_34.toInt) → kV p l e { frames := 6, cells := 0, slots := 0, locals := 216 } s m args below meth c (kQ below args s D τ ρ (fun o w' => ∃ r : Int32, o = some (.int r) ∧ kI true w' ∧ kF [(2, some 9), (3, none), (17, some 3), (17, some 4), (17, some 5), (17, some 6), (17, some 7), (19, none)] w w')) 7 D τ ρ 60 [(0, .ref (ρ 17)), (2, .int l2_60), (3, .int l3_60), (4, .int l4_60)] [.int s0_60] w_60 := by
        intro w_60 l2_60 l3_60 l4_60 s0_60 I_60 F_60 k60_0 k60_1
        have gl2_60 := kf_rng l2_60
        have gl3_60 := kf_rng l3_60
        have gl4_60 := kf_rng l4_60
        have gs0_60 := kf_rng s0_60
        refine kv_istore C 62 rfl 5 [1, 2, 3, 4, 0] [(0, .ref (ρ 17)), (2, .int l2_60), (3, .int l3_60), (4, .int l4_60), (5, .int s0_60)] (kdec dk_cX4_part 34 rfl) (by decide) rfl ?_
        refine kv_iload C 64 rfl 4 (kdec dk_cX4_part 35 rfl) rfl ?_
        refine kv_if_ne C 67 rfl 85 (kdec dk_cX4_part 36 rfl) (by decide) (fun d56 => ?_) (fun d56 => ?_)
        · skip
          refine kv_iconst C 86 rfl 0 (kdec dk_cX4_part 46 rfl) rfl ?_
          exact cut86 w_60 l2_60 l3_60 l4_60 s0_60 0 I_60 F_60 (by omega) (by omega)
        · skip
          refine kv_aload_n C 68 rfl 0 (kdec dk_cX4_part 37 rfl) rfl rfl ?_
          refine kv_aload_n C 69 rfl 0 (kdec dk_cX4_part 38 rfl) rfl rfl ?_
          refine kv_getr C 72 rfl 17 1 rfl rfl inX4 (by decide) mfl_TaleMachine_Reader_15 rfl rfl (kdec dk_cX4_part 39 rfl) ?_
          refine kv_iload C 74 rfl 3 (kdec dk_cX4_part 40 rfl) rfl ?_
          obtain ⟨x57, e58⟩ : ∃ z : Int32, w_60 18 (l4_60 : Int32).toNatClampNeg = z := ⟨_, rfl⟩
          have b59 : (-2147483648 : Int) ≤ x57.toInt ∧ x57.toInt ≤ 2147483647 := by rw [← e58]; exact I_60 18 _
          refine kv_iald C 75 rfl 18 rfl (by omega) (by omega) e58 (kdec dk_cX4_part 41 rfl) ?_
          refine kv_callVi (As := [.int x57]) (rest := []) C 78 rfl 17 (k_r_isSeparator l D τ ρ σ w_60 x57 I_60 ) rfl rfl mml_TaleMachine_Reader_45 mim_yX4_isSeparator mse_yX4_isSeparator mcd_yX4_isSeparator min_yX4_isSeparator hd_yX4_isSeparator rfl rfl rfl (by decide) rfl (Nat.le_of_ble_eq_true rfl) (kdec dk_cX4_part 42 rfl) (fun x64 w60 h61 => ?_)
          obtain ⟨I62, f63, p65⟩ := h61
          have F66 : kF [(2, some 9), (3, none), (17, some 3), (17, some 4), (17, some 5), (17, some 6), (17, some 7), (19, none)] w w60 := kF_call F_60 f63 (by decide)
          have g67 := kf_rng x64
          refine kv_if_eq C 81 rfl 85 (kdec dk_cX4_part 43 rfl) (by decide) (fun d68 => ?_) (fun d68 => ?_)
          · skip
            refine kv_iconst C 86 rfl 0 (kdec dk_cX4_part 46 rfl) rfl ?_
            exact cut86 w60 l2_60 l3_60 l4_60 s0_60 0 I62 F66 (by omega) (by omega)
          · skip
            refine kv_iconst C 82 rfl 1 (kdec dk_cX4_part 44 rfl) rfl ?_
            refine kv_goto C 86 (kdec dk_cX4_part 45 rfl) (by decide) ?_
            exact cut86 w60 l2_60 l3_60 l4_60 s0_60 1 I62 F66 (by omega) (by omega)
      refine kv_iload C 36 rfl 3 (kdec dk_cX4_part 21 rfl) rfl ?_
      refine kv_aload_n C 37 rfl 0 (kdec dk_cX4_part 22 rfl) rfl rfl ?_
      obtain ⟨x69, e70⟩ : ∃ z : Int32, w_34 17 3 = z := ⟨_, rfl⟩
      have b71 : (0 : Int) ≤ x69.toInt ∧ x69.toInt ≤ 8 := by rw [← e70]; exact I_34 17 3
      refine kv_get C 40 rfl 17 3 rfl rfl inX4 (by decide) mfl_TaleMachine_Reader_22 rfl rfl (kdec dk_cX4_part 23 rfl) e70 ?_
      refine kv_icmp_ge C 43 rfl 131 (kdec dk_cX4_part 24 rfl) (by decide) (fun d72 => ?_) (fun d72 => ?_)
      · skip
        refine kV.sub [0, 1, 2] (L' := [(0, .ref (ρ 17)), (2, .int l2_34), (3, .int l3_34)]) rfl ?_
        exact cut131 w_34 l2_34 l3_34 I_34 F_34 (by omega)
      · skip
        refine kv_aload_n C 44 rfl 0 (kdec dk_cX4_part 25 rfl) rfl rfl ?_
        refine kv_getr C 47 rfl 17 1 rfl rfl inX4 (by decide) mfl_TaleMachine_Reader_15 rfl rfl (kdec dk_cX4_part 26 rfl) ?_
        refine kv_iload C 49 rfl 3 (kdec dk_cX4_part 27 rfl) rfl ?_
        obtain ⟨x73, e74⟩ : ∃ z : Int32, w_34 18 (l4_34 : Int32).toNatClampNeg = z := ⟨_, rfl⟩
        have b75 : (-2147483648 : Int) ≤ x73.toInt ∧ x73.toInt ≤ 2147483647 := by rw [← e74]; exact I_34 18 _
        refine kv_iald C 50 rfl 18 rfl (by omega) (by omega) e74 (kdec dk_cX4_part 28 rfl) ?_
        refine kv_bipush C 52 rfl 32 (kdec dk_cX4_part 29 rfl) rfl ?_
        refine kv_icmp_ne C 55 rfl 59 (kdec dk_cX4_part 30 rfl) (by decide) (fun d76 => ?_) (fun d76 => ?_)
        · skip
          refine kv_iconst C 60 rfl 0 (kdec dk_cX4_part 33 rfl) rfl ?_
          exact cut60 w_34 l2_34 l3_34 l4_34 0 I_34 F_34 (by omega) (by omega)
        · skip
          refine kv_iconst C 56 rfl 1 (kdec dk_cX4_part 31 rfl) rfl ?_
          refine kv_goto C 60 (kdec dk_cX4_part 32 rfl) (by decide) ?_
          exact cut60 w_34 l2_34 l3_34 l4_34 1 I_34 F_34 (by omega) (by omega)
  refine kv_aload_n C 1 rfl 0 (kdec dk_cX4_part 0 rfl) rfl rfl ?_
  refine kv_iload_n C 2 rfl 1 (kdec dk_cX4_part 1 rfl) rfl rfl ?_
  refine kv_callVv (As := [.int a1]) (rest := []) C 5 rfl 17 (k_r_layLine l D τ ρ σ w a1 hI ) rfl rfl mml_TaleMachine_Reader_26 mim_yX4_layLine mse_yX4_layLine mcd_yX4_layLine min_yX4_layLine hd_yX4_layLine rfl rfl rfl (by decide) rfl (Nat.le_of_ble_eq_true rfl) (kdec dk_cX4_part 2 rfl) (fun w77 h78 => ?_)
  obtain ⟨I79, f80⟩ := h78
  have F82 : kF [(2, some 9), (3, none), (17, some 3), (17, some 4), (17, some 5), (17, some 6), (17, some 7), (19, none)] w w77 := kF_call hF0 f80 (by decide)
  refine kv_aload_n C 6 rfl 0 (kdec dk_cX4_part 3 rfl) rfl rfl ?_
  refine kv_iload_n C 7 rfl 2 (kdec dk_cX4_part 4 rfl) rfl rfl ?_
  refine kv_iconst C 8 rfl 2 (kdec dk_cX4_part 5 rfl) rfl ?_
  refine kv_iadd C 9 rfl (kdec dk_cX4_part 6 rfl) (fun x83 q85 h84e h84 h84l h84u => ?_)
  try have h84n : x83.toInt = a2.toInt + (2 : Int32).toInt := by omega
  clear h84 q85
  refine kv_put C 12 rfl 17 5 rfl rfl inX4 (by decide) mfl_TaleMachine_Reader_30 rfl tyX4 tyX4_ok nmX4 rfl rfl (kdec dk_cX4_part 7 rfl) rfl rfl (fun w86 u87 => ?_)
  have I88 : kI true w86 := kI_put u87 I79 (kf_rng _).1 (kf_rng _).2
  have F89 : kF [(2, some 9), (3, none), (17, some 3), (17, some 4), (17, some 5), (17, some 6), (17, some 7), (19, none)] w w86 := kF_put u87 F82 rfl
  refine kv_aload_n C 13 rfl 0 (kdec dk_cX4_part 8 rfl) rfl rfl ?_
  refine kv_aload_n C 14 rfl 0 (kdec dk_cX4_part 9 rfl) rfl rfl ?_
  refine kv_getr C 17 rfl 17 0 rfl rfl inX4 (by decide) mfl_TaleMachine_Reader_9 rfl rfl (kdec dk_cX4_part 10 rfl) ?_
  refine kv_iload_n C 18 rfl 2 (kdec dk_cX4_part 11 rfl) rfl rfl ?_
  refine kv_callVNi (As := [.int a2]) (rest := [.ref (ρ 17)]) C 21 rfl 2 (k_byteAt l D τ ρ σ w86 a2 I88 ) rfl rfl mmn_TaleMachine_Reader_33 mim_yX6_byteAt mse_yX6_byteAt mcd_yX6_byteAt min_yX6_byteAt hd_yX6_byteAt rfl rfl rfl (by decide) rfl (Nat.le_of_ble_eq_true rfl) (kdec dk_cX4_part 12 rfl) (fun x94 w90 h91 => ?_)
  obtain ⟨I92, f93, p95, p96⟩ := h91
  have F97 : kF [(2, some 9), (3, none), (17, some 3), (17, some 4), (17, some 5), (17, some 6), (17, some 7), (19, none)] w w90 := kF_call F89 f93 (by decide)
  have g98 := kf_rng x94
  obtain ⟨x99, e100⟩ : ∃ z : Int32, w77 2 9 = z := ⟨_, rfl⟩
  have b101 : (0 : Int) ≤ x99.toInt ∧ x99.toInt ≤ 13 := by rw [← e100]; exact I79 2 9
  have e102 : w86 2 9 = x99 := ((kup_ne u87 rfl : w86 2 9 = w77 2 9).trans e100)
  obtain ⟨x103, e104⟩ : ∃ z : Int32, w90 2 9 = z := ⟨_, rfl⟩
  have b105 : (0 : Int) ≤ x103.toInt ∧ x103.toInt ≤ 13 := by rw [← e104]; exact I92 2 9
  rw [e102, e104] at p96
  refine kv_put C 24 rfl 17 6 rfl rfl inX4 (by decide) mfl_TaleMachine_Reader_39 rfl tyX4 tyX4_ok nmX4 rfl rfl (kdec dk_cX4_part 13 rfl) rfl rfl (fun w106 u107 => ?_)
  have I108 : kI true w106 := kI_put u107 I92 (kf_rng _).1 (kf_rng _).2
  have F109 : kF [(2, some 9), (3, none), (17, some 3), (17, some 4), (17, some 5), (17, some 6), (17, some 7), (19, none)] w w106 := kF_put u107 F97 rfl
  refine kv_aload_n C 25 rfl 0 (kdec dk_cX4_part 14 rfl) rfl rfl ?_
  refine kv_iconst C 26 rfl 0 (kdec dk_cX4_part 15 rfl) rfl ?_
  refine kv_put C 29 rfl 17 7 rfl rfl inX4 (by decide) mfl_TaleMachine_Reader_42 rfl tyX4 tyX4_ok nmX4 rfl rfl (kdec dk_cX4_part 16 rfl) rfl rfl (fun w110 u111 => ?_)
  have I112 : kI true w110 := kI_put u111 I108 (kf_rng _).1 (kf_rng _).2
  have F113 : kF [(2, some 9), (3, none), (17, some 3), (17, some 4), (17, some 5), (17, some 6), (17, some 7), (19, none)] w w110 := kF_put u111 F109 rfl
  refine kv_iconst C 30 rfl 0 (kdec dk_cX4_part 17 rfl) rfl ?_
  refine kv_istore_n C 31 rfl 3 [1, 2, 3, 0] [(0, .ref (ρ 17)), (1, .int a1), (2, .int a2), (3, .int 0)] (kdec dk_cX4_part 18 rfl) rfl (by decide) rfl ?_
  refine kv_iconst C 32 rfl 0 (kdec dk_cX4_part 19 rfl) rfl ?_
  refine kv_istore C 34 rfl 4 [1, 2, 3, 4, 0] [(0, .ref (ρ 17)), (1, .int a1), (2, .int a2), (3, .int 0), (4, .int 0)] (kdec dk_cX4_part 20 rfl) (by decide) rfl ?_
  refine kV.sub [0, 2, 3, 4] (L' := [(0, .ref (ρ 17)), (2, .int a2), (3, .int 0), (4, .int 0)]) rfl ?_
  exact cut34 ((((9 - (0 : Int32).toInt)) : Int).toNat + 1) w110 a2 0 0 I112 F113 (by omega) (by omega) (by omega)
