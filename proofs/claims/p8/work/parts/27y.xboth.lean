theorem k_x_save (l : Launch) (D : va_G) (τ : Nat → ClassId) (ρ σ : Nat → Nat) (w : kw) (a1 : Int32) (hI : kI false w) (hMp : ((w 61 3).toInt = 0 ∧ (w 61 12).toInt = 0 ∨ kMoT w)) (hS : kSl w) :
    kM l D τ ρ σ yX10_save cX10_save 5 (some .int) { frames := 1, cells := 0, slots := 0, locals := 36 } [.ref (ρ 61), .int a1] w
      (fun o w' => ∃ r : Int32, o = some (.int r) ∧ kI false w' ∧ kF [(74, none), (75, none), (76, none), (77, none), (78, none), (79, none), (80, none)] w w' ∧ ((w 61 12).toInt = 1 ∨ (w 61 12).toInt = 3 ∨ (a1.toInt < 0 ∨ 3 < a1.toInt) ∧ r.toInt = -1 ∨ 0 ≤ a1.toInt ∧ a1.toInt ≤ 3 ∧ r.toInt = -2) ∧ ((w' 61 3).toInt = 0 ∧ (w' 61 12).toInt = 0 ∨ kMoT w') ∧ (kSl w')) := by
  by_cases hq : a1.toInt < 0 ∨ 3 < a1.toInt
  · exact k_x_saveo l D τ ρ σ w a1 hI hq hMp hS
  · rcases (show a1.toInt = 0 ∨ a1.toInt = 1 ∨ a1.toInt = 2 ∨ a1.toInt = 3 by omega) with hk | hk | hk | hk
    · obtain rfl := kf_eqc (0) (by decide) hk
      exact k_x_save0 l D τ ρ σ w hI hMp hS
    · obtain rfl := kf_eqc (1) (by decide) hk
      exact k_x_save1 l D τ ρ σ w hI hMp hS
    · obtain rfl := kf_eqc (2) (by decide) hk
      exact k_x_save2 l D τ ρ σ w hI hMp hS
    · obtain rfl := kf_eqc (3) (by decide) hk
      exact k_x_save3 l D τ ρ σ w hI hMp hS
theorem k_x_restore (l : Launch) (D : va_G) (τ : Nat → ClassId) (ρ σ : Nat → Nat) (w : kw) (a1 : Int32) (hI : kI false w) (hMp : ((w 61 3).toInt = 0 ∧ (w 61 12).toInt = 0 ∨ kMoT w)) (hS : kSl w) :
    kM l D τ ρ σ yX10_restore cX10_restore 5 (some .int) { frames := 1, cells := 0, slots := 0, locals := 36 } [.ref (ρ 61), .int a1] w
      (fun o w' => ∃ r : Int32, o = some (.int r) ∧ kI false w' ∧ kF [(61, some 12), (61, some 13), (61, some 14), (61, some 19), (61, some 20), (61, some 26), (61, some 27), (64, none), (66, none), (67, none), (68, none), (69, none), (70, none), (71, none)] w w' ∧ (¬ (w 61 3).toInt = 0 ∨ (a1.toInt < 0 ∨ 3 < a1.toInt) ∧ r.toInt = -1 ∨ 0 ≤ a1.toInt ∧ a1.toInt ≤ 3 ∧ r.toInt = -2) ∧ ((w' 61 3).toInt = 0 ∧ (w' 61 12).toInt = 0 ∨ kMoT w')) := by
  by_cases hq : a1.toInt < 0 ∨ 3 < a1.toInt
  · exact k_x_restoreo l D τ ρ σ w a1 hI hq hMp hS
  · rcases (show a1.toInt = 0 ∨ a1.toInt = 1 ∨ a1.toInt = 2 ∨ a1.toInt = 3 by omega) with hk | hk | hk | hk
    · obtain rfl := kf_eqc (0) (by decide) hk
      exact k_x_restore0 l D τ ρ σ w hI hMp hS
    · obtain rfl := kf_eqc (1) (by decide) hk
      exact k_x_restore1 l D τ ρ σ w hI hMp hS
    · obtain rfl := kf_eqc (2) (by decide) hk
      exact k_x_restore2 l D τ ρ σ w hI hMp hS
    · obtain rfl := kf_eqc (3) (by decide) hk
      exact k_x_restore3 l D τ ρ σ w hI hMp hS
