/-! ===== the reference: THE STACK's bases are in order ===== -/
/-- FRAMES 61 20, the height 61 19, the bases 67 -/
def kMoT (w : kw) : Prop := 1 ≤ (w 61 20).toInt ∧ (∀ i j : Nat, i ≤ j → (j : Int) < (w 61 20).toInt → (w 67 i).toInt ≤ (w 67 j).toInt) ∧ ∀ i : Nat, (i : Int) < (w 61 20).toInt → (w 67 i).toInt ≤ (w 61 19).toInt
theorem kMoT_fr {w : kw} (h : kMoT w) : 1 ≤ (w 61 20).toInt := h.1
theorem kMoT_eq {w w' : kw} (h : kMoT w) (e1 : w' 61 20 = w 61 20) (e2 : w' 61 19 = w 61 19) (e3 : ∀ k : Nat, w' 67 k = w 67 k) : kMoT w' := by
  refine ⟨by rw [e1]; exact h.1, fun i j hij hj => ?_, fun i hi => ?_⟩
  · rw [e1] at hj
    rw [e3, e3]
    exact h.2.1 i j hij hj
  · rw [e1] at hi
    rw [e3, e2]
    exact h.2.2 i hi
theorem kMoT_put {w w' : kw} {c k : Nat} {v : Int32} (h : w' = kup w c k v) (hM : kMoT w) (h1 : (Nat.beq 61 c && Nat.beq 20 k) = false) (h2 : (Nat.beq 61 c && Nat.beq 19 k) = false) (h3 : Nat.beq 67 c = false) : kMoT w' :=
  kMoT_eq hM (kup_ne h h1) (kup_ne h h2) (fun j => kup_ne h (by rw [h3]; rfl))
theorem kMoT_kF {w w' : kw} {md : List (Nat × Option Nat)} (hf : kF md w w') (hM : kMoT w) (h1 : kmd md 61 20 = false) (h2 : kmd md 61 19 = false) (h3 : ∀ k : Nat, kmd md 67 k = false) : kMoT w' :=
  kMoT_eq hM (hf _ _ h1) (hf _ _ h2) (fun k => hf _ _ (h3 k))
theorem kn_of {x : Int32} (h : 0 ≤ x.toInt) : ((x.toNatClampNeg : Nat) : Int) = x.toInt := by
  show ((x.toInt.toNat : Nat) : Int) = x.toInt
  omega
theorem kMoT_top {w : kw} {x y : Int32} (hM : kMoT w) (hx : x.toInt = (w 61 20).toInt - 1) (ey : w 67 x.toNatClampNeg = y) : y.toInt ≤ (w 61 19).toInt := by
  subst ey
  have h1 := hM.1
  have h2 := kn_of (x := x) (by omega)
  exact hM.2.2 _ (by omega)
theorem kMoT_pop {w w' : kw} {x y v : Int32} (hM : kMoT w) (h : w' = kup w 61 19 v) (hx : x.toInt = (w 61 20).toInt - 1) (ey : w 67 x.toNatClampNeg = y) (hy : y.toInt ≤ v.toInt) : kMoT w' := by
  subst ey
  have h1 := hM.1
  have h2 := kn_of (x := x) (by omega)
  have e1 : w' 61 20 = w 61 20 := kup_ne h rfl
  have e2 : w' 61 19 = v := kup_eq h
  have e3 : ∀ k : Nat, w' 67 k = w 67 k := fun k => kup_ne h rfl
  refine ⟨by rw [e1]; exact h1, fun i j hij hj => ?_, fun i hi => ?_⟩
  · rw [e1] at hj
    rw [e3, e3]
    exact hM.2.1 i j hij hj
  · rw [e1] at hi
    rw [e3, e2]
    have := hM.2.1 i x.toNatClampNeg (by omega) (by omega)
    omega
theorem kMoT_up {w w' : kw} {v : Int32} (hM : kMoT w) (h : w' = kup w 61 19 v) (hv : (w 61 19).toInt ≤ v.toInt) : kMoT w' := by
  have e1 : w' 61 20 = w 61 20 := kup_ne h rfl
  have e2 : w' 61 19 = v := kup_eq h
  have e3 : ∀ k : Nat, w' 67 k = w 67 k := fun k => kup_ne h rfl
  refine ⟨by rw [e1]; exact hM.1, fun i j hij hj => ?_, fun i hi => ?_⟩
  · rw [e1] at hj
    rw [e3, e3]
    exact hM.2.1 i j hij hj
  · rw [e1] at hi
    rw [e3, e2]
    have := hM.2.2 i hi
    omega
/-- a FRAME goes: w1 behind 'frames--', w2 behind 'high = base[frames]' -/
theorem kMoT_ret {w w1 w2 : kw} {v1 v2 : Int32} (hM : kMoT w) (h1 : w1 = kup w 61 20 v1) (hv1 : v1.toInt = (w 61 20).toInt - 1) (h0 : 1 ≤ v1.toInt) (h2 : w2 = kup w1 61 19 v2) (hv2 : w1 67 v1.toNatClampNeg = v2) : kMoT w2 := by
  have e1 : w2 61 20 = v1 := (kup_ne h2 rfl).trans (kup_eq h1)
  have e2 : w2 61 19 = v2 := kup_eq h2
  have e3 : ∀ k : Nat, w2 67 k = w 67 k := fun k => (kup_ne h2 rfl).trans (kup_ne h1 rfl)
  have e4 : w1 67 v1.toNatClampNeg = w 67 v1.toNatClampNeg := kup_ne h1 rfl
  have h3 := kn_of (x := v1) (by omega)
  refine ⟨by rw [e1]; exact h0, fun i j hij hj => ?_, fun i hi => ?_⟩
  · rw [e1] at hj
    rw [e3, e3]
    exact hM.2.1 i j hij (by omega)
  · rw [e1] at hi
    rw [e3, e2, ← hv2, e4]
    exact hM.2.1 i _ (by omega) (by omega)
/-- a FRAME comes: w' has base[frames] = high and frames + 1, the rest of these as in w -/
theorem kMoT_call {w w' : kw} {f : Nat} (hM : kMoT w) (hf : (f : Int) = (w 61 20).toInt) (e1 : (w' 61 20).toInt = (w 61 20).toInt + 1) (e2 : w' 61 19 = w 61 19) (e3 : ∀ k : Nat, k ≠ f → w' 67 k = w 67 k) (e4 : w' 67 f = w 61 19) : kMoT w' := by
  have h0 := hM.1
  refine ⟨by omega, fun i j hij hj => ?_, fun i hi => ?_⟩
  · by_cases hjf : j = f
    · by_cases hif : i = f
      · rw [hif, hjf]; exact Int.le_refl _
      · rw [e3 i hif, hjf, e4]
        exact hM.2.2 i (by omega)
    · rw [e3 i (by omega), e3 j hjf]
      exact hM.2.1 i j hij (by omega)
  · by_cases hif : i = f
    · rw [hif, e4, e2]; exact Int.le_refl _
    · rw [e3 i hif, e2]
      exact hM.2.2 i (by omega)
/-- one FRAME, nothing on THE STACK -/
theorem kMoT_one {w : kw} (e1 : (w 61 20).toInt = 1) (e2 : (w 67 0).toInt = 0) (e3 : (w 61 19).toInt = 0) : kMoT w := by
  refine ⟨by omega, fun i j hij hj => ?_, fun i hi => ?_⟩
  · rw [show i = 0 by omega, show j = 0 by omega]; exact Int.le_refl _
  · rw [show i = 0 by omega]; omega
theorem kf_i2l (x : Int32) : x.toInt64.toInt = x.toInt := Int32.toInt_toInt64 x
theorem kf_lcmp {x y : Int64} {z : Int32} (h : lg_cmp x y = z) : z.toInt < 0 ∧ x.toInt < y.toInt ∨ z.toInt = 0 ∧ x.toInt = y.toInt ∨ 0 < z.toInt ∧ y.toInt < x.toInt := by
  subst h
  unfold lg_cmp
  by_cases h1 : x > y
  · rw [if_pos h1]
    exact Or.inr (Or.inr ⟨by decide, Int64.lt_iff_toInt_lt.mp h1⟩)
  · rw [if_neg h1]
    by_cases h2 : x = y
    · rw [if_pos h2, h2]
      exact Or.inr (Or.inl ⟨rfl, rfl⟩)
    · rw [if_neg h2]
      refine Or.inl ⟨by decide, ?_⟩
      have h3 : ¬ y.toInt < x.toInt := fun q => h1 (Int64.lt_iff_toInt_lt.mpr q)
      have h4 : ¬ x.toInt = y.toInt := fun q => h2 (Int64.toInt_inj.mp q)
      omega
theorem kf_eqc {x : Int32} {n : Int} (c : Int32) (hc : c.toInt = n) (h : x.toInt = n) : x = c := Int32.toInt_inj.mp (h.trans hc.symm)
theorem kf_divc {x y z : Int32} (h : z = x / y) (hy : 1 ≤ y.toInt) : 0 ≤ x.toInt ∧ z.toInt = x.toInt / y.toInt ∨ x.toInt < 0 ∧ z.toInt ≤ 0 := by
  by_cases hx : 0 ≤ x.toInt
  · exact Or.inl ⟨hx, kf_div h hx (by omega)⟩
  · refine Or.inr ⟨by omega, ?_⟩
    have e : (x / y).toInt = x.toInt.tdiv y.toInt := Int32.toInt_div_of_ne_right x y (by intro q; rw [q] at hy; exact absurd hy (by decide))
    rw [h, e]
    have h1 := Int.tdiv_nonneg (a := -x.toInt) (b := y.toInt) (by omega) (by omega)
    rw [Int.neg_tdiv] at h1
    omega
theorem kup_nek {w w' : kw} {c k k2 : Nat} {v : Int32} (h : w' = kup w c k v) (hk : k2 ≠ k) : w' c k2 = w c k2 := by
  have hb : Nat.beq k2 k = false := by
    cases hb : Nat.beq k2 k with
    | false => rfl
    | true => exact absurd (Nat.eq_of_beq_eq_true hb) hk
  exact kup_ne h (by rw [hb]; cases Nat.beq c c <;> rfl)
theorem kMoP_kF {w w' : kw} {md : List (Nat × Option Nat)} (hf : kF md w w') (h : ((w 61 3).toInt = 0 ∧ (w 61 12).toInt = 0 ∨ kMoT w)) (h1 : kmd md 61 20 = false) (h2 : kmd md 61 19 = false) (h4 : kmd md 61 3 = false) (h5 : kmd md 61 12 = false) (h3 : ∀ k : Nat, kmd md 67 k = false) : ((w' 61 3).toInt = 0 ∧ (w' 61 12).toInt = 0 ∨ kMoT w') := by
  rcases h with h | h
  · rw [hf _ _ h4, hf _ _ h5]; exact Or.inl h
  · exact Or.inr (kMoT_kF hf h h1 h2 h3)
