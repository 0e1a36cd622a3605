/-! ===== the world behind both constructors ===== -/
def kw0 (f3 : Nat → Int32) : kw := fun c k => bif Nat.beq c 62 then f3 k else bif (Nat.beq c 5 || Nat.beq c 27 || Nat.beq c 36 || Nat.beq c 45 || Nat.beq c 54) && Nat.beq k 7 then 1 else 0
def kzB (e : List (Int × Int) ⊕ (Int × Int)) : Bool := match e with
  | .inl fs => decide (fs.length ≤ 50)
  | .inr b => decide (b.1 ≤ 0) && decide (0 ≤ b.2)
theorem kz_all : kBl.all kzB = true := by decide +kernel
theorem kz_len : kBl.length = 87 := by decide +kernel
set_option maxRecDepth 100000 in
theorem kz_rng : ∀ c : Nat, c < 87 → ∀ k : Nat, k < 50 → ((Nat.beq c 5 || Nat.beq c 27 || Nat.beq c 36 || Nat.beq c 45 || Nat.beq c 54) && Nat.beq k 7) = true ∨ ((kbnd0 c k).1 ≤ 0 ∧ 0 ≤ (kbnd0 c k).2) := by decide +kernel
theorem kz_b (c k : Nat) (h : ((Nat.beq c 5 || Nat.beq c 27 || Nat.beq c 36 || Nat.beq c 45 || Nat.beq c 54) && Nat.beq k 7) = false) : (kbnd0 c k).1 ≤ 0 ∧ 0 ≤ (kbnd0 c k).2 := by
  by_cases hc : c < 87
  · by_cases hk : k < 50
    · rcases kz_rng c hc k hk with q | q
      · rw [h] at q; cases q
      · exact q
    · have hl : c < kBl.length := by rw [kz_len]; exact hc
      have hm := List.all_eq_true.mp kz_all _ (List.getElem_mem hl)
      have hg := List.getElem?_eq_getElem hl
      unfold kbnd0
      rw [hg]
      cases he : kBl[c] with
      | inl fs =>
        rw [he] at hm
        have hm2 : fs.length ≤ 50 := of_decide_eq_true hm
        have : fs[k]? = none := List.getElem?_eq_none (by omega)
        simp [this]
      | inr b9 =>
        rw [he] at hm
        simp only [kzB, Bool.and_eq_true, decide_eq_true_eq] at hm
        exact hm
  · have : kBl[c]? = none := List.getElem?_eq_none (by rw [kz_len]; omega)
    unfold kbnd0
    rw [this]
    simp
theorem kw0_I {f3 : Nat → Int32} (h3 : ∀ j : Nat, (0 : Int) ≤ (f3 j).toInt ∧ (f3 j).toInt ≤ 255) : kI false (kw0 f3) := by
  intro c k
  show (kbnd0 c k).1 ≤ (kw0 f3 c k).toInt ∧ (kw0 f3 c k).toInt ≤ (kbnd0 c k).2
  cases h62 : Nat.beq c 62 with
  | true =>
    have e := Nat.eq_of_beq_eq_true h62
    subst e
    exact h3 k
  | false =>
    cases hd : ((Nat.beq c 5 || Nat.beq c 27 || Nat.beq c 36 || Nat.beq c 45 || Nat.beq c 54) && Nat.beq k 7) with
    | true =>
      have e : kw0 f3 c k = 1 := by unfold kw0; rw [h62, hd]; rfl
      rw [e]
      simp only [Bool.and_eq_true, Bool.or_eq_true] at hd
      obtain ⟨h, hk⟩ := hd
      have ek := Nat.eq_of_beq_eq_true hk
      subst ek
      rcases h with (((h | h) | h) | h) | h <;> (have ec := Nat.eq_of_beq_eq_true h; subst ec; decide)
    | false =>
      have e : kw0 f3 c k = 0 := by unfold kw0; rw [h62, hd]; rfl
      rw [e]
      exact kz_b c k hd
