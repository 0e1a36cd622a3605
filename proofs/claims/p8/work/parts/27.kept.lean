/-! ===== what the reference keeps: squeezing, slots ===== -/
theorem kSq_R {w : kw} {l z x y : Int32} (hz : z.toInt = l.toInt - 1) (ex : w 64 z.toNatClampNeg = x) (ey : w 65 z.toNatClampNeg = y) (hne : ¬ x.toInt = y.toInt) : l.toInt ≤ 0 ∨ ¬ w 64 (l.toInt - 1).toNat = w 65 (l.toInt - 1).toNat := by
  right
  have e : (l.toInt - 1).toNat = z.toNatClampNeg := by show _ = z.toInt.toNat; rw [hz]
  rw [e, ex, ey]
  exact fun q => hne (by rw [q])
theorem kSq_use {w : kw} {l a x y : Int32} (R : l.toInt ≤ 0 ∨ ¬ w 64 (l.toInt - 1).toNat = w 65 (l.toInt - 1).toNat) (ex : w 64 a.toNatClampNeg = x) (ey : w 65 a.toNatClampNeg = y) (he : x.toInt = y.toInt) : l.toInt ≤ 0 ∨ ¬ a.toInt = l.toInt - 1 := by
  rcases R with h | h
  · exact Or.inl h
  · refine Or.inr (fun q => h ?_)
    have e : (l.toInt - 1).toNat = a.toNatClampNeg := by show _ = a.toInt.toNat; rw [← q]
    rw [e, ex, ey]
    exact Int32.toInt_inj.mp he
theorem kf_xor0 {x y z : Int32} (h : z = x ^^^ y) (hz : z.toInt = 0) : x.toInt = y.toInt := by
  have hz' : z = 0 := Int32.toInt_inj.mp (hz.trans rfl)
  have hb : x.toBitVec ^^^ y.toBitVec = 0#32 := by
    have h1 := congrArg Int32.toBitVec (h.symm.trans hz')
    simpa using h1
  have he : x = y := Int32.toBitVec_inj.mp (BitVec.xor_eq_zero_iff.mp hb)
  rw [he]
/-- what slot k keeps is in order -/
def kSlot (w : kw) (k : Nat) : Prop := (1 ≤ (w 78 (7 * k + 1)).toInt ∧ (w 78 (7 * k + 1)).toInt ≤ 20 ∧ (w 78 (7 * k)).toInt ≤ 120 ∧ (w 78 (7 * k + 3)).toInt ≤ 4) ∧
  (∀ f : Nat, (f : Int) < (w 78 (7 * k + 1)).toInt → (w 77 (1920 * k + 24 * f)).toInt ≤ 120 ∧ (w 77 (1920 * k + 24 * f + 2)).toInt ≤ 255 ∧ (w 77 (1920 * k + 24 * f + 3)).toInt ≤ 15) ∧
  (∀ i j : Nat, i ≤ j → (j : Int) < (w 78 (7 * k + 1)).toInt → (w 77 (1920 * k + 24 * i)).toInt ≤ (w 77 (1920 * k + 24 * j)).toInt) ∧
  ∀ i : Nat, (i : Int) < (w 78 (7 * k + 1)).toInt → (w 77 (1920 * k + 24 * i)).toInt ≤ (w 78 (7 * k)).toInt
def kSl (w : kw) : Prop := ∀ k : Nat, k < 4 → ¬ (w 74 k).toInt = 0 → kSlot w k
theorem kSl_eq {w w' : kw} (h : kSl w) (e1 : ∀ j, w' 74 j = w 74 j) (e2 : ∀ j, w' 77 j = w 77 j) (e3 : ∀ j, w' 78 j = w 78 j) : kSl w' := by
  intro k hk hn
  rw [e1] at hn
  have h1 := h k hk hn
  simp only [kSlot, e2, e3]
  exact h1
theorem kSl_none {w : kw} (h : (w 74 0).toInt = 0 ∧ (w 74 1).toInt = 0 ∧ (w 74 2).toInt = 0 ∧ (w 74 3).toInt = 0) : kSl w := by
  intro k hk hn
  exfalso
  rcases (show k = 0 ∨ k = 1 ∨ k = 2 ∨ k = 3 by omega) with rfl | rfl | rfl | rfl
  · exact hn h.1
  · exact hn h.2.1
  · exact hn h.2.2.1
  · exact hn h.2.2.2
def kAc (K : Nat) (w w1 : kw) (f : Nat) : Prop := w1 77 (K + 24 * f) = w 67 f ∧ w1 77 (K + 24 * f + 2) = w 69 f ∧ w1 77 (K + 24 * f + 3) = w 70 f
theorem kAc_put {K : Nat} {w w1 w' : kw} {z v : Int32} {f : Nat} (h : w' = kup w1 77 z.toNatClampNeg v) (h0 : 0 ≤ z.toInt) (n0 : ¬ z.toInt = K + 24 * f) (n2 : ¬ z.toInt = K + 24 * f + 2) (n3 : ¬ z.toInt = K + 24 * f + 3) (A : kAc K w w1 f) : kAc K w w' f := by
  have hz := kn_of h0
  exact ⟨(kup_nek h (by omega)).trans A.1, (kup_nek h (by omega)).trans A.2.1, (kup_nek h (by omega)).trans A.2.2⟩
theorem kA_add {K : Nat} {w w0 w1 w2 w3 w4 : kw} {l z0 z1 z2 z3 v0 v1 v2 v3 : Int32} (A : ∀ f : Nat, (f : Int) < l.toInt → kAc K w w0 f) (hl : 0 ≤ l.toInt) (h1 : w1 = kup w0 77 z0.toNatClampNeg v0) (q0 : z0.toInt = K + 24 * l.toInt) (h2 : w2 = kup w1 77 z1.toNatClampNeg v1) (q1 : z1.toInt = K + 24 * l.toInt + 1) (h3 : w3 = kup w2 77 z2.toNatClampNeg v2) (q2 : z2.toInt = K + 24 * l.toInt + 2) (h4 : w4 = kup w3 77 z3.toNatClampNeg v3) (q3 : z3.toInt = K + 24 * l.toInt + 3)
    (e0 : w 67 l.toNatClampNeg = v0) (e2 : w 69 l.toNatClampNeg = v2) (e3 : w 70 l.toNatClampNeg = v3) : ∀ f : Nat, (f : Int) ≤ l.toInt → kAc K w w4 f := by
  intro f hf
  have hL := kn_of hl
  have m0 := kn_of (x := z0) (by omega)
  have m1 := kn_of (x := z1) (by omega)
  have m2 := kn_of (x := z2) (by omega)
  have m3 := kn_of (x := z3) (by omega)
  by_cases hfl : (f : Int) < l.toInt
  · exact kAc_put h4 (by omega) (by omega) (by omega) (by omega) (kAc_put h3 (by omega) (by omega) (by omega) (by omega) (kAc_put h2 (by omega) (by omega) (by omega) (by omega) (kAc_put h1 (by omega) (by omega) (by omega) (by omega) (A f hfl))))
  · have ef : f = l.toNatClampNeg := by omega
    have i0 : K + 24 * f = z0.toNatClampNeg := by omega
    have i2 : K + 24 * f + 2 = z2.toNatClampNeg := by omega
    have i3 : K + 24 * f + 3 = z3.toNatClampNeg := by omega
    refine ⟨?_, ?_, ?_⟩
    · rw [kup_nek h4 (by omega), kup_nek h3 (by omega), kup_nek h2 (by omega), i0, kup_eq h1, ef, e0]
    · rw [kup_nek h4 (by omega), i2, kup_eq h3, ef, e2]
    · rw [i3, kup_eq h4, ef, e3]
theorem kA_keep {K : Nat} {w w1 w' : kw} {l z v i : Int32} (A : ∀ f : Nat, (f : Int) ≤ l.toInt → kAc K w w1 f) (h : w' = kup w1 77 z.toNatClampNeg v) (hl : 0 ≤ l.toInt) (hz : z.toInt = K + 24 * l.toInt + 4 + i.toInt) (hi : 1 ≤ i.toInt) (hi2 : i.toInt ≤ 15) : ∀ f : Nat, (f : Int) ≤ l.toInt → kAc K w w' f := by
  intro f hf
  exact kAc_put h (by omega) (by omega) (by omega) (by omega) (A f hf)
theorem kB_put {K : Nat} {w w1 w' : kw} {z v : Int32} (B : ∀ j : Nat, (j < K ∨ K + 1920 ≤ j) → w1 77 j = w 77 j) (h : w' = kup w1 77 z.toNatClampNeg v) (h1 : (K : Int) ≤ z.toInt) (h2 : z.toInt < K + 1920) : ∀ j : Nat, (j < K ∨ K + 1920 ≤ j) → w' 77 j = w 77 j := by
  intro j hj
  have hz := kn_of (x := z) (by omega)
  exact (kup_nek h (by omega)).trans (B j hj)
/-- slot k is kept, the others are as they were -/
theorem kSl_save {k : Nat} {w w' : kw} (hk : k < 4) (hS : kSl w) (hM : kMoT w) (hI : kI false w) (A : ∀ f : Nat, (f : Int) < (w 61 20).toInt → kAc (1920 * k) w w' f) (B : ∀ j : Nat, (j < 1920 * k ∨ 1920 * k + 1920 ≤ j) → w' 77 j = w 77 j) (e74 : ∀ j : Nat, j < 4 → j ≠ k → w' 74 j = w 74 j) (r0 : w' 78 (7 * k) = w 61 19) (r1 : w' 78 (7 * k + 1) = w 61 20) (r3 : (w' 78 (7 * k + 3)).toInt ≤ 4) (e78 : ∀ j : Nat, (j < 7 * k ∨ 7 * k + 6 ≤ j) → w' 78 j = w 78 j) : kSl w' := by
  intro i hi hn
  by_cases hik : i = k
  · subst hik
    have b1 : (0 : Int) ≤ (w 61 20).toInt ∧ (w 61 20).toInt ≤ 20 := hI 61 20
    have b2 : (0 : Int) ≤ (w 61 19).toInt ∧ (w 61 19).toInt ≤ 120 := hI 61 19
    refine ⟨⟨by rw [r1]; exact hM.1, by rw [r1]; exact b1.2, by rw [r0]; exact b2.2, r3⟩, fun f hf => ?_, fun a b hab hb => ?_, fun a ha => ?_⟩
    · rw [r1] at hf
      obtain ⟨a0, a2, a3⟩ := A f hf
      have c0 : (0 : Int) ≤ (w 67 f).toInt ∧ (w 67 f).toInt ≤ 120 := hI 67 f
      have c2 : (0 : Int) ≤ (w 69 f).toInt ∧ (w 69 f).toInt ≤ 255 := hI 69 f
      have c3 : (0 : Int) ≤ (w 70 f).toInt ∧ (w 70 f).toInt ≤ 15 := hI 70 f
      rw [a0, a2, a3]
      exact ⟨c0.2, c2.2, c3.2⟩
    · rw [r1] at hb
      rw [(A a (by omega)).1, (A b hb).1]
      exact hM.2.1 a b hab hb
    · rw [r1] at ha
      rw [(A a ha).1, r0]
      exact hM.2.2 a ha
  · rw [e74 i hi hik] at hn
    obtain ⟨⟨s1, s2, s3, s4⟩, s5, s6, s7⟩ := hS i hi hn
    have f1 : w' 78 (7 * i + 1) = w 78 (7 * i + 1) := e78 _ (by omega)
    have f0 : w' 78 (7 * i) = w 78 (7 * i) := e78 _ (by omega)
    have f3 : w' 78 (7 * i + 3) = w 78 (7 * i + 3) := e78 _ (by omega)
    have g : ∀ d : Nat, d < 1920 → w' 77 (1920 * i + d) = w 77 (1920 * i + d) := fun d hd => B _ (by omega)
    refine ⟨⟨by rw [f1]; exact s1, by rw [f1]; exact s2, by rw [f0]; exact s3, by rw [f3]; exact s4⟩, fun f hf => ?_, fun a b hab hb => ?_, fun a ha => ?_⟩
    · rw [f1] at hf
      have := s5 f hf
      rw [g (24 * f) (by omega), Nat.add_assoc, g (24 * f + 2) (by omega), Nat.add_assoc, g (24 * f + 3) (by omega)]
      exact this
    · rw [f1] at hb
      rw [g (24 * a) (by omega), g (24 * b) (by omega)]
      exact s6 a b hab hb
    · rw [f1] at ha
      rw [g (24 * a) (by omega), f0]
      exact s7 a ha
theorem kC_add {K : Nat} {w w1 w' : kw} {l z v : Int32} (Cc : ∀ f : Nat, (f : Int) < l.toInt → w1 67 f = w 77 (K + 24 * f)) (h : w' = kup w1 67 l.toNatClampNeg v) (hl : 0 ≤ l.toInt) (hz : z.toInt = K + 24 * l.toInt) (e : w 77 z.toNatClampNeg = v) : ∀ f : Nat, (f : Int) ≤ l.toInt → w' 67 f = w 77 (K + 24 * f) := by
  intro f hf
  have hL := kn_of hl
  have hZ := kn_of (x := z) (by omega)
  by_cases hfl : (f : Int) < l.toInt
  · exact (kup_nek h (by omega)).trans (Cc f hfl)
  · have ef : f = l.toNatClampNeg := by omega
    have ez : K + 24 * f = z.toNatClampNeg := by omega
    rw [ez, e, ef, kup_eq h]
theorem kSlot_b {k : Nat} {w : kw} {l z v : Int32} (hS : kSlot w k) (d m : Nat) (hd : d = 0 ∧ m = 120 ∨ d = 2 ∧ m = 255 ∨ d = 3 ∧ m = 15) (h0 : 0 ≤ l.toInt) (hl : l.toInt < (w 78 (7 * k + 1)).toInt) (hz : z.toInt = 1920 * k + 24 * l.toInt + d) (e : w 77 z.toNatClampNeg = v) : v.toInt ≤ m := by
  have hL := kn_of h0
  have hZ := kn_of (x := z) (by omega)
  have h1 := hS.2.1 l.toNatClampNeg (by omega)
  subst e
  rcases hd with ⟨rfl, rfl⟩ | ⟨rfl, rfl⟩ | ⟨rfl, rfl⟩
  · rw [show z.toNatClampNeg = 1920 * k + 24 * l.toNatClampNeg by omega]; exact h1.1
  · rw [show z.toNatClampNeg = 1920 * k + 24 * l.toNatClampNeg + 2 by omega]; exact h1.2.1
  · rw [show z.toNatClampNeg = 1920 * k + 24 * l.toNatClampNeg + 3 by omega]; exact h1.2.2
theorem kMoT_rest {k : Nat} {w w' : kw} (hS : kSlot w k) (Cc : ∀ f : Nat, (f : Int) < (w 78 (7 * k + 1)).toInt → w' 67 f = w 77 (1920 * k + 24 * f)) (e1 : w' 61 20 = w 78 (7 * k + 1)) (e2 : w' 61 19 = w 78 (7 * k)) : kMoT w' := by
  refine ⟨by rw [e1]; exact hS.1.1, fun i j hij hj => ?_, fun i hi => ?_⟩
  · rw [e1] at hj
    rw [Cc i (by omega), Cc j hj]
    exact hS.2.2.1 i j hij hj
  · rw [e1] at hi
    rw [Cc i hi, e2]
    exact hS.2.2.2 i hi
theorem kAc_eq {K : Nat} {w w1 w' : kw} {f : Nat} (e : ∀ j : Nat, w' 77 j = w1 77 j) (A : kAc K w w1 f) : kAc K w w' f := ⟨(e _).trans A.1, (e _).trans A.2.1, (e _).trans A.2.2⟩
theorem kSl_kF {w w' : kw} {md : List (Nat × Option Nat)} (hf : kF md w w') (h : kSl w) (h1 : ∀ k : Nat, kmd md 74 k = false) (h2 : ∀ k : Nat, kmd md 77 k = false) (h3 : ∀ k : Nat, kmd md 78 k = false) : kSl w' := kSl_eq h (fun j => hf _ _ (h1 j)) (fun j => hf _ _ (h2 j)) (fun j => hf _ _ (h3 j))
