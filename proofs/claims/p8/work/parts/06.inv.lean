/-! ===== intervals of places, frames ===== -/
/-- the interval of a place; b: THE MARK is that of a STORY -/
def kbnd (b : Bool) (c k : Nat) : Int × Int := bif b && (Nat.beq c 2 && Nat.beq k 3) then (0, 1024) else kbnd0 c k
def kI (b : Bool) (w : kw) : Prop := ∀ c k : Nat, (kbnd b c k).1 ≤ (w c k).toInt ∧ (w c k).toInt ≤ (kbnd b c k).2
theorem kup_eq {w w' : kw} {c k : Nat} {v : Int32} (h : w' = kup w c k v) : w' c k = v := by
  subst h
  simp [kup, Nat.beq_refl]
theorem kup_ne {w w' : kw} {c k c2 k2 : Nat} {v : Int32} (h : w' = kup w c k v) (hb : (Nat.beq c2 c && Nat.beq k2 k) = false) : w' c2 k2 = w c2 k2 := by
  subst h
  simp [kup, hb]
theorem kur_ne {w w' : kw} {c c2 k2 : Nat} {f : Nat → Int32} (h : w' = kur w c f) (hb : Nat.beq c2 c = false) : w' c2 k2 = w c2 k2 := by
  subst h
  simp [kur, hb]
theorem kI_put {b : Bool} {w w' : kw} {c k : Nat} {v : Int32} (h : w' = kup w c k v) (hI : kI b w) (h1 : (kbnd b c k).1 ≤ v.toInt) (h2 : v.toInt ≤ (kbnd b c k).2) : kI b w' := by
  intro c2 k2
  cases hb : (Nat.beq c2 c && Nat.beq k2 k) with
  | false => rw [kup_ne h hb]; exact hI c2 k2
  | true =>
    rw [Bool.and_eq_true] at hb
    have e1 := Nat.eq_of_beq_eq_true hb.1
    have e2 := Nat.eq_of_beq_eq_true hb.2
    subst e1; subst e2
    rw [kup_eq h]
    exact ⟨h1, h2⟩
theorem kI_cpy {b : Bool} {w w' : kw} {c0 c1 : Nat} {sp dp n : Nat} (h : w' = kur w c1 (va_cpy (w c0) (w c1) sp dp n)) (hI : kI b w) (he : ∀ k : Nat, kbnd b c0 k = kbnd b c1 k) (hc : ∀ j k : Nat, kbnd b c1 j = kbnd b c1 k) : kI b w' := by
  intro c2 k2
  cases hb : Nat.beq c2 c1 with
  | false => rw [kur_ne h hb]; exact hI c2 k2
  | true =>
    have e1 := Nat.eq_of_beq_eq_true hb
    subst e1
    have e2 : w' c2 k2 = va_cpy (w c0) (w c2) sp dp n k2 := by subst h; rw [kur_self]
    rw [e2]
    by_cases hk : dp ≤ k2 ∧ k2 < dp + n
    · rw [pk_cpy_in hk.1 hk.2]
      have := hI c0 (sp + (k2 - dp))
      rw [he, hc _ k2] at this
      exact this
    · rw [pk_cpy_out (by omega)]
      exact hI c2 k2
theorem kI_weak {w : kw} (h : kI true w) : kI false w := by
  intro c k
  have h1 := h c k
  unfold kbnd at h1 ⊢
  cases hb : (Nat.beq c 2 && Nat.beq k 3) with
  | false => rw [hb] at h1; simpa using h1
  | true =>
    rw [hb] at h1
    rw [Bool.and_eq_true] at hb
    have e1 := Nat.eq_of_beq_eq_true hb.1
    have e2 := Nat.eq_of_beq_eq_true hb.2
    subst e1; subst e2
    have h2 : (0 : Int) ≤ (w 2 3).toInt ∧ (w 2 3).toInt ≤ 1024 := h1
    show (0 : Int) ≤ (w 2 3).toInt ∧ (w 2 3).toInt ≤ 65535
    omega
theorem kI_strong {w : kw} (h : kI false w) (hm : (w 2 3).toInt ≤ 1024) : kI true w := by
  intro c k
  have h1 := h c k
  unfold kbnd at h1 ⊢
  cases hb : (Nat.beq c 2 && Nat.beq k 3) with
  | false => simpa using h1
  | true =>
    rw [Bool.and_eq_true] at hb
    have e1 := Nat.eq_of_beq_eq_true hb.1
    have e2 := Nat.eq_of_beq_eq_true hb.2
    subst e1; subst e2
    have h2 : (0 : Int) ≤ (w 2 3).toInt ∧ (w 2 3).toInt ≤ 65535 := h1
    show (0 : Int) ≤ (w 2 3).toInt ∧ (w 2 3).toInt ≤ 1024
    omega
/-- which places may have changed -/
def kmd (md : List (Nat × Option Nat)) (c k : Nat) : Bool := md.any (fun q => Nat.beq q.1 c && (match q.2 with | none => true | some j => Nat.beq j k))
def kF (md : List (Nat × Option Nat)) (w w' : kw) : Prop := ∀ c k : Nat, kmd md c k = false → w' c k = w c k
theorem kF.rf {md : List (Nat × Option Nat)} {w : kw} : kF md w w := fun _ _ _ => rfl
theorem kF_put {md : List (Nat × Option Nat)} {w w1 w' : kw} {c k : Nat} {v : Int32} (h : w' = kup w1 c k v) (hF : kF md w w1) (hm : kmd md c k = true) : kF md w w' := by
  intro c2 k2 h2
  cases hb : (Nat.beq c2 c && Nat.beq k2 k) with
  | false => rw [kup_ne h hb]; exact hF c2 k2 h2
  | true =>
    rw [Bool.and_eq_true] at hb
    have e1 := Nat.eq_of_beq_eq_true hb.1
    have e2 := Nat.eq_of_beq_eq_true hb.2
    subst e1; subst e2
    rw [hm] at h2; cases h2
theorem kF_row {md : List (Nat × Option Nat)} {w w1 w' : kw} {c : Nat} {f : Nat → Int32} (h : w' = kur w1 c f) (hF : kF md w w1) (hm : ∀ k : Nat, kmd md c k = true) : kF md w w' := by
  intro c2 k2 h2
  cases hb : Nat.beq c2 c with
  | false => rw [kur_ne h hb]; exact hF c2 k2 h2
  | true =>
    have e1 := Nat.eq_of_beq_eq_true hb
    subst e1
    rw [hm] at h2; cases h2
def kcov (big small : List (Nat × Option Nat)) : Bool := small.all (fun q => big.any (fun b => Nat.beq b.1 q.1 && (match b.2 with | none => true | some j => (match q.2 with | none => false | some i => Nat.beq j i))))
theorem kcov_md {big small : List (Nat × Option Nat)} (h : kcov big small = true) {c k : Nat} (hb : kmd big c k = false) : kmd small c k = false := by
  cases hs : kmd small c k with
  | false => rfl
  | true =>
    exfalso
    obtain ⟨q, hq, h1⟩ := List.any_eq_true.mp hs
    obtain ⟨b, hbm, h2⟩ := List.any_eq_true.mp (List.all_eq_true.mp h q hq)
    have h3 : kmd big c k = true := by
      refine List.any_eq_true.mpr ⟨b, hbm, ?_⟩
      obtain ⟨q1, q2⟩ := q
      obtain ⟨b1, b2⟩ := b
      simp only [Bool.and_eq_true] at h1 h2 ⊢
      have e1 := Nat.eq_of_beq_eq_true h1.1
      have e2 := Nat.eq_of_beq_eq_true h2.1
      subst e1; subst e2
      refine ⟨Nat.beq_refl _, ?_⟩
      cases b2 with
      | none => rfl
      | some j =>
        cases q2 with
        | none => simp at h2
        | some i =>
          have e3 := Nat.eq_of_beq_eq_true h2.2
          have e4 := Nat.eq_of_beq_eq_true h1.2
          subst e3; subst e4
          exact Nat.beq_refl _
    rw [h3] at hb; cases hb
theorem kF_call {md md' : List (Nat × Option Nat)} {w w1 w' : kw} (hF : kF md w w1) (hf : kF md' w1 w') (hc : kcov md md' = true) : kF md w w' := fun c k h => (hf c k (kcov_md hc h)).trans (hF c k h)
theorem kf_and1 {x z : Int32} (h : z = x &&& 1) : z.toInt = x.toInt % 2 := by rw [h]; exact kf_and x 1 (by decide) (by decide)
theorem kf_and3 {x z : Int32} (h : z = x &&& 3) : z.toInt = x.toInt % 4 := by rw [h]; exact kf_and x 2 (by decide) (by decide)
theorem kf_and7 {x z : Int32} (h : z = x &&& 7) : z.toInt = x.toInt % 8 := by rw [h]; exact kf_and x 3 (by decide) (by decide)
theorem kf_and15 {x z : Int32} (h : z = x &&& 15) : z.toInt = x.toInt % 16 := by rw [h]; exact kf_and x 4 (by decide) (by decide)
theorem kf_and31 {x z : Int32} (h : z = x &&& 31) : z.toInt = x.toInt % 32 := by rw [h]; exact kf_and x 5 (by decide) (by decide)
theorem kf_and63 {x z : Int32} (h : z = x &&& 63) : z.toInt = x.toInt % 64 := by rw [h]; exact kf_and x 6 (by decide) (by decide)
theorem kf_and127 {x z : Int32} (h : z = x &&& 127) : z.toInt = x.toInt % 128 := by rw [h]; exact kf_and x 7 (by decide) (by decide)
theorem kf_and255 {x z : Int32} (h : z = x &&& 255) : z.toInt = x.toInt % 256 := by rw [h]; exact kf_and x 8 (by decide) (by decide)
theorem kf_and32767 {x z : Int32} (h : z = x &&& 32767) : z.toInt = x.toInt % 32768 := by rw [h]; exact kf_and x 15 (by decide) (by decide)
theorem kf_and65535 {x z : Int32} (h : z = x &&& 65535) : z.toInt = x.toInt % 65536 := by rw [h]; exact kf_and x 16 (by decide) (by decide)
theorem kf_cl {x : Int32} {n : Nat} (h : x.toInt = (n : Int)) : x.toNatClampNeg = n := by show x.toInt.toNat = n; rw [h]; rfl
theorem kf_01 {x : Int32} (h : 0 ≤ x.toInt ∧ x.toInt ≤ 1) : x = 0 ∨ x = 1 := by
  rcases (show x.toInt = 0 ∨ x.toInt = 1 by omega) with e | e
  · exact Or.inl (Int32.toInt_inj.mp (e.trans rfl))
  · exact Or.inr (Int32.toInt_inj.mp (e.trans rfl))
theorem kf_bool {x : Int32} (h : 0 ≤ x.toInt ∧ x.toInt ≤ 1) : narrow .boolean (.int x) = .int x := by
  rcases kf_01 h with rfl | rfl <;> decide
theorem kf_nar {x : Int32} (h : 0 ≤ x.toInt ∧ x.toInt ≤ 1) : vp_nar .boolean x = x := by
  rcases kf_01 h with rfl | rfl <;> decide
theorem kf_div {x y z : Int32} (h : z = x / y) (hx : 0 ≤ x.toInt) (hy : 0 < y.toInt) : z.toInt = x.toInt / y.toInt := by
  obtain ⟨a, ha, ea⟩ := nI_of (x := x) (fun q => by have := kc_lt_t0 q; omega)
  obtain ⟨d, hd, ed⟩ := nI_of (x := y) (fun q => by have := kc_lt_t0 q; omega)
  subst ea; subst ed
  rw [nI_toInt hd] at hy
  rw [h, pk_div ha (by omega) hd, nI_toInt ha, nI_toInt hd, nI_toInt (Nat.lt_of_le_of_lt (Nat.div_le_self _ _) ha)]
  norm_cast
theorem kf_xor255 {x y z : Int32} (h : z = x ^^^ y) (h1 : 0 ≤ x.toInt) (h2 : x.toInt ≤ 255) (h3 : 0 ≤ y.toInt) (h4 : y.toInt ≤ 255) : 0 ≤ z.toInt ∧ z.toInt ≤ 255 := by
  obtain ⟨a, ha, ea⟩ := nI_of (x := x) (fun q => by have := kc_lt_t0 q; omega)
  obtain ⟨d, hd, ed⟩ := nI_of (x := y) (fun q => by have := kc_lt_t0 q; omega)
  subst ea; subst ed
  rw [nI_toInt ha] at h2
  rw [nI_toInt hd] at h4
  have e : nI a ^^^ nI d = nI (a ^^^ d) := by
    show Int32.ofNat a ^^^ Int32.ofNat d = Int32.ofNat (a ^^^ d)
    apply Int32.toBitVec_inj.mp
    simp [Int32.toBitVec_xor, Int32.toBitVec_ofNat', BitVec.ofNat_xor]
  have hb : a ^^^ d < 2 ^ 8 := Nat.xor_lt_two_pow (by omega) (by omega)
  rw [h, e, nI_toInt (by omega)]
  omega
