/-! ===== bytes of THE TAPE, its FAULT (the rows on bits are pasted out of kit/laws/BITS) ===== -/
def bt (x : Int32) (i : Nat) : Bool := x.toBitVec.getLsbD i
theorem b_ext {x y : Int32} (h : ∀ i, i < 32 → bt x i = bt y i) : x = y := Int32.toBitVec_inj.mp (BitVec.eq_of_getLsbD_eq (fun i hi => h i hi))
theorem b_or (x y : Int32) (i : Nat) : bt (x ||| y) i = (bt x i || bt y i) := by unfold bt; rw [Int32.toBitVec_or, BitVec.getLsbD_or]
theorem b_and (x y : Int32) (i : Nat) : bt (x &&& y) i = (bt x i && bt y i) := by unfold bt; rw [Int32.toBitVec_and, BitVec.getLsbD_and]
theorem b_xor (x y : Int32) (i : Nat) : bt (x ^^^ y) i = (bt x i ^^ bt y i) := by unfold bt; rw [Int32.toBitVec_xor, BitVec.getLsbD_xor]
theorem b_big {x : Int32} {i : Nat} (h : 32 ≤ i) : bt x i = false := BitVec.getLsbD_of_ge _ _ h
theorem b_255 (i : Nat) : bt 255 i = decide (i < 8) := by
  rcases Nat.lt_or_ge i 32 with h | h
  · exact (by decide +kernel : ∀ i, i < 32 → bt 255 i = decide (i < 8)) i h
  · rw [b_big h, decide_eq_false (by omega)]
theorem b_65535 (i : Nat) : bt 65535 i = decide (i < 16) := by
  rcases Nat.lt_or_ge i 32 with h | h
  · exact (by decide +kernel : ∀ i, i < 32 → bt 65535 i = decide (i < 16)) i h
  · rw [b_big h, decide_eq_false (by omega)]
theorem b_m1 : ∀ i, i < 32 → bt (-1) i = true := by decide +kernel
theorem b_0 (i : Nat) : bt 0 i = false := BitVec.getLsbD_zero
theorem s_l : ∀ n, n < 32 → ((nI n &&& 31).toBitVec.smod 32).toNat = n := by decide +kernel
theorem s_u : ∀ n, n < 32 → (((nI n).toUInt32 &&& Int32.toUInt32 31).toBitVec % 32).toNat = n := by decide +kernel
theorem b_shl (n : Nat) (hn : n < 32) (x : Int32) {i : Nat} (hi : i < 32) : bt (x <<< (nI n &&& 31)) i = (decide (n ≤ i) && bt x (i - n)) := by
  unfold bt
  rw [Int32.toBitVec_shiftLeft]
  show (x.toBitVec <<< ((nI n &&& 31).toBitVec.smod 32).toNat).getLsbD i = _
  rw [s_l n hn, BitVec.getLsbD_shiftLeft]
  rcases Nat.lt_or_ge i n with h | h
  · simp [h, Nat.not_le.mpr h]
  · simp [hi, h, Nat.not_lt.mpr h]
theorem b_ushr (n : Nat) (hn : n < 32) (x : Int32) (i : Nat) : bt ((x.toUInt32 >>> ((nI n).toUInt32 &&& Int32.toUInt32 31)).toInt32) i = bt x (n + i) := by
  show (x.toUInt32 >>> ((nI n).toUInt32 &&& Int32.toUInt32 31)).toBitVec.getLsbD i = x.toUInt32.toBitVec.getLsbD (n + i)
  rw [UInt32.toBitVec_shiftRight]
  show (x.toUInt32.toBitVec >>> (((nI n).toUInt32 &&& Int32.toUInt32 31).toBitVec % 32).toNat).getLsbD i = _
  rw [s_u n hn, BitVec.getLsbD_ushiftRight]
theorem b_sshr (n : Nat) (hn : n < 32) (x : Int32) {i : Nat} (hi : i < 32) : bt (x >>> (nI n &&& 31)) i = if n + i < 32 then bt x (n + i) else bt x 31 := by
  unfold bt
  rw [Int32.toBitVec_shiftRight]
  show (x.toBitVec.sshiftRight ((nI n &&& 31).toBitVec.smod 32).toNat).getLsbD i = _
  rw [s_l n hn, BitVec.getLsbD_sshiftRight, BitVec.msb_eq_getLsbD_last]
  simp [hi]
/-- a byte of a number that is fed -/
def kByte (x : Int32) (n : Nat) : Int32 := (x >>> (nI n &&& 31)) &&& 255
theorem kByte_s {x z v : Int32} (n : Nat) {s9 : Int32} (hs : s9 = nI n) (h1 : z = x >>> (s9 &&& 31)) (h2 : v = z &&& 255) : v = kByte x n := by
  subst hs; subst h1; exact h2
theorem kByte_u {x z v : Int32} (n : Nat) {s9 : Int32} (hs : s9 = nI n) (hn : n ≤ 24) (h1 : z = (x.toUInt32 >>> (s9.toUInt32 &&& Int32.toUInt32 31)).toInt32) (h2 : v = z &&& 255) : v = kByte x n := by
  subst hs; subst h1; subst h2
  apply b_ext
  intro i hi
  unfold kByte
  rw [b_and, b_and, b_255, b_ushr n (by omega) x i, b_sshr n (by omega) x hi]
  by_cases h8 : i < 8
  · rw [if_pos (by omega)]
  · simp [h8]
/-- four bytes behind another at place n of a row -/
def kLay (f : Nat → Int32) (n : Nat) (x : Int32) : Nat → Int32 := upd (upd (upd (upd f n (kByte x 24)) (n + 1) (kByte x 16)) (n + 2) (kByte x 8)) (n + 3) (kByte x 0)
theorem kRow_put {w w' : kw} {c : Nat} {z v : Int32} {f : Nat → Int32} (h : w' = kup w c z.toNatClampNeg v) (hf : ∀ k, w c k = f k) : ∀ k, w' c k = upd f z.toNatClampNeg v k := by
  intro k
  have e : w c = f := funext hf
  rw [h, kup_upd, e]
theorem kRow_ne {w w' : kw} {c c2 k2 : Nat} {v : Int32} {f : Nat → Int32} (h : w' = kup w c2 k2 v) (hb : Nat.beq c c2 = false) (hf : ∀ k, w c k = f k) : ∀ k, w' c k = f k := fun k => (kup_ne h (by rw [hb]; rfl)).trans (hf k)
theorem kLay_of {f g : Nat → Int32} {t x1 x2 x3 v0 v1 v2 v3 a : Int32} (h : ∀ k, g k = upd (upd (upd (upd f t.toNatClampNeg v0) x1.toNatClampNeg v1) x2.toNatClampNeg v2) x3.toNatClampNeg v3 k) (h0 : 0 ≤ t.toInt) (e1 : x1.toInt = t.toInt + 1) (e2 : x2.toInt = t.toInt + 2) (e3 : x3.toInt = t.toInt + 3) (b0 : v0 = kByte a 24) (b1 : v1 = kByte a 16) (b2 : v2 = kByte a 8) (b3 : v3 = kByte a 0) : ∀ k, g k = kLay f t.toInt.toNat a k := by
  intro k
  have n1 : x1.toNatClampNeg = t.toInt.toNat + 1 := by show x1.toInt.toNat = _; omega
  have n2 : x2.toNatClampNeg = t.toInt.toNat + 2 := by show x2.toInt.toNat = _; omega
  have n3 : x3.toNatClampNeg = t.toInt.toNat + 3 := by show x3.toInt.toNat = _; omega
  rw [h, n1, n2, n3, b0, b1, b2, b3]
  rfl
theorem kLay_step {f g h9 : Nat → Int32} {m n : Nat} {a : Int32} (hp : ∀ k, g k = f k) (h : ∀ k, h9 k = kLay g m a k) (hm : m = n) : ∀ k, h9 k = kLay f n a k := by
  intro k
  have e : g = f := funext hp
  rw [h, e, hm]
def kFeed (f : Nat → Int32) (n : Nat) (a1 a2 a3 a4 a5 a6 a7 a8 : Int32) : Nat → Int32 := kLay (kLay (kLay (kLay (kLay (kLay (kLay (kLay f n a1) (n + 4) a2) (n + 8) a3) (n + 12) a4) (n + 16) a5) (n + 20) a6) (n + 24) a7) (n + 28) a8
/-- a WORD of a row -/
def kWd (f : Nat → Int32) (a b : Nat) : Int := 256 * (f a).toInt + (f b).toInt
/-- the sum of the first m bytes from 64 on -/
def kS (f : Nat → Int32) : Nat → Int
  | 0 => 0
  | m + 1 => kS f m + (f (64 + m)).toInt
theorem kS_step {f : Nat → Int32} {i j x : Int32} (h : 64 ≤ i.toInt) (hj : j.toInt = i.toInt + 1) (hx : f i.toNatClampNeg = x) : kS f (j.toInt - 64).toNat = kS f (i.toInt - 64).toNat + x.toInt := by
  have e : (j.toInt - 64).toNat = (i.toInt - 64).toNat + 1 := by omega
  have e2 : 64 + (i.toInt - 64).toNat = i.toNatClampNeg := by show _ = i.toInt.toNat; omega
  rw [e, kS, e2, hx]
/-- the FAULT of a row of n bytes -/
def kFn (f : Nat → Int32) (n : Int) : Int :=
  if n < 64 then 1 else if ¬ (f 0).toInt = 3 then 2 else if kWd f 14 15 < 64 ∨ n < kWd f 14 15 then 3 else if kWd f 4 5 < kWd f 14 15 ∨ n < kWd f 4 5 then 4 else if n ≤ kWd f 6 7 then 5
  else if ¬ 2 * kWd f 26 27 = 0 ∧ ¬ 2 * kWd f 26 27 = n then 6 else if ¬ 2 * kWd f 26 27 = 0 ∧ ¬ kS f (n - 64).toNat % 65536 = kWd f 28 29 then 7 else 0
theorem kS_congr {f g : Nat → Int32} {m : Nat} : (∀ k : Nat, k < 64 + m → f k = g k) → kS f m = kS g m := by
  induction m with
  | zero => intro _; rfl
  | succ m ih =>
    intro h
    rw [kS, kS, ih (fun k hk => h k (by omega)), h (64 + m) (by omega)]
theorem kFn_congr {f g : Nat → Int32} {n : Int} (h : ∀ k : Nat, (k : Int) < n → f k = g k) : kFn f n = kFn g n := by
  unfold kFn
  by_cases hn : n < 64
  · rw [if_pos hn, if_pos hn]
  · rw [if_neg hn, if_neg hn]
    have e : kS f (n - 64).toNat = kS g (n - 64).toNat := kS_congr (fun k hk => h k (by omega))
    unfold kWd
    rw [e, h 0 (by omega), h 14 (by omega), h 15 (by omega), h 4 (by omega), h 5 (by omega), h 6 (by omega), h 7 (by omega), h 26 (by omega), h 27 (by omega), h 28 (by omega), h 29 (by omega)]
theorem kFn_eq {f g : Nat → Int32} {n : Int} (h : ∀ k : Nat, f k = g k) : kFn f n = kFn g n := kFn_congr (fun k _ => h k)
theorem kRow_cpy {w w' : kw} {n : Int32} {c0 c1 : Nat} {k : Nat} (h : w' = kur w c1 (va_cpy (w c0) (w c1) (0 : Int32).toNatClampNeg (0 : Int32).toNatClampNeg n.toNatClampNeg)) (hk : (k : Int) < n.toInt) : w' c1 k = w c0 k := by
  have e : w' c1 k = va_cpy (w c0) (w c1) 0 0 n.toNatClampNeg k := by rw [h, kur_self]; rfl
  have hn : k < 0 + n.toNatClampNeg := by show k < 0 + n.toInt.toNat; omega
  rw [e, pk_cpy_in (Nat.zero_le _) hn]
  simp
