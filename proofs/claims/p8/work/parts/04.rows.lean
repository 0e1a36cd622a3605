/-! ===== rows over kV, one an instruction ===== -/
theorem kf_rng (z : Int32) : -2147483648 ≤ z.toInt ∧ z.toInt ≤ 2147483647 := ⟨Int32.le_toInt z, by have := Int32.toInt_lt z; omega⟩
theorem kf_add (x y : Int32) : ∃ q : Int, (x + y).toInt = x.toInt + y.toInt - 4294967296 * q ∧ -2147483648 ≤ (x + y).toInt ∧ (x + y).toInt ≤ 2147483647 := by
  obtain ⟨h1, h2⟩ := kf_rng (x + y)
  rw [Int32.toInt_add] at h1 h2 ⊢
  refine ⟨Int.bdiv (x.toInt + y.toInt) 4294967296, ?_, h1, h2⟩
  have := Int.bmod_add_bdiv (x.toInt + y.toInt) 4294967296
  simp only [show (2 ^ 32 : Nat) = 4294967296 from rfl] at *
  omega
theorem kf_sub (x y : Int32) : ∃ q : Int, (x - y).toInt = x.toInt - y.toInt - 4294967296 * q ∧ -2147483648 ≤ (x - y).toInt ∧ (x - y).toInt ≤ 2147483647 := by
  obtain ⟨h1, h2⟩ := kf_rng (x - y)
  rw [Int32.toInt_sub] at h1 h2 ⊢
  refine ⟨Int.bdiv (x.toInt - y.toInt) 4294967296, ?_, h1, h2⟩
  have := Int.bmod_add_bdiv (x.toInt - y.toInt) 4294967296
  simp only [show (2 ^ 32 : Nat) = 4294967296 from rfl] at *
  omega
theorem kf_mul (x y : Int32) : ∃ q : Int, (x * y).toInt = x.toInt * y.toInt - 4294967296 * q := by
  rw [Int32.toInt_mul]
  refine ⟨Int.bdiv (x.toInt * y.toInt) 4294967296, ?_⟩
  have := Int.bmod_add_bdiv (x.toInt * y.toInt) 4294967296
  simp only [show (2 ^ 32 : Nat) = 4294967296 from rfl] at *
  omega
/-- a mask of k low bits -/
theorem kf_and (x : Int32) {m : Int32} (k : Nat) (hk : k ≤ 30) (hm : m.toBitVec.toNat = 2 ^ k - 1) : (x &&& m).toInt = x.toInt % (2 ^ k : Int) := by
  obtain ⟨j, hj, e⟩ := pk_andE x k hm
  have e2 := pk_and x k hm
  have hp : (2 : Nat) ^ k ≤ 2 ^ 30 := Nat.pow_le_pow_right (by decide) hk
  have hl : x.toBitVec.toNat % 2 ^ k < 2 ^ k := Nat.mod_lt _ (Nat.two_pow_pos k)
  rw [e2, nI_toInt (by omega)]
  have ht : x.toInt = x.toBitVec.toInt := rfl
  rw [ht, BitVec.toInt_eq_toNat_cond]
  have hd : (2 ^ k : Int) ∣ (2 ^ 32 : Int) := by
    refine ⟨2 ^ (32 - k), ?_⟩
    rw [← Int.pow_add]
    congr 1
    omega
  split
  · rw [Int.natCast_emod]; norm_cast
  · rw [Int.natCast_emod]
    have h5 : ((x.toBitVec.toNat : Int) - ((2 ^ 32 : Nat) : Int)) % (2 ^ k : Int) = (x.toBitVec.toNat : Int) % (2 ^ k : Int) := by
      rw [show (((2 ^ 32 : Nat) : Int)) = (2 ^ 32 : Int) by norm_cast]
      obtain ⟨c9, hc9⟩ := hd
      rw [hc9]
      first | exact Int.sub_mul_emod_self_left _ _ _ | simp [Int.sub_emod] | (rw [Int.sub_eq_add_neg, ← Int.mul_neg]; exact Int.add_mul_emod_self_left _ _ _)
    rw [h5]
    norm_cast
theorem kc_eq_t {x y : Int32} (h : x = y) : x.toInt = y.toInt := by rw [h]
theorem kc_eq_f {x y : Int32} (h : ¬ x = y) : ¬ x.toInt = y.toInt := fun q => h (Int32.toInt_inj.mp q)
theorem kc_ne_t {x y : Int32} (h : ¬ x = y) : ¬ x.toInt = y.toInt := fun q => h (Int32.toInt_inj.mp q)
theorem kc_ne_f {x y : Int32} (h : x = y) : x.toInt = y.toInt := by rw [h]
theorem kc_lt_t {x y : Int32} (h : x < y) : x.toInt < y.toInt := Int32.lt_iff_toInt_lt.mp h
theorem kc_lt_f {x y : Int32} (h : ¬ x < y) : ¬ x.toInt < y.toInt := fun q => h (Int32.lt_iff_toInt_lt.mpr q)
theorem kc_ge_t {x y : Int32} (h : y ≤ x) : y.toInt ≤ x.toInt := Int32.le_iff_toInt_le.mp h
theorem kc_ge_f {x y : Int32} (h : ¬ y ≤ x) : ¬ y.toInt ≤ x.toInt := fun q => h (Int32.le_iff_toInt_le.mpr q)
theorem kc_gt_t {x y : Int32} (h : y < x) : y.toInt < x.toInt := Int32.lt_iff_toInt_lt.mp h
theorem kc_gt_f {x y : Int32} (h : ¬ y < x) : ¬ y.toInt < x.toInt := fun q => h (Int32.lt_iff_toInt_lt.mpr q)
theorem kc_le_t {x y : Int32} (h : x ≤ y) : x.toInt ≤ y.toInt := Int32.le_iff_toInt_le.mp h
theorem kc_le_f {x y : Int32} (h : ¬ x ≤ y) : ¬ x.toInt ≤ y.toInt := fun q => h (Int32.le_iff_toInt_le.mpr q)
theorem kc_eq_t0 {x : Int32} (h : x = 0) : x.toInt = 0 := by rw [h]; rfl
theorem kc_eq_f0 {x : Int32} (h : ¬ x = 0) : ¬ x.toInt = 0 := fun q => h (Int32.toInt_inj.mp (q.trans rfl))
theorem kc_ne_t0 {x : Int32} (h : ¬ x = 0) : ¬ x.toInt = 0 := kc_eq_f0 h
theorem kc_ne_f0 {x : Int32} (h : x = 0) : x.toInt = 0 := kc_eq_t0 h
theorem kc_lt_t0 {x : Int32} (h : x < 0) : x.toInt < 0 := kc_lt_t h
theorem kc_lt_f0 {x : Int32} (h : ¬ x < 0) : ¬ x.toInt < 0 := kc_lt_f h
theorem kc_ge_t0 {x : Int32} (h : 0 ≤ x) : 0 ≤ x.toInt := kc_ge_t h
theorem kc_ge_f0 {x : Int32} (h : ¬ 0 ≤ x) : ¬ 0 ≤ x.toInt := kc_ge_f h
theorem kc_gt_t0 {x : Int32} (h : 0 < x) : 0 < x.toInt := kc_gt_t h
theorem kc_gt_f0 {x : Int32} (h : ¬ 0 < x) : ¬ 0 < x.toInt := kc_gt_f h
theorem kc_le_t0 {x : Int32} (h : x ≤ 0) : x.toInt ≤ 0 := kc_le_t h
theorem kc_le_f0 {x : Int32} (h : ¬ x ≤ 0) : ¬ x.toInt ≤ 0 := kc_le_f h
section KV
variable {p : Program} {l : Launch} {e : Env} {R : Room} {s : State} {m : MethodId} {args : Array Value} {below : List Frame} {meth : Method} {c : Code} {Q : State → Prop} {cc : ByteArray} {nL : Nat} {own : String} {D : va_G} {τ : Nat → ClassId} {ρ σ : Nat → Nat} {pc : Nat} {L : List (Nat × Value)} {st : List Value} {w : kw}

theorem kv_iconst (C : kC p s m args c cc nL own D τ ρ σ) (pc' : Nat) (hpc : pc + 1 = pc') {n : Int} (v : Int32) (hd : decode cc pc = .ok (.iconst n, 1)) (hv : Int32.ofInt n = v)
    (k : kV p l e R s m args below meth c Q nL D τ ρ pc' (L) (.int v :: st) (w)) : kV p l e R s m args below meth c Q nL D τ ρ pc L (st) w := by
  intro H locs ls hP hS hl
  subst hpc
  exact lv_iconst C.1 C.2.1 hd hv (k H locs ls hP hS hl)
theorem kv_bipush (C : kC p s m args c cc nL own D τ ρ σ) (pc' : Nat) (hpc : pc + 2 = pc') {n : Int} (v : Int32) (hd : decode cc pc = .ok (.bipush n, 2)) (hv : (Int8.ofInt n).toInt32 = v)
    (k : kV p l e R s m args below meth c Q nL D τ ρ pc' (L) (.int v :: st) (w)) : kV p l e R s m args below meth c Q nL D τ ρ pc L (st) w := by
  intro H locs ls hP hS hl
  subst hpc
  exact lv_bipush C.1 C.2.1 hd hv (k H locs ls hP hS hl)
theorem kv_sipush (C : kC p s m args c cc nL own D τ ρ σ) (pc' : Nat) (hpc : pc + 3 = pc') {n : Int} (v : Int32) (hd : decode cc pc = .ok (.sipush n, 3)) (hv : (Int16.ofInt n).toInt32 = v)
    (k : kV p l e R s m args below meth c Q nL D τ ρ pc' (L) (.int v :: st) (w)) : kV p l e R s m args below meth c Q nL D τ ρ pc L (st) w := by
  intro H locs ls hP hS hl
  subst hpc
  exact lv_sipush C.1 C.2.1 hd hv (k H locs ls hP hS hl)
theorem kv_lconst (C : kC p s m args c cc nL own D τ ρ σ) (pc' : Nat) (hpc : pc + 1 = pc') {n : Fin 2} (v : Int64) (hd : decode cc pc = .ok (.lconst n, 1)) (hv : Int64.ofNat (n : Nat) = v)
    (k : kV p l e R s m args below meth c Q nL D τ ρ pc' (L) (.long v :: st) (w)) : kV p l e R s m args below meth c Q nL D τ ρ pc L (st) w := by
  intro H locs ls hP hS hl
  subst hpc
  exact lv_lconst C.1 C.2.1 hd hv (k H locs ls hP hS hl)
theorem kv_ldc (C : kC p s m args c cc nL own D τ ρ σ) (pc' : Nat) (hpc : pc + 2 = pc') {index : Nat} (v : Int32) (hd : decode cc pc = .ok (.ldc index, 2)) (hw : Cond.constant own index v ∈ kUW)
    (k : kV p l e R s m args below meth c Q nL D τ ρ pc' (L) (.int v :: st) (w)) : kV p l e R s m args below meth c Q nL D τ ρ pc L (st) w := by
  intro H locs ls hP hS hl
  subst hpc
  exact lv_ldc C.1 C.2.1 C.2.2.2.1 (C.2.2.2.2.1 _ hw) hd (k H locs ls hP hS hl)
theorem kv_ldcw (C : kC p s m args c cc nL own D τ ρ σ) (pc' : Nat) (hpc : pc + 3 = pc') {index : Nat} (v : Int32) (hd : decode cc pc = .ok (.ldc_w index, 3)) (hw : Cond.constant own index v ∈ kUW)
    (k : kV p l e R s m args below meth c Q nL D τ ρ pc' (L) (.int v :: st) (w)) : kV p l e R s m args below meth c Q nL D τ ρ pc L (st) w := by
  intro H locs ls hP hS hl
  subst hpc
  exact lv_ldcw C.1 C.2.1 C.2.2.2.1 (C.2.2.2.2.1 _ hw) hd (k H locs ls hP hS hl)
theorem kv_ldc2 (C : kC p s m args c cc nL own D τ ρ σ) (pc' : Nat) (hpc : pc + 3 = pc') {index : Nat} (v : Int64) (hd : decode cc pc = .ok (.ldc2_w index, 3)) (hw : Cond.constantLong own index v ∈ kUW)
    (k : kV p l e R s m args below meth c Q nL D τ ρ pc' (L) (.long v :: st) (w)) : kV p l e R s m args below meth c Q nL D τ ρ pc L (st) w := by
  intro H locs ls hP hS hl
  subst hpc
  exact lv_ldc2 C.1 C.2.1 C.2.2.2.1 (C.2.2.2.2.1 _ hw) hd (k H locs ls hP hS hl)
theorem kv_iload_n (C : kC p s m args c cc nL own D τ ρ σ) (pc' : Nat) (hpc : pc + 1 = pc') {k9 : Fin 4} (j : Nat) {i : Nat} {x : Int32} (hd : decode cc pc = .ok (.iload_n k9, 1)) (hj : L[j]? = some (i, .int x)) (hi : (k9 : Nat) = i)
    (k : kV p l e R s m args below meth c Q nL D τ ρ pc' (L) (.int x :: st) (w)) : kV p l e R s m args below meth c Q nL D τ ρ pc L (st) w := by
  intro H locs ls hP hS hl
  subst hpc
  exact lv_iload_n C.1 C.2.1 hd hi (lv_at hl j hj) (k H locs ls hP hS hl)
theorem kv_iload (C : kC p s m args c cc nL own D τ ρ σ) (pc' : Nat) (hpc : pc + 2 = pc') (j : Nat) {i : Nat} {x : Int32} (hd : decode cc pc = .ok (.iload i, 2)) (hj : L[j]? = some (i, .int x))
    (k : kV p l e R s m args below meth c Q nL D τ ρ pc' (L) (.int x :: st) (w)) : kV p l e R s m args below meth c Q nL D τ ρ pc L (st) w := by
  intro H locs ls hP hS hl
  subst hpc
  exact lv_iload C.1 C.2.1 hd (lv_at hl j hj) (k H locs ls hP hS hl)
theorem kv_lload_n (C : kC p s m args c cc nL own D τ ρ σ) (pc' : Nat) (hpc : pc + 1 = pc') {k9 : Fin 4} (j : Nat) {i : Nat} {x : Int64} (hd : decode cc pc = .ok (.lload_n k9, 1)) (hj : L[j]? = some (i, .long x)) (hi : (k9 : Nat) = i)
    (k : kV p l e R s m args below meth c Q nL D τ ρ pc' (L) (.long x :: st) (w)) : kV p l e R s m args below meth c Q nL D τ ρ pc L (st) w := by
  intro H locs ls hP hS hl
  subst hpc
  exact lv_lload_n C.1 C.2.1 hd hi (lv_at hl j hj) (k H locs ls hP hS hl)
theorem kv_lload (C : kC p s m args c cc nL own D τ ρ σ) (pc' : Nat) (hpc : pc + 2 = pc') (j : Nat) {i : Nat} {x : Int64} (hd : decode cc pc = .ok (.lload i, 2)) (hj : L[j]? = some (i, .long x))
    (k : kV p l e R s m args below meth c Q nL D τ ρ pc' (L) (.long x :: st) (w)) : kV p l e R s m args below meth c Q nL D τ ρ pc L (st) w := by
  intro H locs ls hP hS hl
  subst hpc
  exact lv_lload C.1 C.2.1 hd (lv_at hl j hj) (k H locs ls hP hS hl)
theorem kv_aload_n (C : kC p s m args c cc nL own D τ ρ σ) (pc' : Nat) (hpc : pc + 1 = pc') {k9 : Fin 4} (j : Nat) {i : Nat} {x : Nat} (hd : decode cc pc = .ok (.aload_n k9, 1)) (hj : L[j]? = some (i, .ref x)) (hi : (k9 : Nat) = i)
    (k : kV p l e R s m args below meth c Q nL D τ ρ pc' (L) (.ref x :: st) (w)) : kV p l e R s m args below meth c Q nL D τ ρ pc L (st) w := by
  intro H locs ls hP hS hl
  subst hpc
  exact lv_aload_n C.1 C.2.1 hd hi (lv_at hl j hj) (k H locs ls hP hS hl)
theorem kv_aload (C : kC p s m args c cc nL own D τ ρ σ) (pc' : Nat) (hpc : pc + 2 = pc') (j : Nat) {i : Nat} {x : Nat} (hd : decode cc pc = .ok (.aload i, 2)) (hj : L[j]? = some (i, .ref x))
    (k : kV p l e R s m args below meth c Q nL D τ ρ pc' (L) (.ref x :: st) (w)) : kV p l e R s m args below meth c Q nL D τ ρ pc L (st) w := by
  intro H locs ls hP hS hl
  subst hpc
  exact lv_aload C.1 C.2.1 hd (lv_at hl j hj) (k H locs ls hP hS hl)
theorem kv_istore_n (C : kC p s m args c cc nL own D τ ρ σ) (pc' : Nat) (hpc : pc + 1 = pc') {k9 : Fin 4} (i : Nat) (ks : List Nat) {x : Int32} (L' : List (Nat × Value)) (hd : decode cc pc = .ok (.istore_n k9, 1)) (hi : (k9 : Nat) = i) (hn : i < nL) (hl9 : lv_pick ((i, Value.int x) :: L.filter (fun q => !(q.1 == i) && !(q.1 + 1 == i && q.2.category == 2))) ks = L')
    (k : kV p l e R s m args below meth c Q nL D τ ρ pc' (L') (st) (w)) : kV p l e R s m args below meth c Q nL D τ ρ pc L (.int x :: st) w := by
  intro H locs ls hP hS hl
  subst hpc
  exact lv_istore_n C.1 C.2.1 hd hi hl hn rfl (fun ls' hl' => k H locs ls' hP hS (lv_sub hl' ks hl9))
theorem kv_istore (C : kC p s m args c cc nL own D τ ρ σ) (pc' : Nat) (hpc : pc + 2 = pc') (i : Nat) (ks : List Nat) {x : Int32} (L' : List (Nat × Value)) (hd : decode cc pc = .ok (.istore i, 2)) (hn : i < nL) (hl9 : lv_pick ((i, Value.int x) :: L.filter (fun q => !(q.1 == i) && !(q.1 + 1 == i && q.2.category == 2))) ks = L')
    (k : kV p l e R s m args below meth c Q nL D τ ρ pc' (L') (st) (w)) : kV p l e R s m args below meth c Q nL D τ ρ pc L (.int x :: st) w := by
  intro H locs ls hP hS hl
  subst hpc
  exact lv_istore C.1 C.2.1 hd hl hn rfl (fun ls' hl' => k H locs ls' hP hS (lv_sub hl' ks hl9))
theorem kv_astore_n (C : kC p s m args c cc nL own D τ ρ σ) (pc' : Nat) (hpc : pc + 1 = pc') {k9 : Fin 4} (i : Nat) (ks : List Nat) {x : Nat} (L' : List (Nat × Value)) (hd : decode cc pc = .ok (.astore_n k9, 1)) (hi : (k9 : Nat) = i) (hn : i < nL) (hl9 : lv_pick ((i, Value.ref x) :: L.filter (fun q => !(q.1 == i) && !(q.1 + 1 == i && q.2.category == 2))) ks = L')
    (k : kV p l e R s m args below meth c Q nL D τ ρ pc' (L') (st) (w)) : kV p l e R s m args below meth c Q nL D τ ρ pc L (.ref x :: st) w := by
  intro H locs ls hP hS hl
  subst hpc
  exact lv_astore_n C.1 C.2.1 hd hi hl hn rfl (fun ls' hl' => k H locs ls' hP hS (lv_sub hl' ks hl9))
theorem kv_astore (C : kC p s m args c cc nL own D τ ρ σ) (pc' : Nat) (hpc : pc + 2 = pc') (i : Nat) (ks : List Nat) {x : Nat} (L' : List (Nat × Value)) (hd : decode cc pc = .ok (.astore i, 2)) (hn : i < nL) (hl9 : lv_pick ((i, Value.ref x) :: L.filter (fun q => !(q.1 == i) && !(q.1 + 1 == i && q.2.category == 2))) ks = L')
    (k : kV p l e R s m args below meth c Q nL D τ ρ pc' (L') (st) (w)) : kV p l e R s m args below meth c Q nL D τ ρ pc L (.ref x :: st) w := by
  intro H locs ls hP hS hl
  subst hpc
  exact lv_astore C.1 C.2.1 hd hl hn rfl (fun ls' hl' => k H locs ls' hP hS (lv_sub hl' ks hl9))
theorem kv_iinc (C : kC p s m args c cc nL own D τ ρ σ) (pc' : Nat) (hpc : pc + 3 = pc') (i j : Nat) (ks : List Nat) {n : Int} {x : Int32} (L' : Int32 → List (Nat × Value)) (hd : decode cc pc = .ok (.iinc i n, 3)) (hj : L[j]? = some (i, .int x)) (hn : i < nL) (hl9 : ∀ v, lv_pick ((i, Value.int v) :: L.filter (fun q => !(q.1 == i) && !(q.1 + 1 == i && q.2.category == 2))) ks = L' v) (d : Int) (hdl : (Int32.ofInt n).toInt = d)
    (k : ∀ (z : Int32) (q : Int), z = x + Int32.ofInt n → z.toInt = x.toInt + d - 4294967296 * q → -2147483648 ≤ z.toInt → z.toInt ≤ 2147483647 → kV p l e R s m args below meth c Q nL D τ ρ pc' (L' z) (st) (w)) : kV p l e R s m args below meth c Q nL D τ ρ pc L (st) w := by
  intro H locs ls hP hS hl
  subst hpc
  obtain ⟨q, h1, h2, h3⟩ := kf_add x (Int32.ofInt n)
  rw [hdl] at h1
  exact lv_iinc C.1 C.2.1 hd hl hj rfl hn rfl (fun ls' hl' => k _ q rfl h1 h2 h3 H locs ls' hP hS (lv_sub hl' ks (hl9 _)))
theorem kv_iadd (C : kC p s m args c cc nL own D τ ρ σ) (pc' : Nat) (hpc : pc + 1 = pc') {x y : Int32} (hd : decode cc pc = .ok (.iadd, 1))
    (k : ∀ (z : Int32) (q : Int), z = x + y → z.toInt = x.toInt + y.toInt - 4294967296 * q → -2147483648 ≤ z.toInt → z.toInt ≤ 2147483647 → kV p l e R s m args below meth c Q nL D τ ρ pc' (L) (.int z :: st) (w)) : kV p l e R s m args below meth c Q nL D τ ρ pc L (.int y :: .int x :: st) w := by
  intro H locs ls hP hS hl
  subst hpc
  obtain ⟨q, h1, h2, h3⟩ := kf_add x y
  exact lv_iadd C.1 C.2.1 hd (k _ q rfl h1 h2 h3 H locs ls hP hS hl)
theorem kv_isub (C : kC p s m args c cc nL own D τ ρ σ) (pc' : Nat) (hpc : pc + 1 = pc') {x y : Int32} (hd : decode cc pc = .ok (.isub, 1))
    (k : ∀ (z : Int32) (q : Int), z = x - y → z.toInt = x.toInt - y.toInt - 4294967296 * q → -2147483648 ≤ z.toInt → z.toInt ≤ 2147483647 → kV p l e R s m args below meth c Q nL D τ ρ pc' (L) (.int z :: st) (w)) : kV p l e R s m args below meth c Q nL D τ ρ pc L (.int y :: .int x :: st) w := by
  intro H locs ls hP hS hl
  subst hpc
  obtain ⟨q, h1, h2, h3⟩ := kf_sub x y
  exact lv_isub C.1 C.2.1 hd (k _ q rfl h1 h2 h3 H locs ls hP hS hl)
theorem kv_imul (C : kC p s m args c cc nL own D τ ρ σ) (pc' : Nat) (hpc : pc + 1 = pc') {x y : Int32} (hd : decode cc pc = .ok (.imul, 1))
    (k : ∀ z : Int32, z = x * y → -2147483648 ≤ z.toInt → z.toInt ≤ 2147483647 → kV p l e R s m args below meth c Q nL D τ ρ pc' (L) (.int z :: st) (w)) : kV p l e R s m args below meth c Q nL D τ ρ pc L (.int y :: .int x :: st) w := by
  intro H locs ls hP hS hl
  subst hpc
  exact lv_imul C.1 C.2.1 hd (k _ rfl (kf_rng _).1 (kf_rng _).2 H locs ls hP hS hl)
theorem kv_ior (C : kC p s m args c cc nL own D τ ρ σ) (pc' : Nat) (hpc : pc + 1 = pc') {x y : Int32} (hd : decode cc pc = .ok (.ior, 1))
    (k : ∀ z : Int32, z = x ||| y → -2147483648 ≤ z.toInt → z.toInt ≤ 2147483647 → kV p l e R s m args below meth c Q nL D τ ρ pc' (L) (.int z :: st) (w)) : kV p l e R s m args below meth c Q nL D τ ρ pc L (.int y :: .int x :: st) w := by
  intro H locs ls hP hS hl
  subst hpc
  exact lv_ior C.1 C.2.1 hd (k _ rfl (kf_rng _).1 (kf_rng _).2 H locs ls hP hS hl)
theorem kv_ixor (C : kC p s m args c cc nL own D τ ρ σ) (pc' : Nat) (hpc : pc + 1 = pc') {x y : Int32} (hd : decode cc pc = .ok (.ixor, 1))
    (k : ∀ z : Int32, z = x ^^^ y → -2147483648 ≤ z.toInt → z.toInt ≤ 2147483647 → kV p l e R s m args below meth c Q nL D τ ρ pc' (L) (.int z :: st) (w)) : kV p l e R s m args below meth c Q nL D τ ρ pc L (.int y :: .int x :: st) w := by
  intro H locs ls hP hS hl
  subst hpc
  exact lv_ixor C.1 C.2.1 hd (k _ rfl (kf_rng _).1 (kf_rng _).2 H locs ls hP hS hl)
theorem kv_iand (C : kC p s m args c cc nL own D τ ρ σ) (pc' : Nat) (hpc : pc + 1 = pc') {x y : Int32} (hd : decode cc pc = .ok (.iand, 1))
    (k : ∀ z : Int32, z = x &&& y → -2147483648 ≤ z.toInt → z.toInt ≤ 2147483647 → kV p l e R s m args below meth c Q nL D τ ρ pc' (L) (.int z :: st) (w)) : kV p l e R s m args below meth c Q nL D τ ρ pc L (.int y :: .int x :: st) w := by
  intro H locs ls hP hS hl
  subst hpc
  exact lv_iand C.1 C.2.1 hd (k _ rfl (kf_rng _).1 (kf_rng _).2 H locs ls hP hS hl)
theorem kv_ishl (C : kC p s m args c cc nL own D τ ρ σ) (pc' : Nat) (hpc : pc + 1 = pc') {x y : Int32} (hd : decode cc pc = .ok (.ishl, 1))
    (k : ∀ z : Int32, z = x <<< (y &&& 31) → -2147483648 ≤ z.toInt → z.toInt ≤ 2147483647 → kV p l e R s m args below meth c Q nL D τ ρ pc' (L) (.int z :: st) (w)) : kV p l e R s m args below meth c Q nL D τ ρ pc L (.int y :: .int x :: st) w := by
  intro H locs ls hP hS hl
  subst hpc
  exact lv_ishl C.1 C.2.1 hd (k _ rfl (kf_rng _).1 (kf_rng _).2 H locs ls hP hS hl)
theorem kv_ishr (C : kC p s m args c cc nL own D τ ρ σ) (pc' : Nat) (hpc : pc + 1 = pc') {x y : Int32} (hd : decode cc pc = .ok (.ishr, 1))
    (k : ∀ z : Int32, z = x >>> (y &&& 31) → -2147483648 ≤ z.toInt → z.toInt ≤ 2147483647 → kV p l e R s m args below meth c Q nL D τ ρ pc' (L) (.int z :: st) (w)) : kV p l e R s m args below meth c Q nL D τ ρ pc L (.int y :: .int x :: st) w := by
  intro H locs ls hP hS hl
  subst hpc
  exact lv_ishr C.1 C.2.1 hd (k _ rfl (kf_rng _).1 (kf_rng _).2 H locs ls hP hS hl)
theorem kv_iushr (C : kC p s m args c cc nL own D τ ρ σ) (pc' : Nat) (hpc : pc + 1 = pc') {x y : Int32} (hd : decode cc pc = .ok (.iushr, 1))
    (k : ∀ z : Int32, z = (x.toUInt32 >>> (y.toUInt32 &&& Int32.toUInt32 31)).toInt32 → -2147483648 ≤ z.toInt → z.toInt ≤ 2147483647 → kV p l e R s m args below meth c Q nL D τ ρ pc' (L) (.int z :: st) (w)) : kV p l e R s m args below meth c Q nL D τ ρ pc L (.int y :: .int x :: st) w := by
  intro H locs ls hP hS hl
  subst hpc
  exact lv_iushr C.1 C.2.1 hd rfl (k _ rfl (kf_rng _).1 (kf_rng _).2 H locs ls hP hS hl)
theorem kv_idiv (C : kC p s m args c cc nL own D τ ρ σ) (pc' : Nat) (hpc : pc + 1 = pc') {x y : Int32} (hd : decode cc pc = .ok (.idiv, 1)) (hne : ¬ y = 0)
    (k : ∀ z : Int32, z = x / y → -2147483648 ≤ z.toInt → z.toInt ≤ 2147483647 → kV p l e R s m args below meth c Q nL D τ ρ pc' (L) (.int z :: st) (w)) : kV p l e R s m args below meth c Q nL D τ ρ pc L (.int y :: .int x :: st) w := by
  intro H locs ls hP hS hl
  subst hpc
  exact lv_idiv C.1 C.2.1 hd hne (k _ rfl (kf_rng _).1 (kf_rng _).2 H locs ls hP hS hl)
theorem kv_irem (C : kC p s m args c cc nL own D τ ρ σ) (pc' : Nat) (hpc : pc + 1 = pc') {x y : Int32} (hd : decode cc pc = .ok (.irem, 1)) (hne : ¬ y = 0)
    (k : ∀ z : Int32, z = x - x / y * y → -2147483648 ≤ z.toInt → z.toInt ≤ 2147483647 → kV p l e R s m args below meth c Q nL D τ ρ pc' (L) (.int z :: st) (w)) : kV p l e R s m args below meth c Q nL D τ ρ pc L (.int y :: .int x :: st) w := by
  intro H locs ls hP hS hl
  subst hpc
  exact lv_irem C.1 C.2.1 hd hne (k _ rfl (kf_rng _).1 (kf_rng _).2 H locs ls hP hS hl)
theorem kv_ineg (C : kC p s m args c cc nL own D τ ρ σ) (pc' : Nat) (hpc : pc + 1 = pc') {x : Int32} (hd : decode cc pc = .ok (.ineg, 1))
    (k : ∀ z : Int32, z = 0 - x → -2147483648 ≤ z.toInt → z.toInt ≤ 2147483647 → kV p l e R s m args below meth c Q nL D τ ρ pc' (L) (.int z :: st) (w)) : kV p l e R s m args below meth c Q nL D τ ρ pc L (.int x :: st) w := by
  intro H locs ls hP hS hl
  subst hpc
  exact lv_ineg C.1 C.2.1 hd (k _ rfl (kf_rng _).1 (kf_rng _).2 H locs ls hP hS hl)
theorem kv_i2l (C : kC p s m args c cc nL own D τ ρ σ) (pc' : Nat) (hpc : pc + 1 = pc') {x : Int32} (hd : decode cc pc = .ok (.i2l, 1))
    (k : kV p l e R s m args below meth c Q nL D τ ρ pc' (L) (.long x.toInt64 :: st) (w)) : kV p l e R s m args below meth c Q nL D τ ρ pc L (.int x :: st) w := by
  intro H locs ls hP hS hl
  subst hpc
  exact lv_i2l C.1 C.2.1 hd rfl (k H locs ls hP hS hl)
theorem kv_i2c (C : kC p s m args c cc nL own D τ ρ σ) (pc' : Nat) (hpc : pc + 1 = pc') {x : Int32} (hd : decode cc pc = .ok (.i2c, 1))
    (k : ∀ z : Int32, z = (x.toUInt32 % 65536).toInt32 → -2147483648 ≤ z.toInt → z.toInt ≤ 2147483647 → kV p l e R s m args below meth c Q nL D τ ρ pc' (L) (.int z :: st) (w)) : kV p l e R s m args below meth c Q nL D τ ρ pc L (.int x :: st) w := by
  intro H locs ls hP hS hl
  subst hpc
  exact lv_i2c C.1 C.2.1 hd rfl (k _ rfl (kf_rng _).1 (kf_rng _).2 H locs ls hP hS hl)
theorem kv_lcmp (C : kC p s m args c cc nL own D τ ρ σ) (pc' : Nat) (hpc : pc + 1 = pc') {x y : Int64} (hd : decode cc pc = .ok (.lcmp, 1))
    (k : kV p l e R s m args below meth c Q nL D τ ρ pc' (L) (.int (lg_cmp x y) :: st) (w)) : kV p l e R s m args below meth c Q nL D τ ρ pc L (.long y :: .long x :: st) w := by
  intro H locs ls hP hS hl
  subst hpc
  exact W.lcmp C.1 C.2.1 hd (k H locs ls hP hS hl)
theorem kv_dup (C : kC p s m args c cc nL own D τ ρ σ) (pc' : Nat) (hpc : pc + 1 = pc') {va : Value} (hd : decode cc pc = .ok (.dup, 1)) (ha : va.category = 1)
    (k : kV p l e R s m args below meth c Q nL D τ ρ pc' (L) (va :: va :: st) (w)) : kV p l e R s m args below meth c Q nL D τ ρ pc L (va :: st) w := by
  intro H locs ls hP hS hl
  subst hpc
  exact lv_dup C.1 C.2.1 hd ha (k H locs ls hP hS hl)
theorem kv_pop (C : kC p s m args c cc nL own D τ ρ σ) (pc' : Nat) (hpc : pc + 1 = pc') {va : Value} (hd : decode cc pc = .ok (.pop, 1)) (ha : va.category = 1)
    (k : kV p l e R s m args below meth c Q nL D τ ρ pc' (L) (st) (w)) : kV p l e R s m args below meth c Q nL D τ ρ pc L (va :: st) w := by
  intro H locs ls hP hS hl
  subst hpc
  exact lv_pop C.1 C.2.1 hd ha (k H locs ls hP hS hl)
theorem kv_dup_x1 (C : kC p s m args c cc nL own D τ ρ σ) (pc' : Nat) (hpc : pc + 1 = pc') {va vb : Value} (hd : decode cc pc = .ok (.dup_x1, 1)) (ha : va.category = 1) (hb : vb.category = 1)
    (k : kV p l e R s m args below meth c Q nL D τ ρ pc' (L) (va :: vb :: va :: st) (w)) : kV p l e R s m args below meth c Q nL D τ ρ pc L (va :: vb :: st) w := by
  intro H locs ls hP hS hl
  subst hpc
  exact lv_dup_x1 C.1 C.2.1 hd ha hb (k H locs ls hP hS hl)
theorem kv_dup_x2 (C : kC p s m args c cc nL own D τ ρ σ) (pc' : Nat) (hpc : pc + 1 = pc') {va vb vd : Value} (hd : decode cc pc = .ok (.dup_x2, 1)) (ha : va.category = 1) (hb : vb.category = 1) (hc : vd.category = 1)
    (k : kV p l e R s m args below meth c Q nL D τ ρ pc' (L) (va :: vb :: vd :: va :: st) (w)) : kV p l e R s m args below meth c Q nL D τ ρ pc L (va :: vb :: vd :: st) w := by
  intro H locs ls hP hS hl
  subst hpc
  exact lv_dup_x2 C.1 C.2.1 hd ha hb hc (k H locs ls hP hS hl)
theorem kv_dup2 (C : kC p s m args c cc nL own D τ ρ σ) (pc' : Nat) (hpc : pc + 1 = pc') {va vb : Value} (hd : decode cc pc = .ok (.dup2, 1)) (ha : va.category = 1) (hb : vb.category = 1)
    (k : kV p l e R s m args below meth c Q nL D τ ρ pc' (L) (va :: vb :: va :: vb :: st) (w)) : kV p l e R s m args below meth c Q nL D τ ρ pc L (va :: vb :: st) w := by
  intro H locs ls hP hS hl
  subst hpc
  exact lv_dup2_11 C.1 C.2.1 hd ha hb (k H locs ls hP hS hl)
theorem kv_icmp_eq (C : kC p s m args c cc nL own D τ ρ σ) (pc' : Nat) (hpc : pc + 3 = pc') {x y : Int32} {off : Int} (tgt : Nat) (hd : decode cc pc = .ok (.if_icmp .eq off, 3)) (ht : (pc : Int) + off = (tgt : Int))
    (kt : x.toInt = y.toInt → kV p l e R s m args below meth c Q nL D τ ρ (tgt) (L) (st) (w)) (kf : ¬ x.toInt = y.toInt → kV p l e R s m args below meth c Q nL D τ ρ pc' (L) (st) (w)) : kV p l e R s m args below meth c Q nL D τ ρ pc L (.int y :: .int x :: st) w := by
  intro H locs ls hP hS hl
  subst hpc
  exact lv_icmp_eq C.1 C.2.1 hd ht (fun h => kt (kc_eq_t h) H locs ls hP hS hl) (fun h => kf (kc_eq_f h) H locs ls hP hS hl)
theorem kv_if_eq (C : kC p s m args c cc nL own D τ ρ σ) (pc' : Nat) (hpc : pc + 3 = pc') {x : Int32} {off : Int} (tgt : Nat) (hd : decode cc pc = .ok (.ifCond .eq off, 3)) (ht : (pc : Int) + off = (tgt : Int))
    (kt : x.toInt = 0 → kV p l e R s m args below meth c Q nL D τ ρ (tgt) (L) (st) (w)) (kf : ¬ x.toInt = 0 → kV p l e R s m args below meth c Q nL D τ ρ pc' (L) (st) (w)) : kV p l e R s m args below meth c Q nL D τ ρ pc L (.int x :: st) w := by
  intro H locs ls hP hS hl
  subst hpc
  exact lv_if_eq C.1 C.2.1 hd ht (fun h => kt (kc_eq_t0 h) H locs ls hP hS hl) (fun h => kf (kc_eq_f0 h) H locs ls hP hS hl)
theorem kv_icmp_ne (C : kC p s m args c cc nL own D τ ρ σ) (pc' : Nat) (hpc : pc + 3 = pc') {x y : Int32} {off : Int} (tgt : Nat) (hd : decode cc pc = .ok (.if_icmp .ne off, 3)) (ht : (pc : Int) + off = (tgt : Int))
    (kt : ¬ x.toInt = y.toInt → kV p l e R s m args below meth c Q nL D τ ρ (tgt) (L) (st) (w)) (kf : x.toInt = y.toInt → kV p l e R s m args below meth c Q nL D τ ρ pc' (L) (st) (w)) : kV p l e R s m args below meth c Q nL D τ ρ pc L (.int y :: .int x :: st) w := by
  intro H locs ls hP hS hl
  subst hpc
  exact lv_icmp_ne C.1 C.2.1 hd ht (fun h => kt (kc_ne_t h) H locs ls hP hS hl) (fun h => kf (kc_ne_f h) H locs ls hP hS hl)
theorem kv_if_ne (C : kC p s m args c cc nL own D τ ρ σ) (pc' : Nat) (hpc : pc + 3 = pc') {x : Int32} {off : Int} (tgt : Nat) (hd : decode cc pc = .ok (.ifCond .ne off, 3)) (ht : (pc : Int) + off = (tgt : Int))
    (kt : ¬ x.toInt = 0 → kV p l e R s m args below meth c Q nL D τ ρ (tgt) (L) (st) (w)) (kf : x.toInt = 0 → kV p l e R s m args below meth c Q nL D τ ρ pc' (L) (st) (w)) : kV p l e R s m args below meth c Q nL D τ ρ pc L (.int x :: st) w := by
  intro H locs ls hP hS hl
  subst hpc
  exact lv_if_ne C.1 C.2.1 hd ht (fun h => kt (kc_ne_t0 h) H locs ls hP hS hl) (fun h => kf (kc_ne_f0 h) H locs ls hP hS hl)
theorem kv_icmp_lt (C : kC p s m args c cc nL own D τ ρ σ) (pc' : Nat) (hpc : pc + 3 = pc') {x y : Int32} {off : Int} (tgt : Nat) (hd : decode cc pc = .ok (.if_icmp .lt off, 3)) (ht : (pc : Int) + off = (tgt : Int))
    (kt : x.toInt < y.toInt → kV p l e R s m args below meth c Q nL D τ ρ (tgt) (L) (st) (w)) (kf : ¬ x.toInt < y.toInt → kV p l e R s m args below meth c Q nL D τ ρ pc' (L) (st) (w)) : kV p l e R s m args below meth c Q nL D τ ρ pc L (.int y :: .int x :: st) w := by
  intro H locs ls hP hS hl
  subst hpc
  exact lv_icmp_lt C.1 C.2.1 hd ht (fun h => kt (kc_lt_t h) H locs ls hP hS hl) (fun h => kf (kc_lt_f h) H locs ls hP hS hl)
theorem kv_if_lt (C : kC p s m args c cc nL own D τ ρ σ) (pc' : Nat) (hpc : pc + 3 = pc') {x : Int32} {off : Int} (tgt : Nat) (hd : decode cc pc = .ok (.ifCond .lt off, 3)) (ht : (pc : Int) + off = (tgt : Int))
    (kt : x.toInt < 0 → kV p l e R s m args below meth c Q nL D τ ρ (tgt) (L) (st) (w)) (kf : ¬ x.toInt < 0 → kV p l e R s m args below meth c Q nL D τ ρ pc' (L) (st) (w)) : kV p l e R s m args below meth c Q nL D τ ρ pc L (.int x :: st) w := by
  intro H locs ls hP hS hl
  subst hpc
  exact lv_if_lt C.1 C.2.1 hd ht (fun h => kt (kc_lt_t0 h) H locs ls hP hS hl) (fun h => kf (kc_lt_f0 h) H locs ls hP hS hl)
theorem kv_icmp_ge (C : kC p s m args c cc nL own D τ ρ σ) (pc' : Nat) (hpc : pc + 3 = pc') {x y : Int32} {off : Int} (tgt : Nat) (hd : decode cc pc = .ok (.if_icmp .ge off, 3)) (ht : (pc : Int) + off = (tgt : Int))
    (kt : y.toInt ≤ x.toInt → kV p l e R s m args below meth c Q nL D τ ρ (tgt) (L) (st) (w)) (kf : ¬ y.toInt ≤ x.toInt → kV p l e R s m args below meth c Q nL D τ ρ pc' (L) (st) (w)) : kV p l e R s m args below meth c Q nL D τ ρ pc L (.int y :: .int x :: st) w := by
  intro H locs ls hP hS hl
  subst hpc
  exact lv_icmp_ge C.1 C.2.1 hd ht (fun h => kt (kc_ge_t h) H locs ls hP hS hl) (fun h => kf (kc_ge_f h) H locs ls hP hS hl)
theorem kv_if_ge (C : kC p s m args c cc nL own D τ ρ σ) (pc' : Nat) (hpc : pc + 3 = pc') {x : Int32} {off : Int} (tgt : Nat) (hd : decode cc pc = .ok (.ifCond .ge off, 3)) (ht : (pc : Int) + off = (tgt : Int))
    (kt : 0 ≤ x.toInt → kV p l e R s m args below meth c Q nL D τ ρ (tgt) (L) (st) (w)) (kf : ¬ 0 ≤ x.toInt → kV p l e R s m args below meth c Q nL D τ ρ pc' (L) (st) (w)) : kV p l e R s m args below meth c Q nL D τ ρ pc L (.int x :: st) w := by
  intro H locs ls hP hS hl
  subst hpc
  exact lv_if_ge C.1 C.2.1 hd ht (fun h => kt (kc_ge_t0 h) H locs ls hP hS hl) (fun h => kf (kc_ge_f0 h) H locs ls hP hS hl)
theorem kv_icmp_gt (C : kC p s m args c cc nL own D τ ρ σ) (pc' : Nat) (hpc : pc + 3 = pc') {x y : Int32} {off : Int} (tgt : Nat) (hd : decode cc pc = .ok (.if_icmp .gt off, 3)) (ht : (pc : Int) + off = (tgt : Int))
    (kt : y.toInt < x.toInt → kV p l e R s m args below meth c Q nL D τ ρ (tgt) (L) (st) (w)) (kf : ¬ y.toInt < x.toInt → kV p l e R s m args below meth c Q nL D τ ρ pc' (L) (st) (w)) : kV p l e R s m args below meth c Q nL D τ ρ pc L (.int y :: .int x :: st) w := by
  intro H locs ls hP hS hl
  subst hpc
  exact lv_icmp_gt C.1 C.2.1 hd ht (fun h => kt (kc_gt_t h) H locs ls hP hS hl) (fun h => kf (kc_gt_f h) H locs ls hP hS hl)
theorem kv_if_gt (C : kC p s m args c cc nL own D τ ρ σ) (pc' : Nat) (hpc : pc + 3 = pc') {x : Int32} {off : Int} (tgt : Nat) (hd : decode cc pc = .ok (.ifCond .gt off, 3)) (ht : (pc : Int) + off = (tgt : Int))
    (kt : 0 < x.toInt → kV p l e R s m args below meth c Q nL D τ ρ (tgt) (L) (st) (w)) (kf : ¬ 0 < x.toInt → kV p l e R s m args below meth c Q nL D τ ρ pc' (L) (st) (w)) : kV p l e R s m args below meth c Q nL D τ ρ pc L (.int x :: st) w := by
  intro H locs ls hP hS hl
  subst hpc
  exact lv_if_gt C.1 C.2.1 hd ht (fun h => kt (kc_gt_t0 h) H locs ls hP hS hl) (fun h => kf (kc_gt_f0 h) H locs ls hP hS hl)
theorem kv_icmp_le (C : kC p s m args c cc nL own D τ ρ σ) (pc' : Nat) (hpc : pc + 3 = pc') {x y : Int32} {off : Int} (tgt : Nat) (hd : decode cc pc = .ok (.if_icmp .le off, 3)) (ht : (pc : Int) + off = (tgt : Int))
    (kt : x.toInt ≤ y.toInt → kV p l e R s m args below meth c Q nL D τ ρ (tgt) (L) (st) (w)) (kf : ¬ x.toInt ≤ y.toInt → kV p l e R s m args below meth c Q nL D τ ρ pc' (L) (st) (w)) : kV p l e R s m args below meth c Q nL D τ ρ pc L (.int y :: .int x :: st) w := by
  intro H locs ls hP hS hl
  subst hpc
  exact lv_icmp_le C.1 C.2.1 hd ht (fun h => kt (kc_le_t h) H locs ls hP hS hl) (fun h => kf (kc_le_f h) H locs ls hP hS hl)
theorem kv_if_le (C : kC p s m args c cc nL own D τ ρ σ) (pc' : Nat) (hpc : pc + 3 = pc') {x : Int32} {off : Int} (tgt : Nat) (hd : decode cc pc = .ok (.ifCond .le off, 3)) (ht : (pc : Int) + off = (tgt : Int))
    (kt : x.toInt ≤ 0 → kV p l e R s m args below meth c Q nL D τ ρ (tgt) (L) (st) (w)) (kf : ¬ x.toInt ≤ 0 → kV p l e R s m args below meth c Q nL D τ ρ pc' (L) (st) (w)) : kV p l e R s m args below meth c Q nL D τ ρ pc L (.int x :: st) w := by
  intro H locs ls hP hS hl
  subst hpc
  exact lv_if_le C.1 C.2.1 hd ht (fun h => kt (kc_le_t0 h) H locs ls hP hS hl) (fun h => kf (kc_le_f0 h) H locs ls hP hS hl)
theorem kv_goto (C : kC p s m args c cc nL own D τ ρ σ) {off : Int} (tgt : Nat) (hd : decode cc pc = .ok (.goto off, 3)) (ht : (pc : Int) + off = (tgt : Int))
    (k : kV p l e R s m args below meth c Q nL D τ ρ (tgt) (L) (st) (w)) : kV p l e R s m args below meth c Q nL D τ ρ pc L (st) w := by
  intro H locs ls hP hS hl
  exact lv_goto C.1 C.2.1 hd ht (k H locs ls hP hS hl)
theorem kv_tableOut (C : kC p s m args c cc nL own D τ ρ σ) {dflt lo hi : Int} {offs : Array Int} {len : Nat} {x : Int32} (tgt : Nat) (hd : decode cc pc = .ok (.tableswitch dflt lo hi offs, len)) (h : x.toInt < lo ∨ hi < x.toInt) (ht : (pc : Int) + dflt = (tgt : Int))
    (k : kV p l e R s m args below meth c Q nL D τ ρ (tgt) (L) (st) (w)) : kV p l e R s m args below meth c Q nL D τ ρ pc L (.int x :: st) w := by
  intro H locs ls hP hS hl
  exact lv_tableOut C.1 C.2.1 hd h ht (k H locs ls hP hS hl)
theorem kv_tableIn (C : kC p s m args c cc nL own D τ ρ σ) {dflt lo hi : Int} {offs : Array Int} {len : Nat} {x : Int32} (j : Int) {off : Int} (tgt : Nat) (hd : decode cc pc = .ok (.tableswitch dflt lo hi offs, len)) (hj : x.toInt = j) (h1 : ¬ j < lo) (h2 : ¬ hi < j) (ho : offs[(j - lo).toNat]? = some off) (ht : (pc : Int) + off = (tgt : Int))
    (k : kV p l e R s m args below meth c Q nL D τ ρ (tgt) (L) (st) (w)) : kV p l e R s m args below meth c Q nL D τ ρ pc L (.int x :: st) w := by
  intro H locs ls hP hS hl
  subst hj
  exact lv_tableIn C.1 C.2.1 hd h1 h2 ho ht (k H locs ls hP hS hl)
theorem kv_lookup (C : kC p s m args c cc nL own D τ ρ σ) {dflt : Int} {ps : Array (Int × Int)} {len : Nat} {x : Int32} (off : Int) (tgt : Nat) (hd : decode cc pc = .ok (.lookupswitch dflt ps, len)) (hp : (ps.toList.zip (ps.toList.drop 1)).all (fun (a, next) => a.1 < next.1) = true) (ho : Op.lookupswitch.offset ps.toList dflt x.toInt = off) (ht : (pc : Int) + off = (tgt : Int))
    (k : kV p l e R s m args below meth c Q nL D τ ρ (tgt) (L) (st) (w)) : kV p l e R s m args below meth c Q nL D τ ρ pc L (.int x :: st) w := by
  intro H locs ls hP hS hl
  exact lv_lookup C.1 C.2.1 hd hp ho ht (k H locs ls hP hS hl)
theorem kv_get (C : kC p s m args c cc nL own D τ ρ σ) (pc' : Nat) (hpc : pc + 3 = pc') (cl k0 : Nat) {ci : Nat} {fk : List (Nat ⊕ Bool)} {CN : String} {T : u_T} {N index : Nat} (hs : kSh[cl]? = some (.inl (ci, fk))) (hc : vwCl[ci]? = some (CN, T, N)) (hin : ∀ w ∈ u_ws CN T N, w ∈ kUW) (hk : k0 < N) (hlk : Cond.fieldLink own index CN (T k0).2.1 (T k0).2.2.1 ∈ kUW) (hown : (T k0).1 = CN) (hf : fk[k0]? = some (.inr false)) (hd : decode cc pc = .ok (.getfield index, 3)) {x : Int32} (hx : w cl k0 = x)
    (k : kV p l e R s m args below meth c Q nL D τ ρ pc' (L) (.int x :: st) (w)) : kV p l e R s m args below meth c Q nL D τ ρ pc L (.ref (ρ cl) :: st) w := by
  intro H locs ls hP hS hl
  subst hpc
  subst hx
  exact va_get C.1 C.2.1 C.2.2.2.2.1 hin C.2.2.2.1 C.2.2.2.2.2.1 hP cl (kcells_at hs) hc k0 hk (C.2.2.2.2.1 _ hlk) (fun x9 h9 => by rw [hown] at h9; exact h9) (v := .int (w cl k0)) (by rw [List.getElem?_mapIdx, hf]; rfl) hd (k H locs ls hP hS hl)
theorem kv_getr (C : kC p s m args c cc nL own D τ ρ σ) (pc' : Nat) (hpc : pc + 3 = pc') (cl k0 : Nat) {ci : Nat} {fk : List (Nat ⊕ Bool)} {CN : String} {T : u_T} {N index : Nat} (hs : kSh[cl]? = some (.inl (ci, fk))) (hc : vwCl[ci]? = some (CN, T, N)) (hin : ∀ w ∈ u_ws CN T N, w ∈ kUW) (hk : k0 < N) (hlk : Cond.fieldLink own index CN (T k0).2.1 (T k0).2.2.1 ∈ kUW) (hown : (T k0).1 = CN) {r : Nat} (hf : fk[k0]? = some (.inl r)) (hd : decode cc pc = .ok (.getfield index, 3))
    (k : kV p l e R s m args below meth c Q nL D τ ρ pc' (L) (.ref (ρ r) :: st) (w)) : kV p l e R s m args below meth c Q nL D τ ρ pc L (.ref (ρ cl) :: st) w := by
  intro H locs ls hP hS hl
  subst hpc
  exact va_get C.1 C.2.1 C.2.2.2.2.1 hin C.2.2.2.1 C.2.2.2.2.2.1 hP cl (kcells_at hs) hc k0 hk (C.2.2.2.2.1 _ hlk) (fun x9 h9 => by rw [hown] at h9; exact h9) (v := .ref (ρ r)) (by rw [List.getElem?_mapIdx, hf]; rfl) hd (k H locs ls hP hS hl)
theorem kv_getm (C : kC p s m args c cc nL own D τ ρ σ) (pc' : Nat) (hpc : pc + 3 = pc') (cl k0 : Nat) {ci : Nat} {fk : List (Nat ⊕ Bool)} {CN : String} {T : u_T} {N index : Nat} (hs : kSh[cl]? = some (.inl (ci, fk))) (hc : vwCl[ci]? = some (CN, T, N)) (hin : ∀ w ∈ u_ws CN T N, w ∈ kUW) (hk : k0 < N) (hlk : Cond.fieldLink own index CN (T k0).2.1 (T k0).2.2.1 ∈ kUW) (hown : (T k0).1 = CN) (r : Nat) (hr : Nat.beq r 0 = false) (hf : fk[k0]? = some (.inr true)) (hd : decode cc pc = .ok (.getfield index, 3)) (hx : (w cl k0).toNatClampNeg = r)
    (k : kV p l e R s m args below meth c Q nL D τ ρ pc' (L) (.ref (ρ r) :: st) (w)) : kV p l e R s m args below meth c Q nL D τ ρ pc L (.ref (ρ cl) :: st) w := by
  intro H locs ls hP hS hl
  subst hpc
  exact va_get C.1 C.2.1 C.2.2.2.2.1 hin C.2.2.2.1 C.2.2.2.2.2.1 hP cl (kcells_at hs) hc k0 hk (C.2.2.2.2.1 _ hlk) (fun x9 h9 => by rw [hown] at h9; exact h9) (v := .ref (ρ r)) (by rw [List.getElem?_mapIdx, hf]; simp [kfv, hx, hr]) hd (k H locs ls hP hS hl)
theorem kv_put (C : kC p s m args c cc nL own D τ ρ σ) (pc' : Nat) (hpc : pc + 3 = pc') (cl k0 : Nat) {ci : Nat} {fk : List (Nat ⊕ Bool)} {CN : String} {T : u_T} {N index : Nat} (hs : kSh[cl]? = some (.inl (ci, fk))) (hc : vwCl[ci]? = some (CN, T, N)) (hin : ∀ w ∈ u_ws CN T N, w ∈ kUW) (hk : k0 < N) (hlk : Cond.fieldLink own index CN (T k0).2.1 (T k0).2.2.1 ∈ kUW) (hown : (T k0).1 = CN) (ty0 : Nat → FieldType) (hty : ∀ k, k < N → parseFieldDescriptor (T k).2.2.1 = some (ty0 k)) (hnm : ∀ a, a < N → ∀ b, b < N → a ≠ b → (T a).2.1 ≠ (T b).2.1) (hfin : (T k0).2.2.2 = false) (hf : fk[k0]? = some (.inr false)) (hd : decode cc pc = .ok (.putfield index, 3)) {x : Int32} (hn : narrow (ty0 k0) (.int x) = .int x) (hfit : fits (ty0 k0) (.int x) = true)
    (k : ∀ w', w' = kup w cl k0 x → kV p l e R s m args below meth c Q nL D τ ρ pc' (L) (st) (w')) : kV p l e R s m args below meth c Q nL D τ ρ pc L (.int x :: .ref (ρ cl) :: st) w := by
  intro H locs ls hP hS hl
  subst hpc
  refine va_put C.1 C.2.1 C.2.2.2.2.1 hin ty0 hty hnm C.2.2.2.1 C.2.2.2.2.2.1 hP (kD C.2.2.2.2.2.2.2.1) hS cl (kcells_at hs) hc k0 hk (C.2.2.2.2.1 _ hlk) (fun x9 h9 => by rw [hown] at h9; exact h9) hfin (hty k0 hk) hn hfit (by rw [List.length_mapIdx]; exact (List.getElem?_eq_some_iff.mp hf).1) hd (fun H1 locs1 hP1 _ hS1 => ?_)
  have e1 : .int x = kfv ρ (.inr false) x := rfl
  rw [e1, kfields_set hf, kcells_set (w' := kup w cl k0 x) hs (by rw [kup_upd]; rfl) (fun c' h' => kup_row h')] at hP1
  exact k _ rfl H1 locs1 ls hP1 hS1 hl
theorem kv_putm (C : kC p s m args c cc nL own D τ ρ σ) (pc' : Nat) (hpc : pc + 3 = pc') (cl k0 : Nat) {ci : Nat} {fk : List (Nat ⊕ Bool)} {CN : String} {T : u_T} {N index : Nat} (hs : kSh[cl]? = some (.inl (ci, fk))) (hc : vwCl[ci]? = some (CN, T, N)) (hin : ∀ w ∈ u_ws CN T N, w ∈ kUW) (hk : k0 < N) (hlk : Cond.fieldLink own index CN (T k0).2.1 (T k0).2.2.1 ∈ kUW) (hown : (T k0).1 = CN) (ty0 : Nat → FieldType) (hty : ∀ k, k < N → parseFieldDescriptor (T k).2.2.1 = some (ty0 k)) (hnm : ∀ a, a < N → ∀ b, b < N → a ≠ b → (T a).2.1 ≠ (T b).2.1) (hfin : (T k0).2.2.2 = false) (r : Nat) (x : Int32) (hx : x.toNatClampNeg = r) (hr : Nat.beq r 0 = false) (hf : fk[k0]? = some (.inr true)) (hd : decode cc pc = .ok (.putfield index, 3)) (hn : narrow (ty0 k0) (.ref (ρ r)) = .ref (ρ r)) (hfit : fits (ty0 k0) (.ref (ρ r)) = true)
    (k : ∀ w', w' = kup w cl k0 x → kV p l e R s m args below meth c Q nL D τ ρ pc' (L) (st) (w')) : kV p l e R s m args below meth c Q nL D τ ρ pc L (.ref (ρ r) :: .ref (ρ cl) :: st) w := by
  intro H locs ls hP hS hl
  subst hpc
  refine va_put C.1 C.2.1 C.2.2.2.2.1 hin ty0 hty hnm C.2.2.2.1 C.2.2.2.2.2.1 hP (kD C.2.2.2.2.2.2.2.1) hS cl (kcells_at hs) hc k0 hk (C.2.2.2.2.1 _ hlk) (fun x9 h9 => by rw [hown] at h9; exact h9) hfin (hty k0 hk) hn hfit (by rw [List.length_mapIdx]; exact (List.getElem?_eq_some_iff.mp hf).1) hd (fun H1 locs1 hP1 _ hS1 => ?_)
  have e1 : .ref (ρ r) = kfv ρ (.inr true) x := by simp [kfv, hx, hr]
  rw [e1, kfields_set hf, kcells_set (w' := kup w cl k0 x) hs (by rw [kup_upd]; rfl) (fun c' h' => kup_row h')] at hP1
  exact k _ rfl H1 locs1 ls hP1 hS1 hl
theorem kv_getN (C : kC p s m args c cc nL own D τ ρ σ) (pc' : Nat) (hpc : pc + 3 = pc') (cl k0 : Nat) {ci : Nat} {fk : List (Nat ⊕ Bool)} {CN : String} {T : u_T} {N index : Nat} (hs : kSh[cl]? = some (.inl (ci, fk))) (hc : vwCl[ci]? = some (CN, T, N)) (hin : ∀ w ∈ u_ws CN T N, w ∈ kUW) (hk : k0 < N) {host : String} (hlk : Cond.fieldLinkNest own index CN (T k0).2.1 (T k0).2.2.1 host ∈ kNest) (hown : (T k0).1 = CN) (hf : fk[k0]? = some (.inr false)) (hd : decode cc pc = .ok (.getfield index, 3)) {x : Int32} (hx : w cl k0 = x)
    (k : kV p l e R s m args below meth c Q nL D τ ρ pc' (L) (.int x :: st) (w)) : kV p l e R s m args below meth c Q nL D τ ρ pc L (.ref (ρ cl) :: st) w := by
  intro H locs ls hP hS hl
  subst hpc
  subst hx
  exact va_getN C.1 C.2.1 C.2.2.2.2.1 hin C.2.2.2.1 C.2.2.2.2.2.1 hP cl (kcells_at hs) hc k0 hk (va_Nw.use (kNest_tab _ hlk) (C.2.2.2.2.2.2.1 _ hlk)) (fun x9 h9 => by rw [hown] at h9; exact h9) (v := .int (w cl k0)) (by rw [List.getElem?_mapIdx, hf]; rfl) hd (k H locs ls hP hS hl)
theorem kv_getrN (C : kC p s m args c cc nL own D τ ρ σ) (pc' : Nat) (hpc : pc + 3 = pc') (cl k0 : Nat) {ci : Nat} {fk : List (Nat ⊕ Bool)} {CN : String} {T : u_T} {N index : Nat} (hs : kSh[cl]? = some (.inl (ci, fk))) (hc : vwCl[ci]? = some (CN, T, N)) (hin : ∀ w ∈ u_ws CN T N, w ∈ kUW) (hk : k0 < N) {host : String} (hlk : Cond.fieldLinkNest own index CN (T k0).2.1 (T k0).2.2.1 host ∈ kNest) (hown : (T k0).1 = CN) {r : Nat} (hf : fk[k0]? = some (.inl r)) (hd : decode cc pc = .ok (.getfield index, 3))
    (k : kV p l e R s m args below meth c Q nL D τ ρ pc' (L) (.ref (ρ r) :: st) (w)) : kV p l e R s m args below meth c Q nL D τ ρ pc L (.ref (ρ cl) :: st) w := by
  intro H locs ls hP hS hl
  subst hpc
  exact va_getN C.1 C.2.1 C.2.2.2.2.1 hin C.2.2.2.1 C.2.2.2.2.2.1 hP cl (kcells_at hs) hc k0 hk (va_Nw.use (kNest_tab _ hlk) (C.2.2.2.2.2.2.1 _ hlk)) (fun x9 h9 => by rw [hown] at h9; exact h9) (v := .ref (ρ r)) (by rw [List.getElem?_mapIdx, hf]; rfl) hd (k H locs ls hP hS hl)
theorem kv_getmN (C : kC p s m args c cc nL own D τ ρ σ) (pc' : Nat) (hpc : pc + 3 = pc') (cl k0 : Nat) {ci : Nat} {fk : List (Nat ⊕ Bool)} {CN : String} {T : u_T} {N index : Nat} (hs : kSh[cl]? = some (.inl (ci, fk))) (hc : vwCl[ci]? = some (CN, T, N)) (hin : ∀ w ∈ u_ws CN T N, w ∈ kUW) (hk : k0 < N) {host : String} (hlk : Cond.fieldLinkNest own index CN (T k0).2.1 (T k0).2.2.1 host ∈ kNest) (hown : (T k0).1 = CN) (r : Nat) (hr : Nat.beq r 0 = false) (hf : fk[k0]? = some (.inr true)) (hd : decode cc pc = .ok (.getfield index, 3)) (hx : (w cl k0).toNatClampNeg = r)
    (k : kV p l e R s m args below meth c Q nL D τ ρ pc' (L) (.ref (ρ r) :: st) (w)) : kV p l e R s m args below meth c Q nL D τ ρ pc L (.ref (ρ cl) :: st) w := by
  intro H locs ls hP hS hl
  subst hpc
  exact va_getN C.1 C.2.1 C.2.2.2.2.1 hin C.2.2.2.1 C.2.2.2.2.2.1 hP cl (kcells_at hs) hc k0 hk (va_Nw.use (kNest_tab _ hlk) (C.2.2.2.2.2.2.1 _ hlk)) (fun x9 h9 => by rw [hown] at h9; exact h9) (v := .ref (ρ r)) (by rw [List.getElem?_mapIdx, hf]; simp [kfv, hx, hr]) hd (k H locs ls hP hS hl)
theorem kv_putN (C : kC p s m args c cc nL own D τ ρ σ) (pc' : Nat) (hpc : pc + 3 = pc') (cl k0 : Nat) {ci : Nat} {fk : List (Nat ⊕ Bool)} {CN : String} {T : u_T} {N index : Nat} (hs : kSh[cl]? = some (.inl (ci, fk))) (hc : vwCl[ci]? = some (CN, T, N)) (hin : ∀ w ∈ u_ws CN T N, w ∈ kUW) (hk : k0 < N) {host : String} (hlk : Cond.fieldLinkNest own index CN (T k0).2.1 (T k0).2.2.1 host ∈ kNest) (hown : (T k0).1 = CN) (ty0 : Nat → FieldType) (hty : ∀ k, k < N → parseFieldDescriptor (T k).2.2.1 = some (ty0 k)) (hnm : ∀ a, a < N → ∀ b, b < N → a ≠ b → (T a).2.1 ≠ (T b).2.1) (hfin : (T k0).2.2.2 = false) (hf : fk[k0]? = some (.inr false)) (hd : decode cc pc = .ok (.putfield index, 3)) {x : Int32} (hn : narrow (ty0 k0) (.int x) = .int x) (hfit : fits (ty0 k0) (.int x) = true)
    (k : ∀ w', w' = kup w cl k0 x → kV p l e R s m args below meth c Q nL D τ ρ pc' (L) (st) (w')) : kV p l e R s m args below meth c Q nL D τ ρ pc L (.int x :: .ref (ρ cl) :: st) w := by
  intro H locs ls hP hS hl
  subst hpc
  refine va_putN C.1 C.2.1 C.2.2.2.2.1 hin ty0 hty hnm C.2.2.2.1 C.2.2.2.2.2.1 hP (kD C.2.2.2.2.2.2.2.1) hS cl (kcells_at hs) hc k0 hk (va_Nw.use (kNest_tab _ hlk) (C.2.2.2.2.2.2.1 _ hlk)) (fun x9 h9 => by rw [hown] at h9; exact h9) hfin (hty k0 hk) hn hfit (by rw [List.length_mapIdx]; exact (List.getElem?_eq_some_iff.mp hf).1) hd (fun H1 locs1 hP1 _ hS1 => ?_)
  have e1 : .int x = kfv ρ (.inr false) x := rfl
  rw [e1, kfields_set hf, kcells_set (w' := kup w cl k0 x) hs (by rw [kup_upd]; rfl) (fun c' h' => kup_row h')] at hP1
  exact k _ rfl H1 locs1 ls hP1 hS1 hl
theorem kv_putmN (C : kC p s m args c cc nL own D τ ρ σ) (pc' : Nat) (hpc : pc + 3 = pc') (cl k0 : Nat) {ci : Nat} {fk : List (Nat ⊕ Bool)} {CN : String} {T : u_T} {N index : Nat} (hs : kSh[cl]? = some (.inl (ci, fk))) (hc : vwCl[ci]? = some (CN, T, N)) (hin : ∀ w ∈ u_ws CN T N, w ∈ kUW) (hk : k0 < N) {host : String} (hlk : Cond.fieldLinkNest own index CN (T k0).2.1 (T k0).2.2.1 host ∈ kNest) (hown : (T k0).1 = CN) (ty0 : Nat → FieldType) (hty : ∀ k, k < N → parseFieldDescriptor (T k).2.2.1 = some (ty0 k)) (hnm : ∀ a, a < N → ∀ b, b < N → a ≠ b → (T a).2.1 ≠ (T b).2.1) (hfin : (T k0).2.2.2 = false) (r : Nat) (x : Int32) (hx : x.toNatClampNeg = r) (hr : Nat.beq r 0 = false) (hf : fk[k0]? = some (.inr true)) (hd : decode cc pc = .ok (.putfield index, 3)) (hn : narrow (ty0 k0) (.ref (ρ r)) = .ref (ρ r)) (hfit : fits (ty0 k0) (.ref (ρ r)) = true)
    (k : ∀ w', w' = kup w cl k0 x → kV p l e R s m args below meth c Q nL D τ ρ pc' (L) (st) (w')) : kV p l e R s m args below meth c Q nL D τ ρ pc L (.ref (ρ r) :: .ref (ρ cl) :: st) w := by
  intro H locs ls hP hS hl
  subst hpc
  refine va_putN C.1 C.2.1 C.2.2.2.2.1 hin ty0 hty hnm C.2.2.2.1 C.2.2.2.2.2.1 hP (kD C.2.2.2.2.2.2.2.1) hS cl (kcells_at hs) hc k0 hk (va_Nw.use (kNest_tab _ hlk) (C.2.2.2.2.2.2.1 _ hlk)) (fun x9 h9 => by rw [hown] at h9; exact h9) hfin (hty k0 hk) hn hfit (by rw [List.length_mapIdx]; exact (List.getElem?_eq_some_iff.mp hf).1) hd (fun H1 locs1 hP1 _ hS1 => ?_)
  have e1 : .ref (ρ r) = kfv ρ (.inr true) x := by simp [kfv, hx, hr]
  rw [e1, kfields_set hf, kcells_set (w' := kup w cl k0 x) hs (by rw [kup_upd]; rfl) (fun c' h' => kup_row h')] at hP1
  exact k _ rfl H1 locs1 ls hP1 hS1 hl
theorem kv_iald (C : kC p s m args c cc nL own D τ ρ σ) (pc' : Nat) (hpc : pc + 1 = pc') (cl : Nat) {n : Nat} {i x : Int32} (hs : kSh[cl]? = some (.inr (0, n, none))) (h1 : 0 ≤ i.toInt) (h2 : i.toInt < (n : Int)) (hx : w cl i.toNatClampNeg = x) (hd : decode cc pc = .ok (.iaload, 1))
    (k : kV p l e R s m args below meth c Q nL D τ ρ pc' (L) (.int x :: st) (w)) : kV p l e R s m args below meth c Q nL D τ ρ pc L (.int i :: .ref (ρ cl) :: st) w := by
  intro H locs ls hP hS hl
  subst hpc
  subst hx
  exact va_iald C.1 C.2.1 C.2.2.2.2.2.1 hP cl 0 (kcells_at hs) rfl (vp_in_iff.mpr ⟨h1, h2⟩) hd (k H locs ls hP hS hl)
theorem kv_zald (C : kC p s m args c cc nL own D τ ρ σ) (pc' : Nat) (hpc : pc + 1 = pc') (cl : Nat) {n : Nat} {i x : Int32} (hs : kSh[cl]? = some (.inr (1, n, none))) (h1 : 0 ≤ i.toInt) (h2 : i.toInt < (n : Int)) (hx : w cl i.toNatClampNeg = x) (hd : decode cc pc = .ok (.baload, 1))
    (k : kV p l e R s m args below meth c Q nL D τ ρ pc' (L) (.int x :: st) (w)) : kV p l e R s m args below meth c Q nL D τ ρ pc L (.int i :: .ref (ρ cl) :: st) w := by
  intro H locs ls hP hS hl
  subst hpc
  subst hx
  exact va_zald C.1 C.2.1 C.2.2.2.2.2.1 hP cl 1 (kcells_at hs) rfl (vp_in_iff.mpr ⟨h1, h2⟩) hd (k H locs ls hP hS hl)
theorem kv_iast (C : kC p s m args c cc nL own D τ ρ σ) (pc' : Nat) (hpc : pc + 1 = pc') (cl : Nat) {n : Nat} {i x : Int32} (hs : kSh[cl]? = some (.inr (0, n, none))) (h1 : 0 ≤ i.toInt) (h2 : i.toInt < (n : Int)) (hd : decode cc pc = .ok (.iastore, 1))
    (k : ∀ w', w' = kup w cl i.toNatClampNeg x → kV p l e R s m args below meth c Q nL D τ ρ pc' (L) (st) (w')) : kV p l e R s m args below meth c Q nL D τ ρ pc L (.int x :: .int i :: .ref (ρ cl) :: st) w := by
  intro H locs ls hP hS hl
  subst hpc
  refine va_iast C.1 C.2.1 C.2.2.2.2.2.1 hP (kD C.2.2.2.2.2.2.2.1) hS cl 0 (kcells_at hs) rfl (vp_in_iff.mpr ⟨h1, h2⟩) hd (fun H1 locs1 hP1 _ hS1 => ?_)
  rw [kcells_set (w' := kup w cl i.toNatClampNeg x) hs (by rw [kup_upd]; rfl) (fun c' h' => kup_row h')] at hP1
  exact k _ rfl H1 locs1 ls hP1 hS1 hl
theorem kv_zast (C : kC p s m args c cc nL own D τ ρ σ) (pc' : Nat) (hpc : pc + 1 = pc') (cl : Nat) {n : Nat} {i x : Int32} (hs : kSh[cl]? = some (.inr (1, n, none))) (h1 : 0 ≤ i.toInt) (h2 : i.toInt < (n : Int)) (hd : decode cc pc = .ok (.bastore, 1))
    (k : ∀ w', w' = kup w cl i.toNatClampNeg (vp_nar .boolean x) → kV p l e R s m args below meth c Q nL D τ ρ pc' (L) (st) (w')) : kV p l e R s m args below meth c Q nL D τ ρ pc L (.int x :: .int i :: .ref (ρ cl) :: st) w := by
  intro H locs ls hP hS hl
  subst hpc
  refine va_zast C.1 C.2.1 C.2.2.2.2.2.1 hP (kD C.2.2.2.2.2.2.2.1) hS cl 1 (kcells_at hs) rfl (vp_in_iff.mpr ⟨h1, h2⟩) hd (fun H1 locs1 hP1 _ hS1 => ?_)
  rw [kcells_set (w' := kup w cl i.toNatClampNeg (vp_nar .boolean x)) hs (by rw [kup_upd]; rfl) (fun c' h' => kup_row h')] at hP1
  exact k _ rfl H1 locs1 ls hP1 hS1 hl
theorem kv_alen (C : kC p s m args c cc nL own D τ ρ σ) (pc' : Nat) (hpc : pc + 1 = pc') (cl : Nat) {t n : Nat} (v : Int32) (hs : kSh[cl]? = some (.inr (t, n, none))) (ht : t = 0 ∨ t = 1) (hv : Int32.ofNat n = v) (hd : decode cc pc = .ok (.arraylength, 1))
    (k : kV p l e R s m args below meth c Q nL D τ ρ pc' (L) (.int v :: st) (w)) : kV p l e R s m args below meth c Q nL D τ ρ pc L (.ref (ρ cl) :: st) w := by
  intro H locs ls hP hS hl
  subst hpc
  rcases ht with rfl | rfl
  · exact va_alen C.1 C.2.1 C.2.2.2.2.2.1 hP cl 0 (kcells_at hs) rfl hv hd (k H locs ls hP hS hl)
  · exact va_alen C.1 C.2.1 C.2.2.2.2.2.1 hP cl 1 (kcells_at hs) rfl hv hd (k H locs ls hP hS hl)
theorem kv_alenq (C : kC p s m args c cc nL own D τ ρ σ) (pc' : Nat) (hpc : pc + 1 = pc') (cl : Nat) {n : Nat} {ids : List Nat} (v : Int32) (hs : kSh[cl]? = some (.inr (2, n, some ids))) (hv : Int32.ofNat n = v) (hd : decode cc pc = .ok (.arraylength, 1))
    (k : kV p l e R s m args below meth c Q nL D τ ρ pc' (L) (.int v :: st) (w)) : kV p l e R s m args below meth c Q nL D τ ρ pc L (.ref (ρ cl) :: st) w := by
  intro H locs ls hP hS hl
  subst hpc
  exact va_alen C.1 C.2.1 C.2.2.2.2.2.1 hP cl 2 (kcells_at hs) rfl hv hd (k H locs ls hP hS hl)
theorem kv_aldq (C : kC p s m args c cc nL own D τ ρ σ) (pc' : Nat) (hpc : pc + 1 = pc') (cl : Nat) {n : Nat} {ids : List Nat} {i : Int32} (j : Nat) {r : Nat} (hs : kSh[cl]? = some (.inr (2, n, some ids))) (hi : i.toInt = (j : Int)) (hj : ids[j]? = some r) (hn : j < n) (hd : decode cc pc = .ok (.aaload, 1))
    (k : kV p l e R s m args below meth c Q nL D τ ρ pc' (L) (.ref (ρ r) :: st) (w)) : kV p l e R s m args below meth c Q nL D τ ρ pc L (.int i :: .ref (ρ cl) :: st) w := by
  intro H locs ls hP hS hl
  subst hpc
  have hc : i.toNatClampNeg = j := by show i.toInt.toNat = j; rw [hi]; rfl
  refine va_aldq C.1 C.2.1 C.2.2.2.2.2.1 hP cl 2 (kcells_at hs) rfl (vp_in_iff.mpr ⟨by omega, by omega⟩) hd ?_
  have e9 : va_rf (Option.map ρ ids[i.toNatClampNeg]?) = .ref (ρ r) := by rw [hc, hj]; rfl
  rw [e9]
  exact k H locs ls hP hS hl
theorem kv_gets (C : kC p s m args c cc nL own D τ ρ σ) (pc' : Nat) (hpc : pc + 3 = pc') {CN fnm : String} {j n index : Nat} (hq : (CN, fnm, j, n) ∈ kStat) (hlk : Cond.fieldLink own index CN fnm "[I" ∈ kUW) (hd : decode cc pc = .ok (.getstatic index, 3))
    (k : kV p l e R s m args below meth c Q nL D τ ρ pc' (L) (.ref (σ j) :: st) (w)) : kV p l e R s m args below meth c Q nL D τ ρ pc L (st) w := by
  intro H locs ls hP hS hl
  subst hpc
  exact va_gets C.1 C.2.1 (C.2.2.2.2.2.2.2.2.1 _ hq).1 hS C.2.2.2.1 (C.2.2.2.2.1 _ hlk) (fun x h9 => h9) hd (k H locs ls hP hS hl)
theorem kv_getsN (C : kC p s m args c cc nL own D τ ρ σ) (pc' : Nat) (hpc : pc + 3 = pc') {CN fnm : String} {j n index : Nat} (hq : (CN, fnm, j, n) ∈ kStat) {host : String} (hlk : Cond.fieldLinkNest own index CN fnm "[I" host ∈ kNest) (hd : decode cc pc = .ok (.getstatic index, 3))
    (k : kV p l e R s m args below meth c Q nL D τ ρ pc' (L) (.ref (σ j) :: st) (w)) : kV p l e R s m args below meth c Q nL D τ ρ pc L (st) w := by
  intro H locs ls hP hS hl
  subst hpc
  exact va_getsN C.1 C.2.1 (C.2.2.2.2.2.2.2.2.1 _ hq).1 hS C.2.2.2.1 (va_Nw.use (kNest_tab _ hlk) (C.2.2.2.2.2.2.1 _ hlk)) (fun x h9 => h9) hd (k H locs ls hP hS hl)
theorem kv_sld (C : kC p s m args c cc nL own D τ ρ σ) (pc' : Nat) (hpc : pc + 1 = pc') {CN fnm : String} {j n : Nat} {i : Int32} (hq : (CN, fnm, j, n) ∈ kStat) (h1 : 0 ≤ i.toInt) (h2 : i.toInt < (n : Int)) (hd : decode cc pc = .ok (.iaload, 1))
    (k : ∀ x : Int32, kV p l e R s m args below meth c Q nL D τ ρ pc' (L) (.int x :: st) (w)) : kV p l e R s m args below meth c Q nL D τ ρ pc L (.int i :: .ref (σ j) :: st) w := by
  intro H locs ls hP hS hl
  subst hpc
  obtain ⟨f, hf⟩ := (C.2.2.2.2.2.2.2.2.1 _ hq).2
  exact va_ti C.1 C.2.1 hf hS (vp_in_iff.mpr ⟨h1, h2⟩) rfl hd (k _ H locs ls hP hS hl)
theorem kv_slen (C : kC p s m args c cc nL own D τ ρ σ) (pc' : Nat) (hpc : pc + 1 = pc') {CN fnm : String} {j n : Nat} (v : Int32) (hq : (CN, fnm, j, n) ∈ kStat) (hv : Int32.ofNat n = v) (hd : decode cc pc = .ok (.arraylength, 1))
    (k : kV p l e R s m args below meth c Q nL D τ ρ pc' (L) (.int v :: st) (w)) : kV p l e R s m args below meth c Q nL D τ ρ pc L (.ref (σ j) :: st) w := by
  intro H locs ls hP hS hl
  subst hpc
  obtain ⟨f, hf⟩ := (C.2.2.2.2.2.2.2.2.1 _ hq).2
  exact va_tlen C.1 C.2.1 hf hS hv hd (k H locs ls hP hS hl)
end KV
