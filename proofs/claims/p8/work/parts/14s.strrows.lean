/-! ===== the text constant: rows over kV ===== -/
section KS
variable {p : Program} {l : Launch} {e : Env} {R : Room} {s : State} {m : MethodId} {args : Array Value} {below : List Frame} {meth : Method} {c : Code} {Q : State → Prop} {cc : ByteArray} {nL : Nat} {own : String} {D : va_G} {τ : Nat → ClassId} {ρ σ : Nat → Nat} {pc : Nat} {L : List (Nat × Value)} {st : List Value} {w : kw}
theorem kv_ldcT (C : kC p s m args c cc nL "TaleMachine$Teller" D τ ρ σ) (pc' : Nat) (hpc : pc + 2 = pc') (hd : decode cc pc = .ok (.ldc 101, 2)) (k : kV p l e R s m args below meth c Q nL D τ ρ pc' L (.ref (σ 5) :: st) w) : kV p l e R s m args below meth c Q nL D τ ρ pc L st w := by
  subst hpc
  exact fun H locs ls hP hS hl => va_ldcS C.1 C.2.1 C.2.2.2.1 C.2.2.2.2.2.2.2.2.2.1.1 hd (k H locs ls hP hS hl)
theorem kv_ldcR (C : kC p s m args c cc nL "TaleMachine$Reader" D τ ρ σ) (pc' : Nat) (hpc : pc + 2 = pc') (hd : decode cc pc = .ok (.ldc 84, 2)) (k : kV p l e R s m args below meth c Q nL D τ ρ pc' L (.ref (σ 5) :: st) w) : kV p l e R s m args below meth c Q nL D τ ρ pc L st w := by
  subst hpc
  exact fun H locs ls hP hS hl => va_ldcS C.1 C.2.1 C.2.2.2.1 C.2.2.2.2.2.2.2.2.2.1.2.1 hd (k H locs ls hP hS hl)
theorem kv_sgetv (C : kC p s m args c cc nL own D τ ρ σ) (pc' : Nat) (hpc : pc + 3 = pc') {index : Nat} (hlk : Cond.fieldLink own index "java/lang/String" "value" "[B" ∈ kUW) (hd : decode cc pc = .ok (.getfield index, 3)) (k : kV p l e R s m args below meth c Q nL D τ ρ pc' L (.ref (σ 6) :: st) w) : kV p l e R s m args below meth c Q nL D τ ρ pc L (.ref (σ 5) :: st) w := by
  subst hpc
  exact fun H locs ls hP hS hl => vk_getf C.1 C.2.1 (C.2.2.2.2.2.2.2.2.2.1.2.2.1 0 (by decide)).2.2.1 hS C.2.2.2.1 (C.2.2.2.2.1 _ hlk) (fun x h9 => h9) hd (k H locs ls hP hS hl)
theorem kv_sgetc (C : kC p s m args c cc nL own D τ ρ σ) (pc' : Nat) (hpc : pc + 3 = pc') {index : Nat} (hlk : Cond.fieldLink own index "java/lang/String" "coder" "B" ∈ kUW) (hd : decode cc pc = .ok (.getfield index, 3)) (k : kV p l e R s m args below meth c Q nL D τ ρ pc' L (.int 0 :: st) w) : kV p l e R s m args below meth c Q nL D τ ρ pc L (.ref (σ 5) :: st) w := by
  subst hpc
  exact fun H locs ls hP hS hl => vk_getf C.1 C.2.1 (C.2.2.2.2.2.2.2.2.2.1.2.2.1 0 (by decide)).2.1 hS C.2.2.2.1 (C.2.2.2.2.1 _ hlk) (fun x h9 => h9) hd (k H locs ls hP hS hl)
theorem kv_gCS (C : kC p s m args c cc nL own D τ ρ σ) (pc' : Nat) (hpc : pc + 3 = pc') {index : Nat} (hlk : Cond.fieldLink own index "java/lang/String" "COMPACT_STRINGS" "Z" ∈ kUW) (hd : decode cc pc = .ok (.getstatic index, 3)) (k : kV p l e R s m args below meth c Q nL D τ ρ pc' L (.int 1 :: st) w) : kV p l e R s m args below meth c Q nL D τ ρ pc L st w := by
  subst hpc
  exact fun H locs ls hP hS hl => va_gets C.1 C.2.1 C.2.2.2.2.2.2.2.2.2.2.1 hS C.2.2.2.1 (C.2.2.2.2.1 _ hlk) (fun x h9 => h9) hd (k H locs ls hP hS hl)
theorem kv_gSF (C : kC p s m args c cc nL own D τ ρ σ) (pc' : Nat) (hpc : pc + 3 = pc') {index : Nat} (hlk : Cond.fieldLink own index "jdk/internal/util/Preconditions" "SIOOBE_FORMATTER" "Ljava/util/function/BiFunction;" ∈ kUW) (hd : decode cc pc = .ok (.getstatic index, 3)) (k1 : kV p l e R s m args below meth c Q nL D τ ρ pc' L (.null :: st) w) (k2 : ∀ t : Nat, kV p l e R s m args below meth c Q nL D τ ρ pc' L (.ref t :: st) w) : kV p l e R s m args below meth c Q nL D τ ρ pc L st w := by
  subst hpc
  intro H locs ls hP hS hl
  rcases C.2.2.2.2.2.2.2.2.2.2.2 with h | ⟨t, h⟩
  · exact va_gets C.1 C.2.1 h hS C.2.2.2.1 (C.2.2.2.2.1 _ hlk) (fun x h9 => h9) hd (k1 H locs ls hP hS hl)
  · exact va_gets C.1 C.2.1 h hS C.2.2.2.1 (C.2.2.2.2.1 _ hlk) (fun x h9 => h9) hd (k2 t H locs ls hP hS hl)
theorem kv_tlen (C : kC p s m args c cc nL own D τ ρ σ) (pc' : Nat) (hpc : pc + 1 = pc') (hd : decode cc pc = .ok (.arraylength, 1)) (k : kV p l e R s m args below meth c Q nL D τ ρ pc' L (.int 24 :: st) w) : kV p l e R s m args below meth c Q nL D τ ρ pc L (.ref (σ 6) :: st) w := by
  subst hpc
  exact fun H locs ls hP hS hl => va_tlen C.1 C.2.1 (C.2.2.2.2.2.2.2.2.2.1.2.2.1 0 (by decide)).2.2.2 hS rfl hd (k H locs ls hP hS hl)
theorem kv_tbal (C : kC p s m args c cc nL own D τ ρ σ) (pc' : Nat) (hpc : pc + 1 = pc') {i : Int32} (h1 : 0 ≤ i.toInt) (h2 : i.toInt < 24) (hd : decode cc pc = .ok (.baload, 1)) (k : ∀ x : Int32, kV p l e R s m args below meth c Q nL D τ ρ pc' L (.int x :: st) w) : kV p l e R s m args below meth c Q nL D τ ρ pc L (.int i :: .ref (σ 6) :: st) w := by
  subst hpc
  exact fun H locs ls hP hS hl => va_tb C.1 C.2.1 (C.2.2.2.2.2.2.2.2.2.1.2.2.1 0 (by decide)).2.2.2 hS (vp_in_iff.mpr ⟨h1, h2⟩) rfl hd (k _ H locs ls hP hS hl)
theorem kv_i2b (C : kC p s m args c cc nL own D τ ρ σ) (pc' : Nat) (hpc : pc + 1 = pc') {x : Int32} (hd : decode cc pc = .ok (.i2b, 1)) (k : ∀ z : Int32, kV p l e R s m args below meth c Q nL D τ ρ pc' L (.int z :: st) w) : kV p l e R s m args below meth c Q nL D τ ρ pc L (.int x :: st) w := by
  subst hpc
  exact fun H locs ls hP hS hl => lv_i2b C.1 C.2.1 hd rfl (k _ H locs ls hP hS hl)
theorem kv_callStri {P : Int32 → kw → Prop} {y : MethodName} {bytes : ByteArray} {mx n index : Nat} {ret : Option FieldType} {rm : Room} {As rest : List Value} (C : kC p s m args c cc nL own D τ ρ σ) (pc' : Nat) (hpc : pc + 3 = pc') (hM : kM l D τ ρ σ y bytes mx ret rm (.ref (σ 5) :: As) w (fun o w9 => ∃ r9 : Int32, o = some (.int r9) ∧ P r9 w9)) (hlk : Cond.methodLink own index y ∈ kUW) (hin : Cond.instanceMethod y ∈ kUW) (hse : Cond.selects "java/lang/String" y y ∈ kUW) (hcode : Cond.code y bytes mx ret ∈ kUW) (hini : Cond.initialized y.cls ∈ kUW)
    (hd9 : y.cls ≠ "java/lang/invoke/MethodHandle" ∧ y.cls ≠ "java/lang/invoke/VarHandle" ∧ (parseMethodDescriptor y.desc).map (fun d => d.parameters.length) = some n) (hn : As.length = n) (hrc : rm.cells = 0) (hrs : rm.slots = 0) (hR : rm.frames + 1 ≤ R.frames ∧ 8 + (mx + 11) + rm.locals ≤ R.locals) (hst : st = As.reverse ++ .ref (σ 5) :: rest) (hcat : (rest.map fun v => v.category).sum ≤ 8) (hd : decode cc pc = .ok (.invokevirtual index, 3))
    (k : ∀ (x9 : Int32) (w' : kw), P x9 w' → kV p l e R s m args below meth c Q nL D τ ρ pc' L (.int x9 :: rest) w') : kV p l e R s m args below meth c Q nL D τ ρ pc L st w := by
  intro H locs ls hP hS hl
  subst hpc
  subst hst
  have hts := C.2.2.2.2.1
  exact kv_bind (va_runV (As := As) (rest := rest) ⟨C.1, C.2.1, C.2.2.1, C.2.2.2.1, hts⟩ hM ⟨callB_of n hts (kUW_in hcode) rfl hrc hrs (hts _ hini) (hts _ hlk) hd9 hR, hts _ hin, hts _ hse⟩ ⟨kblind, vk_recv (i := 0) C.2.2.2.2.2.2.2.2.2.1.2.2 (by decide) hS, fun U hU hW => ⟨rfl, by rw [hU]; exact hP, C.2.2.2.2.2.call hS hU hW⟩⟩ rfl hn hl.1 rfl (lv_room hcat) hd ⟨Nat.zero_le _, Nat.zero_le _⟩) hS hl (fun r9 w9 h9 => by obtain ⟨x9, rfl, h9⟩ := h9; exact k x9 w9 h9)
end KS
theorem kf_i2c {x z : Int32} (h : z = (x.toUInt32 % 65536).toInt32) : z.toInt = x.toInt % 65536 := by
  have e1 : (x.toUInt32 % 65536).toInt32 = x &&& 65535 := by rw [pk_char, pk_and x 16 (by decide)]
  rw [h, e1]
  exact kf_and65535 rfl
theorem kf_char {x : Int32} (h1 : 0 ≤ x.toInt) (h2 : x.toInt ≤ 65535) : narrow .char (.int x) = .int x := by
  obtain ⟨a, ha, ea⟩ := nI_of (x := x) (fun q => by have := kc_lt_t0 q; omega)
  subst ea
  rw [nI_toInt ha] at h2
  exact (pk_charN (by omega)).1
theorem kf_shr0 {x y z : Int32} (h : z = x >>> (y &&& 31)) (hy : y.toInt = 0) : z.toInt = x.toInt := by
  have e : y = 0 := Int32.toInt_inj.mp (hy.trans rfl)
  subst e
  rw [h, sb_shr0]
