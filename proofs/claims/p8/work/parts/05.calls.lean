/-! ===== entry, returns and calls over kV ===== -/
theorem kUW_good {w : Cond} (h : w ∈ kUW) : (w.onTables && w.keeps) = true ∨ ∃ ty, w = .arrayClass ty := good_of_word (List.mem_filter.mp h).2
theorem kUW_in {y : MethodName} {cc : ByteArray} {mx : Nat} {ret : Option FieldType} (h : Cond.code y cc mx ret ∈ kUW) : GoodIn kUW (Cond.code y cc mx ret :: kUW) := fun w hw => (List.mem_cons.mp hw).elim (fun e => by subst e; exact ⟨h, kUW_good h⟩) (fun h2 => ⟨h2, kUW_good h2⟩)
/-- a walk's end, for a contract -/
def kQ (below : List Frame) (args : Array Value) (s : State) (D : va_G) (τ : Nat → ClassId) (ρ : Nat → Nat) (post : Option Value → kw → Prop) : State → Prop :=
  MQ below (fun _ st oc t => (∃ (r : Option Value) (w' : kw), oc = .returned r ∧ post r w' ∧ va_P D vwCl (kcells ρ τ w') t.heap) ∧ va_F (kA ρ) st t) args s 0 0 (kA ρ)
theorem kM_of {l : Launch} {D : va_G} {τ : Nat → ClassId} {ρ σ : Nat → Nat} {y : MethodName} {cc : ByteArray} {mx : Nat} {ret : Option FieldType} {rm : Room} {as : List Value} {w : kw} {post : Option Value → kw → Prop} {own : String} (ho : y.cls = own) (hy : plainName y.cls = true) (hlen : (lg_sl as).length ≤ mx)
    (body : ∀ (p : Program) (e : Env) (s : State) (m : MethodId) (args : Array Value) (below : List Frame) (meth : Method) (c : Code), kC p s m args c cc mx own D τ ρ σ → meth.sig.returnType = ret → meth.locks = false → kV p l e rm s m args below meth c (kQ below args s D τ ρ post) mx D τ ρ 0 (lv_args 0 as) [] w) : kM l D τ ρ σ y cc mx ret rm as w post := by
  subst ho
  refine Met.ofW (cc := cc) (maxL := mx) (ret := ret) hy rfl ?_
  intro p e s m args below meth c s₁ B hml hv
  obtain ⟨rfl, hP, hE⟩ := hv
  have hts := atoms_spec (ws := Cond.code y cc mx ret :: kUW) B.pre
  have hl := lv_entry as (n := mx) hlen
  rw [lg_entry_eq]
  generalize (lg_sl as ++ List.replicate (mx - (lg_sl as).length) Slot.unset).toArray = ls at hl ⊢
  exact body p e s m as.toArray below meth c ⟨B.exec, B.bytes, hml, findClass_of_methodNamed B.named, fun w hw => hts w (List.mem_cons_of_mem _ hw), hE⟩ B.returns B.notSynchronized s.heap [] ls hP va_S.rf hl
section KR
variable {p : Program} {l : Launch} {e : Env} {R : Room} {s : State} {m : MethodId} {args : Array Value} {below : List Frame} {meth : Method} {c : Code} {Q : State → Prop} {cc : ByteArray} {nL : Nat} {own : String} {D : va_G} {τ : Nat → ClassId} {ρ σ : Nat → Nat} {pc : Nat} {L : List (Nat × Value)} {st : List Value} {w : kw} {post : Option Value → kw → Prop}
theorem kv_iret (C : kC p s m args c cc nL own D τ ρ σ) (hr : meth.sig.returnType = some .int) (hk : meth.locks = false) (hd : decode cc pc = .ok (.ireturn, 1)) {v : Int32} (hp : post (some (.int v)) w) : kV p l e R s m args below meth c (kQ below args s D τ ρ post) nL D τ ρ pc L [.int v] w := by
  intro H locs ls hP hS hl
  exact W.iret C.1 C.2.1 hr (fun t ht hW => ⟨⟨_, w, rfl, hp, by rw [ht]; exact hP⟩, hS.F ht⟩) hS.2.2 hd hk
theorem kv_zret (C : kC p s m args c cc nL own D τ ρ σ) {ty : FieldType} (hr : meth.sig.returnType = some ty) (hk : meth.locks = false) (hd : decode cc pc = .ok (.ireturn, 1)) {v : Int32} (hn : narrow ty (.int v) = .int v) (hp : post (some (.int v)) w) : kV p l e R s m args below meth c (kQ below args s D τ ρ post) nL D τ ρ pc L [.int v] w := by
  intro H locs ls hP hS hl
  exact W.zret C.1 C.2.1 hr hn (fun t ht hW => ⟨⟨_, w, rfl, hp, by rw [ht]; exact hP⟩, hS.F ht⟩) hS.2.2 hd hk
theorem kv_vret (C : kC p s m args c cc nL own D τ ρ σ) (hr : meth.sig.returnType = none) (hk : meth.locks = false) (hd : decode cc pc = .ok (.return_, 1)) (hp : post none w) : kV p l e R s m args below meth c (kQ below args s D τ ρ post) nL D τ ρ pc L [] w := by
  intro H locs ls hP hS hl
  exact W.vret C.1 C.2.1 hr (fun t ht hW => ⟨⟨_, w, rfl, hp, by rw [ht]; exact hP⟩, hS.F ht⟩) hS.2.2 hd hk
theorem kv_bind {H : Heap} {locs : List Loc} {ls : Array Slot} {st0 rest : List Value} (run : va_Run p l e R s m args below meth c H locs 0 0 0 0 (F0 m pc ls st0) rest (fun st oc t => (∃ (r : Option Value) (w' : kw), oc = .returned r ∧ post r w' ∧ va_P D vwCl (kcells ρ τ w') t.heap) ∧ va_F (kA ρ) st t) (kA ρ)) (hS : va_S (kA ρ) s.heap H locs) (hl : lv_has ls nL L)
    (k : ∀ (r : Option Value) (w' : kw), post r w' → kV p l e R s m args below meth c Q nL D τ ρ (pc + 3) L (r.toList ++ rest) w') : W p l e R s m args below meth c H locs 0 0 Q (F0 m pc ls st0) := by
  intro T hT X
  obtain ⟨v, st₀, t, T', L', h0, X', hL, e1, e2, ⟨⟨r, w', hv, hp, hb⟩, hz, hk⟩, stp⟩ := run T hT X
  cases hv
  rw [h0] at hz hk
  have hP1 : va_P D vwCl (kcells ρ τ w') T'.heap := by rw [e1]; exact hb
  have hS1 : va_S (kA ρ) s.heap T'.heap (locs ++ L') := ⟨Nat.le_trans hS.1 (by rw [e1]; exact hz), fun q h1 h2 => by rw [e1, hk q (Nat.lt_of_lt_of_le h1 hS.1) h2]; exact hS.2.1 q h1 h2, fun q hq => by
      rcases List.mem_append.mp hq with h | h
      · exact hS.2.2 q h
      · exact hL q h⟩
  obtain ⟨t2, a1, b1⟩ := k _ w' hp T'.heap (locs ++ L') ls hP1 hS1 hl T' rfl X'
  exact ⟨t2, stp t2 a1, b1⟩
theorem kblind {as : List Value} : FrameBlind (va_Pc as (fun U => va_P D vwCl (kcells ρ τ w) U.heap ∧ kE D τ ρ σ U U.heap)) := fun a U g mk q => ⟨q.1, q.2.1, kE.same (s := U) (U := U.calling g mk a) rfl q.2.2⟩
variable {y : MethodName} {bytes : ByteArray} {mx n index : Nat} {ret : Option FieldType} {rm : Room} {As rest : List Value} {host : String} {CN : String} {T : u_T} {N ci : Nat} {fk : List (Nat ⊕ Bool)}
theorem kv_callV (C : kC p s m args c cc nL own D τ ρ σ) (pc' : Nat) (hpc : pc + 3 = pc') (cl : Nat) (hM : kM l D τ ρ σ y bytes mx ret rm (.ref (ρ cl) :: As) w post) (hs : kSh[cl]? = some (.inl (ci, fk))) (hc : vwCl[ci]? = some (CN, T, N)) (hlk : Cond.methodLink own index y ∈ kUW) (hin : Cond.instanceMethod y ∈ kUW) (hse : Cond.selects CN y y ∈ kUW) (hcode : Cond.code y bytes mx ret ∈ kUW) (hini : Cond.initialized y.cls ∈ kUW)
    (hd9 : y.cls ≠ "java/lang/invoke/MethodHandle" ∧ y.cls ≠ "java/lang/invoke/VarHandle" ∧ (parseMethodDescriptor y.desc).map (fun d => d.parameters.length) = some n) (hn : As.length = n) (hrc : rm.cells = 0) (hrs : rm.slots = 0) (hR : rm.frames + 1 ≤ R.frames ∧ 8 + (mx + 11) + rm.locals ≤ R.locals) (hst : st = As.reverse ++ .ref (ρ cl) :: rest) (hcat : (rest.map fun v => v.category).sum ≤ 8) (hd : decode cc pc = .ok (.invokevirtual index, 3))
    (k : ∀ (r : Option Value) (w' : kw), post r w' → kV p l e R s m args below meth c Q nL D τ ρ pc' L (r.toList ++ rest) w') : kV p l e R s m args below meth c Q nL D τ ρ pc L st w := by
  intro H locs ls hP hS hl
  subst hpc
  subst hst
  have hts := C.2.2.2.2.1
  refine kv_bind (va_runV (As := As) (rest := rest) ⟨C.1, C.2.1, C.2.2.1, C.2.2.2.1, hts⟩ hM ⟨callB_of n hts (kUW_in hcode) rfl hrc hrs (hts _ hini) (hts _ hlk) hd9 hR, hts _ hin, hts _ hse⟩ ⟨kblind, va_recv C.2.2.2.2.2.1 hP hc (kcells_at hs), fun U hU hW => ⟨rfl, by rw [hU]; exact hP, C.2.2.2.2.2.call hS hU hW⟩⟩ rfl hn hl.1 rfl (lv_room hcat) hd ⟨Nat.zero_le _, Nat.zero_le _⟩) hS hl k
theorem kv_callVN (C : kC p s m args c cc nL own D τ ρ σ) (pc' : Nat) (hpc : pc + 3 = pc') (cl : Nat) (hM : kM l D τ ρ σ y bytes mx ret rm (.ref (ρ cl) :: As) w post) (hs : kSh[cl]? = some (.inl (ci, fk))) (hc : vwCl[ci]? = some (CN, T, N)) (hlk : Cond.methodLinkNest own index y host ∈ kNest) (hin : Cond.instanceMethod y ∈ kUW) (hse : Cond.selects CN y y ∈ kUW) (hcode : Cond.code y bytes mx ret ∈ kUW) (hini : Cond.initialized y.cls ∈ kUW)
    (hd9 : y.cls ≠ "java/lang/invoke/MethodHandle" ∧ y.cls ≠ "java/lang/invoke/VarHandle" ∧ (parseMethodDescriptor y.desc).map (fun d => d.parameters.length) = some n) (hn : As.length = n) (hrc : rm.cells = 0) (hrs : rm.slots = 0) (hR : rm.frames + 1 ≤ R.frames ∧ 8 + (mx + 11) + rm.locals ≤ R.locals) (hst : st = As.reverse ++ .ref (ρ cl) :: rest) (hcat : (rest.map fun v => v.category).sum ≤ 8) (hd : decode cc pc = .ok (.invokevirtual index, 3))
    (k : ∀ (r : Option Value) (w' : kw), post r w' → kV p l e R s m args below meth c Q nL D τ ρ pc' L (r.toList ++ rest) w') : kV p l e R s m args below meth c Q nL D τ ρ pc L st w := by
  intro H locs ls hP hS hl
  subst hpc
  subst hst
  have hts := C.2.2.2.2.1
  refine kv_bind (va_runVN (As := As) (rest := rest) ⟨C.1, C.2.1, C.2.2.1, C.2.2.2.1, hts⟩ hM ⟨va_cnB n hts (kUW_in hcode) rfl hrc hrs (C.2.2.2.2.2.2.1 _ hlk) (hts _ hini) hd9 hR, hts _ hin, hts _ hse⟩ ⟨kblind, va_recv C.2.2.2.2.2.1 hP hc (kcells_at hs), fun U hU hW => ⟨rfl, by rw [hU]; exact hP, C.2.2.2.2.2.call hS hU hW⟩⟩ rfl hn hl.1 rfl (lv_room hcat) hd ⟨Nat.zero_le _, Nat.zero_le _⟩) hS hl k
theorem kv_callS (C : kC p s m args c cc nL own D τ ρ σ) (pc' : Nat) (hpc : pc + 3 = pc') (hM : kM l D τ ρ σ y bytes mx ret rm As w post) (hlk : Cond.methodLink own index y ∈ kUW) (hin : Cond.static y ∈ kUW) (hcode : Cond.code y bytes mx ret ∈ kUW) (hini : Cond.initialized y.cls ∈ kUW)
    (hd9 : y.cls ≠ "java/lang/invoke/MethodHandle" ∧ y.cls ≠ "java/lang/invoke/VarHandle" ∧ (parseMethodDescriptor y.desc).map (fun d => d.parameters.length) = some n) (hn : As.length = n) (hrc : rm.cells = 0) (hrs : rm.slots = 0) (hR : rm.frames + 1 ≤ R.frames ∧ 8 + (mx + 11) + rm.locals ≤ R.locals) (hst : st = As.reverse ++ rest) (hcat : (rest.map fun v => v.category).sum ≤ 8) (hd : decode cc pc = .ok (.invokestatic index, 3))
    (k : ∀ (r : Option Value) (w' : kw), post r w' → kV p l e R s m args below meth c Q nL D τ ρ pc' L (r.toList ++ rest) w') : kV p l e R s m args below meth c Q nL D τ ρ pc L st w := by
  intro H locs ls hP hS hl
  subst hpc
  subst hst
  have hts := C.2.2.2.2.1
  refine kv_bind (va_runS (As := As) (rest := rest) ⟨C.1, C.2.1, C.2.2.1, C.2.2.2.1, hts⟩ hM ⟨callB_of n hts (kUW_in hcode) rfl hrc hrs (hts _ hini) (hts _ hlk) hd9 hR, hts _ hin⟩ ⟨kblind, fun U hU hW => ⟨rfl, by rw [hU]; exact hP, C.2.2.2.2.2.call hS hU hW⟩⟩ rfl hn hl.1 rfl (lv_room hcat) hd ⟨Nat.zero_le _, Nat.zero_le _⟩) hS hl k
theorem kv_callSN (C : kC p s m args c cc nL own D τ ρ σ) (pc' : Nat) (hpc : pc + 3 = pc') (hM : kM l D τ ρ σ y bytes mx ret rm As w post) (hlk : Cond.methodLinkNest own index y host ∈ kNest) (hin : Cond.static y ∈ kUW) (hcode : Cond.code y bytes mx ret ∈ kUW) (hini : Cond.initialized y.cls ∈ kUW)
    (hd9 : y.cls ≠ "java/lang/invoke/MethodHandle" ∧ y.cls ≠ "java/lang/invoke/VarHandle" ∧ (parseMethodDescriptor y.desc).map (fun d => d.parameters.length) = some n) (hn : As.length = n) (hrc : rm.cells = 0) (hrs : rm.slots = 0) (hR : rm.frames + 1 ≤ R.frames ∧ 8 + (mx + 11) + rm.locals ≤ R.locals) (hst : st = As.reverse ++ rest) (hcat : (rest.map fun v => v.category).sum ≤ 8) (hd : decode cc pc = .ok (.invokestatic index, 3))
    (k : ∀ (r : Option Value) (w' : kw), post r w' → kV p l e R s m args below meth c Q nL D τ ρ pc' L (r.toList ++ rest) w') : kV p l e R s m args below meth c Q nL D τ ρ pc L st w := by
  intro H locs ls hP hS hl
  subst hpc
  subst hst
  have hts := C.2.2.2.2.1
  refine kv_bind (va_runSN (As := As) (rest := rest) ⟨C.1, C.2.1, C.2.2.1, C.2.2.2.1, hts⟩ hM ⟨va_cnB n hts (kUW_in hcode) rfl hrc hrs (C.2.2.2.2.2.2.1 _ hlk) (hts _ hini) hd9 hR, hts _ hin, trivial⟩ ⟨kblind, fun U hU hW => ⟨rfl, by rw [hU]; exact hP, C.2.2.2.2.2.call hS hU hW⟩⟩ rfl hn hl.1 rfl (lv_room hcat) hd ⟨Nat.zero_le _, Nat.zero_le _⟩) hS hl k
theorem kv_max (C : kC p s m args c cc nL own D τ ρ σ) (pc' : Nat) (hpc : pc + 3 = pc') (hlk : Cond.methodLink own index Lib.Math.max.name ∈ kUW) (h2 : Cond.static Lib.Math.max.name ∈ kUW) (h3 : Cond.initialized "java/lang/Math" ∈ kUW) (h4 : Cond.code Lib.Math.max.name Lib.Math.max.code 2 (some .int) ∈ kUW) (hf : 1 ≤ R.frames) (hlo : (st.map fun v => v.category).sum + 13 ≤ R.locals) {x y : Int32} (hd : decode cc pc = .ok (.invokestatic index, 3))
    (k : ∀ z : Int32, (z.toInt = x.toInt ∧ y.toInt ≤ x.toInt ∨ z.toInt = y.toInt ∧ x.toInt ≤ y.toInt) → kV p l e R s m args below meth c Q nL D τ ρ pc' L (.int z :: st) w) : kV p l e R s m args below meth c Q nL D τ ρ pc L (.int y :: .int x :: st) w := by
  intro H locs ls hP hS hl
  subst hpc
  have hts := C.2.2.2.2.1
  refine va_mmax C.1 C.2.1 (C.2.2.1.trans hl.1.symm) C.2.2.2.1 (hts _ hlk) (hts _ h2) (hts _ h3) (hts _ h4) hf hlo (Nat.zero_le _) (Nat.zero_le _) hd (k _ ?_ H locs ls hP hS hl)
  by_cases h : x < y
  · rw [if_pos h]
    have := Int32.lt_iff_toInt_lt.mp h
    exact Or.inr ⟨rfl, by omega⟩
  · rw [if_neg h]
    have : ¬ x.toInt < y.toInt := fun q => h (Int32.lt_iff_toInt_lt.mpr q)
    exact Or.inl ⟨rfl, by omega⟩
theorem kv_min (C : kC p s m args c cc nL own D τ ρ σ) (pc' : Nat) (hpc : pc + 3 = pc') (hlk : Cond.methodLink own index Lib.Math.min.name ∈ kUW) (h2 : Cond.static Lib.Math.min.name ∈ kUW) (h3 : Cond.initialized "java/lang/Math" ∈ kUW) (h4 : Cond.code Lib.Math.min.name Lib.Math.min.code 2 (some .int) ∈ kUW) (hf : 1 ≤ R.frames) (hlo : (st.map fun v => v.category).sum + 13 ≤ R.locals) {x y : Int32} (hd : decode cc pc = .ok (.invokestatic index, 3))
    (k : ∀ z : Int32, (z.toInt = x.toInt ∧ x.toInt ≤ y.toInt ∨ z.toInt = y.toInt ∧ y.toInt ≤ x.toInt) → kV p l e R s m args below meth c Q nL D τ ρ pc' L (.int z :: st) w) : kV p l e R s m args below meth c Q nL D τ ρ pc L (.int y :: .int x :: st) w := by
  intro H locs ls hP hS hl
  subst hpc
  have hts := C.2.2.2.2.1
  refine va_mmin C.1 C.2.1 (C.2.2.1.trans hl.1.symm) C.2.2.2.1 (hts _ hlk) (hts _ h2) (hts _ h3) (hts _ h4) hf hlo (Nat.zero_le _) (Nat.zero_le _) hd (k _ ?_ H locs ls hP hS hl)
  split
  · rename_i h
    have := Int32.lt_iff_toInt_lt.mp h
    first | exact Or.inr ⟨rfl, by omega⟩ | exact Or.inl ⟨rfl, by omega⟩
  · rename_i h
    have : ¬ _ < _ := fun q => h (Int32.lt_iff_toInt_lt.mpr q)
    first | exact Or.inl ⟨rfl, by omega⟩ | exact Or.inr ⟨rfl, by omega⟩
theorem kv_abs (C : kC p s m args c cc nL own D τ ρ σ) (pc' : Nat) (hpc : pc + 3 = pc') (hlk : Cond.methodLink own index Lib.Math.abs.name ∈ kUW) (h2 : Cond.static Lib.Math.abs.name ∈ kUW) (h3 : Cond.initialized "java/lang/Math" ∈ kUW) (h4 : Cond.code Lib.Math.abs.name Lib.Math.abs.code 1 (some .int) ∈ kUW) (hf : 1 ≤ R.frames) (hlo : (st.map fun v => v.category).sum + 13 ≤ R.locals) {x : Int32} (hd : decode cc pc = .ok (.invokestatic index, 3))
    (k : ∀ z : Int32, kV p l e R s m args below meth c Q nL D τ ρ pc' L (.int z :: st) w) : kV p l e R s m args below meth c Q nL D τ ρ pc L (.int x :: st) w := by
  intro H locs ls hP hS hl
  subst hpc
  have hts := C.2.2.2.2.1
  exact va_mabs C.1 C.2.1 (C.2.2.1.trans hl.1.symm) C.2.2.2.1 (hts _ hlk) (hts _ h2) (hts _ h3) (hts _ h4) hf hlo (Nat.zero_le _) (Nat.zero_le _) hd (k _ H locs ls hP hS hl)
/-- System.arraycopy between two int rows of the world -/
theorem kv_copy (C : kC p s m args c cc nL own D τ ρ σ) (pc' : Nat) (hpc : pc + 3 = pc') (c0 c1 : Nat) {n0 n1 : Nat} (hs0 : kSh[c0]? = some (.inr (0, n0, none))) (hs1 : kSh[c1]? = some (.inr (0, n1, none))) (hlk : Cond.methodLink own index arraycopyName ∈ kUW) (h2 : Cond.native arraycopyName ∈ kUW) (h3 : Cond.static arraycopyName ∈ kUW) (h4 : Cond.initialized "java/lang/System" ∈ kUW)
    {sp dp k9 : Int32} (a1 : 0 ≤ sp.toInt) (a2 : 0 ≤ dp.toInt) (a3 : 0 ≤ k9.toInt) (a4 : sp.toInt + k9.toInt ≤ (n0 : Int)) (a5 : dp.toInt + k9.toInt ≤ (n1 : Int)) (hf : 1 ≤ R.frames) (hlo : (st.map fun v => v.category).sum + (nativeFrameWords "java/lang/System" "arraycopy" 5 + 11) ≤ R.locals) (hd : decode cc pc = .ok (.invokestatic index, 3))
    (k : ∀ w', w' = kur w c1 (va_cpy (w c0) (w c1) sp.toNatClampNeg dp.toNatClampNeg k9.toNatClampNeg) → kV p l e R s m args below meth c Q nL D τ ρ pc' L st w') : kV p l e R s m args below meth c Q nL D τ ρ pc L (.int k9 :: .int dp :: .ref (ρ c1) :: .int sp :: .ref (ρ c0) :: st) w := by
  intro H locs ls hP hS hl
  subst hpc
  have hts := C.2.2.2.2.1
  have nn : ∀ z : Int32, 0 ≤ z.toInt → z.toInt = (z.toNatClampNeg : Int) := fun z hz => by show z.toInt = ((z.toInt.toNat : Nat) : Int); omega
  have n1 := nn sp a1
  have n2 := nn dp a2
  have n3 := nn k9 a3
  have ng : ∀ z : Int32, 0 ≤ z.toInt → ¬ z < 0 := fun z hz h => by have := kc_lt_t0 h; omega
  refine va_copyi C.1 C.2.1 (C.2.2.1.trans hl.1.symm) C.2.2.2.1 (hts _ hlk) (hts _ h2) (hts _ h3) (hts _ h4) C.2.2.2.2.2.1 hP (kD C.2.2.2.2.2.2.2.1) hS c0 c1 0 0 (kcells_at hs0) (kcells_at hs1) rfl rfl rfl (ng _ a1) (ng _ a2) (ng _ a3) (by omega) (by omega) (fun i _ => rfl) hf hlo hd (fun H1 locs1 hP1 _ hS1 => ?_)
  rw [kcells_set (w' := kur w c1 (va_cpy (w c0) (w c1) sp.toNatClampNeg dp.toNatClampNeg k9.toNatClampNeg)) hs1 (by rw [kur_self]; rfl) (fun c' h' => kur_row h')] at hP1
  exact k _ rfl H1 locs1 ls hP1 hS1 hl
theorem kv_callVi {P : Int32 → kw → Prop} (C : kC p s m args c cc nL own D τ ρ σ) (pc' : Nat) (hpc : pc + 3 = pc') (cl : Nat) (hM : kM l D τ ρ σ y bytes mx ret rm (.ref (ρ cl) :: As) w (fun o w9 => ∃ r9 : Int32, o = some (.int r9) ∧ P r9 w9)) (hs : kSh[cl]? = some (.inl (ci, fk))) (hc : vwCl[ci]? = some (CN, T, N)) (hlk : Cond.methodLink own index y ∈ kUW) (hin : Cond.instanceMethod y ∈ kUW) (hse : Cond.selects CN y y ∈ kUW) (hcode : Cond.code y bytes mx ret ∈ kUW) (hini : Cond.initialized y.cls ∈ kUW)
    (hd9 : y.cls ≠ "java/lang/invoke/MethodHandle" ∧ y.cls ≠ "java/lang/invoke/VarHandle" ∧ (parseMethodDescriptor y.desc).map (fun d => d.parameters.length) = some n) (hn : As.length = n) (hrc : rm.cells = 0) (hrs : rm.slots = 0) (hR : rm.frames + 1 ≤ R.frames ∧ 8 + (mx + 11) + rm.locals ≤ R.locals) (hst : st = As.reverse ++ .ref (ρ cl) :: rest) (hcat : (rest.map fun v => v.category).sum ≤ 8) (hd : decode cc pc = .ok (.invokevirtual index, 3))
    (k : ∀ (x9 : Int32) (w' : kw), P x9 w' → kV p l e R s m args below meth c Q nL D τ ρ pc' L (.int x9 :: rest) w') : kV p l e R s m args below meth c Q nL D τ ρ pc L st w := kv_callV C pc' hpc cl hM hs hc hlk hin hse hcode hini hd9 hn hrc hrs hR hst hcat hd (fun r9 w9 h9 => by obtain ⟨x9, rfl, h9⟩ := h9; exact k x9 w9 h9)
theorem kv_callVv {P : kw → Prop} (C : kC p s m args c cc nL own D τ ρ σ) (pc' : Nat) (hpc : pc + 3 = pc') (cl : Nat) (hM : kM l D τ ρ σ y bytes mx ret rm (.ref (ρ cl) :: As) w (fun o w9 => o = none ∧ P w9)) (hs : kSh[cl]? = some (.inl (ci, fk))) (hc : vwCl[ci]? = some (CN, T, N)) (hlk : Cond.methodLink own index y ∈ kUW) (hin : Cond.instanceMethod y ∈ kUW) (hse : Cond.selects CN y y ∈ kUW) (hcode : Cond.code y bytes mx ret ∈ kUW) (hini : Cond.initialized y.cls ∈ kUW)
    (hd9 : y.cls ≠ "java/lang/invoke/MethodHandle" ∧ y.cls ≠ "java/lang/invoke/VarHandle" ∧ (parseMethodDescriptor y.desc).map (fun d => d.parameters.length) = some n) (hn : As.length = n) (hrc : rm.cells = 0) (hrs : rm.slots = 0) (hR : rm.frames + 1 ≤ R.frames ∧ 8 + (mx + 11) + rm.locals ≤ R.locals) (hst : st = As.reverse ++ .ref (ρ cl) :: rest) (hcat : (rest.map fun v => v.category).sum ≤ 8) (hd : decode cc pc = .ok (.invokevirtual index, 3))
    (k : ∀ (w' : kw), P w' → kV p l e R s m args below meth c Q nL D τ ρ pc' L rest w') : kV p l e R s m args below meth c Q nL D τ ρ pc L st w := kv_callV C pc' hpc cl hM hs hc hlk hin hse hcode hini hd9 hn hrc hrs hR hst hcat hd (fun r9 w9 h9 => by obtain ⟨rfl, h9⟩ := h9; exact k w9 h9)
theorem kv_callVNi {P : Int32 → kw → Prop} (C : kC p s m args c cc nL own D τ ρ σ) (pc' : Nat) (hpc : pc + 3 = pc') (cl : Nat) (hM : kM l D τ ρ σ y bytes mx ret rm (.ref (ρ cl) :: As) w (fun o w9 => ∃ r9 : Int32, o = some (.int r9) ∧ P r9 w9)) (hs : kSh[cl]? = some (.inl (ci, fk))) (hc : vwCl[ci]? = some (CN, T, N)) (hlk : Cond.methodLinkNest own index y host ∈ kNest) (hin : Cond.instanceMethod y ∈ kUW) (hse : Cond.selects CN y y ∈ kUW) (hcode : Cond.code y bytes mx ret ∈ kUW) (hini : Cond.initialized y.cls ∈ kUW)
    (hd9 : y.cls ≠ "java/lang/invoke/MethodHandle" ∧ y.cls ≠ "java/lang/invoke/VarHandle" ∧ (parseMethodDescriptor y.desc).map (fun d => d.parameters.length) = some n) (hn : As.length = n) (hrc : rm.cells = 0) (hrs : rm.slots = 0) (hR : rm.frames + 1 ≤ R.frames ∧ 8 + (mx + 11) + rm.locals ≤ R.locals) (hst : st = As.reverse ++ .ref (ρ cl) :: rest) (hcat : (rest.map fun v => v.category).sum ≤ 8) (hd : decode cc pc = .ok (.invokevirtual index, 3))
    (k : ∀ (x9 : Int32) (w' : kw), P x9 w' → kV p l e R s m args below meth c Q nL D τ ρ pc' L (.int x9 :: rest) w') : kV p l e R s m args below meth c Q nL D τ ρ pc L st w := kv_callVN C pc' hpc cl hM hs hc hlk hin hse hcode hini hd9 hn hrc hrs hR hst hcat hd (fun r9 w9 h9 => by obtain ⟨x9, rfl, h9⟩ := h9; exact k x9 w9 h9)
theorem kv_callVNv {P : kw → Prop} (C : kC p s m args c cc nL own D τ ρ σ) (pc' : Nat) (hpc : pc + 3 = pc') (cl : Nat) (hM : kM l D τ ρ σ y bytes mx ret rm (.ref (ρ cl) :: As) w (fun o w9 => o = none ∧ P w9)) (hs : kSh[cl]? = some (.inl (ci, fk))) (hc : vwCl[ci]? = some (CN, T, N)) (hlk : Cond.methodLinkNest own index y host ∈ kNest) (hin : Cond.instanceMethod y ∈ kUW) (hse : Cond.selects CN y y ∈ kUW) (hcode : Cond.code y bytes mx ret ∈ kUW) (hini : Cond.initialized y.cls ∈ kUW)
    (hd9 : y.cls ≠ "java/lang/invoke/MethodHandle" ∧ y.cls ≠ "java/lang/invoke/VarHandle" ∧ (parseMethodDescriptor y.desc).map (fun d => d.parameters.length) = some n) (hn : As.length = n) (hrc : rm.cells = 0) (hrs : rm.slots = 0) (hR : rm.frames + 1 ≤ R.frames ∧ 8 + (mx + 11) + rm.locals ≤ R.locals) (hst : st = As.reverse ++ .ref (ρ cl) :: rest) (hcat : (rest.map fun v => v.category).sum ≤ 8) (hd : decode cc pc = .ok (.invokevirtual index, 3))
    (k : ∀ (w' : kw), P w' → kV p l e R s m args below meth c Q nL D τ ρ pc' L rest w') : kV p l e R s m args below meth c Q nL D τ ρ pc L st w := kv_callVN C pc' hpc cl hM hs hc hlk hin hse hcode hini hd9 hn hrc hrs hR hst hcat hd (fun r9 w9 h9 => by obtain ⟨rfl, h9⟩ := h9; exact k w9 h9)
theorem kv_callSi {P : Int32 → kw → Prop} (C : kC p s m args c cc nL own D τ ρ σ) (pc' : Nat) (hpc : pc + 3 = pc') (hM : kM l D τ ρ σ y bytes mx ret rm As w (fun o w9 => ∃ r9 : Int32, o = some (.int r9) ∧ P r9 w9)) (hlk : Cond.methodLink own index y ∈ kUW) (hin : Cond.static y ∈ kUW) (hcode : Cond.code y bytes mx ret ∈ kUW) (hini : Cond.initialized y.cls ∈ kUW)
    (hd9 : y.cls ≠ "java/lang/invoke/MethodHandle" ∧ y.cls ≠ "java/lang/invoke/VarHandle" ∧ (parseMethodDescriptor y.desc).map (fun d => d.parameters.length) = some n) (hn : As.length = n) (hrc : rm.cells = 0) (hrs : rm.slots = 0) (hR : rm.frames + 1 ≤ R.frames ∧ 8 + (mx + 11) + rm.locals ≤ R.locals) (hst : st = As.reverse ++ rest) (hcat : (rest.map fun v => v.category).sum ≤ 8) (hd : decode cc pc = .ok (.invokestatic index, 3))
    (k : ∀ (x9 : Int32) (w' : kw), P x9 w' → kV p l e R s m args below meth c Q nL D τ ρ pc' L (.int x9 :: rest) w') : kV p l e R s m args below meth c Q nL D τ ρ pc L st w := kv_callS C pc' hpc hM hlk hin hcode hini hd9 hn hrc hrs hR hst hcat hd (fun r9 w9 h9 => by obtain ⟨x9, rfl, h9⟩ := h9; exact k x9 w9 h9)
theorem kv_callSv {P : kw → Prop} (C : kC p s m args c cc nL own D τ ρ σ) (pc' : Nat) (hpc : pc + 3 = pc') (hM : kM l D τ ρ σ y bytes mx ret rm As w (fun o w9 => o = none ∧ P w9)) (hlk : Cond.methodLink own index y ∈ kUW) (hin : Cond.static y ∈ kUW) (hcode : Cond.code y bytes mx ret ∈ kUW) (hini : Cond.initialized y.cls ∈ kUW)
    (hd9 : y.cls ≠ "java/lang/invoke/MethodHandle" ∧ y.cls ≠ "java/lang/invoke/VarHandle" ∧ (parseMethodDescriptor y.desc).map (fun d => d.parameters.length) = some n) (hn : As.length = n) (hrc : rm.cells = 0) (hrs : rm.slots = 0) (hR : rm.frames + 1 ≤ R.frames ∧ 8 + (mx + 11) + rm.locals ≤ R.locals) (hst : st = As.reverse ++ rest) (hcat : (rest.map fun v => v.category).sum ≤ 8) (hd : decode cc pc = .ok (.invokestatic index, 3))
    (k : ∀ (w' : kw), P w' → kV p l e R s m args below meth c Q nL D τ ρ pc' L rest w') : kV p l e R s m args below meth c Q nL D τ ρ pc L st w := kv_callS C pc' hpc hM hlk hin hcode hini hd9 hn hrc hrs hR hst hcat hd (fun r9 w9 h9 => by obtain ⟨rfl, h9⟩ := h9; exact k w9 h9)
theorem kv_callSNi {P : Int32 → kw → Prop} (C : kC p s m args c cc nL own D τ ρ σ) (pc' : Nat) (hpc : pc + 3 = pc') (hM : kM l D τ ρ σ y bytes mx ret rm As w (fun o w9 => ∃ r9 : Int32, o = some (.int r9) ∧ P r9 w9)) (hlk : Cond.methodLinkNest own index y host ∈ kNest) (hin : Cond.static y ∈ kUW) (hcode : Cond.code y bytes mx ret ∈ kUW) (hini : Cond.initialized y.cls ∈ kUW)
    (hd9 : y.cls ≠ "java/lang/invoke/MethodHandle" ∧ y.cls ≠ "java/lang/invoke/VarHandle" ∧ (parseMethodDescriptor y.desc).map (fun d => d.parameters.length) = some n) (hn : As.length = n) (hrc : rm.cells = 0) (hrs : rm.slots = 0) (hR : rm.frames + 1 ≤ R.frames ∧ 8 + (mx + 11) + rm.locals ≤ R.locals) (hst : st = As.reverse ++ rest) (hcat : (rest.map fun v => v.category).sum ≤ 8) (hd : decode cc pc = .ok (.invokestatic index, 3))
    (k : ∀ (x9 : Int32) (w' : kw), P x9 w' → kV p l e R s m args below meth c Q nL D τ ρ pc' L (.int x9 :: rest) w') : kV p l e R s m args below meth c Q nL D τ ρ pc L st w := kv_callSN C pc' hpc hM hlk hin hcode hini hd9 hn hrc hrs hR hst hcat hd (fun r9 w9 h9 => by obtain ⟨x9, rfl, h9⟩ := h9; exact k x9 w9 h9)
theorem kv_callSNv {P : kw → Prop} (C : kC p s m args c cc nL own D τ ρ σ) (pc' : Nat) (hpc : pc + 3 = pc') (hM : kM l D τ ρ σ y bytes mx ret rm As w (fun o w9 => o = none ∧ P w9)) (hlk : Cond.methodLinkNest own index y host ∈ kNest) (hin : Cond.static y ∈ kUW) (hcode : Cond.code y bytes mx ret ∈ kUW) (hini : Cond.initialized y.cls ∈ kUW)
    (hd9 : y.cls ≠ "java/lang/invoke/MethodHandle" ∧ y.cls ≠ "java/lang/invoke/VarHandle" ∧ (parseMethodDescriptor y.desc).map (fun d => d.parameters.length) = some n) (hn : As.length = n) (hrc : rm.cells = 0) (hrs : rm.slots = 0) (hR : rm.frames + 1 ≤ R.frames ∧ 8 + (mx + 11) + rm.locals ≤ R.locals) (hst : st = As.reverse ++ rest) (hcat : (rest.map fun v => v.category).sum ≤ 8) (hd : decode cc pc = .ok (.invokestatic index, 3))
    (k : ∀ (w' : kw), P w' → kV p l e R s m args below meth c Q nL D τ ρ pc' L rest w') : kV p l e R s m args below meth c Q nL D τ ρ pc L st w := kv_callSN C pc' hpc hM hlk hin hcode hini hd9 hn hrc hrs hR hst hcat hd (fun r9 w9 h9 => by obtain ⟨rfl, h9⟩ := h9; exact k w9 h9)
end KR
theorem kV.L {p : Program} {l : Launch} {e : Env} {R : Room} {s : State} {m : MethodId} {args : Array Value} {below : List Frame} {meth : Method} {c : Code} {Q : State → Prop} {nL : Nat} {D : va_G} {τ : Nat → ClassId} {ρ : Nat → Nat} {pc : Nat} {L L' : List (Nat × Value)} {st : List Value} {w : kw} (h : L = L') (k : kV p l e R s m args below meth c Q nL D τ ρ pc L' st w) : kV p l e R s m args below meth c Q nL D τ ρ pc L st w := h ▸ k
theorem kV.sub {p : Program} {l : Launch} {e : Env} {R : Room} {s : State} {m : MethodId} {args : Array Value} {below : List Frame} {meth : Method} {c : Code} {Q : State → Prop} {nL : Nat} {D : va_G} {τ : Nat → ClassId} {ρ : Nat → Nat} {pc : Nat} {L L' : List (Nat × Value)} {st : List Value} {w : kw} (ks : List Nat) (h : lv_pick L ks = L') (k : kV p l e R s m args below meth c Q nL D τ ρ pc L' st w) : kV p l e R s m args below meth c Q nL D τ ρ pc L st w := fun H locs ls hP hS hl => k H locs ls hP hS (lv_sub hl ks h)
