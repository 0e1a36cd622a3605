/-! ===== constructors: worlds that grow, as lists ===== -/
def kT (τ : Nat → ClassId) : List (ClassId × FieldType) := [(τ 0, .int), (τ 1, .boolean), (τ 2, .object "TaleMachine$Slot")]
def nE (D : va_G) (τ : Nat → ClassId) (U : State) : Prop := va_K D vwCl (kT τ) U ∧ (∀ w ∈ kNest, va_Nw w U) ∧ va_AO "TaleMachine$Slot" U
theorem nE.warm {D : va_G} {τ : Nat → ClassId} {s U : State} (hW : s.WarmedH U.vm) (h : nE D τ s) : nE D τ U := ⟨va_K.moved hW.alike h.1, fun w hw => kNest_warm w hw s U hW (h.2.1 w hw), va_AO.moved hW.alike h.2.2⟩
theorem nE.same {D : va_G} {τ : Nat → ClassId} {s U : State} (hv : s.vm = U.vm) (h : nE D τ s) : nE D τ U := ⟨va_K.moved (by rw [hv]; exact Vm.Alike.refl _) h.1, fun w hw => va_Nw.same (kNest_tab w hw) hv (h.2.1 w hw), va_AO.moved (by rw [hv]; exact Vm.Alike.refl _) h.2.2⟩
/-- a constructor's contract: from the cells 'pre' to cells with 'post'; mc cells of ms slots are new -/
def nM (l : Launch) (D : va_G) (τ : Nat → ClassId) (y : MethodName) (cc : ByteArray) (mx : Nat) (rm : Room) (as : List Value) (pre : va_W) (post : va_W → Prop) (mc ms : Nat) : Prop :=
  ∀ sz : Nat, Met l y (Cond.code y cc mx none :: kUW) rm (va_Pc as (fun U => U.heap.size = sz ∧ va_P D vwCl pre U.heap ∧ nE D τ U ∧ va_D (fun _ => True) pre))
    (fun _ st oc t => (∃ ws : va_W, oc = .returned none ∧ post ws ∧ va_P D vwCl ws t.heap ∧ va_D (va_A pre sz) ws) ∧ va_F (va_A pre sz) st t) mc ms (va_A pre sz)
def nC (p : Program) (s : State) (m : MethodId) (args : Array Value) (meth : Method) (c : Code) (cc : ByteArray) (nL : Nat) (own : String) (D : va_G) (τ : Nat → ClassId) (A : Nat → Prop) : Prop :=
  p.tables.exec = Jvm.exec ∧ c.code = cc ∧ c.maxLocals = nL ∧ s.vm.findClass own = some m.cls ∧ (∀ w ∈ kUW, w.before args s = true) ∧ nE D τ s ∧ (∀ q : Nat, s.heap.size ≤ q → A q)
def nV (p : Program) (l : Launch) (e : Env) (R : Room) (s : State) (m : MethodId) (args : Array Value) (below : List Frame) (meth : Method) (c : Code) (Q : State → Prop) (nL : Nat) (D : va_G) (A : Nat → Prop) (pc : Nat) (L : List (Nat × Value)) (st : List Value) (ws : va_W) (cells slots : Nat) : Prop :=
  ∀ (H : Heap) (locs : List Loc) (ls : Array Slot), va_P D vwCl ws H → va_D A ws → va_S A s.heap H locs → lv_has ls nL L → W p l e R s m args below meth c H locs cells slots Q (F0 m pc ls st)
def nQ (below : List Frame) (args : Array Value) (s : State) (D : va_G) (A : Nat → Prop) (post : va_W → Prop) (mc ms : Nat) : State → Prop :=
  MQ below (fun _ st oc t => (∃ ws : va_W, oc = .returned none ∧ post ws ∧ va_P D vwCl ws t.heap ∧ va_D A ws) ∧ va_F A st t) args s mc ms A
theorem nM_of {l : Launch} {D : va_G} {τ : Nat → ClassId} {y : MethodName} {cc : ByteArray} {mx : Nat} {rm : Room} {as : List Value} {pre : va_W} {post : va_W → Prop} {mc ms : Nat} {own : String} (ho : y.cls = own) (hy : plainName y.cls = true) (hlen : (lg_sl as).length ≤ mx)
    (body : ∀ (p : Program) (e : Env) (s : State) (m : MethodId) (args : Array Value) (below : List Frame) (meth : Method) (c : Code) (A : Nat → Prop), nC p s m args meth c cc mx own D τ A → meth.sig.returnType = none → meth.locks = false → meth.name = y.name → nV p l e rm s m args below meth c (nQ below args s D A post mc ms) mx D A 0 (lv_args 0 as) [] pre 0 0) : nM l D τ y cc mx rm as pre post mc ms := by
  intro sz
  subst ho
  refine Met.ofW (cc := cc) (maxL := mx) (ret := none) hy rfl ?_
  intro p e s m args below meth c s₁ B hml hv
  obtain ⟨rfl, hsz, hP, hE, hD0⟩ := hv
  subst hsz
  have hts := atoms_spec (ws := Cond.code y cc mx none :: kUW) B.pre
  have hl := lv_entry as (n := mx) hlen
  rw [lg_entry_eq]
  generalize (lg_sl as ++ List.replicate (mx - (lg_sl as).length) Slot.unset).toArray = ls at hl ⊢
  exact body p e s m as.toArray below meth c _ ⟨B.exec, B.bytes, hml, findClass_of_methodNamed B.named, fun w hw => hts w (List.mem_cons_of_mem _ hw), hE, fun q h => Or.inr h⟩ B.returns B.notSynchronized (name_of_methodNamed B.named B.method).1 s.heap [] ls hP hD0.self va_S.rf hl
section NV
variable {p : Program} {l : Launch} {e : Env} {R : Room} {s : State} {m : MethodId} {args : Array Value} {below : List Frame} {meth : Method} {c : Code} {Q : State → Prop} {cc : ByteArray} {nL : Nat} {own : String} {D : va_G} {τ : Nat → ClassId} {A : Nat → Prop} {pc : Nat} {L : List (Nat × Value)} {st : List Value} {ws : va_W} {cells slots : Nat} {post : va_W → Prop}
theorem nv_L {L' : List (Nat × Value)} (h : L = L') (k : nV p l e R s m args below meth c Q nL D A pc L' st ws cells slots) : nV p l e R s m args below meth c Q nL D A pc L st ws cells slots := h ▸ k
theorem nv_ws {ws' : va_W} (is : List Nat) (hn : va_nd is = true) (hs : is.map (fun i => ws[i]?) = ws'.map some) (hs2 : is.filterMap (fun i => ws[i]?) = ws') (k : nV p l e R s m args below meth c Q nL D A pc L st ws' cells slots) : nV p l e R s m args below meth c Q nL D A pc L st ws cells slots :=
  fun H locs ls hP hD hS hl => k H locs ls (hP.sub is hs2) (hD.sub is hn hs) hS hl
theorem nv_iconst (C : nC p s m args meth c cc nL own D τ A) (pc' : Nat) (hpc : pc + 1 = pc') {n : Int} (v : Int32) (hd : decode cc pc = .ok (.iconst n, 1)) (hv : Int32.ofInt n = v) (k : nV p l e R s m args below meth c Q nL D A pc' L (.int v :: st) ws cells slots) : nV p l e R s m args below meth c Q nL D A pc L st ws cells slots := by
  subst hpc
  exact fun H locs ls hP hD hS hl => lv_iconst C.1 C.2.1 hd hv (k H locs ls hP hD hS hl)
theorem nv_bipush (C : nC p s m args meth c cc nL own D τ A) (pc' : Nat) (hpc : pc + 2 = pc') {n : Int} (v : Int32) (hd : decode cc pc = .ok (.bipush n, 2)) (hv : (Int8.ofInt n).toInt32 = v) (k : nV p l e R s m args below meth c Q nL D A pc' L (.int v :: st) ws cells slots) : nV p l e R s m args below meth c Q nL D A pc L st ws cells slots := by
  subst hpc
  exact fun H locs ls hP hD hS hl => lv_bipush C.1 C.2.1 hd hv (k H locs ls hP hD hS hl)
theorem nv_sipush (C : nC p s m args meth c cc nL own D τ A) (pc' : Nat) (hpc : pc + 3 = pc') {n : Int} (v : Int32) (hd : decode cc pc = .ok (.sipush n, 3)) (hv : (Int16.ofInt n).toInt32 = v) (k : nV p l e R s m args below meth c Q nL D A pc' L (.int v :: st) ws cells slots) : nV p l e R s m args below meth c Q nL D A pc L st ws cells slots := by
  subst hpc
  exact fun H locs ls hP hD hS hl => lv_sipush C.1 C.2.1 hd hv (k H locs ls hP hD hS hl)
theorem nv_aload_n (C : nC p s m args meth c cc nL own D τ A) (pc' : Nat) (hpc : pc + 1 = pc') {k9 : Fin 4} (j : Nat) {i x : Nat} (hd : decode cc pc = .ok (.aload_n k9, 1)) (hj : L[j]? = some (i, .ref x)) (hi : (k9 : Nat) = i) (k : nV p l e R s m args below meth c Q nL D A pc' L (.ref x :: st) ws cells slots) : nV p l e R s m args below meth c Q nL D A pc L st ws cells slots := by
  subst hpc
  exact fun H locs ls hP hD hS hl => lv_aload_n C.1 C.2.1 hd hi (lv_at hl j hj) (k H locs ls hP hD hS hl)
theorem nv_aload (C : nC p s m args meth c cc nL own D τ A) (pc' : Nat) (hpc : pc + 2 = pc') (j : Nat) {i x : Nat} (hd : decode cc pc = .ok (.aload i, 2)) (hj : L[j]? = some (i, .ref x)) (k : nV p l e R s m args below meth c Q nL D A pc' L (.ref x :: st) ws cells slots) : nV p l e R s m args below meth c Q nL D A pc L st ws cells slots := by
  subst hpc
  exact fun H locs ls hP hD hS hl => lv_aload C.1 C.2.1 hd (lv_at hl j hj) (k H locs ls hP hD hS hl)
theorem nv_iload_n (C : nC p s m args meth c cc nL own D τ A) (pc' : Nat) (hpc : pc + 1 = pc') {k9 : Fin 4} (j : Nat) {i : Nat} {x : Int32} (hd : decode cc pc = .ok (.iload_n k9, 1)) (hj : L[j]? = some (i, .int x)) (hi : (k9 : Nat) = i) (k : nV p l e R s m args below meth c Q nL D A pc' L (.int x :: st) ws cells slots) : nV p l e R s m args below meth c Q nL D A pc L st ws cells slots := by
  subst hpc
  exact fun H locs ls hP hD hS hl => lv_iload_n C.1 C.2.1 hd hi (lv_at hl j hj) (k H locs ls hP hD hS hl)
theorem nv_istore_n (C : nC p s m args meth c cc nL own D τ A) (pc' : Nat) (hpc : pc + 1 = pc') {k9 : Fin 4} (i : Nat) (ks : List Nat) {x : Int32} (L' : List (Nat × Value)) (hd : decode cc pc = .ok (.istore_n k9, 1)) (hi : (k9 : Nat) = i) (hn : i < nL) (hl9 : lv_pick ((i, Value.int x) :: L.filter (fun q => !(q.1 == i) && !(q.1 + 1 == i && q.2.category == 2))) ks = L') (k : nV p l e R s m args below meth c Q nL D A pc' L' st ws cells slots) : nV p l e R s m args below meth c Q nL D A pc L (.int x :: st) ws cells slots := by
  subst hpc
  exact fun H locs ls hP hD hS hl => lv_istore_n C.1 C.2.1 hd hi hl hn rfl (fun ls' hl' => k H locs ls' hP hD hS (lv_sub hl' ks hl9))
theorem nv_astore_n (C : nC p s m args meth c cc nL own D τ A) (pc' : Nat) (hpc : pc + 1 = pc') {k9 : Fin 4} (i : Nat) (ks : List Nat) {x : Nat} (L' : List (Nat × Value)) (hd : decode cc pc = .ok (.astore_n k9, 1)) (hi : (k9 : Nat) = i) (hn : i < nL) (hl9 : lv_pick ((i, Value.ref x) :: L.filter (fun q => !(q.1 == i) && !(q.1 + 1 == i && q.2.category == 2))) ks = L') (k : nV p l e R s m args below meth c Q nL D A pc' L' st ws cells slots) : nV p l e R s m args below meth c Q nL D A pc L (.ref x :: st) ws cells slots := by
  subst hpc
  exact fun H locs ls hP hD hS hl => lv_astore_n C.1 C.2.1 hd hi hl hn rfl (fun ls' hl' => k H locs ls' hP hD hS (lv_sub hl' ks hl9))
theorem nv_iinc (C : nC p s m args meth c cc nL own D τ A) (pc' : Nat) (hpc : pc + 3 = pc') (i j : Nat) (ks : List Nat) {n : Int} {x : Int32} (v : Int32) (L' : List (Nat × Value)) (hd : decode cc pc = .ok (.iinc i n, 3)) (hj : L[j]? = some (i, .int x)) (hv : x + Int32.ofInt n = v) (hn : i < nL) (hl9 : lv_pick ((i, Value.int v) :: L.filter (fun q => !(q.1 == i) && !(q.1 + 1 == i && q.2.category == 2))) ks = L') (k : nV p l e R s m args below meth c Q nL D A pc' L' st ws cells slots) : nV p l e R s m args below meth c Q nL D A pc L st ws cells slots := by
  subst hpc
  exact fun H locs ls hP hD hS hl => lv_iinc C.1 C.2.1 hd hl hj hv hn rfl (fun ls' hl' => k H locs ls' hP hD hS (lv_sub hl' ks hl9))
theorem nv_dup (C : nC p s m args meth c cc nL own D τ A) (pc' : Nat) (hpc : pc + 1 = pc') {va : Value} (hd : decode cc pc = .ok (.dup, 1)) (ha : va.category = 1) (k : nV p l e R s m args below meth c Q nL D A pc' L (va :: va :: st) ws cells slots) : nV p l e R s m args below meth c Q nL D A pc L (va :: st) ws cells slots := by
  subst hpc
  exact fun H locs ls hP hD hS hl => lv_dup C.1 C.2.1 hd ha (k H locs ls hP hD hS hl)
theorem nv_goto (C : nC p s m args meth c cc nL own D τ A) {off : Int} (tgt : Nat) (hd : decode cc pc = .ok (.goto off, 3)) (ht : (pc : Int) + off = (tgt : Int)) (k : nV p l e R s m args below meth c Q nL D A tgt L st ws cells slots) : nV p l e R s m args below meth c Q nL D A pc L st ws cells slots :=
  fun H locs ls hP hD hS hl => lv_goto C.1 C.2.1 hd ht (k H locs ls hP hD hS hl)
theorem nv_geT (C : nC p s m args meth c cc nL own D τ A) {x y : Int32} {off : Int} (tgt : Nat) (hd : decode cc pc = .ok (.if_icmp .ge off, 3)) (ht : (pc : Int) + off = (tgt : Int)) (h : y ≤ x) (k : nV p l e R s m args below meth c Q nL D A tgt L st ws cells slots) : nV p l e R s m args below meth c Q nL D A pc L (.int y :: .int x :: st) ws cells slots :=
  fun H locs ls hP hD hS hl => lv_icmp_ge C.1 C.2.1 hd ht (fun _ => k H locs ls hP hD hS hl) (fun q => absurd h q)
theorem nv_geF (C : nC p s m args meth c cc nL own D τ A) (pc' : Nat) (hpc : pc + 3 = pc') {x y : Int32} {off : Int} (tgt : Nat) (hd : decode cc pc = .ok (.if_icmp .ge off, 3)) (ht : (pc : Int) + off = (tgt : Int)) (h : ¬ y ≤ x) (k : nV p l e R s m args below meth c Q nL D A pc' L st ws cells slots) : nV p l e R s m args below meth c Q nL D A pc L (.int y :: .int x :: st) ws cells slots := by
  subst hpc
  exact fun H locs ls hP hD hS hl => lv_icmp_ge C.1 C.2.1 hd ht (fun q => absurd q h) (fun _ => k H locs ls hP hD hS hl)
theorem nv_objInit (C : nC p s m args meth c cc nL own D τ A) (pc' : Nat) (hpc : pc + 3 = pc') {a idx : Nat} (hlk : Cond.methodLink own idx objectInit ∈ kUW) (hin : Cond.instanceMethod objectInit ∈ kUW) (hcd : Cond.code objectInit ⟨#[0xb1]⟩ 1 none ∈ kUW) (hd : decode cc pc = .ok (.invokespecial idx, 3)) (hf : 1 ≤ R.frames) (hlo : 2 * 0 + (st.map fun v => v.category).sum + 12 ≤ R.locals) (hst : (st.map fun v => v.category).sum ≤ 8) (hR : 20 ≤ R.locals) (k : nV p l e R s m args below meth c Q nL D A pc' L st ws cells slots) : nV p l e R s m args below meth c Q nL D A pc L (.ref a :: st) ws cells slots := by
  subst hpc
  intro H locs ls hP hD hS hl
  have hts := C.2.2.2.2.1
  have hr := lv_room (m := m) (pc := pc) (ls := ls) (rest := .ref a :: st) hst
  refine W.objInit C.1 C.2.1 C.2.2.2.1 (hts _ hlk) (hts _ hin) (hts _ hcd) rfl (by rw [C.2.2.1]; exact hl.1) rfl hd hf (by omega) ?_
  exact W.eq (g2 := F0 m (pc + 3) ls st) rfl (k H locs ls hP hD hS hl)
theorem nv_get (C : nC p s m args meth c cc nL own D τ A) (pc' : Nat) (hpc : pc + 3 = pc') (q0 k0 : Nat) {a ci : Nat} {fs : List Value} {CN : String} {T : u_T} {N index : Nat} (he : ws[q0]? = some (a, .inr (ci, fs))) (hc : vwCl[ci]? = some (CN, T, N)) (hin : ∀ w ∈ u_ws CN T N, w ∈ kUW) (hk : k0 < N) (hlk : Cond.fieldLink own index CN (T k0).2.1 (T k0).2.2.1 ∈ kUW) (hown : (T k0).1 = CN) {v : Value} (hv : fs[k0]? = some v) (hd : decode cc pc = .ok (.getfield index, 3)) (k : nV p l e R s m args below meth c Q nL D A pc' L (v :: st) ws cells slots) : nV p l e R s m args below meth c Q nL D A pc L (.ref a :: st) ws cells slots := by
  subst hpc
  exact fun H locs ls hP hD hS hl => va_get C.1 C.2.1 C.2.2.2.2.1 hin C.2.2.2.1 C.2.2.2.2.2.1.1 hP q0 he hc k0 hk (C.2.2.2.2.1 _ hlk) (fun x9 h9 => by rw [hown] at h9; exact h9) hv hd (k H locs ls hP hD hS hl)
theorem nv_put (C : nC p s m args meth c cc nL own D τ A) (pc' : Nat) (hpc : pc + 3 = pc') (q0 k0 : Nat) {a ci : Nat} {fs : List Value} {CN : String} {T : u_T} {N index : Nat} (he : ws[q0]? = some (a, .inr (ci, fs))) (hc : vwCl[ci]? = some (CN, T, N)) (hin : ∀ w ∈ u_ws CN T N, w ∈ kUW) (hk : k0 < N) (hlk : Cond.fieldLink own index CN (T k0).2.1 (T k0).2.2.1 ∈ kUW) (hown : (T k0).1 = CN) (ty0 : Nat → FieldType) (hty : ∀ k, k < N → parseFieldDescriptor (T k).2.2.1 = some (ty0 k)) (hnm : ∀ a, a < N → ∀ b, b < N → a ≠ b → (T a).2.1 ≠ (T b).2.1) (hfin : (T k0).2.2.2 = false) {v : Value} (hn : narrow (ty0 k0) v = v) (hfit : fits (ty0 k0) v = true) (hlen : k0 < fs.length) (ws' : va_W) (hw : ws.set q0 (a, .inr (ci, fs.set k0 v)) = ws') (hd : decode cc pc = .ok (.putfield index, 3)) (k : nV p l e R s m args below meth c Q nL D A pc' L st ws' cells slots) : nV p l e R s m args below meth c Q nL D A pc L (v :: .ref a :: st) ws cells slots := by
  subst hpc; subst hw
  exact fun H locs ls hP hD hS hl => va_put C.1 C.2.1 C.2.2.2.2.1 hin ty0 hty hnm C.2.2.2.1 C.2.2.2.2.2.1.1 hP hD hS q0 he hc k0 hk (C.2.2.2.2.1 _ hlk) (fun x9 h9 => by rw [hown] at h9; exact h9) hfin (hty k0 hk) hn hfit hlen hd (fun H1 locs1 hP1 hD1 hS1 => k H1 locs1 ls hP1 hD1 hS1 hl)
theorem nv_putF (C : nC p s m args meth c cc nL own D τ A) (pc' : Nat) (hpc : pc + 3 = pc') (hnm2 : meth.name = "<init>") (q0 k0 : Nat) {a ci : Nat} {fs : List Value} {CN : String} {T : u_T} {N index : Nat} (he : ws[q0]? = some (a, .inr (ci, fs))) (hc : vwCl[ci]? = some (CN, T, N)) (hin : ∀ w ∈ u_ws CN T N, w ∈ kUW) (hk : k0 < N) (hlk : Cond.fieldLink own index CN (T k0).2.1 (T k0).2.2.1 ∈ kUW) (hown : (T k0).1 = CN) (hown2 : (T k0).1 = own) (ty0 : Nat → FieldType) (hty : ∀ k, k < N → parseFieldDescriptor (T k).2.2.1 = some (ty0 k)) (hnm : ∀ a, a < N → ∀ b, b < N → a ≠ b → (T a).2.1 ≠ (T b).2.1) (hfin : (T k0).2.2.2 = true) {v : Value} (hn : narrow (ty0 k0) v = v) (hfit : fits (ty0 k0) v = true) (hlen : k0 < fs.length) (ws' : va_W) (hw : ws.set q0 (a, .inr (ci, fs.set k0 v)) = ws') (hd : decode cc pc = .ok (.putfield index, 3)) (k : nV p l e R s m args below meth c Q nL D A pc' L st ws' cells slots) : nV p l e R s m args below meth c Q nL D A pc L (v :: .ref a :: st) ws cells slots := by
  subst hpc; subst hw
  exact fun H locs ls hP hD hS hl => va_putF C.1 C.2.1 C.2.2.2.2.1 hin ty0 hty hnm C.2.2.2.1 C.2.2.2.2.2.1.1 hP hD hS q0 he hc k0 hk (C.2.2.2.2.1 _ hlk) (fun x9 h9 => by rw [hown] at h9; exact h9) hfin hnm2 hown2 (hty k0 hk) hn hfit hlen hd (fun H1 locs1 hP1 hD1 hS1 => k H1 locs1 ls hP1 hD1 hS1 hl)
theorem nv_newa (C : nC p s m args meth c cc nL own D τ A) (pc' : Nat) (hpc : pc + 2 = pc') (t0 : Nat) {atype : ArrayType} {ty : FieldType} (harr : Cond.arrayClass (newarray.typeOf atype) ∈ kUW) (hty : newarray.typeOf atype = ty) (ht : (kT τ)[t0]? = some (τ t0, ty)) (hnr : ∀ U cA, va_RA U cA ty → U.vm.findClass ("[" ++ ty.toString) = some cA) {n : Int32} (N' : Nat) (hdef : defaultValue ty = .int 0) (hn : ¬ n < 0) (hN : n.toNatClampNeg = N') (hbytes : N' * componentBytes ty ≤ 536870912) (hcells : cells + 1 ≤ R.cells) (hslots : slots + N' ≤ R.slots) (hd : decode cc pc = .ok (.newarray atype, 2)) (k : ∀ q : Nat, nV p l e R s m args below meth c Q nL D A pc' L (.ref q :: st) (ws ++ [(q, .inl (τ t0, N', .inl (fun _ => 0)))]) (cells + 1) (slots + N')) : nV p l e R s m args below meth c Q nL D A pc L (.int n :: st) ws cells slots := by
  subst hpc
  intro H locs ls hP hD hS hl
  refine va_newa (a0 := (N', .inl (fun _ => 0))) C.1 C.2.1 (C.2.2.2.2.1 _ harr) hty C.2.2.2.2.2.1.1 hP hD hS C.2.2.2.2.2.2 (fun cA => by rw [hdef]; rfl) hn hN hbytes hcells hslots hd (fun q cA H1 hK1 hP1 hD1 hS1 => ?_)
  have e1 : s.vm.findClass ("[" ++ ty.toString) = some cA := hnr _ _ (hK1.2 3 (cA, ty) rfl).2
  have e2 : s.vm.findClass ("[" ++ ty.toString) = some (τ t0) := hnr _ _ (C.2.2.2.2.2.1.1.2 t0 _ ht).2
  have e3 : cA = τ t0 := Option.some.inj (e1.symm.trans e2)
  subst e3
  exact k q H1 locs ls hP1 hD1 hS1 hl
theorem nv_newq (C : nC p s m args meth c cc nL own D τ A) (pc' : Nat) (hpc : pc + 3 = pc') {index : Nat} (hcl : Cond.classLink own index "TaleMachine$Slot" ∈ kUW) {n : Int32} (N' : Nat) (hn : ¬ n < 0) (hN : n.toNatClampNeg = N') (hbytes : N' * 4 ≤ 536870912) (hcells : cells + 1 ≤ R.cells) (hslots : slots + N' ≤ R.slots) (hd : decode cc pc = .ok (.anewarray index, 3)) (k : ∀ q : Nat, nV p l e R s m args below meth c Q nL D A pc' L (.ref q :: st) (ws ++ [(q, .inl (τ 2, N', .inr (.inr (.inr (.inr (fun _ => none))))))]) (cells + 1) (slots + N')) : nV p l e R s m args below meth c Q nL D A pc L (.int n :: st) ws cells slots := by
  subst hpc
  intro H locs ls hP hD hS hl
  refine va_newq C.1 C.2.1 C.2.2.2.1 (C.2.2.2.2.1 _ hcl) C.2.2.2.2.2.1.2.2 C.2.2.2.2.2.1.1 hP hD hS C.2.2.2.2.2.2 hn hN hbytes hcells hslots hd (fun q cA H1 hK1 hP1 hD1 hS1 => ?_)
  obtain ⟨_, _, _, _, _, e1⟩ := (hK1.2 3 (cA, .object "TaleMachine$Slot") rfl).2
  obtain ⟨_, _, _, _, _, e2⟩ := (C.2.2.2.2.2.1.1.2 2 (τ 2, .object "TaleMachine$Slot") rfl).2
  have e3 : cA = τ 2 := Option.some.inj (e1.symm.trans e2)
  subst e3
  exact k q H1 locs ls hP1 hD1 hS1 hl
theorem nv_new (C : nC p s m args meth c cc nL own D τ A) (pc' : Nat) (hpc : pc + 3 = pc') (ci : Nat) {CN : String} {T : u_T} {N index : Nat} (hc : vwCl[ci]? = some (CN, T, N)) (hin : ∀ w ∈ u_ws CN T N, w ∈ kUW) (ty0 : Nat → FieldType) (hty : ∀ k, k < N → parseFieldDescriptor (T k).2.2.1 = some (ty0 k)) (hcl : Cond.classLink own index CN ∈ kUW) (hinst : Cond.instantiable CN N ∈ kUW) (hini : Cond.initialized CN ∈ kUW) (fs : List Value) (hfs : ∀ j, j < N → defaultValue (ty0 j) = vp_V fs j) (hcells : cells + 1 ≤ R.cells) (hslots : slots + N ≤ R.slots) (hd : decode cc pc = .ok (.new index, 3)) (k : ∀ q : Nat, nV p l e R s m args below meth c Q nL D A pc' L (.ref q :: st) (ws ++ [(q, .inr (ci, fs))]) (cells + 1) (slots + N)) : nV p l e R s m args below meth c Q nL D A pc L st ws cells slots := by
  subst hpc
  have hts := C.2.2.2.2.1
  exact fun H locs ls hP hD hS hl => va_new C.1 C.2.1 hts hin ty0 hty C.2.2.2.1 (hts _ hcl) (hts _ hinst) (hts _ hini) C.2.2.2.2.2.1.1 hP hD hS C.2.2.2.2.2.2 hc hfs hcells hslots hd (fun q H1 hP1 hD1 hS1 => k q H1 locs ls hP1 hD1 hS1 hl)
theorem nv_iast (C : nC p s m args meth c cc nL own D τ A) (pc' : Nat) (hpc : pc + 1 = pc') (q0 : Nat) {a n : Nat} {f : Nat → Int32} (ha : ws[q0]? = some (a, .inl (τ 0, n, .inl f))) {i x : Int32} (h : vp_in i n) (g : Nat → Int32) (hg : upd f i.toNatClampNeg x = g) (ws' : va_W) (hw : ws.set q0 (a, .inl (τ 0, n, .inl g)) = ws') (hd : decode cc pc = .ok (.iastore, 1)) (k : nV p l e R s m args below meth c Q nL D A pc' L st ws' cells slots) : nV p l e R s m args below meth c Q nL D A pc L (.int x :: .int i :: .ref a :: st) ws cells slots := by
  subst hpc; subst hw; subst hg
  exact fun H locs ls hP hD hS hl => va_iast C.1 C.2.1 C.2.2.2.2.2.1.1 hP hD hS q0 0 ha rfl h hd (fun H1 locs1 hP1 hD1 hS1 => k H1 locs1 ls hP1 hD1 hS1 hl)
theorem nv_astq (C : nC p s m args meth c cc nL own D τ A) (pc' : Nat) (hpc : pc + 1 = pc') (q0 qk ci : Nat) {a n v : Nat} {vs : List Value} {T : u_T} {N : Nat} {f : Nat → Option Nat} (ha : ws[q0]? = some (a, .inl (τ 2, n, .inr (.inr (.inr (.inr f)))))) (hv : ws[qk]? = some (v, .inr (ci, vs))) (hc : vwCl[ci]? = some ("TaleMachine$Slot", T, N)) {i : Int32} (h : vp_in i n) (ws' : va_W) (hw : ws.set q0 (a, .inl (τ 2, n, .inr (.inr (.inr (.inr (va_up f i.toNatClampNeg (some v))))))) = ws') (hd : decode cc pc = .ok (.aastore, 1)) (k : nV p l e R s m args below meth c Q nL D A pc' L st ws' cells slots) : nV p l e R s m args below meth c Q nL D A pc L (.ref v :: .int i :: .ref a :: st) ws cells slots := by
  subst hpc; subst hw
  exact fun H locs ls hP hD hS hl => va_astq C.1 C.2.1 C.2.2.2.2.2.1.1 hP hD hS q0 2 qk ci ha rfl hv hc h hd (fun H1 locs1 hP1 hD1 hS1 => k H1 locs1 ls hP1 hD1 hS1 hl)
theorem nv_vret (C : nC p s m args meth c cc nL own D τ A) (hr : meth.sig.returnType = none) (hk : meth.locks = false) (hd : decode cc pc = .ok (.return_, 1)) (hp : post ws) : nV p l e R s m args below meth c (nQ below args s D A post cells slots) nL D A pc L [] ws cells slots := by
  intro H locs ls hP hD hS hl
  exact W.vret C.1 C.2.1 hr (fun t ht hW => ⟨⟨ws, rfl, hp, by rw [ht]; exact hP, hD⟩, hS.F ht⟩) hS.2.2 hd hk
theorem nblind {as : List Value} {pre : va_W} {sz : Nat} : FrameBlind (va_Pc as (fun U => U.heap.size = sz ∧ va_P D vwCl pre U.heap ∧ nE D τ U ∧ va_D (fun _ => True) pre)) := fun a U g mk q => ⟨q.1, q.2.1, q.2.2.1, nE.same (s := U) (U := U.calling g mk a) rfl q.2.2.2.1, q.2.2.2.2⟩
theorem nv_bind {H : Heap} {locs : List Loc} {ls : Array Slot} {st0 rest : List Value} {wc wr : va_W} {mc ms : Nat} (isC isR : List Nat) (hC : isC.map (fun i => ws[i]?) = wc.map some) (hR : isR.map (fun i => ws[i]?) = wr.map some) (hn : va_nd isR = true) (hdis : ∀ i ∈ isR, i ∉ isC) (hP : va_P D vwCl ws H) (hD : va_D A ws) (hA : ∀ q : Nat, s.heap.size ≤ q → A q)
    (run : va_Run p l e R s m args below meth c H locs cells slots mc ms (F0 m pc ls st0) rest (fun st oc t => (∃ ws : va_W, oc = .returned none ∧ post ws ∧ va_P D vwCl ws t.heap ∧ va_D (va_A wc H.size) ws) ∧ va_F (va_A wc H.size) st t) (va_A wc H.size)) (hS : va_S A s.heap H locs) (hl : lv_has ls nL L)
    (k : ∀ w1 : va_W, post w1 → nV p l e R s m args below meth c Q nL D A (pc + 3) L rest (wr ++ w1) (cells + mc) (slots + ms)) : W p l e R s m args below meth c H locs cells slots Q (F0 m pc ls st0) := by
  have hF := va_free (wc := wc) hD hS hA isC hC
  intro T hT X
  obtain ⟨v, st₀, t, T', L', h0, X', hL, e1, e2, ⟨⟨w1, hv, hp, hb, hD1⟩, hz, hk⟩, stp⟩ := run T hT X
  cases hv
  rw [h0] at hz hk
  have hP1 : va_P D vwCl w1 T'.heap := by rw [e1]; exact hb
  have hk1 : ∀ q : Nat, q < H.size → ¬ va_A wc H.size q → T'.heap[q]? = H[q]? := fun q h1 h2 => by rw [e1]; exact hk q h1 h2
  have hS1 : va_S A s.heap T'.heap (locs ++ L') := ⟨Nat.le_trans hS.1 (by rw [e1]; exact hz), fun q h1 h2 => by rw [hk1 q (Nat.lt_of_lt_of_le h1 hS.1) (fun z => h2 (hF q z))]; exact hS.2.1 q h1 h2, fun q hq => by
      rcases List.mem_append.mp hq with h | h
      · exact hS.2.2 q h
      · exact hF _ (hL q h)⟩
  obtain ⟨hPj, hDj⟩ := va_join hP hD isC isR hC hR hn hdis hk1 hF hP1 hD1
  obtain ⟨t2, a1, b1⟩ := k w1 hp T'.heap (locs ++ L') ls hPj hDj hS1 hl T' rfl X'
  exact ⟨t2, stp t2 a1, b1⟩
variable {y : MethodName} {bytes : ByteArray} {mx n index mc ms : Nat} {rm : Room} {As rest : List Value} {host : String} {b : Nat} {wc wr : va_W}
theorem nv_callI (C : nC p s m args meth c cc nL own D τ A) (pc' : Nat) (hpc : pc + 3 = pc') (hM : nM l D τ y bytes mx rm (.ref b :: As) wc post mc ms) (isC isR : List Nat) (hC : isC.map (fun i => ws[i]?) = wc.map some) (hC2 : isC.filterMap (fun i => ws[i]?) = wc) (hnC : va_nd isC = true) (hR : isR.map (fun i => ws[i]?) = wr.map some) (hnR : va_nd isR = true) (hdis : ∀ i ∈ isR, i ∉ isC) (hlk : Cond.methodLink own index y ∈ kUW) (hin : Cond.instanceMethod y ∈ kUW) (hcode : Cond.code y bytes mx none ∈ kUW) (hini : Cond.initialized y.cls ∈ kUW) (hy : y.name = "<init>")
    (hd9 : y.cls ≠ "java/lang/invoke/MethodHandle" ∧ y.cls ≠ "java/lang/invoke/VarHandle" ∧ (parseMethodDescriptor y.desc).map (fun d => d.parameters.length) = some n) (hn : As.length = n) (hrc : rm.cells = mc) (hrs : rm.slots = ms) (hRm : rm.frames + 1 ≤ R.frames ∧ 8 + (mx + 11) + rm.locals ≤ R.locals) (hst : st = As.reverse ++ .ref b :: rest) (hcat : (rest.map fun v => v.category).sum ≤ 8) (hd : decode cc pc = .ok (.invokespecial index, 3)) (hcs : cells + mc ≤ R.cells ∧ slots + ms ≤ R.slots)
    (k : ∀ w1 : va_W, post w1 → nV p l e R s m args below meth c Q nL D A pc' L rest (wr ++ w1) (cells + mc) (slots + ms)) : nV p l e R s m args below meth c Q nL D A pc L st ws cells slots := by
  intro H locs ls hP hD hS hl
  subst hst; subst hpc
  have hts := C.2.2.2.2.1
  have hPc := hP.sub (ws' := wc) isC hC2
  have hDc := hD.sub (ws' := wc) isC hnC hC
  exact nv_bind isC isR hC hR hnR hdis hP hD C.2.2.2.2.2.2 (va_runI (As := As) (rest := rest) ⟨C.1, C.2.1, C.2.2.1, C.2.2.2.1, hts⟩ (hM H.size) ⟨callB_of n hts (kUW_in hcode) rfl hrc hrs (hts _ hini) (hts _ hlk) hd9 hRm, hy, hts _ hin⟩ ⟨nblind, fun U hU hW => ⟨rfl, by rw [hU], by rw [hU]; exact hPc, C.2.2.2.2.2.1.warm hW, hDc.weaken (fun _ _ _ _ => trivial)⟩⟩ rfl hn hl.1 rfl (lv_room hcat) hd hcs) hS hl k
theorem nv_callIN (C : nC p s m args meth c cc nL own D τ A) (pc' : Nat) (hpc : pc + 3 = pc') (hM : nM l D τ y bytes mx rm (.ref b :: As) wc post mc ms) (isC isR : List Nat) (hC : isC.map (fun i => ws[i]?) = wc.map some) (hC2 : isC.filterMap (fun i => ws[i]?) = wc) (hnC : va_nd isC = true) (hR : isR.map (fun i => ws[i]?) = wr.map some) (hnR : va_nd isR = true) (hdis : ∀ i ∈ isR, i ∉ isC) (hlk : Cond.methodLinkNest own index y host ∈ kNest) (hin : Cond.instanceMethod y ∈ kUW) (hcode : Cond.code y bytes mx none ∈ kUW) (hini : Cond.initialized y.cls ∈ kUW) (hy : y.name = "<init>")
    (hd9 : y.cls ≠ "java/lang/invoke/MethodHandle" ∧ y.cls ≠ "java/lang/invoke/VarHandle" ∧ (parseMethodDescriptor y.desc).map (fun d => d.parameters.length) = some n) (hn : As.length = n) (hrc : rm.cells = mc) (hrs : rm.slots = ms) (hRm : rm.frames + 1 ≤ R.frames ∧ 8 + (mx + 11) + rm.locals ≤ R.locals) (hst : st = As.reverse ++ .ref b :: rest) (hcat : (rest.map fun v => v.category).sum ≤ 8) (hd : decode cc pc = .ok (.invokespecial index, 3)) (hcs : cells + mc ≤ R.cells ∧ slots + ms ≤ R.slots)
    (k : ∀ w1 : va_W, post w1 → nV p l e R s m args below meth c Q nL D A pc' L rest (wr ++ w1) (cells + mc) (slots + ms)) : nV p l e R s m args below meth c Q nL D A pc L st ws cells slots := by
  intro H locs ls hP hD hS hl
  subst hst; subst hpc
  have hts := C.2.2.2.2.1
  have hPc := hP.sub (ws' := wc) isC hC2
  have hDc := hD.sub (ws' := wc) isC hnC hC
  exact nv_bind isC isR hC hR hnR hdis hP hD C.2.2.2.2.2.2 (va_runIN (As := As) (rest := rest) ⟨C.1, C.2.1, C.2.2.1, C.2.2.2.1, hts⟩ (hM H.size) ⟨va_cnB n hts (kUW_in hcode) rfl hrc hrs (C.2.2.2.2.2.1.2.1 _ hlk) (hts _ hini) hd9 hRm, hy, hts _ hin⟩ ⟨nblind, fun U hU hW => ⟨rfl, by rw [hU], by rw [hU]; exact hPc, C.2.2.2.2.2.1.warm hW, hDc.weaken (fun _ _ _ _ => trivial)⟩⟩ rfl hn hl.1 rfl (lv_room hcat) hd hcs) hS hl k
theorem nv_callV (C : nC p s m args meth c cc nL own D τ A) (pc' : Nat) (hpc : pc + 3 = pc') (q0 ci : Nat) {fs : List Value} {CN : String} {T : u_T} {N : Nat} (he : ws[q0]? = some (b, .inr (ci, fs))) (hc : vwCl[ci]? = some (CN, T, N)) (hM : nM l D τ y bytes mx rm (.ref b :: As) wc post mc ms) (isC isR : List Nat) (hC : isC.map (fun i => ws[i]?) = wc.map some) (hC2 : isC.filterMap (fun i => ws[i]?) = wc) (hnC : va_nd isC = true) (hR : isR.map (fun i => ws[i]?) = wr.map some) (hnR : va_nd isR = true) (hdis : ∀ i ∈ isR, i ∉ isC) (hlk : Cond.methodLink own index y ∈ kUW) (hin : Cond.instanceMethod y ∈ kUW) (hse : Cond.selects CN y y ∈ kUW) (hcode : Cond.code y bytes mx none ∈ kUW) (hini : Cond.initialized y.cls ∈ kUW)
    (hd9 : y.cls ≠ "java/lang/invoke/MethodHandle" ∧ y.cls ≠ "java/lang/invoke/VarHandle" ∧ (parseMethodDescriptor y.desc).map (fun d => d.parameters.length) = some n) (hn : As.length = n) (hrc : rm.cells = mc) (hrs : rm.slots = ms) (hRm : rm.frames + 1 ≤ R.frames ∧ 8 + (mx + 11) + rm.locals ≤ R.locals) (hst : st = As.reverse ++ .ref b :: rest) (hcat : (rest.map fun v => v.category).sum ≤ 8) (hd : decode cc pc = .ok (.invokevirtual index, 3)) (hcs : cells + mc ≤ R.cells ∧ slots + ms ≤ R.slots)
    (k : ∀ w1 : va_W, post w1 → nV p l e R s m args below meth c Q nL D A pc' L rest (wr ++ w1) (cells + mc) (slots + ms)) : nV p l e R s m args below meth c Q nL D A pc L st ws cells slots := by
  intro H locs ls hP hD hS hl
  subst hst; subst hpc
  have hts := C.2.2.2.2.1
  have hPc := hP.sub (ws' := wc) isC hC2
  have hDc := hD.sub (ws' := wc) isC hnC hC
  exact nv_bind isC isR hC hR hnR hdis hP hD C.2.2.2.2.2.2 (va_runV (As := As) (rest := rest) ⟨C.1, C.2.1, C.2.2.1, C.2.2.2.1, hts⟩ (hM H.size) ⟨callB_of n hts (kUW_in hcode) rfl hrc hrs (hts _ hini) (hts _ hlk) hd9 hRm, hts _ hin, hts _ hse⟩ ⟨nblind, va_recv C.2.2.2.2.2.1.1 hP hc he, fun U hU hW => ⟨rfl, by rw [hU], by rw [hU]; exact hPc, C.2.2.2.2.2.1.warm hW, hDc.weaken (fun _ _ _ _ => trivial)⟩⟩ rfl hn hl.1 rfl (lv_room hcat) hd hcs) hS hl k
theorem nv_widen {k9 n9 : Nat} (h1 : cells ≤ k9) (h2 : slots ≤ n9) (k : nV p l e R s m args below meth c Q nL D A pc L st ws k9 n9) : nV p l e R s m args below meth c Q nL D A pc L st ws cells slots := fun H locs ls hP hD hS hl => W.widen (k := k9) (n := n9) h1 h2 (k H locs ls hP hD hS hl)
end NV
theorem kz_upd (k : Nat) : upd (fun _ => (0 : Int32)) k 0 = fun _ => 0 := by funext j; simp [upd]
