/-! ===== rows of the law's own walk, behind the constructors: the world is kcells, its cells lie above the start ===== -/
def yC (p : Program) (s : State) (m : MethodId) (c : Code) (b Ln : Nat) (xs : Nat → Int32) (D : va_G) (τ : Nat → ClassId) (ρ σ : Nat → Nat) : Prop :=
  p.tables.exec = Jvm.exec ∧ c.code = code ∧ c.maxLocals = 4 ∧ s.vm.findClass "TaleMachineLaw" = some m.cls ∧ (∀ w ∈ kUW, w.before #[Value.ref b] s = true) ∧ kE D τ ρ σ s s.heap ∧ va_X b Ln xs s s.heap ∧ b < s.heap.size ∧ (∀ q, kA ρ q → s.heap.size ≤ q)
def yV (p : Program) (l : Launch) (e : Env) (s : State) (m : MethodId) (b : Nat) (below : List Frame) (meth : Method) (c : Code) (Q : State → Prop) (D : va_G) (τ : Nat → ClassId) (ρ : Nat → Nat) (cells slots : Nat) (pc : Nat) (L : List (Nat × Value)) (st : List Value) (w : kw) : Prop :=
  ∀ (H : Heap) (locs : List Loc) (ls : Array Slot), va_P D vwCl (kcells ρ τ w) H → va_S (fun q : Nat => s.heap.size ≤ q) s.heap H locs → lv_has ls 4 L → W p l e room_1 s m #[Value.ref b] below meth c H locs cells slots Q (F0 m pc ls st)
section YV
variable {p : Program} {l : Launch} {e : Env} {s : State} {m : MethodId} {b Ln : Nat} {xs : Nat → Int32} {below : List Frame} {meth : Method} {c : Code} {Q : State → Prop} {D : va_G} {τ : Nat → ClassId} {ρ σ : Nat → Nat} {cells slots : Nat} {pc : Nat} {L : List (Nat × Value)} {st : List Value} {w : kw}
theorem y_in (k : (∀ i j : Nat, i < kSh.length → j < kSh.length → ρ i = ρ j → i = j) → (∀ q, kA ρ q → s.heap.size ≤ q) → yV p l e s m b below meth c Q D τ ρ cells slots pc L st w) : nV p l e room_1 s m #[Value.ref b] below meth c Q 4 D (fun q : Nat => s.heap.size ≤ q) pc L st (kcells ρ τ w) cells slots := by
  intro H locs ls hP hD hS hl
  have hg : ∀ i : Nat, i < kSh.length → ∃ e9 : va_E, (kcells ρ τ w)[i]? = some (ρ i, e9) := fun i hi => ⟨_, kcells_at (List.getElem?_eq_getElem hi)⟩
  refine k (fun i j hi hj h => ?_) (fun q hq => ?_) H locs ls hP hS hl
  · obtain ⟨e1, h1⟩ := hg i hi
    obtain ⟨e2, h2⟩ := hg j hj
    exact hD.1 i j _ _ h1 h2 h
  · obtain ⟨i, hi, rfl⟩ := hq
    obtain ⟨e1, h1⟩ := hg i hi
    exact hD.2 i _ h1
theorem y_L {L' : List (Nat × Value)} (h : L = L') (k : yV p l e s m b below meth c Q D τ ρ cells slots pc L' st w) : yV p l e s m b below meth c Q D τ ρ cells slots pc L st w := h ▸ k
theorem y_iconst (C : yC p s m c b Ln xs D τ ρ σ) (pc' : Nat) (hpc : pc + 1 = pc') {n : Int} (v : Int32) (hd : decode code pc = .ok (.iconst n, 1)) (hv : Int32.ofInt n = v) (k : yV p l e s m b below meth c Q D τ ρ cells slots pc' L (.int v :: st) w) : yV p l e s m b below meth c Q D τ ρ cells slots pc L st w := by
  subst hpc
  exact fun H locs ls hP hS hl => lv_iconst C.1 C.2.1 hd hv (k H locs ls hP hS hl)
theorem y_bipush (C : yC p s m c b Ln xs D τ ρ σ) (pc' : Nat) (hpc : pc + 2 = pc') {n : Int} (v : Int32) (hd : decode code pc = .ok (.bipush n, 2)) (hv : (Int8.ofInt n).toInt32 = v) (k : yV p l e s m b below meth c Q D τ ρ cells slots pc' L (.int v :: st) w) : yV p l e s m b below meth c Q D τ ρ cells slots pc L st w := by
  subst hpc
  exact fun H locs ls hP hS hl => lv_bipush C.1 C.2.1 hd hv (k H locs ls hP hS hl)
theorem y_iload_n (C : yC p s m c b Ln xs D τ ρ σ) (pc' : Nat) (hpc : pc + 1 = pc') {k9 : Fin 4} (j : Nat) {i : Nat} {x : Int32} (hd : decode code pc = .ok (.iload_n k9, 1)) (hj : L[j]? = some (i, .int x)) (hi : (k9 : Nat) = i) (k : yV p l e s m b below meth c Q D τ ρ cells slots pc' L (.int x :: st) w) : yV p l e s m b below meth c Q D τ ρ cells slots pc L st w := by
  subst hpc
  exact fun H locs ls hP hS hl => lv_iload_n C.1 C.2.1 hd hi (lv_at hl j hj) (k H locs ls hP hS hl)
theorem y_aload_n (C : yC p s m c b Ln xs D τ ρ σ) (pc' : Nat) (hpc : pc + 1 = pc') {k9 : Fin 4} (j : Nat) {i x : Nat} (hd : decode code pc = .ok (.aload_n k9, 1)) (hj : L[j]? = some (i, .ref x)) (hi : (k9 : Nat) = i) (k : yV p l e s m b below meth c Q D τ ρ cells slots pc' L (.ref x :: st) w) : yV p l e s m b below meth c Q D τ ρ cells slots pc L st w := by
  subst hpc
  exact fun H locs ls hP hS hl => lv_aload_n C.1 C.2.1 hd hi (lv_at hl j hj) (k H locs ls hP hS hl)
theorem y_istore_n (C : yC p s m c b Ln xs D τ ρ σ) (pc' : Nat) (hpc : pc + 1 = pc') {k9 : Fin 4} (i : Nat) (ks : List Nat) {x : Int32} (L' : List (Nat × Value)) (hd : decode code pc = .ok (.istore_n k9, 1)) (hi : (k9 : Nat) = i) (hn : i < 4) (hl9 : lv_pick ((i, Value.int x) :: L.filter (fun q => !(q.1 == i) && !(q.1 + 1 == i && q.2.category == 2))) ks = L') (k : yV p l e s m b below meth c Q D τ ρ cells slots pc' L' st w) : yV p l e s m b below meth c Q D τ ρ cells slots pc L (.int x :: st) w := by
  subst hpc
  exact fun H locs ls hP hS hl => lv_istore_n C.1 C.2.1 hd hi hl hn rfl (fun ls' hl' => k H locs ls' hP hS (lv_sub hl' ks hl9))
theorem y_iinc (C : yC p s m c b Ln xs D τ ρ σ) (pc' : Nat) (hpc : pc + 3 = pc') (i j : Nat) (ks : List Nat) {n : Int} {x : Int32} (v : Int32) (L' : List (Nat × Value)) (hd : decode code pc = .ok (.iinc i n, 3)) (hj : L[j]? = some (i, .int x)) (hv : x + Int32.ofInt n = v) (hn : i < 4) (hl9 : lv_pick ((i, Value.int v) :: L.filter (fun q => !(q.1 == i) && !(q.1 + 1 == i && q.2.category == 2))) ks = L') (k : yV p l e s m b below meth c Q D τ ρ cells slots pc' L' st w) : yV p l e s m b below meth c Q D τ ρ cells slots pc L st w := by
  subst hpc
  exact fun H locs ls hP hS hl => lv_iinc C.1 C.2.1 hd hl hj hv hn rfl (fun ls' hl' => k H locs ls' hP hS (lv_sub hl' ks hl9))
/-- a script's place: i + k -/
theorem y_iadd (C : yC p s m c b Ln xs D τ ρ σ) (pc' : Nat) (hpc : pc + 1 = pc') {x y : Nat} (hd : decode code pc = .ok (.iadd, 1)) (k : yV p l e s m b below meth c Q D τ ρ cells slots pc' L (.int (nI (x + y)) :: st) w) : yV p l e s m b below meth c Q D τ ρ cells slots pc L (.int (nI y) :: .int (nI x) :: st) w := by
  subst hpc
  exact fun H locs ls hP hS hl => lv_iadd C.1 C.2.1 hd (by rw [nI_add]; exact k H locs ls hP hS hl)
theorem y_isub (C : yC p s m c b Ln xs D τ ρ σ) (pc' : Nat) (hpc : pc + 1 = pc') {x y : Int32} (hd : decode code pc = .ok (.isub, 1)) (k : ∀ (z : Int32) (q : Int), z.toInt = x.toInt - y.toInt - 4294967296 * q → -2147483648 ≤ z.toInt → z.toInt ≤ 2147483647 → yV p l e s m b below meth c Q D τ ρ cells slots pc' L (.int z :: st) w) : yV p l e s m b below meth c Q D τ ρ cells slots pc L (.int y :: .int x :: st) w := by
  subst hpc
  obtain ⟨q, h1, h2, h3⟩ := kf_sub x y
  exact fun H locs ls hP hS hl => lv_isub C.1 C.2.1 hd (k _ q h1 h2 h3 H locs ls hP hS hl)
theorem y_iand15 (C : yC p s m c b Ln xs D τ ρ σ) (pc' : Nat) (hpc : pc + 1 = pc') {x : Int32} (hd : decode code pc = .ok (.iand, 1)) (k : ∀ z : Int32, z.toInt = x.toInt % 16 → yV p l e s m b below meth c Q D τ ρ cells slots pc' L (.int z :: st) w) : yV p l e s m b below meth c Q D τ ρ cells slots pc L (.int (nI 15) :: .int x :: st) w := by
  subst hpc
  exact fun H locs ls hP hS hl => lv_iand C.1 C.2.1 hd (k _ (kf_and15 rfl) H locs ls hP hS hl)
theorem y_slen (C : yC p s m c b Ln xs D τ ρ σ) (pc' : Nat) (hpc : pc + 1 = pc') (hd : decode code pc = .ok (.arraylength, 1)) (k : yV p l e s m b below meth c Q D τ ρ cells slots pc' L (.int (nI Ln) :: st) w) : yV p l e s m b below meth c Q D τ ρ cells slots pc L (.ref b :: st) w := by
  subst hpc
  exact fun H locs ls hP hS hl => va_slen C.1 C.2.1 C.2.2.2.2.2.2.1 C.2.2.2.2.2.2.2.1 (Nat.not_le.mpr C.2.2.2.2.2.2.2.1) hS hd (k H locs ls hP hS hl)
theorem y_sld (C : yC p s m c b Ln xs D τ ρ σ) (pc' : Nat) (hpc : pc + 1 = pc') {i : Nat} (hi : i < Ln) (hL : Ln < 2 ^ 31) (hd : decode code pc = .ok (.iaload, 1)) (k : yV p l e s m b below meth c Q D τ ρ cells slots pc' L (.int (xs i) :: st) w) : yV p l e s m b below meth c Q D τ ρ cells slots pc L (.int (nI i) :: .ref b :: st) w := by
  subst hpc
  intro H locs ls hP hS hl
  have h1 := k H locs ls hP hS hl
  refine va_sld C.1 C.2.1 C.2.2.2.2.2.2.1 C.2.2.2.2.2.2.2.1 (Nat.not_le.mpr C.2.2.2.2.2.2.2.1) hS (nI_in hi hL) hd ?_
  rw [nI_clamp (Nat.lt_trans hi hL)]
  exact h1
theorem y_icmp_gt (C : yC p s m c b Ln xs D τ ρ σ) (pc' : Nat) (hpc : pc + 3 = pc') {x y : Int32} {off : Int} (tgt : Nat) (hd : decode code pc = .ok (.if_icmp .gt off, 3)) (ht : (pc : Int) + off = (tgt : Int)) (kt : y.toInt < x.toInt → yV p l e s m b below meth c Q D τ ρ cells slots tgt L st w) (kf : ¬ y.toInt < x.toInt → yV p l e s m b below meth c Q D τ ρ cells slots pc' L st w) : yV p l e s m b below meth c Q D τ ρ cells slots pc L (.int y :: .int x :: st) w := by
  subst hpc
  exact fun H locs ls hP hS hl => lv_icmp_gt C.1 C.2.1 hd ht (fun h => kt (kc_gt_t h) H locs ls hP hS hl) (fun h => kf (kc_gt_f h) H locs ls hP hS hl)
theorem y_icmp_eq (C : yC p s m c b Ln xs D τ ρ σ) {x y : Int32} {off : Int} (tgt : Nat) (hd : decode code pc = .ok (.if_icmp .eq off, 3)) (ht : (pc : Int) + off = (tgt : Int)) (he : x.toInt = y.toInt) (kt : yV p l e s m b below meth c Q D τ ρ cells slots tgt L st w) : yV p l e s m b below meth c Q D τ ρ cells slots pc L (.int y :: .int x :: st) w :=
  fun H locs ls hP hS hl => lv_icmp_eq C.1 C.2.1 hd ht (fun _ => kt H locs ls hP hS hl) (fun h => absurd (Int32.toInt_inj.mp he) h)
theorem y_if_eq (C : yC p s m c b Ln xs D τ ρ σ) (pc' : Nat) (hpc : pc + 3 = pc') {x : Int32} {off : Int} (tgt : Nat) (hd : decode code pc = .ok (.ifCond .eq off, 3)) (ht : (pc : Int) + off = (tgt : Int)) (kt : x.toInt = 0 → yV p l e s m b below meth c Q D τ ρ cells slots tgt L st w) (kf : ¬ x.toInt = 0 → yV p l e s m b below meth c Q D τ ρ cells slots pc' L st w) : yV p l e s m b below meth c Q D τ ρ cells slots pc L (.int x :: st) w := by
  subst hpc
  exact fun H locs ls hP hS hl => lv_if_eq C.1 C.2.1 hd ht (fun h => kt (kc_eq_t0 h) H locs ls hP hS hl) (fun h => kf (kc_eq_f0 h) H locs ls hP hS hl)
theorem y_pop (C : yC p s m c b Ln xs D τ ρ σ) (pc' : Nat) (hpc : pc + 1 = pc') {va : Value} (hd : decode code pc = .ok (.pop, 1)) (ha : va.category = 1) (k : yV p l e s m b below meth c Q D τ ρ cells slots pc' L st w) : yV p l e s m b below meth c Q D τ ρ cells slots pc L (va :: st) w := by
  subst hpc
  exact fun H locs ls hP hS hl => lv_pop C.1 C.2.1 hd ha (k H locs ls hP hS hl)
theorem y_goto (C : yC p s m c b Ln xs D τ ρ σ) {off : Int} (tgt : Nat) (hd : decode code pc = .ok (.goto off, 3)) (ht : (pc : Int) + off = (tgt : Int)) (k : yV p l e s m b below meth c Q D τ ρ cells slots tgt L st w) : yV p l e s m b below meth c Q D τ ρ cells slots pc L st w :=
  fun H locs ls hP hS hl => lv_goto C.1 C.2.1 hd ht (k H locs ls hP hS hl)
theorem y_tableOut (C : yC p s m c b Ln xs D τ ρ σ) {dflt lo hi : Int} {offs : Array Int} {len : Nat} {x : Int32} (tgt : Nat) (hd : decode code pc = .ok (.tableswitch dflt lo hi offs, len)) (h : x.toInt < lo ∨ hi < x.toInt) (ht : (pc : Int) + dflt = (tgt : Int)) (k : yV p l e s m b below meth c Q D τ ρ cells slots tgt L st w) : yV p l e s m b below meth c Q D τ ρ cells slots pc L (.int x :: st) w :=
  fun H locs ls hP hS hl => lv_tableOut C.1 C.2.1 hd h ht (k H locs ls hP hS hl)
theorem y_tableIn (C : yC p s m c b Ln xs D τ ρ σ) {dflt lo hi : Int} {offs : Array Int} {len : Nat} {x : Int32} (j : Int) {off : Int} (tgt : Nat) (hd : decode code pc = .ok (.tableswitch dflt lo hi offs, len)) (hj : x.toInt = j) (h1 : ¬ j < lo) (h2 : ¬ hi < j) (ho : offs[(j - lo).toNat]? = some off) (ht : (pc : Int) + off = (tgt : Int)) (k : yV p l e s m b below meth c Q D τ ρ cells slots tgt L st w) : yV p l e s m b below meth c Q D τ ρ cells slots pc L (.int x :: st) w := by
  subst hj
  exact fun H locs ls hP hS hl => lv_tableIn C.1 C.2.1 hd h1 h2 ho ht (k H locs ls hP hS hl)
theorem y_bind {post : Option Value → kw → Prop} {H : Heap} {locs : List Loc} {ls : Array Slot} {st0 rest : List Value} (hA : ∀ q, kA ρ q → s.heap.size ≤ q) (run : va_Run p l e room_1 s m #[Value.ref b] below meth c H locs cells slots 0 0 (F0 m pc ls st0) rest (fun st oc t => (∃ (r : Option Value) (w' : kw), oc = .returned r ∧ post r w' ∧ va_P D vwCl (kcells ρ τ w') t.heap) ∧ va_F (kA ρ) st t) (kA ρ)) (hS : va_S (fun q : Nat => s.heap.size ≤ q) s.heap H locs) (hl : lv_has ls 4 L)
    (k : ∀ (r : Option Value) (w' : kw), post r w' → yV p l e s m b below meth c Q D τ ρ cells slots (pc + 3) L (r.toList ++ rest) w') : W p l e room_1 s m #[Value.ref b] below meth c H locs cells slots Q (F0 m pc ls st0) := by
  intro T hT X
  obtain ⟨v, st₀, t, T', L', h0, X', hL, e1, e2, ⟨⟨r, w', hv, hp, hb⟩, hz, hk⟩, stp⟩ := run T hT X
  cases hv
  rw [h0] at hz hk
  have hP1 : va_P D vwCl (kcells ρ τ w') T'.heap := by rw [e1]; exact hb
  have hS1 : va_S (fun q : Nat => s.heap.size ≤ q) s.heap T'.heap (locs ++ L') := ⟨Nat.le_trans hS.1 (by rw [e1]; exact hz), fun q h1 h2 => by rw [e1, hk q (Nat.lt_of_lt_of_le h1 hS.1) (fun z => h2 (hA q z))]; exact hS.2.1 q h1 h2, fun q hq => by
      rcases List.mem_append.mp hq with h | h
      · exact hS.2.2 q h
      · exact hA _ (hL q h)⟩
  obtain ⟨t2, a1, b1⟩ := k _ w' hp T'.heap (locs ++ L') ls hP1 hS1 hl T' rfl X'
  exact ⟨t2, stp t2 a1, b1⟩
variable {y : MethodName} {bytes : ByteArray} {mx n index : Nat} {rt : Option FieldType} {rm : Room} {As rest : List Value} {CN : String} {T : u_T} {N ci : Nat} {fk : List (Nat ⊕ Bool)}
theorem y_calli {P : Int32 → kw → Prop} (C : yC p s m c b Ln xs D τ ρ σ) (pc' : Nat) (hpc : pc + 3 = pc') (cl : Nat) (hM : kM l D τ ρ σ y bytes mx rt rm (.ref (ρ cl) :: As) w (fun o w9 => ∃ r9 : Int32, o = some (.int r9) ∧ P r9 w9)) (hs : kSh[cl]? = some (.inl (ci, fk))) (hc : vwCl[ci]? = some (CN, T, N)) (hlk : Cond.methodLink "TaleMachineLaw" index y ∈ kUW) (hin : Cond.instanceMethod y ∈ kUW) (hse : Cond.selects CN y y ∈ kUW) (hcode : Cond.code y bytes mx rt ∈ kUW) (hini : Cond.initialized y.cls ∈ kUW)
    (hd9 : y.cls ≠ "java/lang/invoke/MethodHandle" ∧ y.cls ≠ "java/lang/invoke/VarHandle" ∧ (parseMethodDescriptor y.desc).map (fun d => d.parameters.length) = some n) (hn : As.length = n) (hrc : rm.cells = 0) (hrs : rm.slots = 0) (hR : rm.frames + 1 ≤ room_1.frames ∧ 8 + (mx + 11) + rm.locals ≤ room_1.locals) (hst : st = As.reverse ++ .ref (ρ cl) :: rest) (hcat : (rest.map fun v => v.category).sum ≤ 8) (hd : decode code pc = .ok (.invokevirtual index, 3)) (hcs : cells + 0 ≤ room_1.cells ∧ slots + 0 ≤ room_1.slots)
    (k : ∀ (x9 : Int32) (w' : kw), P x9 w' → yV p l e s m b below meth c Q D τ ρ cells slots pc' L (.int x9 :: rest) w') : yV p l e s m b below meth c Q D τ ρ cells slots pc L st w := by
  intro H locs ls hP hS hl
  subst hpc
  subst hst
  have hts := C.2.2.2.2.1
  have hE := C.2.2.2.2.2.1
  have hA := C.2.2.2.2.2.2.2.2
  refine y_bind hA (va_runV (As := As) (rest := rest) ⟨C.1, C.2.1, C.2.2.1, C.2.2.2.1, hts⟩ hM ⟨callB_of n hts (kUW_in hcode) rfl hrc hrs (hts _ hini) (hts _ hlk) hd9 hR, hts _ hin, hts _ hse⟩ ⟨kblind, va_recv hE.1 hP hc (kcells_at hs), fun U hU hW => ⟨rfl, by rw [hU]; exact hP, ?_⟩⟩ rfl hn hl.1 rfl (lv_room hcat) hd hcs) hS hl (fun r9 w9 h9 => by obtain ⟨x9, rfl, h9⟩ := h9; exact k x9 w9 h9)
  refine (kE.kept (H1 := U.heap) hE (fun a h1 h2 => ?_)).warm hW
  rw [hU]
  exact hS.2.1 a h1 (Nat.not_le.mpr h1)
theorem y_ret (C : yC p s m c b Ln xs D τ ρ σ) (hr : meth.sig.returnType = ret) (hlocks : meth.locks = false) (hd : decode code pc = .ok (.ireturn, 1)) (hc : cells ≤ 600000) (hs : slots ≤ 7302250) : yV p l e s m b below meth c (lw_Z below #[Value.ref b] s) D τ ρ cells slots pc L [.int 1] w :=
  fun H locs ls hP hS hl => va_forget (fun q hq => hS.2.2 q hq) (W.widen hc hs (lw_ret C.1 C.2.1 hr hlocks hd))
end YV
