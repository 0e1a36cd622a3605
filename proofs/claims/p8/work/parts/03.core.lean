/-! ===== the core: a fixed set of cells (kSh), what they hold as ints (kw), a walk over them (kV) ===== -/
/-- cells of the world: what they hold, by cell and place -/
abbrev kw : Type := Nat → Nat → Int32
/-- one place changed -/
def kup (w : kw) (c k : Nat) (v : Int32) : kw := fun c' k' => bif Nat.beq c' c && Nat.beq k' k then v else w c' k'
/-- one row changed -/
def kur (w : kw) (c : Nat) (f : Nat → Int32) : kw := fun c' k' => bif Nat.beq c' c then f k' else w c' k'
def kfv (ρ : Nat → Nat) (q : Nat ⊕ Bool) (x : Int32) : Value := match q with
  | .inl r => .ref (ρ r)
  | .inr false => .int x
  | .inr true => bif Nat.beq x.toNatClampNeg 0 then .null else .ref (ρ x.toNatClampNeg)
def kent (ρ : Nat → Nat) (τ : Nat → ClassId) (kd : kK) (f : Nat → Int32) : va_E := match kd with
  | .inl (ci, fk) => .inr (ci, fk.mapIdx (fun k q => kfv ρ q (f k)))
  | .inr (t, n, none) => .inl (τ t, n, .inl f)
  | .inr (t, n, some ids) => .inl (τ t, n, .inr (.inr (.inr (.inr (fun i => (ids[i]?).map ρ)))))
def kcells (ρ : Nat → Nat) (τ : Nat → ClassId) (w : kw) : va_W := kSh.mapIdx (fun c kd => (ρ c, kent ρ τ kd (w c)))
/-- the addresses of the world -/
def kA (ρ : Nat → Nat) : Nat → Prop := fun q => ∃ c : Nat, c < kSh.length ∧ q = ρ c
theorem kcells_at {ρ : Nat → Nat} {τ : Nat → ClassId} {w : kw} {c : Nat} {kd : kK} (h : kSh[c]? = some kd) : (kcells ρ τ w)[c]? = some (ρ c, kent ρ τ kd (w c)) := by
  unfold kcells
  rw [List.getElem?_mapIdx, h]
  rfl
theorem kcells_inv {ρ : Nat → Nat} {τ : Nat → ClassId} {w : kw} {c : Nat} {q : Nat × va_E} (h : (kcells ρ τ w)[c]? = some q) : c < kSh.length ∧ q.1 = ρ c := by
  unfold kcells at h
  rw [List.getElem?_mapIdx] at h
  cases hk : kSh[c]? with
  | none => rw [hk] at h; cases h
  | some kd =>
    rw [hk] at h
    cases h
    exact ⟨(List.getElem?_eq_some_iff.mp hk).1, rfl⟩
theorem kcells_set {ρ : Nat → Nat} {τ : Nat → ClassId} {w w' : kw} {c : Nat} {kd : kK} {e : va_E} (h : kSh[c]? = some kd) (he : e = kent ρ τ kd (w' c)) (ho : ∀ c', c' ≠ c → w' c' = w c') : (kcells ρ τ w).set c (ρ c, e) = kcells ρ τ w' := by
  subst he
  apply List.ext_getElem?
  intro i
  by_cases hi : i = c
  · subst hi
    have hl : i < (kcells ρ τ w).length := (List.getElem?_eq_some_iff.mp (kcells_at (ρ := ρ) (τ := τ) (w := w) h)).1
    rw [List.getElem?_set_self hl, kcells_at h]
  · rw [List.getElem?_set_ne (fun q => hi q.symm)]
    unfold kcells
    rw [List.getElem?_mapIdx, List.getElem?_mapIdx, ho i hi]
theorem kD {ρ : Nat → Nat} {τ : Nat → ClassId} {w : kw} (h : ∀ i j : Nat, i < kSh.length → j < kSh.length → ρ i = ρ j → i = j) : va_D (kA ρ) (kcells ρ τ w) := by
  refine ⟨fun i j p q hi hj hpq => ?_, fun k q hk => ?_⟩
  · obtain ⟨h1, e1⟩ := kcells_inv hi
    obtain ⟨h2, e2⟩ := kcells_inv hj
    exact h i j h1 h2 (by rw [← e1, ← e2]; exact hpq)
  · obtain ⟨h1, e1⟩ := kcells_inv hk
    exact ⟨k, h1, e1⟩
theorem kup_row {w : kw} {c k : Nat} {v : Int32} {c' : Nat} (h : c' ≠ c) : kup w c k v c' = w c' := by
  funext k'
  have : Nat.beq c' c = false := by
    cases hb : Nat.beq c' c with
    | false => rfl
    | true => exact absurd (Nat.eq_of_beq_eq_true hb) h
  simp [kup, this]
theorem kup_upd {w : kw} {c k : Nat} {v : Int32} : kup w c k v c = upd (w c) k v := by
  funext k'
  have h0 : Nat.beq c c = true := Nat.beq_refl c
  by_cases h : k' = k
  · subst h
    have h1 : Nat.beq k' k' = true := Nat.beq_refl k'
    simp [kup, upd, h0, h1]
  · have h1 : Nat.beq k' k = false := by
      cases hb : Nat.beq k' k with
      | false => rfl
      | true => exact absurd (Nat.eq_of_beq_eq_true hb) h
    simp [kup, upd, h0, h1, h]
theorem kur_row {w : kw} {c : Nat} {f : Nat → Int32} {c' : Nat} (h : c' ≠ c) : kur w c f c' = w c' := by
  funext k'
  have : Nat.beq c' c = false := by
    cases hb : Nat.beq c' c with
    | false => rfl
    | true => exact absurd (Nat.eq_of_beq_eq_true hb) h
  simp [kur, this]
theorem kur_self {w : kw} {c : Nat} {f : Nat → Int32} : kur w c f c = f := by
  funext k'
  have h0 : Nat.beq c c = true := Nat.beq_refl c
  simp [kur, h0]
/-- an object's fields when one place changes -/
theorem kfields_set {ρ : Nat → Nat} {fk : List (Nat ⊕ Bool)} {f : Nat → Int32} {k : Nat} {q : Nat ⊕ Bool} {v : Int32} (h : fk[k]? = some q) : (fk.mapIdx (fun k q => kfv ρ q (f k))).set k (kfv ρ q v) = fk.mapIdx (fun k' q => kfv ρ q (upd f k v k')) := by
  apply List.ext_getElem?
  intro i
  by_cases hi : i = k
  · subst hi
    have hl : i < (fk.mapIdx (fun k q => kfv ρ q (f k))).length := by
      rw [List.length_mapIdx]
      exact (List.getElem?_eq_some_iff.mp h).1
    rw [List.getElem?_set_self hl, List.getElem?_mapIdx, h]
    simp [upd]
  · rw [List.getElem?_set_ne (fun q => hi q.symm), List.getElem?_mapIdx, List.getElem?_mapIdx]
    simp [upd, hi]
/-- what a state must be for the world's methods: tables, links between nest mates, static arrays, the text -/
def kE (D : va_G) (τ : Nat → ClassId) (ρ σ : Nat → Nat) (U : State) (H : Heap) : Prop :=
  va_K D vwCl [(τ 0, .int), (τ 1, .boolean), (τ 2, .object "TaleMachine$Slot")] U ∧ (∀ w ∈ kNest, va_Nw w U) ∧ (∀ i j : Nat, i < kSh.length → j < kSh.length → ρ i = ρ j → i = j) ∧
  (∀ q ∈ kStat, va_Z q.1 q.2.1 "[I" (.ref (σ q.2.2.1)) (kA ρ) U H ∧ ∃ f : Nat → Int32, va_T .int (σ q.2.2.1) q.2.2.2 (fun j => .int (f j)) (kA ρ) U H) ∧
  (vk_R "TaleMachine$Teller" 101 kText (σ 5) U ∧ vk_R "TaleMachine$Reader" 84 kText (σ 5) U ∧ vk_S 1 [24] [kTextB] (fun _ => σ 5) (fun _ => σ 6) (kA ρ) U H) ∧
  va_Z "java/lang/String" "COMPACT_STRINGS" "Z" (.int 1) (kA ρ) U H ∧ va_Zq "jdk/internal/util/Preconditions" "SIOOBE_FORMATTER" "Ljava/util/function/BiFunction;" (kA ρ) U H
theorem kE.kept {D : va_G} {τ : Nat → ClassId} {ρ σ : Nat → Nat} {U : State} {H H1 : Heap} (h : kE D τ ρ σ U H) (hq : ∀ a : Nat, a < H.size → ¬ kA ρ a → H1[a]? = H[a]?) : kE D τ ρ σ U H1 := by
  obtain ⟨h1, h2, h3, h4, ⟨h5, h6, h7⟩, h8, h9⟩ := h
  refine ⟨h1, h2, h3, fun q hq1 => ⟨(h4 q hq1).1.kept hq, ?_⟩, ⟨h5, h6, h7.kept hq⟩, h8.kept hq, h9.kept hq⟩
  obtain ⟨f, hf⟩ := (h4 q hq1).2
  exact ⟨f, hf.kept hq⟩
theorem kNest_warm : ∀ w ∈ kNest, ∀ (s U : State), s.WarmedH U.vm → va_Nw w s → va_Nw w U := by
  intro w hw s U hW hZ
  have h := List.all_eq_true.mp kNest_ok w hw
  cases w with
  | fieldLinkNest a i b n d h => exact hZ.warmF hW
  | methodLinkNest a i x h => exact hZ.warmM hW
  | _ => simp [kNestB] at h
theorem kNest_tab : ∀ w ∈ kNest, w.onTables = true := by
  intro w hw
  have h := List.all_eq_true.mp kNest_ok w hw
  cases w with
  | fieldLinkNest a i b n d h => rfl
  | methodLinkNest a i x h => rfl
  | _ => simp [kNestB] at h
theorem kE.warm {D : va_G} {τ : Nat → ClassId} {ρ σ : Nat → Nat} {s U : State} {H : Heap} (hW : s.WarmedH U.vm) (h : kE D τ ρ σ s H) : kE D τ ρ σ U H := by
  obtain ⟨h1, h2, h3, h4, ⟨h5, h6, h7⟩, h8, h9⟩ := h
  refine ⟨va_K.moved hW.alike h1, fun w hw => kNest_warm w hw s U hW (h2 w hw), h3, fun q hq1 => ⟨va_Z.moved hW.alike (h4 q hq1).1, ?_⟩, ⟨h5.warm hW, h6.warm hW, vk_S.moved hW.alike h7⟩, va_Z.moved hW.alike h8, va_Zq.moved hW.alike h9⟩
  obtain ⟨f, hf⟩ := (h4 q hq1).2
  exact ⟨f, va_T.moved hW.alike hf⟩
theorem kE.same {D : va_G} {τ : Nat → ClassId} {ρ σ : Nat → Nat} {s U : State} {H : Heap} (hv : s.vm = U.vm) (h : kE D τ ρ σ s H) : kE D τ ρ σ U H := by
  have ha : s.vm.Alike U.vm := by rw [hv]; exact Vm.Alike.refl _
  obtain ⟨h1, h2, h3, h4, ⟨h5, h6, h7⟩, h8, h9⟩ := h
  refine ⟨va_K.moved ha h1, fun w hw => va_Nw.same (kNest_tab w hw) hv (h2 w hw), h3, fun q hq1 => ⟨va_Z.moved ha (h4 q hq1).1, ?_⟩, ⟨h5.same hv.symm, h6.same hv.symm, vk_S.moved ha h7⟩, va_Z.moved ha h8, va_Zq.moved ha h9⟩
  obtain ⟨f, hf⟩ := (h4 q hq1).2
  exact ⟨f, va_T.moved ha hf⟩
theorem kE.call {D : va_G} {τ : Nat → ClassId} {ρ σ : Nat → Nat} {s U : State} {H : Heap} {locs : List Loc} (h : kE D τ ρ σ s s.heap) (hS : va_S (kA ρ) s.heap H locs) (hU : U.heap = H) (hW : s.WarmedH U.vm) : kE D τ ρ σ U U.heap := by
  refine (kE.kept (H1 := U.heap) h (fun a h1 h2 => ?_)).warm hW
  rw [hU]
  exact hS.2.1 a h1 h2
/-- a method's contract at one start -/
def kM (l : Launch) (D : va_G) (τ : Nat → ClassId) (ρ σ : Nat → Nat) (y : MethodName) (cc : ByteArray) (mx : Nat) (ret : Option FieldType) (rm : Room) (as : List Value) (w : kw) (post : Option Value → kw → Prop) : Prop :=
  Met l y (Cond.code y cc mx ret :: kUW) rm (va_Pc as (fun U => va_P D vwCl (kcells ρ τ w) U.heap ∧ kE D τ ρ σ U U.heap))
    (fun _ st oc t => (∃ (r : Option Value) (w' : kw), oc = .returned r ∧ post r w' ∧ va_P D vwCl (kcells ρ τ w') t.heap) ∧ va_F (kA ρ) st t) 0 0 (kA ρ)
/-- where a walk stands -/
def kC (p : Program) (s : State) (m : MethodId) (args : Array Value) (c : Code) (cc : ByteArray) (nL : Nat) (own : String) (D : va_G) (τ : Nat → ClassId) (ρ σ : Nat → Nat) : Prop :=
  p.tables.exec = Jvm.exec ∧ c.code = cc ∧ c.maxLocals = nL ∧ s.vm.findClass own = some m.cls ∧ (∀ w ∈ kUW, w.before args s = true) ∧ kE D τ ρ σ s s.heap
/-- the machine, at pc with locals L, stack st, and the world w, comes to Q -/
def kV (p : Program) (l : Launch) (e : Env) (R : Room) (s : State) (m : MethodId) (args : Array Value) (below : List Frame) (meth : Method) (c : Code) (Q : State → Prop) (nL : Nat) (D : va_G) (τ : Nat → ClassId) (ρ : Nat → Nat) (pc : Nat) (L : List (Nat × Value)) (st : List Value) (w : kw) : Prop :=
  ∀ (H : Heap) (locs : List Loc) (ls : Array Slot), va_P D vwCl (kcells ρ τ w) H → va_S (kA ρ) s.heap H locs → lv_has ls nL L → W p l e R s m args below meth c H locs 0 0 Q (F0 m pc ls st)
/-- a decoded row out of a method's list -/
theorem kdec {cc : ByteArray} {T : List (Nat × Instr × Nat)} (h : ∀ q ∈ T, decode cc q.1 = .ok (q.2.1, q.2.2)) (i : Nat) {pc n : Nat} {ins : Instr} (hi : T[i]? = some (pc, ins, n)) : decode cc pc = .ok (ins, n) := h (pc, ins, n) (List.mem_of_getElem? hi)
