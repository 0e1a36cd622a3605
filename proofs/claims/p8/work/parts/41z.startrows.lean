theorem nl_R {α : Type} (wr : List α) (x : α) : (List.range wr.length).map (fun i => (wr ++ [x])[i]?) = wr.map some := by
  apply List.ext_getElem?
  intro i
  rw [List.getElem?_map, List.getElem?_map]
  by_cases h : i < wr.length
  · rw [List.getElem?_range h, List.getElem?_eq_getElem h]
    simp [List.getElem?_append_left h, h]
  · rw [List.getElem?_eq_none (show wr.length ≤ i by omega), List.getElem?_eq_none (by simp; omega)]
    rfl
theorem nl_C {α : Type} (wr : List α) (x : α) : [wr.length].map (fun i => (wr ++ [x])[i]?) = [x].map some := by
  simp
theorem nl_C2 {α : Type} (wr : List α) (x : α) : [wr.length].filterMap (fun i => (wr ++ [x])[i]?) = [x] := by
  simp
/-- a list of cells, put into the order of the world's shape -/
theorem nv_kc {p : Program} {l : Launch} {e : Env} {R : Room} {s : State} {m : MethodId} {args : Array Value} {below : List Frame} {meth : Method} {c : Code} {Q : State → Prop} {nL : Nat} {D : va_G} {A : Nat → Prop} {pc : Nat} {L : List (Nat × Value)} {st : List Value} {ws : va_W} {cells slots : Nat} (ρ : Nat → Nat) (τ : Nat → ClassId) (w : kw) (is : List Nat) (hn : va_nd is = true) (h : ∀ (c : Nat) (kd : kK), kSh[c]? = some kd → ∃ i : Nat, is[c]? = some i ∧ ws[i]? = some (ρ c, kent ρ τ kd (w c))) (k : nV p l e R s m args below meth c Q nL D A pc L st (kcells ρ τ w) cells slots) : nV p l e R s m args below meth c Q nL D A pc L st ws cells slots := by
  intro H locs ls hP hD hS hl
  have key : ∀ (c : Nat) (q : Nat × va_E), (kcells ρ τ w)[c]? = some q → ∃ i : Nat, is[c]? = some i ∧ ws[i]? = some q := by
    intro c q hq
    unfold kcells at hq
    rw [List.getElem?_mapIdx] at hq
    cases hk : kSh[c]? with
    | none => rw [hk] at hq; cases hq
    | some kd =>
      rw [hk] at hq
      cases hq
      exact h c kd hk
  refine k H locs ls (fun c q hq => ?_) ⟨fun i j x y hi hj hxy => ?_, fun c q hq => ?_⟩ hS hl
  · obtain ⟨i, -, h2⟩ := key c q hq
    exact hP i q h2
  · obtain ⟨i2, a1, b1⟩ := key i x hi
    obtain ⟨j2, a2, b2⟩ := key j y hj
    have e := hD.1 i2 j2 x y b1 b2 hxy
    subst e
    exact va_nd_inj is hn i j i2 a1 a2
  · obtain ⟨i, -, h2⟩ := key c q hq
    exact hD.2 i q h2
