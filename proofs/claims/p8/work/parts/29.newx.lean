theorem nv_set {p : Program} {l : Launch} {e : Env} {R : Room} {s : State} {m : MethodId} {args : Array Value} {below : List Frame} {meth : Method} {c : Code} {Q : State → Prop} {nL : Nat} {D : va_G} {A : Nat → Prop} {pc : Nat} {L : List (Nat × Value)} {st : List Value} {ws ws' : va_W} {cells slots : Nat} (h : ws = ws') (k : nV p l e R s m args below meth c Q nL D A pc L st ws' cells slots) : nV p l e R s m args below meth c Q nL D A pc L st ws cells slots := h ▸ k
theorem kz_b0 : ∀ j : Nat, (0 : Int) ≤ ((fun _ : Nat => (0 : Int32)) j).toInt ∧ ((fun _ : Nat => (0 : Int32)) j).toInt ≤ 255 := fun _ => (by decide : (0 : Int) ≤ (0 : Int32).toInt ∧ (0 : Int32).toInt ≤ 255)
theorem kz_bnd {f g : Nat → Int32} {k : Nat} {x : Int32} (e : upd f k x = g) (h : ∀ j : Nat, (0 : Int) ≤ (f j).toInt ∧ (f j).toInt ≤ 255) (h1 : (0 : Int) ≤ x.toInt) (h2 : x.toInt ≤ 255) : ∀ j : Nat, (0 : Int) ≤ (g j).toInt ∧ (g j).toInt ≤ 255 := by
  subst e
  intro j
  by_cases hj : j = k
  · simp only [upd, hj, if_true]; exact ⟨h1, h2⟩
  · simp only [upd, hj, if_false]; exact h j
