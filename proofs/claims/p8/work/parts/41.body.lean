set_option maxHeartbeats 4000000 in
set_option maxRecDepth 100000 in
theorem law_body {p : Program} {l : Launch} {e : Env} {s : State} {m : MethodId} {b Ln : Nat} {xs : Nat → Int32} {below : List Frame} {meth : Method} {c : Code} {Q : State → Prop} {D : va_G} {τ : Nat → ClassId} {ρ σ : Nat → Nat} (C : yC p s m c b Ln xs D τ ρ σ) (hL : Ln ≤ 4608) {i : Nat} (hi : i + 9 ≤ Ln) {w : kw} (hJ : yJ i w) (kont : ∀ w' : kw, yJ (i + 9) w' → yV p l e s m b below meth c Q D τ ρ 87 37057 555 [(0, .ref b), (1, .ref (ρ 0)), (2, .ref (ρ 61)), (3, .int (nI i))] [] w') : yV p l e s m b below meth c Q D τ ρ 87 37057 27 [(0, .ref b), (1, .ref (ρ 0)), (2, .ref (ρ 61)), (3, .int (nI i))] [] w := by
  have hJ0 := hJ
  obtain ⟨hI, hMp, hSl, hTp, hS, hq1, hq2, hq3, hq4, hT, hSt, hs0, hs1, hs2, hs3⟩ := hJ
  refine y_aload_n C 28 rfl 0 (kdec dk_law 16 rfl) rfl rfl ?_
  refine y_iload_n C 29 rfl 3 (kdec dk_law 17 rfl) rfl rfl ?_
  refine y_sld C 30 rfl (by omega) (by omega) (kdec dk_law 18 rfl) ?_
  refine y_bipush C 32 rfl (nI 15) (kdec dk_law 19 rfl) (by first | rfl | decide) ?_
  refine y_iand15 C 33 rfl (kdec dk_law 20 rfl) (fun z1 h2 => ?_)
  by_cases d3 : z1.toInt = 0
  · refine y_tableIn C 0 108 (kdec dk_law 21 rfl) d3 (by decide) (by decide) rfl (by decide) ?_
    exact law_c108 C hL hi hJ0 kont
  by_cases d4 : z1.toInt = 1
  · refine y_tableIn C 1 207 (kdec dk_law 21 rfl) d4 (by decide) (by decide) rfl (by decide) ?_
    exact law_c207 C hL hi hJ0 kont
  by_cases d5 : z1.toInt = 2
  · refine y_tableIn C 2 230 (kdec dk_law 21 rfl) d5 (by decide) (by decide) rfl (by decide) ?_
    exact law_c230 C hL hi hJ0 kont
  by_cases d6 : z1.toInt = 3
  · refine y_tableIn C 3 243 (kdec dk_law 21 rfl) d6 (by decide) (by decide) rfl (by decide) ?_
    exact law_c243 C hL hi hJ0 kont
  by_cases d7 : z1.toInt = 4
  · refine y_tableIn C 4 266 (kdec dk_law 21 rfl) d7 (by decide) (by decide) rfl (by decide) ?_
    exact law_c266 C hL hi hJ0 kont
  by_cases d8 : z1.toInt = 5
  · refine y_tableIn C 5 279 (kdec dk_law 21 rfl) d8 (by decide) (by decide) rfl (by decide) ?_
    exact law_c279 C hL hi hJ0 kont
  by_cases d9 : z1.toInt = 6
  · refine y_tableIn C 6 312 (kdec dk_law 21 rfl) d9 (by decide) (by decide) rfl (by decide) ?_
    exact law_c312 C hL hi hJ0 kont
  by_cases d10 : z1.toInt = 7
  · refine y_tableIn C 7 325 (kdec dk_law 21 rfl) d10 (by decide) (by decide) rfl (by decide) ?_
    exact law_c325 C hL hi hJ0 kont
  by_cases d11 : z1.toInt = 8
  · refine y_tableIn C 8 348 (kdec dk_law 21 rfl) d11 (by decide) (by decide) rfl (by decide) ?_
    exact law_c348 C hL hi hJ0 kont
  by_cases d12 : z1.toInt = 9
  · refine y_tableIn C 9 371 (kdec dk_law 21 rfl) d12 (by decide) (by decide) rfl (by decide) ?_
    exact law_c371 C hL hi hJ0 kont
  by_cases d13 : z1.toInt = 10
  · refine y_tableIn C 10 394 (kdec dk_law 21 rfl) d13 (by decide) (by decide) rfl (by decide) ?_
    exact law_c394 C hL hi hJ0 kont
  by_cases d14 : z1.toInt = 11
  · refine y_tableIn C 11 443 (kdec dk_law 21 rfl) d14 (by decide) (by decide) rfl (by decide) ?_
    exact law_c443 C hL hi hJ0 kont
  by_cases d15 : z1.toInt = 12
  · refine y_tableIn C 12 476 (kdec dk_law 21 rfl) d15 (by decide) (by decide) rfl (by decide) ?_
    exact law_c476 C hL hi hJ0 kont
  by_cases d16 : z1.toInt = 13
  · refine y_tableIn C 13 499 (kdec dk_law 21 rfl) d16 (by decide) (by decide) rfl (by decide) ?_
    exact law_c499 C hL hi hJ0 kont
  by_cases d17 : z1.toInt = 14
  · refine y_tableIn C 14 522 (kdec dk_law 21 rfl) d17 (by decide) (by decide) rfl (by decide) ?_
    exact law_c522 C hL hi hJ0 kont
  refine y_tableOut C 555 (kdec dk_law 21 rfl) (by omega) (by decide) ?_
  exact kont w ⟨hI, hMp, hSl, hTp, hS, by omega, by omega, by omega, by omega, by omega, hSt, hs0, hs1, hs2, hs3⟩
set_option maxHeartbeats 4000000 in
set_option maxRecDepth 100000 in
theorem law_loop {p : Program} {l : Launch} {e : Env} {s : State} {m : MethodId} {b Ln : Nat} {xs : Nat → Int32} {below : List Frame} {meth : Method} {c : Code} {D : va_G} {τ : Nat → ClassId} {ρ σ : Nat → Nat} (C : yC p s m c b Ln xs D τ ρ σ) (hr : meth.sig.returnType = ret) (hlocks : meth.locks = false) (hL : Ln ≤ 4608) : ∀ (n i : Nat) (w : kw), Ln < i + 9 * n → i ≤ Ln → yJ i w → yV p l e s m b below meth c (lw_Z below #[Value.ref b] s) D τ ρ 87 37057 18 [(0, .ref b), (1, .ref (ρ 0)), (2, .ref (ρ 61)), (3, .int (nI i))] [] w := by
  intro n
  induction n with
  | zero => intro i w h1 h2 _; exact absurd h1 (by omega)
  | succ n ih =>
    intro i w hn hiL hJ
    refine y_iload_n C 19 rfl 3 (kdec dk_law 10 rfl) rfl rfl ?_
    refine y_aload_n C 20 rfl 0 (kdec dk_law 11 rfl) rfl rfl ?_
    refine y_slen C 21 rfl (kdec dk_law 12 rfl) ?_
    refine y_bipush C 23 rfl (nI 9) (kdec dk_law 13 rfl) (by first | rfl | decide) ?_
    refine y_isub C 24 rfl (kdec dk_law 14 rfl) (fun z q h1 h2 h3 => ?_)
    have e1 : (nI i).toInt = (i : Int) := nI_toInt (by omega)
    have e2 : (nI Ln).toInt = (Ln : Int) := nI_toInt (by omega)
    have e3 : (nI 9).toInt = 9 := nI_toInt (n := 9) (by omega)
    rw [e2, e3] at h1
    refine y_icmp_gt C 27 rfl 561 (kdec dk_law 15 rfl) (by decide) (fun d => ?_) (fun d => ?_)
    · exact y_iconst C 562 rfl 1 (kdec dk_law 367 rfl) rfl (y_ret C hr hlocks (kdec dk_law 368 rfl) (by decide) (by decide))
    · rw [e1] at d
      have hi9 : i + 9 ≤ Ln := by omega
      refine law_body C hL hi9 hJ (fun w' hJ' => ?_)
      refine y_iinc C 558 rfl 3 3 [1, 2, 3, 0] (nI (i + 9)) [(0, .ref b), (1, .ref (ρ 0)), (2, .ref (ρ 61)), (3, .int (nI (i + 9)))] (kdec dk_law 365 rfl) rfl (nI_add i 9) (by decide) rfl ?_
      refine y_goto C 18 (kdec dk_law 366 rfl) (by decide) ?_
      exact ih (i + 9) w' (by omega) hi9 hJ'
set_option maxHeartbeats 4000000 in
set_option maxRecDepth 100000 in
theorem law_go {p : Program} {l : Launch} {e : Env} {s : State} {m : MethodId} {b Ln : Nat} {xs : Nat → Int32} {below : List Frame} {meth : Method} {c : Code} {D : va_G} {τ : Nat → ClassId} {ρ σ : Nat → Nat} (C : yC p s m c b Ln xs D τ ρ σ) (hr : meth.sig.returnType = ret) (hlocks : meth.locks = false) (hL : Ln ≤ 4608) {w : kw} (hJ : yJ 0 w) : yV p l e s m b below meth c (lw_Z below #[Value.ref b] s) D τ ρ 87 37057 16 [(0, .ref b), (1, .ref (ρ 0)), (2, .ref (ρ 61))] [] w := by
  refine y_iconst C 17 rfl (nI 0) (kdec dk_law 8 rfl) (by first | rfl | decide) ?_
  refine y_istore_n C 18 rfl 3 [1, 2, 3, 0] [(0, .ref b), (1, .ref (ρ 0)), (2, .ref (ρ 61)), (3, .int (nI 0))] (kdec dk_law 9 rfl) rfl (by decide) rfl ?_
  exact law_loop C hr hlocks hL (Ln + 1) 0 w (by omega) (Nat.zero_le _) hJ

