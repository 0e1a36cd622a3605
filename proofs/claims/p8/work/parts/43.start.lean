set_option maxHeartbeats 4000000 in
set_option maxRecDepth 100000 in
theorem law_ord (τ : Nat → ClassId) (ρ : Nat → Nat) (f3 : Nat → Int32) : ∀ (c : Nat) (kd : kK), kSh[c]? = some kd → ∃ i : Nat, ([0, 1, 2, 3, 4, 9, 5, 6, 10, 11, 7, 8, 12, 13, 14, 15, 16, 17, 18, 19, 20, 21, 22, 23, 24, 25, 26, 31, 27, 28, 32, 33, 29, 30, 34, 35, 40, 36, 37, 41, 42, 38, 39, 43, 44, 49, 45, 46, 50, 51, 47, 48, 52, 53, 58, 54, 55, 59, 60, 56, 57, 61, 62, 63, 64, 65, 66, 67, 68, 69, 70, 71, 72, 73, 74, 75, 76, 77, 78, 79, 80, 81, 82, 83, 84, 85, 86] : List Nat)[c]? = some i ∧ (yW1 τ (ρ 0) (ρ 1) (ρ 2) (ρ 3) (ρ 4) (ρ 5) (ρ 6) (ρ 7) (ρ 8) (ρ 9) (ρ 10) (ρ 11) (ρ 12) (ρ 13) (ρ 14) (ρ 15) (ρ 16) (ρ 17) (ρ 18) (ρ 19) (ρ 20) (ρ 21) (ρ 22) (ρ 23) (ρ 24) (ρ 25) (ρ 26) (ρ 27) (ρ 28) (ρ 29) (ρ 30) (ρ 31) (ρ 32) (ρ 33) (ρ 34) (ρ 35) (ρ 36) (ρ 37) (ρ 38) (ρ 39) (ρ 40) (ρ 41) (ρ 42) (ρ 43) (ρ 44) (ρ 45) (ρ 46) (ρ 47) (ρ 48) (ρ 49) (ρ 50) (ρ 51) (ρ 52) (ρ 53) (ρ 54) (ρ 55) (ρ 56) (ρ 57) (ρ 58) (ρ 59) (ρ 60) ++ yW2 τ (ρ 61) (ρ 62) (ρ 63) (ρ 64) (ρ 65) (ρ 66) (ρ 67) (ρ 68) (ρ 69) (ρ 70) (ρ 71) (ρ 72) (ρ 73) (ρ 74) (ρ 75) (ρ 76) (ρ 77) (ρ 78) (ρ 79) (ρ 80) (ρ 81) (ρ 82) (ρ 83) (ρ 84) (ρ 85) (ρ 86) f3)[i]? = some (ρ c, kent ρ τ kd (kw0 f3 c)) := by
  intro c kd hc
  match c, hc with
  | 0, hc => cases hc; exact ⟨0, rfl, law_left (law_o0 τ ρ f3)⟩
  | 1, hc => cases hc; exact ⟨1, rfl, law_left (law_o1 τ ρ f3)⟩
  | 2, hc => cases hc; exact ⟨2, rfl, law_left (law_o2 τ ρ f3)⟩
  | 3, hc => cases hc; exact ⟨3, rfl, law_left (law_o3 τ ρ f3)⟩
  | 4, hc => cases hc; exact ⟨4, rfl, law_left (law_o4 τ ρ f3)⟩
  | 5, hc => cases hc; exact ⟨9, rfl, law_left (law_o5 τ ρ f3)⟩
  | 6, hc => cases hc; exact ⟨5, rfl, law_left (law_o6 τ ρ f3)⟩
  | 7, hc => cases hc; exact ⟨6, rfl, law_left (law_o7 τ ρ f3)⟩
  | 8, hc => cases hc; exact ⟨10, rfl, law_left (law_o8 τ ρ f3)⟩
  | 9, hc => cases hc; exact ⟨11, rfl, law_left (law_o9 τ ρ f3)⟩
  | 10, hc => cases hc; exact ⟨7, rfl, law_left (law_o10 τ ρ f3)⟩
  | 11, hc => cases hc; exact ⟨8, rfl, law_left (law_o11 τ ρ f3)⟩
  | 12, hc => cases hc; exact ⟨12, rfl, law_left (law_o12 τ ρ f3)⟩
  | 13, hc => cases hc; exact ⟨13, rfl, law_left (law_o13 τ ρ f3)⟩
  | 14, hc => cases hc; exact ⟨14, rfl, law_left (law_o14 τ ρ f3)⟩
  | 15, hc => cases hc; exact ⟨15, rfl, law_left (law_o15 τ ρ f3)⟩
  | 16, hc => cases hc; exact ⟨16, rfl, law_left (law_o16 τ ρ f3)⟩
  | 17, hc => cases hc; exact ⟨17, rfl, law_left (law_o17 τ ρ f3)⟩
  | 18, hc => cases hc; exact ⟨18, rfl, law_left (law_o18 τ ρ f3)⟩
  | 19, hc => cases hc; exact ⟨19, rfl, law_left (law_o19 τ ρ f3)⟩
  | 20, hc => cases hc; exact ⟨20, rfl, law_left (law_o20 τ ρ f3)⟩
  | 21, hc => cases hc; exact ⟨21, rfl, law_left (law_o21 τ ρ f3)⟩
  | 22, hc => cases hc; exact ⟨22, rfl, law_left (law_o22 τ ρ f3)⟩
  | 23, hc => cases hc; exact ⟨23, rfl, law_left (law_o23 τ ρ f3)⟩
  | 24, hc => cases hc; exact ⟨24, rfl, law_left (law_o24 τ ρ f3)⟩
  | 25, hc => cases hc; exact ⟨25, rfl, law_left (law_o25 τ ρ f3)⟩
  | 26, hc => cases hc; exact ⟨26, rfl, law_left (law_o26 τ ρ f3)⟩
  | 27, hc => cases hc; exact ⟨31, rfl, law_left (law_o27 τ ρ f3)⟩
  | 28, hc => cases hc; exact ⟨27, rfl, law_left (law_o28 τ ρ f3)⟩
  | 29, hc => cases hc; exact ⟨28, rfl, law_left (law_o29 τ ρ f3)⟩
  | 30, hc => cases hc; exact ⟨32, rfl, law_left (law_o30 τ ρ f3)⟩
  | 31, hc => cases hc; exact ⟨33, rfl, law_left (law_o31 τ ρ f3)⟩
  | 32, hc => cases hc; exact ⟨29, rfl, law_left (law_o32 τ ρ f3)⟩
  | 33, hc => cases hc; exact ⟨30, rfl, law_left (law_o33 τ ρ f3)⟩
  | 34, hc => cases hc; exact ⟨34, rfl, law_left (law_o34 τ ρ f3)⟩
  | 35, hc => cases hc; exact ⟨35, rfl, law_left (law_o35 τ ρ f3)⟩
  | 36, hc => cases hc; exact ⟨40, rfl, law_left (law_o36 τ ρ f3)⟩
  | 37, hc => cases hc; exact ⟨36, rfl, law_left (law_o37 τ ρ f3)⟩
  | 38, hc => cases hc; exact ⟨37, rfl, law_left (law_o38 τ ρ f3)⟩
  | 39, hc => cases hc; exact ⟨41, rfl, law_left (law_o39 τ ρ f3)⟩
  | 40, hc => cases hc; exact ⟨42, rfl, law_left (law_o40 τ ρ f3)⟩
  | 41, hc => cases hc; exact ⟨38, rfl, law_left (law_o41 τ ρ f3)⟩
  | 42, hc => cases hc; exact ⟨39, rfl, law_left (law_o42 τ ρ f3)⟩
  | 43, hc => cases hc; exact ⟨43, rfl, law_left (law_o43 τ ρ f3)⟩
  | 44, hc => cases hc; exact ⟨44, rfl, law_left (law_o44 τ ρ f3)⟩
  | 45, hc => cases hc; exact ⟨49, rfl, law_left (law_o45 τ ρ f3)⟩
  | 46, hc => cases hc; exact ⟨45, rfl, law_left (law_o46 τ ρ f3)⟩
  | 47, hc => cases hc; exact ⟨46, rfl, law_left (law_o47 τ ρ f3)⟩
  | 48, hc => cases hc; exact ⟨50, rfl, law_left (law_o48 τ ρ f3)⟩
  | 49, hc => cases hc; exact ⟨51, rfl, law_left (law_o49 τ ρ f3)⟩
  | 50, hc => cases hc; exact ⟨47, rfl, law_left (law_o50 τ ρ f3)⟩
  | 51, hc => cases hc; exact ⟨48, rfl, law_left (law_o51 τ ρ f3)⟩
  | 52, hc => cases hc; exact ⟨52, rfl, law_left (law_o52 τ ρ f3)⟩
  | 53, hc => cases hc; exact ⟨53, rfl, law_left (law_o53 τ ρ f3)⟩
  | 54, hc => cases hc; exact ⟨58, rfl, law_left (law_o54 τ ρ f3)⟩
  | 55, hc => cases hc; exact ⟨54, rfl, law_left (law_o55 τ ρ f3)⟩
  | 56, hc => cases hc; exact ⟨55, rfl, law_left (law_o56 τ ρ f3)⟩
  | 57, hc => cases hc; exact ⟨59, rfl, law_left (law_o57 τ ρ f3)⟩
  | 58, hc => cases hc; exact ⟨60, rfl, law_left (law_o58 τ ρ f3)⟩
  | 59, hc => cases hc; exact ⟨56, rfl, law_left (law_o59 τ ρ f3)⟩
  | 60, hc => cases hc; exact ⟨57, rfl, law_left (law_o60 τ ρ f3)⟩
  | 61, hc => cases hc; exact ⟨61, rfl, law_right (n := 61) 0 rfl (law_o61 τ ρ f3)⟩
  | 62, hc => cases hc; exact ⟨62, rfl, law_right (n := 61) 1 rfl (law_o62 τ ρ f3)⟩
  | 63, hc => cases hc; exact ⟨63, rfl, law_right (n := 61) 2 rfl (law_o63 τ ρ f3)⟩
  | 64, hc => cases hc; exact ⟨64, rfl, law_right (n := 61) 3 rfl (law_o64 τ ρ f3)⟩
  | 65, hc => cases hc; exact ⟨65, rfl, law_right (n := 61) 4 rfl (law_o65 τ ρ f3)⟩
  | 66, hc => cases hc; exact ⟨66, rfl, law_right (n := 61) 5 rfl (law_o66 τ ρ f3)⟩
  | 67, hc => cases hc; exact ⟨67, rfl, law_right (n := 61) 6 rfl (law_o67 τ ρ f3)⟩
  | 68, hc => cases hc; exact ⟨68, rfl, law_right (n := 61) 7 rfl (law_o68 τ ρ f3)⟩
  | 69, hc => cases hc; exact ⟨69, rfl, law_right (n := 61) 8 rfl (law_o69 τ ρ f3)⟩
  | 70, hc => cases hc; exact ⟨70, rfl, law_right (n := 61) 9 rfl (law_o70 τ ρ f3)⟩
  | 71, hc => cases hc; exact ⟨71, rfl, law_right (n := 61) 10 rfl (law_o71 τ ρ f3)⟩
  | 72, hc => cases hc; exact ⟨72, rfl, law_right (n := 61) 11 rfl (law_o72 τ ρ f3)⟩
  | 73, hc => cases hc; exact ⟨73, rfl, law_right (n := 61) 12 rfl (law_o73 τ ρ f3)⟩
  | 74, hc => cases hc; exact ⟨74, rfl, law_right (n := 61) 13 rfl (law_o74 τ ρ f3)⟩
  | 75, hc => cases hc; exact ⟨75, rfl, law_right (n := 61) 14 rfl (law_o75 τ ρ f3)⟩
  | 76, hc => cases hc; exact ⟨76, rfl, law_right (n := 61) 15 rfl (law_o76 τ ρ f3)⟩
  | 77, hc => cases hc; exact ⟨77, rfl, law_right (n := 61) 16 rfl (law_o77 τ ρ f3)⟩
  | 78, hc => cases hc; exact ⟨78, rfl, law_right (n := 61) 17 rfl (law_o78 τ ρ f3)⟩
  | 79, hc => cases hc; exact ⟨79, rfl, law_right (n := 61) 18 rfl (law_o79 τ ρ f3)⟩
  | 80, hc => cases hc; exact ⟨80, rfl, law_right (n := 61) 19 rfl (law_o80 τ ρ f3)⟩
  | 81, hc => cases hc; exact ⟨81, rfl, law_right (n := 61) 20 rfl (law_o81 τ ρ f3)⟩
  | 82, hc => cases hc; exact ⟨82, rfl, law_right (n := 61) 21 rfl (law_o82 τ ρ f3)⟩
  | 83, hc => cases hc; exact ⟨83, rfl, law_right (n := 61) 22 rfl (law_o83 τ ρ f3)⟩
  | 84, hc => cases hc; exact ⟨84, rfl, law_right (n := 61) 23 rfl (law_o84 τ ρ f3)⟩
  | 85, hc => cases hc; exact ⟨85, rfl, law_right (n := 61) 24 rfl (law_o85 τ ρ f3)⟩
  | 86, hc => cases hc; exact ⟨86, rfl, law_right (n := 61) 25 rfl (law_o86 τ ρ f3)⟩
  | c + 87, hc => exact absurd hc (by rw [List.getElem?_eq_none (by rw [ksh_len]; omega)]; exact fun h => by cases h)
set_option maxHeartbeats 4000000 in
set_option maxRecDepth 100000 in
theorem law_new {p : Program} {l : Launch} {e : Env} {s : State} {m : MethodId} {b : Nat} {below : List Frame} {meth : Method} {c : Code} {Q : State → Prop} {D : va_G} {τ : Nat → ClassId} (C : nC p s m #[Value.ref b] meth c code 4 "TaleMachineLaw" D τ (fun q : Nat => s.heap.size ≤ q))
    (kont : ∀ (ρ : Nat → Nat) (f3 : Nat → Int32), (∀ j : Nat, (0 : Int) ≤ (f3 j).toInt ∧ (f3 j).toInt ≤ 255) → nV p l e room_1 s m #[Value.ref b] below meth c Q 4 D (fun q : Nat => s.heap.size ≤ q) 16 [(0, .ref b), (1, .ref (ρ 0)), (2, .ref (ρ 61))] [] (kcells ρ τ (kw0 f3)) 87 37057) : nV p l e room_1 s m #[Value.ref b] below meth c Q 4 D (fun q : Nat => s.heap.size ≤ q) 0 [(0, .ref b)] [] [] 0 0 := by
  refine law_new1 C (fun q1 q2 q3 q4 q5 q6 q7 q8 q9 q10 q11 q12 q13 q14 q15 q16 q17 q18 q19 q20 q21 q22 q23 q24 q25 q26 q27 q28 q29 q30 q31 q32 q33 q34 q35 q36 q37 q38 q39 q40 q41 q42 q43 q44 q45 q46 q47 q48 q49 q50 q51 q52 q53 q54 q55 q56 q57 q58 q59 q60 q61 q64 q65 q66 q67 q68 q69 q70 q71 q72 q73 q74 q75 q76 q77 q78 q79 q80 q81 q82 q83 q84 q85 q86 q87 q88 q89 f3 hf3 => ?_)
  obtain ⟨ρ, hρ⟩ : ∃ ρ : Nat → Nat, q1 = ρ 0 ∧ q2 = ρ 1 ∧ q3 = ρ 2 ∧ q4 = ρ 3 ∧ q5 = ρ 4 ∧ q6 = ρ 5 ∧ q7 = ρ 6 ∧ q8 = ρ 7 ∧ q9 = ρ 8 ∧ q10 = ρ 9 ∧ q11 = ρ 10 ∧ q12 = ρ 11 ∧ q13 = ρ 12 ∧ q14 = ρ 13 ∧ q15 = ρ 14 ∧ q16 = ρ 15 ∧ q17 = ρ 16 ∧ q18 = ρ 17 ∧ q19 = ρ 18 ∧ q20 = ρ 19 ∧ q21 = ρ 20 ∧ q22 = ρ 21 ∧ q23 = ρ 22 ∧ q24 = ρ 23 ∧ q25 = ρ 24 ∧ q26 = ρ 25 ∧ q27 = ρ 26 ∧ q28 = ρ 27 ∧ q29 = ρ 28 ∧ q30 = ρ 29 ∧ q31 = ρ 30 ∧ q32 = ρ 31 ∧ q33 = ρ 32 ∧ q34 = ρ 33 ∧ q35 = ρ 34 ∧ q36 = ρ 35 ∧ q37 = ρ 36 ∧ q38 = ρ 37 ∧ q39 = ρ 38 ∧ q40 = ρ 39 ∧ q41 = ρ 40 ∧ q42 = ρ 41 ∧ q43 = ρ 42 ∧ q44 = ρ 43 ∧ q45 = ρ 44 ∧ q46 = ρ 45 ∧ q47 = ρ 46 ∧ q48 = ρ 47 ∧ q49 = ρ 48 ∧ q50 = ρ 49 ∧ q51 = ρ 50 ∧ q52 = ρ 51 ∧ q53 = ρ 52 ∧ q54 = ρ 53 ∧ q55 = ρ 54 ∧ q56 = ρ 55 ∧ q57 = ρ 56 ∧ q58 = ρ 57 ∧ q59 = ρ 58 ∧ q60 = ρ 59 ∧ q61 = ρ 60 ∧ q64 = ρ 61 ∧ q65 = ρ 62 ∧ q66 = ρ 63 ∧ q67 = ρ 64 ∧ q68 = ρ 65 ∧ q69 = ρ 66 ∧ q70 = ρ 67 ∧ q71 = ρ 68 ∧ q72 = ρ 69 ∧ q73 = ρ 70 ∧ q74 = ρ 71 ∧ q75 = ρ 72 ∧ q76 = ρ 73 ∧ q77 = ρ 74 ∧ q78 = ρ 75 ∧ q79 = ρ 76 ∧ q80 = ρ 77 ∧ q81 = ρ 78 ∧ q82 = ρ 79 ∧ q83 = ρ 80 ∧ q84 = ρ 81 ∧ q85 = ρ 82 ∧ q86 = ρ 83 ∧ q87 = ρ 84 ∧ q88 = ρ 85 ∧ q89 = ρ 86 := ⟨(fun c9 => ([q1, q2, q3, q4, q5, q6, q7, q8, q9, q10, q11, q12, q13, q14, q15, q16, q17, q18, q19, q20, q21, q22, q23, q24, q25, q26, q27, q28, q29, q30, q31, q32, q33, q34, q35, q36, q37, q38, q39, q40, q41, q42, q43, q44, q45, q46, q47, q48, q49, q50, q51, q52, q53, q54, q55, q56, q57, q58, q59, q60, q61, q64, q65, q66, q67, q68, q69, q70, q71, q72, q73, q74, q75, q76, q77, q78, q79, q80, q81, q82, q83, q84, q85, q86, q87, q88, q89] : List Nat).getD c9 0), rfl, rfl, rfl, rfl, rfl, rfl, rfl, rfl, rfl, rfl, rfl, rfl, rfl, rfl, rfl, rfl, rfl, rfl, rfl, rfl, rfl, rfl, rfl, rfl, rfl, rfl, rfl, rfl, rfl, rfl, rfl, rfl, rfl, rfl, rfl, rfl, rfl, rfl, rfl, rfl, rfl, rfl, rfl, rfl, rfl, rfl, rfl, rfl, rfl, rfl, rfl, rfl, rfl, rfl, rfl, rfl, rfl, rfl, rfl, rfl, rfl, rfl, rfl, rfl, rfl, rfl, rfl, rfl, rfl, rfl, rfl, rfl, rfl, rfl, rfl, rfl, rfl, rfl, rfl, rfl, rfl, rfl, rfl, rfl, rfl, rfl, rfl⟩
  obtain ⟨rfl, rfl, rfl, rfl, rfl, rfl, rfl, rfl, rfl, rfl, rfl, rfl, rfl, rfl, rfl, rfl, rfl, rfl, rfl, rfl, rfl, rfl, rfl, rfl, rfl, rfl, rfl, rfl, rfl, rfl, rfl, rfl, rfl, rfl, rfl, rfl, rfl, rfl, rfl, rfl, rfl, rfl, rfl, rfl, rfl, rfl, rfl, rfl, rfl, rfl, rfl, rfl, rfl, rfl, rfl, rfl, rfl, rfl, rfl, rfl, rfl, rfl, rfl, rfl, rfl, rfl, rfl, rfl, rfl, rfl, rfl, rfl, rfl, rfl, rfl, rfl, rfl, rfl, rfl, rfl, rfl, rfl, rfl, rfl, rfl, rfl, rfl⟩ := hρ
  exact nv_kc ρ τ (kw0 f3) [0, 1, 2, 3, 4, 9, 5, 6, 10, 11, 7, 8, 12, 13, 14, 15, 16, 17, 18, 19, 20, 21, 22, 23, 24, 25, 26, 31, 27, 28, 32, 33, 29, 30, 34, 35, 40, 36, 37, 41, 42, 38, 39, 43, 44, 49, 45, 46, 50, 51, 47, 48, 52, 53, 58, 54, 55, 59, 60, 56, 57, 61, 62, 63, 64, 65, 66, 67, 68, 69, 70, 71, 72, 73, 74, 75, 76, 77, 78, 79, 80, 81, 82, 83, 84, 85, 86] (by decide) (law_ord τ ρ f3) (kont ρ f3 hf3)
set_option maxHeartbeats 4000000 in
set_option maxRecDepth 100000 in
theorem whole_start {p : Program} {e : Env} {s : State} {m : MethodId} {below : List Frame} {meth : Method} {c : Code} (l : Launch) {b L : Nat} {xs : Nat → Int32} (hL : L ≤ 4608) (C0 : lw_At p s m meth c b L xs) : W p l e room_1 s m #[Value.ref b] below meth c s.heap [] 0 0 (lw_Z below #[Value.ref b] s) (entryFrame m ([Value.ref b] : List Value).toArray 4) := by
  obtain ⟨D, τ, σ, hE, hσ, hu⟩ := y_entry C0
  obtain ⟨hx, hb, hr, hml, hown, hts, hX, hbl, hlocks, hgv⟩ := C0
  have Cn : nC p s m #[Value.ref b] meth c code 4 "TaleMachineLaw" D τ (fun q : Nat => s.heap.size ≤ q) := ⟨hx, hb, hml, hown, hu, hE, fun q h => h⟩
  have hl := lv_entry ([.ref b]) (n := 4) (Nat.le_of_ble_eq_true rfl)
  rw [lg_entry_eq]
  generalize (lg_sl ([.ref b]) ++ List.replicate (4 - (lg_sl ([.ref b])).length) Slot.unset).toArray = ls at hl ⊢
  have hP : va_P D vwCl [] s.heap := fun k q h => by simp at h
  have hD : va_D (fun q : Nat => s.heap.size ≤ q) [] := ⟨fun i j p q h => by simp at h, fun k q h => by simp at h⟩
  refine law_new Cn (fun ρ f3 hf3 => ?_) s.heap [] ls hP hD va_S.rf hl
  refine y_in (fun hi hA => ?_)
  exact law_go ⟨hx, hb, hml, hown, hu, yE_of hE hσ hi hA, hX, hbl, hA⟩ hr hlocks hL ⟨kw0_I hf3, Or.inl ⟨rfl, rfl⟩, kSl_none ⟨rfl, rfl, rfl, rfl⟩, fun _ => rfl, Or.inl rfl, (show (0 : Int32).toInt ≤ 20000 * ((0 : Nat) : Int) by decide), (show (0 : Int32).toInt ≤ 20000 * ((0 : Nat) : Int) by decide), (show (0 : Int32).toInt ≤ 20000 * ((0 : Nat) : Int) by decide), (show (0 : Int32).toInt ≤ 20000 * ((0 : Nat) : Int) by decide), rfl, Or.inl ⟨rfl, rfl⟩, Or.inl rfl, Or.inl rfl, Or.inl rfl, Or.inl rfl⟩
