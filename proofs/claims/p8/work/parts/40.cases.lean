theorem yTape_feed {w w1 w2 : kw} {a1 a2 a3 a4 a5 a6 a7 a8 : Int32} (hT : (w 0 9).toInt = (w 61 2).toInt) (hTp : ∀ k : Nat, w 1 k = w 63 k) (e1 : (w1 61 2).toInt = (w 61 2).toInt) (R1 : (w 0 9).toInt ≤ 992 ∧ (∀ k9 : Nat, w1 1 k9 = kFeed (w 1) (w 0 9).toInt.toNat a1 a2 a3 a4 a5 a6 a7 a8 k9) ∨ 992 < (w 0 9).toInt ∧ ∀ k9 : Nat, w1 1 k9 = w 1 k9) (q1 : ∀ k : Nat, w1 63 k = w 63 k) (R2 : (w1 61 2).toInt ≤ 992 ∧ (∀ k9 : Nat, w2 63 k9 = kFeed (w1 63) (w1 61 2).toInt.toNat a1 a2 a3 a4 a5 a6 a7 a8 k9) ∨ 992 < (w1 61 2).toInt ∧ ∀ k9 : Nat, w2 63 k9 = w1 63 k9) (q2 : ∀ k : Nat, w2 1 k = w1 1 k) : ∀ k : Nat, w2 1 k = w2 63 k := by
  have f63 : w1 63 = w 1 := funext (fun k => (q1 k).trans (hTp k).symm)
  have n : (w1 61 2).toInt = (w 0 9).toInt := by omega
  intro k
  rw [n] at R2
  rcases R1 with ⟨a, r1⟩ | ⟨a, r1⟩
  · rcases R2 with ⟨c9, r2⟩ | ⟨c9, r2⟩
    · rw [q2, r1 k, r2 k, f63]
    · exact absurd a (by omega)
  · rcases R2 with ⟨c9, r2⟩ | ⟨c9, r2⟩
    · exact absurd c9 (by omega)
    · rw [q2, r1 k, r2 k, f63]
def yO (a b : Int32) : Prop := a.toInt = 0 ∨ 1 ≤ b.toInt
def yB (a b : Int32) : Prop := a.toInt = 0 ∧ b.toInt = 0 ∨ 1 ≤ a.toInt ∧ 1 ≤ b.toInt
def yR (a b : Int32) : Prop := a.toInt = 0 ∨ b.toInt ≤ 1024
def yM (w : kw) : Prop := ((w 61 3).toInt = 0 ∧ (w 61 12).toInt = 0 ∨ kMoT w)
theorem yB_same {a b t : Int32} (h : a.toInt = 0 ∧ b.toInt = 0 ∨ 1 ≤ a.toInt ∧ 1 ≤ b.toInt) (hB : yB a t) : yB b t := by
  unfold yB at hB ⊢
  omega
theorem yB_load {a b r q : Int32} {K : Int} (h1 : K = 0 ∧ r.toInt = 0 ∧ a.toInt = 1 ∨ ¬ K = 0 ∧ r.toInt = -10 - K ∧ a.toInt = 0) (h2 : K = 0 ∧ q.toInt = 0 ∧ b.toInt = 1 ∨ ¬ K = 0 ∧ q.toInt = -10 - K ∧ b.toInt = 0) : yB a b := by
  unfold yB
  omega
/-- what holds at the head of the loop -/
def yJ (i : Nat) (w : kw) : Prop := kI false w ∧ yM w ∧ kSl w ∧ (∀ k9 : Nat, w 1 k9 = w 63 k9) ∧ yR (w 20 10) (w 2 3) ∧ (w 12 1).toInt ≤ 20000 * (i : Int) ∧ (w 14 1).toInt ≤ 20000 * (i : Int) ∧ (w 61 29).toInt ≤ 20000 * (i : Int) ∧ (w 61 31).toInt ≤ 20000 * (i : Int) ∧ (w 0 9).toInt = (w 61 2).toInt ∧ yB (w 20 10) (w 61 3) ∧ yO (w 25 2) (w 25 5) ∧ yO (w 34 2) (w 34 5) ∧ yO (w 43 2) (w 43 5) ∧ yO (w 52 2) (w 52 5)
set_option maxHeartbeats 4000000 in
set_option maxRecDepth 100000 in
theorem law_c108 {p : Program} {l : Launch} {e : Env} {s : State} {m : MethodId} {b Ln : Nat} {xs : Nat → Int32} {below : List Frame} {meth : Method} {c : Code} {Q : State → Prop} {D : va_G} {τ : Nat → ClassId} {ρ σ : Nat → Nat} (C : yC p s m c b Ln xs D τ ρ σ) (hL : Ln ≤ 4608) {i : Nat} (hi : i + 9 ≤ Ln) {w : kw} (hJ : yJ i w) (kont : ∀ w' : kw, yJ (i + 9) w' → yV p l e s m b below meth c Q D τ ρ 87 37057 555 [(0, .ref b), (1, .ref (ρ 0)), (2, .ref (ρ 61)), (3, .int (nI i))] [] w') : yV p l e s m b below meth c Q D τ ρ 87 37057 108 [(0, .ref b), (1, .ref (ρ 0)), (2, .ref (ρ 61)), (3, .int (nI i))] [] w := by
  obtain ⟨hI, hMp, hSl, hTp, hS, hq1, hq2, hq3, hq4, hT, hSt, hs0, hs1, hs2, hs3⟩ := hJ
  refine y_aload_n C 109 rfl 1 (kdec dk_law 22 rfl) rfl rfl ?_
  refine y_aload_n C 110 rfl 0 (kdec dk_law 23 rfl) rfl rfl ?_
  refine y_iload_n C 111 rfl 3 (kdec dk_law 24 rfl) rfl rfl ?_
  refine y_iconst C 112 rfl (nI 1) (kdec dk_law 25 rfl) (by first | rfl | decide) ?_
  refine y_iadd C 113 rfl (kdec dk_law 26 rfl) ?_
  refine y_sld C 114 rfl (by omega) (by omega) (kdec dk_law 27 rfl) ?_
  refine y_aload_n C 115 rfl 0 (kdec dk_law 28 rfl) rfl rfl ?_
  refine y_iload_n C 116 rfl 3 (kdec dk_law 29 rfl) rfl rfl ?_
  refine y_iconst C 117 rfl (nI 2) (kdec dk_law 30 rfl) (by first | rfl | decide) ?_
  refine y_iadd C 118 rfl (kdec dk_law 31 rfl) ?_
  refine y_sld C 119 rfl (by omega) (by omega) (kdec dk_law 32 rfl) ?_
  refine y_aload_n C 120 rfl 0 (kdec dk_law 33 rfl) rfl rfl ?_
  refine y_iload_n C 121 rfl 3 (kdec dk_law 34 rfl) rfl rfl ?_
  refine y_iconst C 122 rfl (nI 3) (kdec dk_law 35 rfl) (by first | rfl | decide) ?_
  refine y_iadd C 123 rfl (kdec dk_law 36 rfl) ?_
  refine y_sld C 124 rfl (by omega) (by omega) (kdec dk_law 37 rfl) ?_
  refine y_aload_n C 125 rfl 0 (kdec dk_law 38 rfl) rfl rfl ?_
  refine y_iload_n C 126 rfl 3 (kdec dk_law 39 rfl) rfl rfl ?_
  refine y_iconst C 127 rfl (nI 4) (kdec dk_law 40 rfl) (by first | rfl | decide) ?_
  refine y_iadd C 128 rfl (kdec dk_law 41 rfl) ?_
  refine y_sld C 129 rfl (by omega) (by omega) (kdec dk_law 42 rfl) ?_
  refine y_aload_n C 130 rfl 0 (kdec dk_law 43 rfl) rfl rfl ?_
  refine y_iload_n C 131 rfl 3 (kdec dk_law 44 rfl) rfl rfl ?_
  refine y_iconst C 132 rfl (nI 5) (kdec dk_law 45 rfl) (by first | rfl | decide) ?_
  refine y_iadd C 133 rfl (kdec dk_law 46 rfl) ?_
  refine y_sld C 134 rfl (by omega) (by omega) (kdec dk_law 47 rfl) ?_
  refine y_aload_n C 135 rfl 0 (kdec dk_law 48 rfl) rfl rfl ?_
  refine y_iload_n C 136 rfl 3 (kdec dk_law 49 rfl) rfl rfl ?_
  refine y_bipush C 138 rfl (nI 6) (kdec dk_law 50 rfl) (by first | rfl | decide) ?_
  refine y_iadd C 139 rfl (kdec dk_law 51 rfl) ?_
  refine y_sld C 140 rfl (by omega) (by omega) (kdec dk_law 52 rfl) ?_
  refine y_aload_n C 141 rfl 0 (kdec dk_law 53 rfl) rfl rfl ?_
  refine y_iload_n C 142 rfl 3 (kdec dk_law 54 rfl) rfl rfl ?_
  refine y_bipush C 144 rfl (nI 7) (kdec dk_law 55 rfl) (by first | rfl | decide) ?_
  refine y_iadd C 145 rfl (kdec dk_law 56 rfl) ?_
  refine y_sld C 146 rfl (by omega) (by omega) (kdec dk_law 57 rfl) ?_
  refine y_aload_n C 147 rfl 0 (kdec dk_law 58 rfl) rfl rfl ?_
  refine y_iload_n C 148 rfl 3 (kdec dk_law 59 rfl) rfl rfl ?_
  refine y_bipush C 150 rfl (nI 8) (kdec dk_law 60 rfl) (by first | rfl | decide) ?_
  refine y_iadd C 151 rfl (kdec dk_law 61 rfl) ?_
  refine y_sld C 152 rfl (by omega) (by omega) (kdec dk_law 62 rfl) ?_
  refine y_calli (As := [.int (xs (i + 1)), .int (xs (i + 2)), .int (xs (i + 3)), .int (xs (i + 4)), .int (xs (i + 5)), .int (xs (i + 6)), .int (xs (i + 7)), .int (xs (i + 8))]) (rest := []) C 155 rfl 0 (k_m_feed l D τ ρ σ w ((xs (i + 1))) ((xs (i + 2))) ((xs (i + 3))) ((xs (i + 4))) ((xs (i + 5))) ((xs (i + 6))) ((xs (i + 7))) ((xs (i + 8))) hI) rfl rfl mml_TaleMachineLaw_13 mim_yX9_feed mse_yX9_feed mcd_yX9_feed min_yX9_feed hd_yX9_feed rfl rfl rfl (by decide) rfl (Nat.le_of_ble_eq_true rfl) (kdec dk_law 63 rfl) (by decide) (fun x1 w2 h3 => ?_)
  obtain ⟨I4, f5, p6, R9⟩ := h3
  have e13 : (w2 20 10).toInt = (w 20 10).toInt := by rw [f5 20 10 rfl]
  have e14 : (w2 2 3).toInt = (w 2 3).toInt := by rw [f5 2 3 rfl]
  have e15 : (w2 12 1).toInt = (w 12 1).toInt := by rw [f5 12 1 rfl]
  have e16 : (w2 14 1).toInt = (w 14 1).toInt := by rw [f5 14 1 rfl]
  have e17 : (w2 61 2).toInt = (w 61 2).toInt := by rw [f5 61 2 rfl]
  have e18 : (w2 61 3).toInt = (w 61 3).toInt := by rw [f5 61 3 rfl]
  have e19 : (w2 61 12).toInt = (w 61 12).toInt := by rw [f5 61 12 rfl]
  have e20 : (w2 61 29).toInt = (w 61 29).toInt := by rw [f5 61 29 rfl]
  have e21 : (w2 61 31).toInt = (w 61 31).toInt := by rw [f5 61 31 rfl]
  have M7 : yM w2 := kMoP_kF f5 hMp rfl rfl rfl rfl (fun _ => rfl)
  have S8 : kSl w2 := kSl_kF f5 hSl (fun _ => rfl) (fun _ => rfl) (fun _ => rfl)
  have Q11 : yR (w2 20 10) (w2 2 3) := by rw [f5 20 10 rfl, f5 2 3 rfl]; exact hS
  have O22 : yO (w2 25 2) (w2 25 5) := by rw [f5 25 2 rfl, f5 25 5 rfl]; exact hs0
  have O23 : yO (w2 34 2) (w2 34 5) := by rw [f5 34 2 rfl, f5 34 5 rfl]; exact hs1
  have O24 : yO (w2 43 2) (w2 43 5) := by rw [f5 43 2 rfl, f5 43 5 rfl]; exact hs2
  have O25 : yO (w2 52 2) (w2 52 5) := by rw [f5 52 2 rfl, f5 52 5 rfl]; exact hs3
  have B12 : yB (w2 20 10) (w2 61 3) := by rw [f5 20 10 rfl, f5 61 3 rfl]; exact hSt
  refine y_pop C 156 rfl (kdec dk_law 64 rfl) rfl ?_
  refine y_aload_n C 157 rfl 2 (kdec dk_law 65 rfl) rfl rfl ?_
  refine y_aload_n C 158 rfl 0 (kdec dk_law 66 rfl) rfl rfl ?_
  refine y_iload_n C 159 rfl 3 (kdec dk_law 67 rfl) rfl rfl ?_
  refine y_iconst C 160 rfl (nI 1) (kdec dk_law 68 rfl) (by first | rfl | decide) ?_
  refine y_iadd C 161 rfl (kdec dk_law 69 rfl) ?_
  refine y_sld C 162 rfl (by omega) (by omega) (kdec dk_law 70 rfl) ?_
  refine y_aload_n C 163 rfl 0 (kdec dk_law 71 rfl) rfl rfl ?_
  refine y_iload_n C 164 rfl 3 (kdec dk_law 72 rfl) rfl rfl ?_
  refine y_iconst C 165 rfl (nI 2) (kdec dk_law 73 rfl) (by first | rfl | decide) ?_
  refine y_iadd C 166 rfl (kdec dk_law 74 rfl) ?_
  refine y_sld C 167 rfl (by omega) (by omega) (kdec dk_law 75 rfl) ?_
  refine y_aload_n C 168 rfl 0 (kdec dk_law 76 rfl) rfl rfl ?_
  refine y_iload_n C 169 rfl 3 (kdec dk_law 77 rfl) rfl rfl ?_
  refine y_iconst C 170 rfl (nI 3) (kdec dk_law 78 rfl) (by first | rfl | decide) ?_
  refine y_iadd C 171 rfl (kdec dk_law 79 rfl) ?_
  refine y_sld C 172 rfl (by omega) (by omega) (kdec dk_law 80 rfl) ?_
  refine y_aload_n C 173 rfl 0 (kdec dk_law 81 rfl) rfl rfl ?_
  refine y_iload_n C 174 rfl 3 (kdec dk_law 82 rfl) rfl rfl ?_
  refine y_iconst C 175 rfl (nI 4) (kdec dk_law 83 rfl) (by first | rfl | decide) ?_
  refine y_iadd C 176 rfl (kdec dk_law 84 rfl) ?_
  refine y_sld C 177 rfl (by omega) (by omega) (kdec dk_law 85 rfl) ?_
  refine y_aload_n C 178 rfl 0 (kdec dk_law 86 rfl) rfl rfl ?_
  refine y_iload_n C 179 rfl 3 (kdec dk_law 87 rfl) rfl rfl ?_
  refine y_iconst C 180 rfl (nI 5) (kdec dk_law 88 rfl) (by first | rfl | decide) ?_
  refine y_iadd C 181 rfl (kdec dk_law 89 rfl) ?_
  refine y_sld C 182 rfl (by omega) (by omega) (kdec dk_law 90 rfl) ?_
  refine y_aload_n C 183 rfl 0 (kdec dk_law 91 rfl) rfl rfl ?_
  refine y_iload_n C 184 rfl 3 (kdec dk_law 92 rfl) rfl rfl ?_
  refine y_bipush C 186 rfl (nI 6) (kdec dk_law 93 rfl) (by first | rfl | decide) ?_
  refine y_iadd C 187 rfl (kdec dk_law 94 rfl) ?_
  refine y_sld C 188 rfl (by omega) (by omega) (kdec dk_law 95 rfl) ?_
  refine y_aload_n C 189 rfl 0 (kdec dk_law 96 rfl) rfl rfl ?_
  refine y_iload_n C 190 rfl 3 (kdec dk_law 97 rfl) rfl rfl ?_
  refine y_bipush C 192 rfl (nI 7) (kdec dk_law 98 rfl) (by first | rfl | decide) ?_
  refine y_iadd C 193 rfl (kdec dk_law 99 rfl) ?_
  refine y_sld C 194 rfl (by omega) (by omega) (kdec dk_law 100 rfl) ?_
  refine y_aload_n C 195 rfl 0 (kdec dk_law 101 rfl) rfl rfl ?_
  refine y_iload_n C 196 rfl 3 (kdec dk_law 102 rfl) rfl rfl ?_
  refine y_bipush C 198 rfl (nI 8) (kdec dk_law 103 rfl) (by first | rfl | decide) ?_
  refine y_iadd C 199 rfl (kdec dk_law 104 rfl) ?_
  refine y_sld C 200 rfl (by omega) (by omega) (kdec dk_law 105 rfl) ?_
  refine y_calli (As := [.int (xs (i + 1)), .int (xs (i + 2)), .int (xs (i + 3)), .int (xs (i + 4)), .int (xs (i + 5)), .int (xs (i + 6)), .int (xs (i + 7)), .int (xs (i + 8))]) (rest := []) C 203 rfl 61 (k_x_feed l D τ ρ σ w2 ((xs (i + 1))) ((xs (i + 2))) ((xs (i + 3))) ((xs (i + 4))) ((xs (i + 5))) ((xs (i + 6))) ((xs (i + 7))) ((xs (i + 8))) I4) rfl rfl mml_TaleMachineLaw_17 mim_yX10_feed mse_yX10_feed mcd_yX10_feed min_yX10_feed hd_yX10_feed rfl rfl rfl (by decide) rfl (Nat.le_of_ble_eq_true rfl) (kdec dk_law 106 rfl) (by decide) (fun x26 w27 h28 => ?_)
  obtain ⟨I29, f30, p31, R34⟩ := h28
  have e38 : (w27 20 10).toInt = (w2 20 10).toInt := by rw [f30 20 10 rfl]
  have e39 : (w27 2 3).toInt = (w2 2 3).toInt := by rw [f30 2 3 rfl]
  have e40 : (w27 12 1).toInt = (w2 12 1).toInt := by rw [f30 12 1 rfl]
  have e41 : (w27 14 1).toInt = (w2 14 1).toInt := by rw [f30 14 1 rfl]
  have e42 : (w27 0 9).toInt = (w2 0 9).toInt := by rw [f30 0 9 rfl]
  have e43 : (w27 61 3).toInt = (w2 61 3).toInt := by rw [f30 61 3 rfl]
  have e44 : (w27 61 12).toInt = (w2 61 12).toInt := by rw [f30 61 12 rfl]
  have e45 : (w27 61 29).toInt = (w2 61 29).toInt := by rw [f30 61 29 rfl]
  have e46 : (w27 61 31).toInt = (w2 61 31).toInt := by rw [f30 61 31 rfl]
  have M32 : yM w27 := kMoP_kF f30 M7 rfl rfl rfl rfl (fun _ => rfl)
  have S33 : kSl w27 := kSl_kF f30 S8 (fun _ => rfl) (fun _ => rfl) (fun _ => rfl)
  have T35 : ∀ k9 : Nat, w27 1 k9 = w27 63 k9 := yTape_feed hT hTp (by omega) R9 (fun k9 => f5 63 k9 rfl) R34 (fun k9 => f30 1 k9 rfl)
  have Q36 : yR (w27 20 10) (w27 2 3) := by rw [f30 20 10 rfl, f30 2 3 rfl]; exact Q11
  have O47 : yO (w27 25 2) (w27 25 5) := by rw [f30 25 2 rfl, f30 25 5 rfl]; exact O22
  have O48 : yO (w27 34 2) (w27 34 5) := by rw [f30 34 2 rfl, f30 34 5 rfl]; exact O23
  have O49 : yO (w27 43 2) (w27 43 5) := by rw [f30 43 2 rfl, f30 43 5 rfl]; exact O24
  have O50 : yO (w27 52 2) (w27 52 5) := by rw [f30 52 2 rfl, f30 52 5 rfl]; exact O25
  have B37 : yB (w27 20 10) (w27 61 3) := by rw [f30 20 10 rfl, f30 61 3 rfl]; exact B12
  clear R34 R9
  refine y_pop C 204 rfl (kdec dk_law 107 rfl) rfl ?_
  refine y_goto C 555 (kdec dk_law 108 rfl) (by decide) ?_
  exact kont w27 ⟨I29, M32, S33, T35, Q36, by omega, by omega, by omega, by omega, by omega, B37, O47, O48, O49, O50⟩
set_option maxHeartbeats 4000000 in
set_option maxRecDepth 100000 in
theorem law_c207 {p : Program} {l : Launch} {e : Env} {s : State} {m : MethodId} {b Ln : Nat} {xs : Nat → Int32} {below : List Frame} {meth : Method} {c : Code} {Q : State → Prop} {D : va_G} {τ : Nat → ClassId} {ρ σ : Nat → Nat} (C : yC p s m c b Ln xs D τ ρ σ) (hL : Ln ≤ 4608) {i : Nat} (hi : i + 9 ≤ Ln) {w : kw} (hJ : yJ i w) (kont : ∀ w' : kw, yJ (i + 9) w' → yV p l e s m b below meth c Q D τ ρ 87 37057 555 [(0, .ref b), (1, .ref (ρ 0)), (2, .ref (ρ 61)), (3, .int (nI i))] [] w') : yV p l e s m b below meth c Q D τ ρ 87 37057 207 [(0, .ref b), (1, .ref (ρ 0)), (2, .ref (ρ 61)), (3, .int (nI i))] [] w := by
  obtain ⟨hI, hMp, hSl, hTp, hS, hq1, hq2, hq3, hq4, hT, hSt, hs0, hs1, hs2, hs3⟩ := hJ
  refine y_aload_n C 208 rfl 1 (kdec dk_law 109 rfl) rfl rfl ?_
  refine y_aload_n C 209 rfl 0 (kdec dk_law 110 rfl) rfl rfl ?_
  refine y_iload_n C 210 rfl 3 (kdec dk_law 111 rfl) rfl rfl ?_
  refine y_iconst C 211 rfl (nI 1) (kdec dk_law 112 rfl) (by first | rfl | decide) ?_
  refine y_iadd C 212 rfl (kdec dk_law 113 rfl) ?_
  refine y_sld C 213 rfl (by omega) (by omega) (kdec dk_law 114 rfl) ?_
  refine y_calli (As := [.int (xs (i + 1))]) (rest := []) C 216 rfl 0 (k_m_end l D τ ρ σ w ((xs (i + 1))) hI) rfl rfl mml_TaleMachineLaw_18 mim_yX9_end mse_yX9_end mcd_yX9_end min_yX9_end hd_yX9_end rfl rfl rfl (by decide) rfl (Nat.le_of_ble_eq_true rfl) (kdec dk_law 115 rfl) (by decide) (fun x1 w2 h3 => ?_)
  obtain ⟨I4, f5, p6⟩ := h3
  have e13 : (w2 20 10).toInt = (w 20 10).toInt := by rw [f5 20 10 rfl]
  have e14 : (w2 2 3).toInt = (w 2 3).toInt := by rw [f5 2 3 rfl]
  have e15 : (w2 12 1).toInt = (w 12 1).toInt := by rw [f5 12 1 rfl]
  have e16 : (w2 14 1).toInt = (w 14 1).toInt := by rw [f5 14 1 rfl]
  have e17 : (w2 61 2).toInt = (w 61 2).toInt := by rw [f5 61 2 rfl]
  have e18 : (w2 61 3).toInt = (w 61 3).toInt := by rw [f5 61 3 rfl]
  have e19 : (w2 61 12).toInt = (w 61 12).toInt := by rw [f5 61 12 rfl]
  have e20 : (w2 61 29).toInt = (w 61 29).toInt := by rw [f5 61 29 rfl]
  have e21 : (w2 61 31).toInt = (w 61 31).toInt := by rw [f5 61 31 rfl]
  have M7 : yM w2 := kMoP_kF f5 hMp rfl rfl rfl rfl (fun _ => rfl)
  have S8 : kSl w2 := kSl_kF f5 hSl (fun _ => rfl) (fun _ => rfl) (fun _ => rfl)
  have T10 : ∀ k9 : Nat, w2 1 k9 = w2 63 k9 := fun k9 => ((f5 1 k9 rfl).trans (hTp k9)).trans (f5 63 k9 rfl).symm
  have Q11 : yR (w2 20 10) (w2 2 3) := by rw [f5 20 10 rfl, f5 2 3 rfl]; exact hS
  have O22 : yO (w2 25 2) (w2 25 5) := by rw [f5 25 2 rfl, f5 25 5 rfl]; exact hs0
  have O23 : yO (w2 34 2) (w2 34 5) := by rw [f5 34 2 rfl, f5 34 5 rfl]; exact hs1
  have O24 : yO (w2 43 2) (w2 43 5) := by rw [f5 43 2 rfl, f5 43 5 rfl]; exact hs2
  have O25 : yO (w2 52 2) (w2 52 5) := by rw [f5 52 2 rfl, f5 52 5 rfl]; exact hs3
  have B12 : yB (w2 20 10) (w2 61 3) := by rw [f5 20 10 rfl, f5 61 3 rfl]; exact hSt
  refine y_pop C 217 rfl (kdec dk_law 116 rfl) rfl ?_
  refine y_aload_n C 218 rfl 2 (kdec dk_law 117 rfl) rfl rfl ?_
  refine y_aload_n C 219 rfl 0 (kdec dk_law 118 rfl) rfl rfl ?_
  refine y_iload_n C 220 rfl 3 (kdec dk_law 119 rfl) rfl rfl ?_
  refine y_iconst C 221 rfl (nI 1) (kdec dk_law 120 rfl) (by first | rfl | decide) ?_
  refine y_iadd C 222 rfl (kdec dk_law 121 rfl) ?_
  refine y_sld C 223 rfl (by omega) (by omega) (kdec dk_law 122 rfl) ?_
  refine y_calli (As := [.int (xs (i + 1))]) (rest := []) C 226 rfl 61 (k_x_end l D τ ρ σ w2 ((xs (i + 1))) I4) rfl rfl mml_TaleMachineLaw_22 mim_yX10_end mse_yX10_end mcd_yX10_end min_yX10_end hd_yX10_end rfl rfl rfl (by decide) rfl (Nat.le_of_ble_eq_true rfl) (kdec dk_law 123 rfl) (by decide) (fun x26 w27 h28 => ?_)
  obtain ⟨I29, f30, p31⟩ := h28
  have e38 : (w27 20 10).toInt = (w2 20 10).toInt := by rw [f30 20 10 rfl]
  have e39 : (w27 2 3).toInt = (w2 2 3).toInt := by rw [f30 2 3 rfl]
  have e40 : (w27 12 1).toInt = (w2 12 1).toInt := by rw [f30 12 1 rfl]
  have e41 : (w27 14 1).toInt = (w2 14 1).toInt := by rw [f30 14 1 rfl]
  have e42 : (w27 0 9).toInt = (w2 0 9).toInt := by rw [f30 0 9 rfl]
  have e43 : (w27 61 3).toInt = (w2 61 3).toInt := by rw [f30 61 3 rfl]
  have e44 : (w27 61 12).toInt = (w2 61 12).toInt := by rw [f30 61 12 rfl]
  have e45 : (w27 61 29).toInt = (w2 61 29).toInt := by rw [f30 61 29 rfl]
  have e46 : (w27 61 31).toInt = (w2 61 31).toInt := by rw [f30 61 31 rfl]
  have M32 : yM w27 := kMoP_kF f30 M7 rfl rfl rfl rfl (fun _ => rfl)
  have S33 : kSl w27 := kSl_kF f30 S8 (fun _ => rfl) (fun _ => rfl) (fun _ => rfl)
  have T35 : ∀ k9 : Nat, w27 1 k9 = w27 63 k9 := fun k9 => ((f30 1 k9 rfl).trans (T10 k9)).trans (f30 63 k9 rfl).symm
  have Q36 : yR (w27 20 10) (w27 2 3) := by rw [f30 20 10 rfl, f30 2 3 rfl]; exact Q11
  have O47 : yO (w27 25 2) (w27 25 5) := by rw [f30 25 2 rfl, f30 25 5 rfl]; exact O22
  have O48 : yO (w27 34 2) (w27 34 5) := by rw [f30 34 2 rfl, f30 34 5 rfl]; exact O23
  have O49 : yO (w27 43 2) (w27 43 5) := by rw [f30 43 2 rfl, f30 43 5 rfl]; exact O24
  have O50 : yO (w27 52 2) (w27 52 5) := by rw [f30 52 2 rfl, f30 52 5 rfl]; exact O25
  have B37 : yB (w27 20 10) (w27 61 3) := by rw [f30 20 10 rfl, f30 61 3 rfl]; exact B12
  refine y_pop C 227 rfl (kdec dk_law 124 rfl) rfl ?_
  refine y_goto C 555 (kdec dk_law 125 rfl) (by decide) ?_
  exact kont w27 ⟨I29, M32, S33, T35, Q36, by omega, by omega, by omega, by omega, by omega, B37, O47, O48, O49, O50⟩
set_option maxHeartbeats 4000000 in
set_option maxRecDepth 100000 in
theorem law_c230 {p : Program} {l : Launch} {e : Env} {s : State} {m : MethodId} {b Ln : Nat} {xs : Nat → Int32} {below : List Frame} {meth : Method} {c : Code} {Q : State → Prop} {D : va_G} {τ : Nat → ClassId} {ρ σ : Nat → Nat} (C : yC p s m c b Ln xs D τ ρ σ) (hL : Ln ≤ 4608) {i : Nat} (hi : i + 9 ≤ Ln) {w : kw} (hJ : yJ i w) (kont : ∀ w' : kw, yJ (i + 9) w' → yV p l e s m b below meth c Q D τ ρ 87 37057 555 [(0, .ref b), (1, .ref (ρ 0)), (2, .ref (ρ 61)), (3, .int (nI i))] [] w') : yV p l e s m b below meth c Q D τ ρ 87 37057 230 [(0, .ref b), (1, .ref (ρ 0)), (2, .ref (ρ 61)), (3, .int (nI i))] [] w := by
  obtain ⟨hI, hMp, hSl, hTp, hS, hq1, hq2, hq3, hq4, hT, hSt, hs0, hs1, hs2, hs3⟩ := hJ
  refine y_aload_n C 231 rfl 1 (kdec dk_law 126 rfl) rfl rfl ?_
  refine y_calli (As := []) (rest := []) C 234 rfl 0 (k_m_load l D τ ρ σ w  hI) rfl rfl mml_TaleMachineLaw_23 mim_yX9_load mse_yX9_load mcd_yX9_load min_yX9_load hd_yX9_load rfl rfl rfl (by decide) rfl (Nat.le_of_ble_eq_true rfl) (kdec dk_law 127 rfl) (by decide) (fun x1 w2 h3 => ?_)
  obtain ⟨I4, f5, p6, p7, p8, p9, p10, R13⟩ := h3
  have e17 : (w2 14 1).toInt = (w 14 1).toInt := by rw [f5 14 1 rfl]
  have e18 : (w2 61 2).toInt = (w 61 2).toInt := by rw [f5 61 2 rfl]
  have e19 : (w2 61 3).toInt = (w 61 3).toInt := by rw [f5 61 3 rfl]
  have e20 : (w2 61 12).toInt = (w 61 12).toInt := by rw [f5 61 12 rfl]
  have e21 : (w2 61 29).toInt = (w 61 29).toInt := by rw [f5 61 29 rfl]
  have e22 : (w2 61 31).toInt = (w 61 31).toInt := by rw [f5 61 31 rfl]
  have M11 : yM w2 := kMoP_kF f5 hMp rfl rfl rfl rfl (fun _ => rfl)
  have S12 : kSl w2 := kSl_kF f5 hSl (fun _ => rfl) (fun _ => rfl) (fun _ => rfl)
  have T14 : ∀ k9 : Nat, w2 1 k9 = w2 63 k9 := fun k9 => ((f5 1 k9 rfl).trans (hTp k9)).trans (f5 63 k9 rfl).symm
  have Q15 : yR (w2 20 10) (w2 2 3) := p7
  have O23 : yO (w2 25 2) (w2 25 5) := Or.inl p10.1
  have O24 : yO (w2 34 2) (w2 34 5) := Or.inl p10.2.1
  have O25 : yO (w2 43 2) (w2 43 5) := Or.inl p10.2.2.1
  have O26 : yO (w2 52 2) (w2 52 5) := Or.inl p10.2.2.2
  clear p7
  refine y_pop C 235 rfl (kdec dk_law 128 rfl) rfl ?_
  refine y_aload_n C 236 rfl 2 (kdec dk_law 129 rfl) rfl rfl ?_
  refine y_calli (As := []) (rest := []) C 239 rfl 61 (k_x_load l D τ ρ σ w2  I4 M11) rfl rfl mml_TaleMachineLaw_27 mim_yX10_load mse_yX10_load mcd_yX10_load min_yX10_load hd_yX10_load rfl rfl rfl (by decide) rfl (Nat.le_of_ble_eq_true rfl) (kdec dk_law 130 rfl) (by decide) (fun x27 w28 h29 => ?_)
  obtain ⟨I30, f31, p32, p33, p34, p35, M36a, R38⟩ := h29
  have e42 : (w28 20 10).toInt = (w2 20 10).toInt := by rw [f31 20 10 rfl]
  have e43 : (w28 2 3).toInt = (w2 2 3).toInt := by rw [f31 2 3 rfl]
  have e44 : (w28 12 1).toInt = (w2 12 1).toInt := by rw [f31 12 1 rfl]
  have e45 : (w28 14 1).toInt = (w2 14 1).toInt := by rw [f31 14 1 rfl]
  have e46 : (w28 0 9).toInt = (w2 0 9).toInt := by rw [f31 0 9 rfl]
  have e47 : (w28 61 29).toInt = (w2 61 29).toInt := by rw [f31 61 29 rfl]
  have M36 : yM w28 := M36a
  have S37 : kSl w28 := kSl_none p34
  have T39 : ∀ k9 : Nat, w28 1 k9 = w28 63 k9 := fun k9 => ((f31 1 k9 rfl).trans (T14 k9)).trans (f31 63 k9 rfl).symm
  have Q40 : yR (w28 20 10) (w28 2 3) := by rw [f31 20 10 rfl, f31 2 3 rfl]; exact Q15
  have O48 : yO (w28 25 2) (w28 25 5) := by rw [f31 25 2 rfl, f31 25 5 rfl]; exact O23
  have O49 : yO (w28 34 2) (w28 34 5) := by rw [f31 34 2 rfl, f31 34 5 rfl]; exact O24
  have O50 : yO (w28 43 2) (w28 43 5) := by rw [f31 43 2 rfl, f31 43 5 rfl]; exact O25
  have O51 : yO (w28 52 2) (w28 52 5) := by rw [f31 52 2 rfl, f31 52 5 rfl]; exact O26
  have k52 : kFn (w2 63) (w2 61 2).toInt = kFn (w 1) (w 0 9).toInt := by rw [show (w2 61 2).toInt = (w 0 9).toInt by omega]; exact kFn_eq (fun k9 => (f5 63 k9 rfl).trans (hTp k9).symm)
  rw [k52] at R38
  have B41 : yB (w28 20 10) (w28 61 3) := by rw [f31 20 10 rfl]; exact yB_load R13 R38
  clear M36a
  refine y_pop C 240 rfl (kdec dk_law 131 rfl) rfl ?_
  refine y_goto C 555 (kdec dk_law 132 rfl) (by decide) ?_
  exact kont w28 ⟨I30, M36, S37, T39, Q40, by omega, by omega, by omega, by omega, by omega, B41, O48, O49, O50, O51⟩
set_option maxHeartbeats 4000000 in
set_option maxRecDepth 100000 in
theorem law_c243 {p : Program} {l : Launch} {e : Env} {s : State} {m : MethodId} {b Ln : Nat} {xs : Nat → Int32} {below : List Frame} {meth : Method} {c : Code} {Q : State → Prop} {D : va_G} {τ : Nat → ClassId} {ρ σ : Nat → Nat} (C : yC p s m c b Ln xs D τ ρ σ) (hL : Ln ≤ 4608) {i : Nat} (hi : i + 9 ≤ Ln) {w : kw} (hJ : yJ i w) (kont : ∀ w' : kw, yJ (i + 9) w' → yV p l e s m b below meth c Q D τ ρ 87 37057 555 [(0, .ref b), (1, .ref (ρ 0)), (2, .ref (ρ 61)), (3, .int (nI i))] [] w') : yV p l e s m b below meth c Q D τ ρ 87 37057 243 [(0, .ref b), (1, .ref (ρ 0)), (2, .ref (ρ 61)), (3, .int (nI i))] [] w := by
  obtain ⟨hI, hMp, hSl, hTp, hS, hq1, hq2, hq3, hq4, hT, hSt, hs0, hs1, hs2, hs3⟩ := hJ
  refine y_aload_n C 244 rfl 1 (kdec dk_law 133 rfl) rfl rfl ?_
  refine y_aload_n C 245 rfl 0 (kdec dk_law 134 rfl) rfl rfl ?_
  refine y_iload_n C 246 rfl 3 (kdec dk_law 135 rfl) rfl rfl ?_
  refine y_iconst C 247 rfl (nI 1) (kdec dk_law 136 rfl) (by first | rfl | decide) ?_
  refine y_iadd C 248 rfl (kdec dk_law 137 rfl) ?_
  refine y_sld C 249 rfl (by omega) (by omega) (kdec dk_law 138 rfl) ?_
  refine y_calli (As := [.int (xs (i + 1))]) (rest := []) C 252 rfl 0 (k_m_run l D τ ρ σ w ((xs (i + 1))) hI hS (by omega)) rfl rfl mml_TaleMachineLaw_28 mim_yX9_run mse_yX9_run mcd_yX9_run min_yX9_run hd_yX9_run rfl rfl rfl (by decide) rfl (Nat.le_of_ble_eq_true rfl) (kdec dk_law 139 rfl) (by decide) (fun x1 w2 h3 => ?_)
  obtain ⟨I4, f5, p6, p7, p8, p9⟩ := h3
  have e16 : (w2 2 3).toInt = (w 2 3).toInt := by rw [f5 2 3 rfl]
  have e17 : (w2 0 9).toInt = (w 0 9).toInt := by rw [f5 0 9 rfl]
  have e18 : (w2 61 2).toInt = (w 61 2).toInt := by rw [f5 61 2 rfl]
  have e19 : (w2 61 3).toInt = (w 61 3).toInt := by rw [f5 61 3 rfl]
  have e20 : (w2 61 12).toInt = (w 61 12).toInt := by rw [f5 61 12 rfl]
  have e21 : (w2 61 29).toInt = (w 61 29).toInt := by rw [f5 61 29 rfl]
  have e22 : (w2 61 31).toInt = (w 61 31).toInt := by rw [f5 61 31 rfl]
  have M10 : yM w2 := kMoP_kF f5 hMp rfl rfl rfl rfl (fun _ => rfl)
  have S11 : kSl w2 := kSl_kF f5 hSl (fun _ => rfl) (fun _ => rfl) (fun _ => rfl)
  have T13 : ∀ k9 : Nat, w2 1 k9 = w2 63 k9 := fun k9 => ((f5 1 k9 rfl).trans (hTp k9)).trans (f5 63 k9 rfl).symm
  have Q14 : yR (w2 20 10) (w2 2 3) := p6
  have O23 : yO (w2 25 2) (w2 25 5) := by rw [f5 25 2 rfl, f5 25 5 rfl]; exact hs0
  have O24 : yO (w2 34 2) (w2 34 5) := by rw [f5 34 2 rfl, f5 34 5 rfl]; exact hs1
  have O25 : yO (w2 43 2) (w2 43 5) := by rw [f5 43 2 rfl, f5 43 5 rfl]; exact hs2
  have O26 : yO (w2 52 2) (w2 52 5) := by rw [f5 52 2 rfl, f5 52 5 rfl]; exact hs3
  have B15 : yB (w2 20 10) (w2 61 3) := by rw [f5 61 3 rfl]; exact yB_same p9 hSt
  clear p6 p9
  refine y_pop C 253 rfl (kdec dk_law 140 rfl) rfl ?_
  refine y_aload_n C 254 rfl 2 (kdec dk_law 141 rfl) rfl rfl ?_
  refine y_aload_n C 255 rfl 0 (kdec dk_law 142 rfl) rfl rfl ?_
  refine y_iload_n C 256 rfl 3 (kdec dk_law 143 rfl) rfl rfl ?_
  refine y_iconst C 257 rfl (nI 1) (kdec dk_law 144 rfl) (by first | rfl | decide) ?_
  refine y_iadd C 258 rfl (kdec dk_law 145 rfl) ?_
  refine y_sld C 259 rfl (by omega) (by omega) (kdec dk_law 146 rfl) ?_
  refine y_calli (As := [.int (xs (i + 1))]) (rest := []) C 262 rfl 61 (k_x_run l D τ ρ σ w2 ((xs (i + 1))) I4 (by omega) M10) rfl rfl mml_TaleMachineLaw_31 mim_yX10_run mse_yX10_run mcd_yX10_run min_yX10_run hd_yX10_run rfl rfl rfl (by decide) rfl (Nat.le_of_ble_eq_true rfl) (kdec dk_law 147 rfl) (by decide) (fun x27 w28 h29 => ?_)
  obtain ⟨I30, f31, p32, p33, M34a⟩ := h29
  have e40 : (w28 20 10).toInt = (w2 20 10).toInt := by rw [f31 20 10 rfl]
  have e41 : (w28 2 3).toInt = (w2 2 3).toInt := by rw [f31 2 3 rfl]
  have e42 : (w28 12 1).toInt = (w2 12 1).toInt := by rw [f31 12 1 rfl]
  have e43 : (w28 14 1).toInt = (w2 14 1).toInt := by rw [f31 14 1 rfl]
  have e44 : (w28 0 9).toInt = (w2 0 9).toInt := by rw [f31 0 9 rfl]
  have e45 : (w28 61 2).toInt = (w2 61 2).toInt := by rw [f31 61 2 rfl]
  have e46 : (w28 61 3).toInt = (w2 61 3).toInt := by rw [f31 61 3 rfl]
  have M34 : yM w28 := M34a
  have S35 : kSl w28 := kSl_kF f31 S11 (fun _ => rfl) (fun _ => rfl) (fun _ => rfl)
  have T37 : ∀ k9 : Nat, w28 1 k9 = w28 63 k9 := fun k9 => ((f31 1 k9 rfl).trans (T13 k9)).trans (f31 63 k9 rfl).symm
  have Q38 : yR (w28 20 10) (w28 2 3) := by rw [f31 20 10 rfl, f31 2 3 rfl]; exact Q14
  have O47 : yO (w28 25 2) (w28 25 5) := by rw [f31 25 2 rfl, f31 25 5 rfl]; exact O23
  have O48 : yO (w28 34 2) (w28 34 5) := by rw [f31 34 2 rfl, f31 34 5 rfl]; exact O24
  have O49 : yO (w28 43 2) (w28 43 5) := by rw [f31 43 2 rfl, f31 43 5 rfl]; exact O25
  have O50 : yO (w28 52 2) (w28 52 5) := by rw [f31 52 2 rfl, f31 52 5 rfl]; exact O26
  have B39 : yB (w28 20 10) (w28 61 3) := by rw [f31 20 10 rfl, f31 61 3 rfl]; exact B15
  clear M34a
  refine y_pop C 263 rfl (kdec dk_law 148 rfl) rfl ?_
  refine y_goto C 555 (kdec dk_law 149 rfl) (by decide) ?_
  exact kont w28 ⟨I30, M34, S35, T37, Q38, by omega, by omega, by omega, by omega, by omega, B39, O47, O48, O49, O50⟩
set_option maxHeartbeats 4000000 in
set_option maxRecDepth 100000 in
theorem law_c266 {p : Program} {l : Launch} {e : Env} {s : State} {m : MethodId} {b Ln : Nat} {xs : Nat → Int32} {below : List Frame} {meth : Method} {c : Code} {Q : State → Prop} {D : va_G} {τ : Nat → ClassId} {ρ σ : Nat → Nat} (C : yC p s m c b Ln xs D τ ρ σ) (hL : Ln ≤ 4608) {i : Nat} (hi : i + 9 ≤ Ln) {w : kw} (hJ : yJ i w) (kont : ∀ w' : kw, yJ (i + 9) w' → yV p l e s m b below meth c Q D τ ρ 87 37057 555 [(0, .ref b), (1, .ref (ρ 0)), (2, .ref (ρ 61)), (3, .int (nI i))] [] w') : yV p l e s m b below meth c Q D τ ρ 87 37057 266 [(0, .ref b), (1, .ref (ρ 0)), (2, .ref (ρ 61)), (3, .int (nI i))] [] w := by
  obtain ⟨hI, hMp, hSl, hTp, hS, hq1, hq2, hq3, hq4, hT, hSt, hs0, hs1, hs2, hs3⟩ := hJ
  refine y_aload_n C 267 rfl 1 (kdec dk_law 150 rfl) rfl rfl ?_
  refine y_calli (As := []) (rest := []) C 270 rfl 0 (k_m_state l D τ ρ σ w  hI) rfl rfl mml_TaleMachineLaw_32 mim_yX9_state mse_yX9_state mcd_yX9_state min_yX9_state hd_yX9_state rfl rfl rfl (by decide) rfl (Nat.le_of_ble_eq_true rfl) (kdec dk_law 151 rfl) (by decide) (fun x1 w2 h3 => ?_)
  obtain ⟨I4, f5, p6⟩ := h3
  have e13 : (w2 20 10).toInt = (w 20 10).toInt := by rw [f5 20 10 rfl]
  have e14 : (w2 2 3).toInt = (w 2 3).toInt := by rw [f5 2 3 rfl]
  have e15 : (w2 12 1).toInt = (w 12 1).toInt := by rw [f5 12 1 rfl]
  have e16 : (w2 14 1).toInt = (w 14 1).toInt := by rw [f5 14 1 rfl]
  have e17 : (w2 0 9).toInt = (w 0 9).toInt := by rw [f5 0 9 rfl]
  have e18 : (w2 61 2).toInt = (w 61 2).toInt := by rw [f5 61 2 rfl]
  have e19 : (w2 61 3).toInt = (w 61 3).toInt := by rw [f5 61 3 rfl]
  have e20 : (w2 61 12).toInt = (w 61 12).toInt := by rw [f5 61 12 rfl]
  have e21 : (w2 61 29).toInt = (w 61 29).toInt := by rw [f5 61 29 rfl]
  have e22 : (w2 61 31).toInt = (w 61 31).toInt := by rw [f5 61 31 rfl]
  have M7 : yM w2 := kMoP_kF f5 hMp rfl rfl rfl rfl (fun _ => rfl)
  have S8 : kSl w2 := kSl_kF f5 hSl (fun _ => rfl) (fun _ => rfl) (fun _ => rfl)
  have T10 : ∀ k9 : Nat, w2 1 k9 = w2 63 k9 := fun k9 => ((f5 1 k9 rfl).trans (hTp k9)).trans (f5 63 k9 rfl).symm
  have Q11 : yR (w2 20 10) (w2 2 3) := by rw [f5 20 10 rfl, f5 2 3 rfl]; exact hS
  have O23 : yO (w2 25 2) (w2 25 5) := by rw [f5 25 2 rfl, f5 25 5 rfl]; exact hs0
  have O24 : yO (w2 34 2) (w2 34 5) := by rw [f5 34 2 rfl, f5 34 5 rfl]; exact hs1
  have O25 : yO (w2 43 2) (w2 43 5) := by rw [f5 43 2 rfl, f5 43 5 rfl]; exact hs2
  have O26 : yO (w2 52 2) (w2 52 5) := by rw [f5 52 2 rfl, f5 52 5 rfl]; exact hs3
  have B12 : yB (w2 20 10) (w2 61 3) := by rw [f5 20 10 rfl, f5 61 3 rfl]; exact hSt
  refine y_pop C 271 rfl (kdec dk_law 152 rfl) rfl ?_
  refine y_aload_n C 272 rfl 2 (kdec dk_law 153 rfl) rfl rfl ?_
  refine y_calli (As := []) (rest := []) C 275 rfl 61 (k_x_state l D τ ρ σ w2  I4) rfl rfl mml_TaleMachineLaw_35 mim_yX10_state mse_yX10_state mcd_yX10_state min_yX10_state hd_yX10_state rfl rfl rfl (by decide) rfl (Nat.le_of_ble_eq_true rfl) (kdec dk_law 154 rfl) (by decide) (fun x27 w28 h29 => ?_)
  obtain ⟨I30, f31, p32⟩ := h29
  have e39 : (w28 20 10).toInt = (w2 20 10).toInt := by rw [f31 20 10 rfl]
  have e40 : (w28 2 3).toInt = (w2 2 3).toInt := by rw [f31 2 3 rfl]
  have e41 : (w28 12 1).toInt = (w2 12 1).toInt := by rw [f31 12 1 rfl]
  have e42 : (w28 14 1).toInt = (w2 14 1).toInt := by rw [f31 14 1 rfl]
  have e43 : (w28 0 9).toInt = (w2 0 9).toInt := by rw [f31 0 9 rfl]
  have e44 : (w28 61 2).toInt = (w2 61 2).toInt := by rw [f31 61 2 rfl]
  have e45 : (w28 61 3).toInt = (w2 61 3).toInt := by rw [f31 61 3 rfl]
  have e46 : (w28 61 12).toInt = (w2 61 12).toInt := by rw [f31 61 12 rfl]
  have e47 : (w28 61 29).toInt = (w2 61 29).toInt := by rw [f31 61 29 rfl]
  have e48 : (w28 61 31).toInt = (w2 61 31).toInt := by rw [f31 61 31 rfl]
  have M33 : yM w28 := kMoP_kF f31 M7 rfl rfl rfl rfl (fun _ => rfl)
  have S34 : kSl w28 := kSl_kF f31 S8 (fun _ => rfl) (fun _ => rfl) (fun _ => rfl)
  have T36 : ∀ k9 : Nat, w28 1 k9 = w28 63 k9 := fun k9 => ((f31 1 k9 rfl).trans (T10 k9)).trans (f31 63 k9 rfl).symm
  have Q37 : yR (w28 20 10) (w28 2 3) := by rw [f31 20 10 rfl, f31 2 3 rfl]; exact Q11
  have O49 : yO (w28 25 2) (w28 25 5) := by rw [f31 25 2 rfl, f31 25 5 rfl]; exact O23
  have O50 : yO (w28 34 2) (w28 34 5) := by rw [f31 34 2 rfl, f31 34 5 rfl]; exact O24
  have O51 : yO (w28 43 2) (w28 43 5) := by rw [f31 43 2 rfl, f31 43 5 rfl]; exact O25
  have O52 : yO (w28 52 2) (w28 52 5) := by rw [f31 52 2 rfl, f31 52 5 rfl]; exact O26
  have B38 : yB (w28 20 10) (w28 61 3) := by rw [f31 20 10 rfl, f31 61 3 rfl]; exact B12
  refine y_pop C 276 rfl (kdec dk_law 155 rfl) rfl ?_
  refine y_goto C 555 (kdec dk_law 156 rfl) (by decide) ?_
  exact kont w28 ⟨I30, M33, S34, T36, Q37, by omega, by omega, by omega, by omega, by omega, B38, O49, O50, O51, O52⟩
set_option maxHeartbeats 4000000 in
set_option maxRecDepth 100000 in
theorem law_c279 {p : Program} {l : Launch} {e : Env} {s : State} {m : MethodId} {b Ln : Nat} {xs : Nat → Int32} {below : List Frame} {meth : Method} {c : Code} {Q : State → Prop} {D : va_G} {τ : Nat → ClassId} {ρ σ : Nat → Nat} (C : yC p s m c b Ln xs D τ ρ σ) (hL : Ln ≤ 4608) {i : Nat} (hi : i + 9 ≤ Ln) {w : kw} (hJ : yJ i w) (kont : ∀ w' : kw, yJ (i + 9) w' → yV p l e s m b below meth c Q D τ ρ 87 37057 555 [(0, .ref b), (1, .ref (ρ 0)), (2, .ref (ρ 61)), (3, .int (nI i))] [] w') : yV p l e s m b below meth c Q D τ ρ 87 37057 279 [(0, .ref b), (1, .ref (ρ 0)), (2, .ref (ρ 61)), (3, .int (nI i))] [] w := by
  obtain ⟨hI, hMp, hSl, hTp, hS, hq1, hq2, hq3, hq4, hT, hSt, hs0, hs1, hs2, hs3⟩ := hJ
  refine y_aload_n C 280 rfl 1 (kdec dk_law 157 rfl) rfl rfl ?_
  refine y_aload_n C 281 rfl 0 (kdec dk_law 158 rfl) rfl rfl ?_
  refine y_iload_n C 282 rfl 3 (kdec dk_law 159 rfl) rfl rfl ?_
  refine y_iconst C 283 rfl (nI 1) (kdec dk_law 160 rfl) (by first | rfl | decide) ?_
  refine y_iadd C 284 rfl (kdec dk_law 161 rfl) ?_
  refine y_sld C 285 rfl (by omega) (by omega) (kdec dk_law 162 rfl) ?_
  refine y_aload_n C 286 rfl 0 (kdec dk_law 163 rfl) rfl rfl ?_
  refine y_iload_n C 287 rfl 3 (kdec dk_law 164 rfl) rfl rfl ?_
  refine y_iconst C 288 rfl (nI 2) (kdec dk_law 165 rfl) (by first | rfl | decide) ?_
  refine y_iadd C 289 rfl (kdec dk_law 166 rfl) ?_
  refine y_sld C 290 rfl (by omega) (by omega) (kdec dk_law 167 rfl) ?_
  refine y_calli (As := [.int (xs (i + 1)), .int (xs (i + 2))]) (rest := []) C 293 rfl 0 (k_m_line l D τ ρ σ w ((xs (i + 1))) ((xs (i + 2))) hI hS) rfl rfl mml_TaleMachineLaw_36 mim_yX9_line mse_yX9_line mcd_yX9_line min_yX9_line hd_yX9_line rfl rfl rfl (by decide) rfl (Nat.le_of_ble_eq_true rfl) (kdec dk_law 168 rfl) (by decide) (fun x1 w2 h3 => ?_)
  obtain ⟨I4, f5, p6, p7, p8⟩ := h3
  have e15 : (w2 2 3).toInt = (w 2 3).toInt := by rw [f5 2 3 rfl]
  have e16 : (w2 12 1).toInt = (w 12 1).toInt := by rw [f5 12 1 rfl]
  have e17 : (w2 14 1).toInt = (w 14 1).toInt := by rw [f5 14 1 rfl]
  have e18 : (w2 0 9).toInt = (w 0 9).toInt := by rw [f5 0 9 rfl]
  have e19 : (w2 61 2).toInt = (w 61 2).toInt := by rw [f5 61 2 rfl]
  have e20 : (w2 61 3).toInt = (w 61 3).toInt := by rw [f5 61 3 rfl]
  have e21 : (w2 61 12).toInt = (w 61 12).toInt := by rw [f5 61 12 rfl]
  have e22 : (w2 61 29).toInt = (w 61 29).toInt := by rw [f5 61 29 rfl]
  have e23 : (w2 61 31).toInt = (w 61 31).toInt := by rw [f5 61 31 rfl]
  have M9 : yM w2 := kMoP_kF f5 hMp rfl rfl rfl rfl (fun _ => rfl)
  have S10 : kSl w2 := kSl_kF f5 hSl (fun _ => rfl) (fun _ => rfl) (fun _ => rfl)
  have T12 : ∀ k9 : Nat, w2 1 k9 = w2 63 k9 := fun k9 => ((f5 1 k9 rfl).trans (hTp k9)).trans (f5 63 k9 rfl).symm
  have Q13 : yR (w2 20 10) (w2 2 3) := p6
  have O24 : yO (w2 25 2) (w2 25 5) := by rw [f5 25 2 rfl, f5 25 5 rfl]; exact hs0
  have O25 : yO (w2 34 2) (w2 34 5) := by rw [f5 34 2 rfl, f5 34 5 rfl]; exact hs1
  have O26 : yO (w2 43 2) (w2 43 5) := by rw [f5 43 2 rfl, f5 43 5 rfl]; exact hs2
  have O27 : yO (w2 52 2) (w2 52 5) := by rw [f5 52 2 rfl, f5 52 5 rfl]; exact hs3
  have B14 : yB (w2 20 10) (w2 61 3) := by rw [f5 61 3 rfl]; exact yB_same p8 hSt
  clear p6 p8
  refine y_pop C 294 rfl (kdec dk_law 169 rfl) rfl ?_
  refine y_aload_n C 295 rfl 2 (kdec dk_law 170 rfl) rfl rfl ?_
  refine y_aload_n C 296 rfl 0 (kdec dk_law 171 rfl) rfl rfl ?_
  refine y_iload_n C 297 rfl 3 (kdec dk_law 172 rfl) rfl rfl ?_
  refine y_iconst C 298 rfl (nI 1) (kdec dk_law 173 rfl) (by first | rfl | decide) ?_
  refine y_iadd C 299 rfl (kdec dk_law 174 rfl) ?_
  refine y_sld C 300 rfl (by omega) (by omega) (kdec dk_law 175 rfl) ?_
  refine y_aload_n C 301 rfl 0 (kdec dk_law 176 rfl) rfl rfl ?_
  refine y_iload_n C 302 rfl 3 (kdec dk_law 177 rfl) rfl rfl ?_
  refine y_iconst C 303 rfl (nI 2) (kdec dk_law 178 rfl) (by first | rfl | decide) ?_
  refine y_iadd C 304 rfl (kdec dk_law 179 rfl) ?_
  refine y_sld C 305 rfl (by omega) (by omega) (kdec dk_law 180 rfl) ?_
  refine y_calli (As := [.int (xs (i + 1)), .int (xs (i + 2))]) (rest := []) C 308 rfl 61 (k_x_line l D τ ρ σ w2 ((xs (i + 1))) ((xs (i + 2))) I4) rfl rfl mml_TaleMachineLaw_40 mim_yX10_line mse_yX10_line mcd_yX10_line min_yX10_line hd_yX10_line rfl rfl rfl (by decide) rfl (Nat.le_of_ble_eq_true rfl) (kdec dk_law 181 rfl) (by decide) (fun x28 w29 h30 => ?_)
  obtain ⟨I31, f32, p33⟩ := h30
  have e40 : (w29 20 10).toInt = (w2 20 10).toInt := by rw [f32 20 10 rfl]
  have e41 : (w29 2 3).toInt = (w2 2 3).toInt := by rw [f32 2 3 rfl]
  have e42 : (w29 12 1).toInt = (w2 12 1).toInt := by rw [f32 12 1 rfl]
  have e43 : (w29 14 1).toInt = (w2 14 1).toInt := by rw [f32 14 1 rfl]
  have e44 : (w29 0 9).toInt = (w2 0 9).toInt := by rw [f32 0 9 rfl]
  have e45 : (w29 61 2).toInt = (w2 61 2).toInt := by rw [f32 61 2 rfl]
  have e46 : (w29 61 3).toInt = (w2 61 3).toInt := by rw [f32 61 3 rfl]
  have e47 : (w29 61 29).toInt = (w2 61 29).toInt := by rw [f32 61 29 rfl]
  have e48 : (w29 61 31).toInt = (w2 61 31).toInt := by rw [f32 61 31 rfl]
  have M34 : yM w29 := M9.elim (fun q9 => Or.inl (by omega)) (fun q9 => Or.inr (kMoT_kF f32 q9 rfl rfl (fun _ => rfl)))
  have S35 : kSl w29 := kSl_kF f32 S10 (fun _ => rfl) (fun _ => rfl) (fun _ => rfl)
  have T37 : ∀ k9 : Nat, w29 1 k9 = w29 63 k9 := fun k9 => ((f32 1 k9 rfl).trans (T12 k9)).trans (f32 63 k9 rfl).symm
  have Q38 : yR (w29 20 10) (w29 2 3) := by rw [f32 20 10 rfl, f32 2 3 rfl]; exact Q13
  have O49 : yO (w29 25 2) (w29 25 5) := by rw [f32 25 2 rfl, f32 25 5 rfl]; exact O24
  have O50 : yO (w29 34 2) (w29 34 5) := by rw [f32 34 2 rfl, f32 34 5 rfl]; exact O25
  have O51 : yO (w29 43 2) (w29 43 5) := by rw [f32 43 2 rfl, f32 43 5 rfl]; exact O26
  have O52 : yO (w29 52 2) (w29 52 5) := by rw [f32 52 2 rfl, f32 52 5 rfl]; exact O27
  have B39 : yB (w29 20 10) (w29 61 3) := by rw [f32 20 10 rfl, f32 61 3 rfl]; exact B14
  refine y_pop C 309 rfl (kdec dk_law 182 rfl) rfl ?_
  refine y_goto C 555 (kdec dk_law 183 rfl) (by decide) ?_
  exact kont w29 ⟨I31, M34, S35, T37, Q38, by omega, by omega, by omega, by omega, by omega, B39, O49, O50, O51, O52⟩
set_option maxHeartbeats 4000000 in
set_option maxRecDepth 100000 in
theorem law_c312 {p : Program} {l : Launch} {e : Env} {s : State} {m : MethodId} {b Ln : Nat} {xs : Nat → Int32} {below : List Frame} {meth : Method} {c : Code} {Q : State → Prop} {D : va_G} {τ : Nat → ClassId} {ρ σ : Nat → Nat} (C : yC p s m c b Ln xs D τ ρ σ) (hL : Ln ≤ 4608) {i : Nat} (hi : i + 9 ≤ Ln) {w : kw} (hJ : yJ i w) (kont : ∀ w' : kw, yJ (i + 9) w' → yV p l e s m b below meth c Q D τ ρ 87 37057 555 [(0, .ref b), (1, .ref (ρ 0)), (2, .ref (ρ 61)), (3, .int (nI i))] [] w') : yV p l e s m b below meth c Q D τ ρ 87 37057 312 [(0, .ref b), (1, .ref (ρ 0)), (2, .ref (ρ 61)), (3, .int (nI i))] [] w := by
  obtain ⟨hI, hMp, hSl, hTp, hS, hq1, hq2, hq3, hq4, hT, hSt, hs0, hs1, hs2, hs3⟩ := hJ
  refine y_aload_n C 313 rfl 1 (kdec dk_law 184 rfl) rfl rfl ?_
  refine y_calli (As := []) (rest := []) C 316 rfl 0 (k_m_start l D τ ρ σ w  hI hS (by omega)) rfl rfl mml_TaleMachineLaw_41 mim_yX9_start mse_yX9_start mcd_yX9_start min_yX9_start hd_yX9_start rfl rfl rfl (by decide) rfl (Nat.le_of_ble_eq_true rfl) (kdec dk_law 185 rfl) (by decide) (fun x1 w2 h3 => ?_)
  obtain ⟨I4, f5, p6, p7, p8, p9⟩ := h3
  have e16 : (w2 2 3).toInt = (w 2 3).toInt := by rw [f5 2 3 rfl]
  have e17 : (w2 14 1).toInt = (w 14 1).toInt := by rw [f5 14 1 rfl]
  have e18 : (w2 0 9).toInt = (w 0 9).toInt := by rw [f5 0 9 rfl]
  have e19 : (w2 61 2).toInt = (w 61 2).toInt := by rw [f5 61 2 rfl]
  have e20 : (w2 61 3).toInt = (w 61 3).toInt := by rw [f5 61 3 rfl]
  have e21 : (w2 61 12).toInt = (w 61 12).toInt := by rw [f5 61 12 rfl]
  have e22 : (w2 61 29).toInt = (w 61 29).toInt := by rw [f5 61 29 rfl]
  have e23 : (w2 61 31).toInt = (w 61 31).toInt := by rw [f5 61 31 rfl]
  have M10 : yM w2 := kMoP_kF f5 hMp rfl rfl rfl rfl (fun _ => rfl)
  have S11 : kSl w2 := kSl_kF f5 hSl (fun _ => rfl) (fun _ => rfl) (fun _ => rfl)
  have T13 : ∀ k9 : Nat, w2 1 k9 = w2 63 k9 := fun k9 => ((f5 1 k9 rfl).trans (hTp k9)).trans (f5 63 k9 rfl).symm
  have Q14 : yR (w2 20 10) (w2 2 3) := p6
  have O24 : yO (w2 25 2) (w2 25 5) := by rw [f5 25 2 rfl, f5 25 5 rfl]; exact hs0
  have O25 : yO (w2 34 2) (w2 34 5) := by rw [f5 34 2 rfl, f5 34 5 rfl]; exact hs1
  have O26 : yO (w2 43 2) (w2 43 5) := by rw [f5 43 2 rfl, f5 43 5 rfl]; exact hs2
  have O27 : yO (w2 52 2) (w2 52 5) := by rw [f5 52 2 rfl, f5 52 5 rfl]; exact hs3
  have B15 : yB (w2 20 10) (w2 61 3) := by rw [f5 61 3 rfl]; exact yB_same p9 hSt
  clear p6 p9
  refine y_aload_n C 317 rfl 2 (kdec dk_law 186 rfl) rfl rfl ?_
  refine y_calli (As := []) (rest := [.int (x1)]) C 320 rfl 61 (k_x_start l D τ ρ σ w2  I4 M10) rfl rfl mml_TaleMachineLaw_44 mim_yX10_start mse_yX10_start mcd_yX10_start min_yX10_start hd_yX10_start rfl rfl rfl (by decide) rfl (Nat.le_of_ble_eq_true rfl) (kdec dk_law 187 rfl) (by decide) (fun x28 w29 h30 => ?_)
  obtain ⟨I31, f32, p33, p34, M35a⟩ := h30
  have e41 : (w29 20 10).toInt = (w2 20 10).toInt := by rw [f32 20 10 rfl]
  have e42 : (w29 2 3).toInt = (w2 2 3).toInt := by rw [f32 2 3 rfl]
  have e43 : (w29 12 1).toInt = (w2 12 1).toInt := by rw [f32 12 1 rfl]
  have e44 : (w29 14 1).toInt = (w2 14 1).toInt := by rw [f32 14 1 rfl]
  have e45 : (w29 0 9).toInt = (w2 0 9).toInt := by rw [f32 0 9 rfl]
  have e46 : (w29 61 2).toInt = (w2 61 2).toInt := by rw [f32 61 2 rfl]
  have e47 : (w29 61 3).toInt = (w2 61 3).toInt := by rw [f32 61 3 rfl]
  have e48 : (w29 61 29).toInt = (w2 61 29).toInt := by rw [f32 61 29 rfl]
  have M35 : yM w29 := M35a
  have S36 : kSl w29 := kSl_kF f32 S11 (fun _ => rfl) (fun _ => rfl) (fun _ => rfl)
  have T38 : ∀ k9 : Nat, w29 1 k9 = w29 63 k9 := fun k9 => ((f32 1 k9 rfl).trans (T13 k9)).trans (f32 63 k9 rfl).symm
  have Q39 : yR (w29 20 10) (w29 2 3) := by rw [f32 20 10 rfl, f32 2 3 rfl]; exact Q14
  have O49 : yO (w29 25 2) (w29 25 5) := by rw [f32 25 2 rfl, f32 25 5 rfl]; exact O24
  have O50 : yO (w29 34 2) (w29 34 5) := by rw [f32 34 2 rfl, f32 34 5 rfl]; exact O25
  have O51 : yO (w29 43 2) (w29 43 5) := by rw [f32 43 2 rfl, f32 43 5 rfl]; exact O26
  have O52 : yO (w29 52 2) (w29 52 5) := by rw [f32 52 2 rfl, f32 52 5 rfl]; exact O27
  have B40 : yB (w29 20 10) (w29 61 3) := by rw [f32 20 10 rfl, f32 61 3 rfl]; exact B15
  have hB9 : (w 20 10).toInt = 0 ∧ (w 61 3).toInt = 0 ∨ 1 ≤ (w 20 10).toInt ∧ 1 ≤ (w 61 3).toInt := hSt
  clear M35a
  refine y_icmp_eq C 555 (kdec dk_law 188 rfl) (by decide) (by omega) ?_
  exact kont w29 ⟨I31, M35, S36, T38, Q39, by omega, by omega, by omega, by omega, by omega, B40, O49, O50, O51, O52⟩
set_option maxHeartbeats 4000000 in
set_option maxRecDepth 100000 in
theorem law_c325 {p : Program} {l : Launch} {e : Env} {s : State} {m : MethodId} {b Ln : Nat} {xs : Nat → Int32} {below : List Frame} {meth : Method} {c : Code} {Q : State → Prop} {D : va_G} {τ : Nat → ClassId} {ρ σ : Nat → Nat} (C : yC p s m c b Ln xs D τ ρ σ) (hL : Ln ≤ 4608) {i : Nat} (hi : i + 9 ≤ Ln) {w : kw} (hJ : yJ i w) (kont : ∀ w' : kw, yJ (i + 9) w' → yV p l e s m b below meth c Q D τ ρ 87 37057 555 [(0, .ref b), (1, .ref (ρ 0)), (2, .ref (ρ 61)), (3, .int (nI i))] [] w') : yV p l e s m b below meth c Q D τ ρ 87 37057 325 [(0, .ref b), (1, .ref (ρ 0)), (2, .ref (ρ 61)), (3, .int (nI i))] [] w := by
  obtain ⟨hI, hMp, hSl, hTp, hS, hq1, hq2, hq3, hq4, hT, hSt, hs0, hs1, hs2, hs3⟩ := hJ
  refine y_aload_n C 326 rfl 1 (kdec dk_law 191 rfl) rfl rfl ?_
  refine y_aload_n C 327 rfl 0 (kdec dk_law 192 rfl) rfl rfl ?_
  refine y_iload_n C 328 rfl 3 (kdec dk_law 193 rfl) rfl rfl ?_
  refine y_iconst C 329 rfl (nI 1) (kdec dk_law 194 rfl) (by first | rfl | decide) ?_
  refine y_iadd C 330 rfl (kdec dk_law 195 rfl) ?_
  refine y_sld C 331 rfl (by omega) (by omega) (kdec dk_law 196 rfl) ?_
  refine y_calli (As := [.int (xs (i + 1))]) (rest := []) C 334 rfl 0 (k_m_out l D τ ρ σ w ((xs (i + 1))) hI hS) rfl rfl mml_TaleMachineLaw_45 mim_yX9_out mse_yX9_out mcd_yX9_out min_yX9_out hd_yX9_out rfl rfl rfl (by decide) rfl (Nat.le_of_ble_eq_true rfl) (kdec dk_law 197 rfl) (by decide) (fun x1 w2 h3 => ?_)
  obtain ⟨I4, f5, p6⟩ := h3
  have e13 : (w2 20 10).toInt = (w 20 10).toInt := by rw [f5 20 10 rfl]
  have e14 : (w2 2 3).toInt = (w 2 3).toInt := by rw [f5 2 3 rfl]
  have e15 : (w2 12 1).toInt = (w 12 1).toInt := by rw [f5 12 1 rfl]
  have e16 : (w2 14 1).toInt = (w 14 1).toInt := by rw [f5 14 1 rfl]
  have e17 : (w2 0 9).toInt = (w 0 9).toInt := by rw [f5 0 9 rfl]
  have e18 : (w2 61 2).toInt = (w 61 2).toInt := by rw [f5 61 2 rfl]
  have e19 : (w2 61 3).toInt = (w 61 3).toInt := by rw [f5 61 3 rfl]
  have e20 : (w2 61 12).toInt = (w 61 12).toInt := by rw [f5 61 12 rfl]
  have e21 : (w2 61 29).toInt = (w 61 29).toInt := by rw [f5 61 29 rfl]
  have e22 : (w2 61 31).toInt = (w 61 31).toInt := by rw [f5 61 31 rfl]
  have M7 : yM w2 := kMoP_kF f5 hMp rfl rfl rfl rfl (fun _ => rfl)
  have S8 : kSl w2 := kSl_kF f5 hSl (fun _ => rfl) (fun _ => rfl) (fun _ => rfl)
  have T10 : ∀ k9 : Nat, w2 1 k9 = w2 63 k9 := fun k9 => ((f5 1 k9 rfl).trans (hTp k9)).trans (f5 63 k9 rfl).symm
  have Q11 : yR (w2 20 10) (w2 2 3) := by rw [f5 20 10 rfl, f5 2 3 rfl]; exact hS
  have O23 : yO (w2 25 2) (w2 25 5) := by rw [f5 25 2 rfl, f5 25 5 rfl]; exact hs0
  have O24 : yO (w2 34 2) (w2 34 5) := by rw [f5 34 2 rfl, f5 34 5 rfl]; exact hs1
  have O25 : yO (w2 43 2) (w2 43 5) := by rw [f5 43 2 rfl, f5 43 5 rfl]; exact hs2
  have O26 : yO (w2 52 2) (w2 52 5) := by rw [f5 52 2 rfl, f5 52 5 rfl]; exact hs3
  have B12 : yB (w2 20 10) (w2 61 3) := by rw [f5 20 10 rfl, f5 61 3 rfl]; exact hSt
  refine y_pop C 335 rfl (kdec dk_law 198 rfl) rfl ?_
  refine y_aload_n C 336 rfl 2 (kdec dk_law 199 rfl) rfl rfl ?_
  refine y_aload_n C 337 rfl 0 (kdec dk_law 200 rfl) rfl rfl ?_
  refine y_iload_n C 338 rfl 3 (kdec dk_law 201 rfl) rfl rfl ?_
  refine y_iconst C 339 rfl (nI 1) (kdec dk_law 202 rfl) (by first | rfl | decide) ?_
  refine y_iadd C 340 rfl (kdec dk_law 203 rfl) ?_
  refine y_sld C 341 rfl (by omega) (by omega) (kdec dk_law 204 rfl) ?_
  refine y_calli (As := [.int (xs (i + 1))]) (rest := []) C 344 rfl 61 (k_x_out l D τ ρ σ w2 ((xs (i + 1))) I4) rfl rfl mml_TaleMachineLaw_48 mim_yX10_out mse_yX10_out mcd_yX10_out min_yX10_out hd_yX10_out rfl rfl rfl (by decide) rfl (Nat.le_of_ble_eq_true rfl) (kdec dk_law 205 rfl) (by decide) (fun x27 w28 h29 => ?_)
  obtain ⟨I30, f31, p32⟩ := h29
  have e39 : (w28 20 10).toInt = (w2 20 10).toInt := by rw [f31 20 10 rfl]
  have e40 : (w28 2 3).toInt = (w2 2 3).toInt := by rw [f31 2 3 rfl]
  have e41 : (w28 12 1).toInt = (w2 12 1).toInt := by rw [f31 12 1 rfl]
  have e42 : (w28 14 1).toInt = (w2 14 1).toInt := by rw [f31 14 1 rfl]
  have e43 : (w28 0 9).toInt = (w2 0 9).toInt := by rw [f31 0 9 rfl]
  have e44 : (w28 61 2).toInt = (w2 61 2).toInt := by rw [f31 61 2 rfl]
  have e45 : (w28 61 3).toInt = (w2 61 3).toInt := by rw [f31 61 3 rfl]
  have e46 : (w28 61 12).toInt = (w2 61 12).toInt := by rw [f31 61 12 rfl]
  have e47 : (w28 61 29).toInt = (w2 61 29).toInt := by rw [f31 61 29 rfl]
  have e48 : (w28 61 31).toInt = (w2 61 31).toInt := by rw [f31 61 31 rfl]
  have M33 : yM w28 := kMoP_kF f31 M7 rfl rfl rfl rfl (fun _ => rfl)
  have S34 : kSl w28 := kSl_kF f31 S8 (fun _ => rfl) (fun _ => rfl) (fun _ => rfl)
  have T36 : ∀ k9 : Nat, w28 1 k9 = w28 63 k9 := fun k9 => ((f31 1 k9 rfl).trans (T10 k9)).trans (f31 63 k9 rfl).symm
  have Q37 : yR (w28 20 10) (w28 2 3) := by rw [f31 20 10 rfl, f31 2 3 rfl]; exact Q11
  have O49 : yO (w28 25 2) (w28 25 5) := by rw [f31 25 2 rfl, f31 25 5 rfl]; exact O23
  have O50 : yO (w28 34 2) (w28 34 5) := by rw [f31 34 2 rfl, f31 34 5 rfl]; exact O24
  have O51 : yO (w28 43 2) (w28 43 5) := by rw [f31 43 2 rfl, f31 43 5 rfl]; exact O25
  have O52 : yO (w28 52 2) (w28 52 5) := by rw [f31 52 2 rfl, f31 52 5 rfl]; exact O26
  have B38 : yB (w28 20 10) (w28 61 3) := by rw [f31 20 10 rfl, f31 61 3 rfl]; exact B12
  refine y_pop C 345 rfl (kdec dk_law 206 rfl) rfl ?_
  refine y_goto C 555 (kdec dk_law 207 rfl) (by decide) ?_
  exact kont w28 ⟨I30, M33, S34, T36, Q37, by omega, by omega, by omega, by omega, by omega, B38, O49, O50, O51, O52⟩
set_option maxHeartbeats 4000000 in
set_option maxRecDepth 100000 in
theorem law_c348 {p : Program} {l : Launch} {e : Env} {s : State} {m : MethodId} {b Ln : Nat} {xs : Nat → Int32} {below : List Frame} {meth : Method} {c : Code} {Q : State → Prop} {D : va_G} {τ : Nat → ClassId} {ρ σ : Nat → Nat} (C : yC p s m c b Ln xs D τ ρ σ) (hL : Ln ≤ 4608) {i : Nat} (hi : i + 9 ≤ Ln) {w : kw} (hJ : yJ i w) (kont : ∀ w' : kw, yJ (i + 9) w' → yV p l e s m b below meth c Q D τ ρ 87 37057 555 [(0, .ref b), (1, .ref (ρ 0)), (2, .ref (ρ 61)), (3, .int (nI i))] [] w') : yV p l e s m b below meth c Q D τ ρ 87 37057 348 [(0, .ref b), (1, .ref (ρ 0)), (2, .ref (ρ 61)), (3, .int (nI i))] [] w := by
  obtain ⟨hI, hMp, hSl, hTp, hS, hq1, hq2, hq3, hq4, hT, hSt, hs0, hs1, hs2, hs3⟩ := hJ
  refine y_aload_n C 349 rfl 1 (kdec dk_law 208 rfl) rfl rfl ?_
  refine y_aload_n C 350 rfl 0 (kdec dk_law 209 rfl) rfl rfl ?_
  refine y_iload_n C 351 rfl 3 (kdec dk_law 210 rfl) rfl rfl ?_
  refine y_iconst C 352 rfl (nI 1) (kdec dk_law 211 rfl) (by first | rfl | decide) ?_
  refine y_iadd C 353 rfl (kdec dk_law 212 rfl) ?_
  refine y_sld C 354 rfl (by omega) (by omega) (kdec dk_law 213 rfl) ?_
  refine y_calli (As := [.int (xs (i + 1))]) (rest := []) C 357 rfl 0 (k_m_count l D τ ρ σ w ((xs (i + 1))) hI hS) rfl rfl mml_TaleMachineLaw_49 mim_yX9_count mse_yX9_count mcd_yX9_count min_yX9_count hd_yX9_count rfl rfl rfl (by decide) rfl (Nat.le_of_ble_eq_true rfl) (kdec dk_law 214 rfl) (by decide) (fun x1 w2 h3 => ?_)
  obtain ⟨I4, f5, p6⟩ := h3
  have e13 : (w2 20 10).toInt = (w 20 10).toInt := by rw [f5 20 10 rfl]
  have e14 : (w2 2 3).toInt = (w 2 3).toInt := by rw [f5 2 3 rfl]
  have e15 : (w2 12 1).toInt = (w 12 1).toInt := by rw [f5 12 1 rfl]
  have e16 : (w2 14 1).toInt = (w 14 1).toInt := by rw [f5 14 1 rfl]
  have e17 : (w2 0 9).toInt = (w 0 9).toInt := by rw [f5 0 9 rfl]
  have e18 : (w2 61 2).toInt = (w 61 2).toInt := by rw [f5 61 2 rfl]
  have e19 : (w2 61 3).toInt = (w 61 3).toInt := by rw [f5 61 3 rfl]
  have e20 : (w2 61 12).toInt = (w 61 12).toInt := by rw [f5 61 12 rfl]
  have e21 : (w2 61 29).toInt = (w 61 29).toInt := by rw [f5 61 29 rfl]
  have e22 : (w2 61 31).toInt = (w 61 31).toInt := by rw [f5 61 31 rfl]
  have M7 : yM w2 := kMoP_kF f5 hMp rfl rfl rfl rfl (fun _ => rfl)
  have S8 : kSl w2 := kSl_kF f5 hSl (fun _ => rfl) (fun _ => rfl) (fun _ => rfl)
  have T10 : ∀ k9 : Nat, w2 1 k9 = w2 63 k9 := fun k9 => ((f5 1 k9 rfl).trans (hTp k9)).trans (f5 63 k9 rfl).symm
  have Q11 : yR (w2 20 10) (w2 2 3) := by rw [f5 20 10 rfl, f5 2 3 rfl]; exact hS
  have O23 : yO (w2 25 2) (w2 25 5) := by rw [f5 25 2 rfl, f5 25 5 rfl]; exact hs0
  have O24 : yO (w2 34 2) (w2 34 5) := by rw [f5 34 2 rfl, f5 34 5 rfl]; exact hs1
  have O25 : yO (w2 43 2) (w2 43 5) := by rw [f5 43 2 rfl, f5 43 5 rfl]; exact hs2
  have O26 : yO (w2 52 2) (w2 52 5) := by rw [f5 52 2 rfl, f5 52 5 rfl]; exact hs3
  have B12 : yB (w2 20 10) (w2 61 3) := by rw [f5 20 10 rfl, f5 61 3 rfl]; exact hSt
  refine y_pop C 358 rfl (kdec dk_law 215 rfl) rfl ?_
  refine y_aload_n C 359 rfl 2 (kdec dk_law 216 rfl) rfl rfl ?_
  refine y_aload_n C 360 rfl 0 (kdec dk_law 217 rfl) rfl rfl ?_
  refine y_iload_n C 361 rfl 3 (kdec dk_law 218 rfl) rfl rfl ?_
  refine y_iconst C 362 rfl (nI 1) (kdec dk_law 219 rfl) (by first | rfl | decide) ?_
  refine y_iadd C 363 rfl (kdec dk_law 220 rfl) ?_
  refine y_sld C 364 rfl (by omega) (by omega) (kdec dk_law 221 rfl) ?_
  refine y_calli (As := [.int (xs (i + 1))]) (rest := []) C 367 rfl 61 (k_x_count l D τ ρ σ w2 ((xs (i + 1))) I4 M7) rfl rfl mml_TaleMachineLaw_52 mim_yX10_count mse_yX10_count mcd_yX10_count min_yX10_count hd_yX10_count rfl rfl rfl (by decide) rfl (Nat.le_of_ble_eq_true rfl) (kdec dk_law 222 rfl) (by decide) (fun x27 w28 h29 => ?_)
  obtain ⟨I30, f31, p32⟩ := h29
  have e39 : (w28 20 10).toInt = (w2 20 10).toInt := by rw [f31 20 10 rfl]
  have e40 : (w28 2 3).toInt = (w2 2 3).toInt := by rw [f31 2 3 rfl]
  have e41 : (w28 12 1).toInt = (w2 12 1).toInt := by rw [f31 12 1 rfl]
  have e42 : (w28 14 1).toInt = (w2 14 1).toInt := by rw [f31 14 1 rfl]
  have e43 : (w28 0 9).toInt = (w2 0 9).toInt := by rw [f31 0 9 rfl]
  have e44 : (w28 61 2).toInt = (w2 61 2).toInt := by rw [f31 61 2 rfl]
  have e45 : (w28 61 3).toInt = (w2 61 3).toInt := by rw [f31 61 3 rfl]
  have e46 : (w28 61 12).toInt = (w2 61 12).toInt := by rw [f31 61 12 rfl]
  have e47 : (w28 61 29).toInt = (w2 61 29).toInt := by rw [f31 61 29 rfl]
  have e48 : (w28 61 31).toInt = (w2 61 31).toInt := by rw [f31 61 31 rfl]
  have M33 : yM w28 := kMoP_kF f31 M7 rfl rfl rfl rfl (fun _ => rfl)
  have S34 : kSl w28 := kSl_kF f31 S8 (fun _ => rfl) (fun _ => rfl) (fun _ => rfl)
  have T36 : ∀ k9 : Nat, w28 1 k9 = w28 63 k9 := fun k9 => ((f31 1 k9 rfl).trans (T10 k9)).trans (f31 63 k9 rfl).symm
  have Q37 : yR (w28 20 10) (w28 2 3) := by rw [f31 20 10 rfl, f31 2 3 rfl]; exact Q11
  have O49 : yO (w28 25 2) (w28 25 5) := by rw [f31 25 2 rfl, f31 25 5 rfl]; exact O23
  have O50 : yO (w28 34 2) (w28 34 5) := by rw [f31 34 2 rfl, f31 34 5 rfl]; exact O24
  have O51 : yO (w28 43 2) (w28 43 5) := by rw [f31 43 2 rfl, f31 43 5 rfl]; exact O25
  have O52 : yO (w28 52 2) (w28 52 5) := by rw [f31 52 2 rfl, f31 52 5 rfl]; exact O26
  have B38 : yB (w28 20 10) (w28 61 3) := by rw [f31 20 10 rfl, f31 61 3 rfl]; exact B12
  refine y_pop C 368 rfl (kdec dk_law 223 rfl) rfl ?_
  refine y_goto C 555 (kdec dk_law 224 rfl) (by decide) ?_
  exact kont w28 ⟨I30, M33, S34, T36, Q37, by omega, by omega, by omega, by omega, by omega, B38, O49, O50, O51, O52⟩
set_option maxHeartbeats 4000000 in
set_option maxRecDepth 100000 in
theorem law_c371 {p : Program} {l : Launch} {e : Env} {s : State} {m : MethodId} {b Ln : Nat} {xs : Nat → Int32} {below : List Frame} {meth : Method} {c : Code} {Q : State → Prop} {D : va_G} {τ : Nat → ClassId} {ρ σ : Nat → Nat} (C : yC p s m c b Ln xs D τ ρ σ) (hL : Ln ≤ 4608) {i : Nat} (hi : i + 9 ≤ Ln) {w : kw} (hJ : yJ i w) (kont : ∀ w' : kw, yJ (i + 9) w' → yV p l e s m b below meth c Q D τ ρ 87 37057 555 [(0, .ref b), (1, .ref (ρ 0)), (2, .ref (ρ 61)), (3, .int (nI i))] [] w') : yV p l e s m b below meth c Q D τ ρ 87 37057 371 [(0, .ref b), (1, .ref (ρ 0)), (2, .ref (ρ 61)), (3, .int (nI i))] [] w := by
  obtain ⟨hI, hMp, hSl, hTp, hS, hq1, hq2, hq3, hq4, hT, hSt, hs0, hs1, hs2, hs3⟩ := hJ
  refine y_aload_n C 372 rfl 1 (kdec dk_law 225 rfl) rfl rfl ?_
  refine y_aload_n C 373 rfl 0 (kdec dk_law 226 rfl) rfl rfl ?_
  refine y_iload_n C 374 rfl 3 (kdec dk_law 227 rfl) rfl rfl ?_
  refine y_iconst C 375 rfl (nI 1) (kdec dk_law 228 rfl) (by first | rfl | decide) ?_
  refine y_iadd C 376 rfl (kdec dk_law 229 rfl) ?_
  refine y_sld C 377 rfl (by omega) (by omega) (kdec dk_law 230 rfl) ?_
  refine y_calli (As := [.int (xs (i + 1))]) (rest := []) C 380 rfl 0 (k_m_peek l D τ ρ σ w ((xs (i + 1))) hI) rfl rfl mml_TaleMachineLaw_53 mim_yX9_peek mse_yX9_peek mcd_yX9_peek min_yX9_peek hd_yX9_peek rfl rfl rfl (by decide) rfl (Nat.le_of_ble_eq_true rfl) (kdec dk_law 231 rfl) (by decide) (fun x1 w2 h3 => ?_)
  obtain ⟨I4, f5, p6⟩ := h3
  have e13 : (w2 20 10).toInt = (w 20 10).toInt := by rw [f5 20 10 rfl]
  have e14 : (w2 2 3).toInt = (w 2 3).toInt := by rw [f5 2 3 rfl]
  have e15 : (w2 12 1).toInt = (w 12 1).toInt := by rw [f5 12 1 rfl]
  have e16 : (w2 14 1).toInt = (w 14 1).toInt := by rw [f5 14 1 rfl]
  have e17 : (w2 0 9).toInt = (w 0 9).toInt := by rw [f5 0 9 rfl]
  have e18 : (w2 61 2).toInt = (w 61 2).toInt := by rw [f5 61 2 rfl]
  have e19 : (w2 61 3).toInt = (w 61 3).toInt := by rw [f5 61 3 rfl]
  have e20 : (w2 61 12).toInt = (w 61 12).toInt := by rw [f5 61 12 rfl]
  have e21 : (w2 61 29).toInt = (w 61 29).toInt := by rw [f5 61 29 rfl]
  have e22 : (w2 61 31).toInt = (w 61 31).toInt := by rw [f5 61 31 rfl]
  have M7 : yM w2 := kMoP_kF f5 hMp rfl rfl rfl rfl (fun _ => rfl)
  have S8 : kSl w2 := kSl_kF f5 hSl (fun _ => rfl) (fun _ => rfl) (fun _ => rfl)
  have T10 : ∀ k9 : Nat, w2 1 k9 = w2 63 k9 := fun k9 => ((f5 1 k9 rfl).trans (hTp k9)).trans (f5 63 k9 rfl).symm
  have Q11 : yR (w2 20 10) (w2 2 3) := by rw [f5 20 10 rfl, f5 2 3 rfl]; exact hS
  have O23 : yO (w2 25 2) (w2 25 5) := by rw [f5 25 2 rfl, f5 25 5 rfl]; exact hs0
  have O24 : yO (w2 34 2) (w2 34 5) := by rw [f5 34 2 rfl, f5 34 5 rfl]; exact hs1
  have O25 : yO (w2 43 2) (w2 43 5) := by rw [f5 43 2 rfl, f5 43 5 rfl]; exact hs2
  have O26 : yO (w2 52 2) (w2 52 5) := by rw [f5 52 2 rfl, f5 52 5 rfl]; exact hs3
  have B12 : yB (w2 20 10) (w2 61 3) := by rw [f5 20 10 rfl, f5 61 3 rfl]; exact hSt
  refine y_pop C 381 rfl (kdec dk_law 232 rfl) rfl ?_
  refine y_aload_n C 382 rfl 2 (kdec dk_law 233 rfl) rfl rfl ?_
  refine y_aload_n C 383 rfl 0 (kdec dk_law 234 rfl) rfl rfl ?_
  refine y_iload_n C 384 rfl 3 (kdec dk_law 235 rfl) rfl rfl ?_
  refine y_iconst C 385 rfl (nI 1) (kdec dk_law 236 rfl) (by first | rfl | decide) ?_
  refine y_iadd C 386 rfl (kdec dk_law 237 rfl) ?_
  refine y_sld C 387 rfl (by omega) (by omega) (kdec dk_law 238 rfl) ?_
  refine y_calli (As := [.int (xs (i + 1))]) (rest := []) C 390 rfl 61 (k_x_peek l D τ ρ σ w2 ((xs (i + 1))) I4) rfl rfl mml_TaleMachineLaw_56 mim_yX10_peek mse_yX10_peek mcd_yX10_peek min_yX10_peek hd_yX10_peek rfl rfl rfl (by decide) rfl (Nat.le_of_ble_eq_true rfl) (kdec dk_law 239 rfl) (by decide) (fun x27 w28 h29 => ?_)
  obtain ⟨I30, f31, p32⟩ := h29
  have e39 : (w28 20 10).toInt = (w2 20 10).toInt := by rw [f31 20 10 rfl]
  have e40 : (w28 2 3).toInt = (w2 2 3).toInt := by rw [f31 2 3 rfl]
  have e41 : (w28 12 1).toInt = (w2 12 1).toInt := by rw [f31 12 1 rfl]
  have e42 : (w28 14 1).toInt = (w2 14 1).toInt := by rw [f31 14 1 rfl]
  have e43 : (w28 0 9).toInt = (w2 0 9).toInt := by rw [f31 0 9 rfl]
  have e44 : (w28 61 2).toInt = (w2 61 2).toInt := by rw [f31 61 2 rfl]
  have e45 : (w28 61 3).toInt = (w2 61 3).toInt := by rw [f31 61 3 rfl]
  have e46 : (w28 61 12).toInt = (w2 61 12).toInt := by rw [f31 61 12 rfl]
  have e47 : (w28 61 29).toInt = (w2 61 29).toInt := by rw [f31 61 29 rfl]
  have e48 : (w28 61 31).toInt = (w2 61 31).toInt := by rw [f31 61 31 rfl]
  have M33 : yM w28 := kMoP_kF f31 M7 rfl rfl rfl rfl (fun _ => rfl)
  have S34 : kSl w28 := kSl_kF f31 S8 (fun _ => rfl) (fun _ => rfl) (fun _ => rfl)
  have T36 : ∀ k9 : Nat, w28 1 k9 = w28 63 k9 := fun k9 => ((f31 1 k9 rfl).trans (T10 k9)).trans (f31 63 k9 rfl).symm
  have Q37 : yR (w28 20 10) (w28 2 3) := by rw [f31 20 10 rfl, f31 2 3 rfl]; exact Q11
  have O49 : yO (w28 25 2) (w28 25 5) := by rw [f31 25 2 rfl, f31 25 5 rfl]; exact O23
  have O50 : yO (w28 34 2) (w28 34 5) := by rw [f31 34 2 rfl, f31 34 5 rfl]; exact O24
  have O51 : yO (w28 43 2) (w28 43 5) := by rw [f31 43 2 rfl, f31 43 5 rfl]; exact O25
  have O52 : yO (w28 52 2) (w28 52 5) := by rw [f31 52 2 rfl, f31 52 5 rfl]; exact O26
  have B38 : yB (w28 20 10) (w28 61 3) := by rw [f31 20 10 rfl, f31 61 3 rfl]; exact B12
  refine y_pop C 391 rfl (kdec dk_law 240 rfl) rfl ?_
  refine y_goto C 555 (kdec dk_law 241 rfl) (by decide) ?_
  exact kont w28 ⟨I30, M33, S34, T36, Q37, by omega, by omega, by omega, by omega, by omega, B38, O49, O50, O51, O52⟩
set_option maxHeartbeats 4000000 in
set_option maxRecDepth 100000 in
theorem law_c394 {p : Program} {l : Launch} {e : Env} {s : State} {m : MethodId} {b Ln : Nat} {xs : Nat → Int32} {below : List Frame} {meth : Method} {c : Code} {Q : State → Prop} {D : va_G} {τ : Nat → ClassId} {ρ σ : Nat → Nat} (C : yC p s m c b Ln xs D τ ρ σ) (hL : Ln ≤ 4608) {i : Nat} (hi : i + 9 ≤ Ln) {w : kw} (hJ : yJ i w) (kont : ∀ w' : kw, yJ (i + 9) w' → yV p l e s m b below meth c Q D τ ρ 87 37057 555 [(0, .ref b), (1, .ref (ρ 0)), (2, .ref (ρ 61)), (3, .int (nI i))] [] w') : yV p l e s m b below meth c Q D τ ρ 87 37057 394 [(0, .ref b), (1, .ref (ρ 0)), (2, .ref (ρ 61)), (3, .int (nI i))] [] w := by
  obtain ⟨hI, hMp, hSl, hTp, hS, hq1, hq2, hq3, hq4, hT, hSt, hs0, hs1, hs2, hs3⟩ := hJ
  refine y_aload_n C 395 rfl 1 (kdec dk_law 242 rfl) rfl rfl ?_
  refine y_aload_n C 396 rfl 0 (kdec dk_law 243 rfl) rfl rfl ?_
  refine y_iload_n C 397 rfl 3 (kdec dk_law 244 rfl) rfl rfl ?_
  refine y_iconst C 398 rfl (nI 1) (kdec dk_law 245 rfl) (by first | rfl | decide) ?_
  refine y_iadd C 399 rfl (kdec dk_law 246 rfl) ?_
  refine y_sld C 400 rfl (by omega) (by omega) (kdec dk_law 247 rfl) ?_
  refine y_aload_n C 401 rfl 0 (kdec dk_law 248 rfl) rfl rfl ?_
  refine y_iload_n C 402 rfl 3 (kdec dk_law 249 rfl) rfl rfl ?_
  refine y_iconst C 403 rfl (nI 2) (kdec dk_law 250 rfl) (by first | rfl | decide) ?_
  refine y_iadd C 404 rfl (kdec dk_law 251 rfl) ?_
  refine y_sld C 405 rfl (by omega) (by omega) (kdec dk_law 252 rfl) ?_
  refine y_if_eq C 408 rfl 412 (kdec dk_law 253 rfl) (by decide) (fun d1 => ?_) (fun d1 => ?_)
  · skip
    refine y_iconst C 413 rfl (nI 0) (kdec dk_law 256 rfl) (by first | rfl | decide) ?_
    refine y_calli (As := [.int (xs (i + 1)), .int (nI 0)]) (rest := []) C 416 rfl 0 (k_m_word l D τ ρ σ w ((xs (i + 1))) ((nI 0)) hI hS) rfl rfl mml_TaleMachineLaw_57 mim_yX9_word mse_yX9_word mcd_yX9_word min_yX9_word hd_yX9_word rfl rfl rfl (by decide) rfl (Nat.le_of_ble_eq_true rfl) (kdec dk_law 257 rfl) (by decide) (fun x2 w3 h4 => ?_)
    obtain ⟨I5, f6, p7⟩ := h4
    have e14 : (w3 20 10).toInt = (w 20 10).toInt := by rw [f6 20 10 rfl]
    have e15 : (w3 2 3).toInt = (w 2 3).toInt := by rw [f6 2 3 rfl]
    have e16 : (w3 12 1).toInt = (w 12 1).toInt := by rw [f6 12 1 rfl]
    have e17 : (w3 14 1).toInt = (w 14 1).toInt := by rw [f6 14 1 rfl]
    have e18 : (w3 0 9).toInt = (w 0 9).toInt := by rw [f6 0 9 rfl]
    have e19 : (w3 61 2).toInt = (w 61 2).toInt := by rw [f6 61 2 rfl]
    have e20 : (w3 61 3).toInt = (w 61 3).toInt := by rw [f6 61 3 rfl]
    have e21 : (w3 61 12).toInt = (w 61 12).toInt := by rw [f6 61 12 rfl]
    have e22 : (w3 61 29).toInt = (w 61 29).toInt := by rw [f6 61 29 rfl]
    have e23 : (w3 61 31).toInt = (w 61 31).toInt := by rw [f6 61 31 rfl]
    have M8 : yM w3 := kMoP_kF f6 hMp rfl rfl rfl rfl (fun _ => rfl)
    have S9 : kSl w3 := kSl_kF f6 hSl (fun _ => rfl) (fun _ => rfl) (fun _ => rfl)
    have T11 : ∀ k9 : Nat, w3 1 k9 = w3 63 k9 := fun k9 => ((f6 1 k9 rfl).trans (hTp k9)).trans (f6 63 k9 rfl).symm
    have Q12 : yR (w3 20 10) (w3 2 3) := by rw [f6 20 10 rfl, f6 2 3 rfl]; exact hS
    have O24 : yO (w3 25 2) (w3 25 5) := by rw [f6 25 2 rfl, f6 25 5 rfl]; exact hs0
    have O25 : yO (w3 34 2) (w3 34 5) := by rw [f6 34 2 rfl, f6 34 5 rfl]; exact hs1
    have O26 : yO (w3 43 2) (w3 43 5) := by rw [f6 43 2 rfl, f6 43 5 rfl]; exact hs2
    have O27 : yO (w3 52 2) (w3 52 5) := by rw [f6 52 2 rfl, f6 52 5 rfl]; exact hs3
    have B13 : yB (w3 20 10) (w3 61 3) := by rw [f6 20 10 rfl, f6 61 3 rfl]; exact hSt
    refine y_pop C 417 rfl (kdec dk_law 258 rfl) rfl ?_
    refine y_aload_n C 418 rfl 2 (kdec dk_law 259 rfl) rfl rfl ?_
    refine y_aload_n C 419 rfl 0 (kdec dk_law 260 rfl) rfl rfl ?_
    refine y_iload_n C 420 rfl 3 (kdec dk_law 261 rfl) rfl rfl ?_
    refine y_iconst C 421 rfl (nI 1) (kdec dk_law 262 rfl) (by first | rfl | decide) ?_
    refine y_iadd C 422 rfl (kdec dk_law 263 rfl) ?_
    refine y_sld C 423 rfl (by omega) (by omega) (kdec dk_law 264 rfl) ?_
    refine y_aload_n C 424 rfl 0 (kdec dk_law 265 rfl) rfl rfl ?_
    refine y_iload_n C 425 rfl 3 (kdec dk_law 266 rfl) rfl rfl ?_
    refine y_iconst C 426 rfl (nI 2) (kdec dk_law 267 rfl) (by first | rfl | decide) ?_
    refine y_iadd C 427 rfl (kdec dk_law 268 rfl) ?_
    refine y_sld C 428 rfl (by omega) (by omega) (kdec dk_law 269 rfl) ?_
    refine y_if_eq C 431 rfl 435 (kdec dk_law 270 rfl) (by decide) (fun d28 => ?_) (fun d28 => ?_)
    · skip
      refine y_iconst C 436 rfl (nI 0) (kdec dk_law 273 rfl) (by first | rfl | decide) ?_
      refine y_calli (As := [.int (xs (i + 1)), .int (nI 0)]) (rest := []) C 439 rfl 61 (k_x_word l D τ ρ σ w3 ((xs (i + 1))) ((nI 0)) I5 M8) rfl rfl mml_TaleMachineLaw_61 mim_yX10_word mse_yX10_word mcd_yX10_word min_yX10_word hd_yX10_word rfl rfl rfl (by decide) rfl (Nat.le_of_ble_eq_true rfl) (kdec dk_law 274 rfl) (by decide) (fun x29 w30 h31 => ?_)
      obtain ⟨I32, f33, p34⟩ := h31
      have e41 : (w30 20 10).toInt = (w3 20 10).toInt := by rw [f33 20 10 rfl]
      have e42 : (w30 2 3).toInt = (w3 2 3).toInt := by rw [f33 2 3 rfl]
      have e43 : (w30 12 1).toInt = (w3 12 1).toInt := by rw [f33 12 1 rfl]
      have e44 : (w30 14 1).toInt = (w3 14 1).toInt := by rw [f33 14 1 rfl]
      have e45 : (w30 0 9).toInt = (w3 0 9).toInt := by rw [f33 0 9 rfl]
      have e46 : (w30 61 2).toInt = (w3 61 2).toInt := by rw [f33 61 2 rfl]
      have e47 : (w30 61 3).toInt = (w3 61 3).toInt := by rw [f33 61 3 rfl]
      have e48 : (w30 61 12).toInt = (w3 61 12).toInt := by rw [f33 61 12 rfl]
      have e49 : (w30 61 29).toInt = (w3 61 29).toInt := by rw [f33 61 29 rfl]
      have e50 : (w30 61 31).toInt = (w3 61 31).toInt := by rw [f33 61 31 rfl]
      have M35 : yM w30 := kMoP_kF f33 M8 rfl rfl rfl rfl (fun _ => rfl)
      have S36 : kSl w30 := kSl_kF f33 S9 (fun _ => rfl) (fun _ => rfl) (fun _ => rfl)
      have T38 : ∀ k9 : Nat, w30 1 k9 = w30 63 k9 := fun k9 => ((f33 1 k9 rfl).trans (T11 k9)).trans (f33 63 k9 rfl).symm
      have Q39 : yR (w30 20 10) (w30 2 3) := by rw [f33 20 10 rfl, f33 2 3 rfl]; exact Q12
      have O51 : yO (w30 25 2) (w30 25 5) := by rw [f33 25 2 rfl, f33 25 5 rfl]; exact O24
      have O52 : yO (w30 34 2) (w30 34 5) := by rw [f33 34 2 rfl, f33 34 5 rfl]; exact O25
      have O53 : yO (w30 43 2) (w30 43 5) := by rw [f33 43 2 rfl, f33 43 5 rfl]; exact O26
      have O54 : yO (w30 52 2) (w30 52 5) := by rw [f33 52 2 rfl, f33 52 5 rfl]; exact O27
      have B40 : yB (w30 20 10) (w30 61 3) := by rw [f33 20 10 rfl, f33 61 3 rfl]; exact B13
      refine y_pop C 440 rfl (kdec dk_law 275 rfl) rfl ?_
      refine y_goto C 555 (kdec dk_law 276 rfl) (by decide) ?_
      exact kont w30 ⟨I32, M35, S36, T38, Q39, by omega, by omega, by omega, by omega, by omega, B40, O51, O52, O53, O54⟩
    · exact absurd d1 d28
  · skip
    refine y_iconst C 409 rfl (nI 1) (kdec dk_law 254 rfl) (by first | rfl | decide) ?_
    refine y_goto C 413 (kdec dk_law 255 rfl) (by decide) ?_
    refine y_calli (As := [.int (xs (i + 1)), .int (nI 1)]) (rest := []) C 416 rfl 0 (k_m_word l D τ ρ σ w ((xs (i + 1))) ((nI 1)) hI hS) rfl rfl mml_TaleMachineLaw_57 mim_yX9_word mse_yX9_word mcd_yX9_word min_yX9_word hd_yX9_word rfl rfl rfl (by decide) rfl (Nat.le_of_ble_eq_true rfl) (kdec dk_law 257 rfl) (by decide) (fun x55 w56 h57 => ?_)
    obtain ⟨I58, f59, p60⟩ := h57
    have e67 : (w56 20 10).toInt = (w 20 10).toInt := by rw [f59 20 10 rfl]
    have e68 : (w56 2 3).toInt = (w 2 3).toInt := by rw [f59 2 3 rfl]
    have e69 : (w56 12 1).toInt = (w 12 1).toInt := by rw [f59 12 1 rfl]
    have e70 : (w56 14 1).toInt = (w 14 1).toInt := by rw [f59 14 1 rfl]
    have e71 : (w56 0 9).toInt = (w 0 9).toInt := by rw [f59 0 9 rfl]
    have e72 : (w56 61 2).toInt = (w 61 2).toInt := by rw [f59 61 2 rfl]
    have e73 : (w56 61 3).toInt = (w 61 3).toInt := by rw [f59 61 3 rfl]
    have e74 : (w56 61 12).toInt = (w 61 12).toInt := by rw [f59 61 12 rfl]
    have e75 : (w56 61 29).toInt = (w 61 29).toInt := by rw [f59 61 29 rfl]
    have e76 : (w56 61 31).toInt = (w 61 31).toInt := by rw [f59 61 31 rfl]
    have M61 : yM w56 := kMoP_kF f59 hMp rfl rfl rfl rfl (fun _ => rfl)
    have S62 : kSl w56 := kSl_kF f59 hSl (fun _ => rfl) (fun _ => rfl) (fun _ => rfl)
    have T64 : ∀ k9 : Nat, w56 1 k9 = w56 63 k9 := fun k9 => ((f59 1 k9 rfl).trans (hTp k9)).trans (f59 63 k9 rfl).symm
    have Q65 : yR (w56 20 10) (w56 2 3) := by rw [f59 20 10 rfl, f59 2 3 rfl]; exact hS
    have O77 : yO (w56 25 2) (w56 25 5) := by rw [f59 25 2 rfl, f59 25 5 rfl]; exact hs0
    have O78 : yO (w56 34 2) (w56 34 5) := by rw [f59 34 2 rfl, f59 34 5 rfl]; exact hs1
    have O79 : yO (w56 43 2) (w56 43 5) := by rw [f59 43 2 rfl, f59 43 5 rfl]; exact hs2
    have O80 : yO (w56 52 2) (w56 52 5) := by rw [f59 52 2 rfl, f59 52 5 rfl]; exact hs3
    have B66 : yB (w56 20 10) (w56 61 3) := by rw [f59 20 10 rfl, f59 61 3 rfl]; exact hSt
    refine y_pop C 417 rfl (kdec dk_law 258 rfl) rfl ?_
    refine y_aload_n C 418 rfl 2 (kdec dk_law 259 rfl) rfl rfl ?_
    refine y_aload_n C 419 rfl 0 (kdec dk_law 260 rfl) rfl rfl ?_
    refine y_iload_n C 420 rfl 3 (kdec dk_law 261 rfl) rfl rfl ?_
    refine y_iconst C 421 rfl (nI 1) (kdec dk_law 262 rfl) (by first | rfl | decide) ?_
    refine y_iadd C 422 rfl (kdec dk_law 263 rfl) ?_
    refine y_sld C 423 rfl (by omega) (by omega) (kdec dk_law 264 rfl) ?_
    refine y_aload_n C 424 rfl 0 (kdec dk_law 265 rfl) rfl rfl ?_
    refine y_iload_n C 425 rfl 3 (kdec dk_law 266 rfl) rfl rfl ?_
    refine y_iconst C 426 rfl (nI 2) (kdec dk_law 267 rfl) (by first | rfl | decide) ?_
    refine y_iadd C 427 rfl (kdec dk_law 268 rfl) ?_
    refine y_sld C 428 rfl (by omega) (by omega) (kdec dk_law 269 rfl) ?_
    refine y_if_eq C 431 rfl 435 (kdec dk_law 270 rfl) (by decide) (fun d81 => ?_) (fun d81 => ?_)
    · exact absurd d81 d1
    · skip
      refine y_iconst C 432 rfl (nI 1) (kdec dk_law 271 rfl) (by first | rfl | decide) ?_
      refine y_goto C 436 (kdec dk_law 272 rfl) (by decide) ?_
      refine y_calli (As := [.int (xs (i + 1)), .int (nI 1)]) (rest := []) C 439 rfl 61 (k_x_word l D τ ρ σ w56 ((xs (i + 1))) ((nI 1)) I58 M61) rfl rfl mml_TaleMachineLaw_61 mim_yX10_word mse_yX10_word mcd_yX10_word min_yX10_word hd_yX10_word rfl rfl rfl (by decide) rfl (Nat.le_of_ble_eq_true rfl) (kdec dk_law 274 rfl) (by decide) (fun x82 w83 h84 => ?_)
      obtain ⟨I85, f86, p87⟩ := h84
      have e94 : (w83 20 10).toInt = (w56 20 10).toInt := by rw [f86 20 10 rfl]
      have e95 : (w83 2 3).toInt = (w56 2 3).toInt := by rw [f86 2 3 rfl]
      have e96 : (w83 12 1).toInt = (w56 12 1).toInt := by rw [f86 12 1 rfl]
      have e97 : (w83 14 1).toInt = (w56 14 1).toInt := by rw [f86 14 1 rfl]
      have e98 : (w83 0 9).toInt = (w56 0 9).toInt := by rw [f86 0 9 rfl]
      have e99 : (w83 61 2).toInt = (w56 61 2).toInt := by rw [f86 61 2 rfl]
      have e100 : (w83 61 3).toInt = (w56 61 3).toInt := by rw [f86 61 3 rfl]
      have e101 : (w83 61 12).toInt = (w56 61 12).toInt := by rw [f86 61 12 rfl]
      have e102 : (w83 61 29).toInt = (w56 61 29).toInt := by rw [f86 61 29 rfl]
      have e103 : (w83 61 31).toInt = (w56 61 31).toInt := by rw [f86 61 31 rfl]
      have M88 : yM w83 := kMoP_kF f86 M61 rfl rfl rfl rfl (fun _ => rfl)
      have S89 : kSl w83 := kSl_kF f86 S62 (fun _ => rfl) (fun _ => rfl) (fun _ => rfl)
      have T91 : ∀ k9 : Nat, w83 1 k9 = w83 63 k9 := fun k9 => ((f86 1 k9 rfl).trans (T64 k9)).trans (f86 63 k9 rfl).symm
      have Q92 : yR (w83 20 10) (w83 2 3) := by rw [f86 20 10 rfl, f86 2 3 rfl]; exact Q65
      have O104 : yO (w83 25 2) (w83 25 5) := by rw [f86 25 2 rfl, f86 25 5 rfl]; exact O77
      have O105 : yO (w83 34 2) (w83 34 5) := by rw [f86 34 2 rfl, f86 34 5 rfl]; exact O78
      have O106 : yO (w83 43 2) (w83 43 5) := by rw [f86 43 2 rfl, f86 43 5 rfl]; exact O79
      have O107 : yO (w83 52 2) (w83 52 5) := by rw [f86 52 2 rfl, f86 52 5 rfl]; exact O80
      have B93 : yB (w83 20 10) (w83 61 3) := by rw [f86 20 10 rfl, f86 61 3 rfl]; exact B66
      refine y_pop C 440 rfl (kdec dk_law 275 rfl) rfl ?_
      refine y_goto C 555 (kdec dk_law 276 rfl) (by decide) ?_
      exact kont w83 ⟨I85, M88, S89, T91, Q92, by omega, by omega, by omega, by omega, by omega, B93, O104, O105, O106, O107⟩
set_option maxHeartbeats 4000000 in
set_option maxRecDepth 100000 in
theorem law_c443 {p : Program} {l : Launch} {e : Env} {s : State} {m : MethodId} {b Ln : Nat} {xs : Nat → Int32} {below : List Frame} {meth : Method} {c : Code} {Q : State → Prop} {D : va_G} {τ : Nat → ClassId} {ρ σ : Nat → Nat} (C : yC p s m c b Ln xs D τ ρ σ) (hL : Ln ≤ 4608) {i : Nat} (hi : i + 9 ≤ Ln) {w : kw} (hJ : yJ i w) (kont : ∀ w' : kw, yJ (i + 9) w' → yV p l e s m b below meth c Q D τ ρ 87 37057 555 [(0, .ref b), (1, .ref (ρ 0)), (2, .ref (ρ 61)), (3, .int (nI i))] [] w') : yV p l e s m b below meth c Q D τ ρ 87 37057 443 [(0, .ref b), (1, .ref (ρ 0)), (2, .ref (ρ 61)), (3, .int (nI i))] [] w := by
  obtain ⟨hI, hMp, hSl, hTp, hS, hq1, hq2, hq3, hq4, hT, hSt, hs0, hs1, hs2, hs3⟩ := hJ
  refine y_aload_n C 444 rfl 1 (kdec dk_law 277 rfl) rfl rfl ?_
  refine y_aload_n C 445 rfl 0 (kdec dk_law 278 rfl) rfl rfl ?_
  refine y_iload_n C 446 rfl 3 (kdec dk_law 279 rfl) rfl rfl ?_
  refine y_iconst C 447 rfl (nI 1) (kdec dk_law 280 rfl) (by first | rfl | decide) ?_
  refine y_iadd C 448 rfl (kdec dk_law 281 rfl) ?_
  refine y_sld C 449 rfl (by omega) (by omega) (kdec dk_law 282 rfl) ?_
  refine y_aload_n C 450 rfl 0 (kdec dk_law 283 rfl) rfl rfl ?_
  refine y_iload_n C 451 rfl 3 (kdec dk_law 284 rfl) rfl rfl ?_
  refine y_iconst C 452 rfl (nI 2) (kdec dk_law 285 rfl) (by first | rfl | decide) ?_
  refine y_iadd C 453 rfl (kdec dk_law 286 rfl) ?_
  refine y_sld C 454 rfl (by omega) (by omega) (kdec dk_law 287 rfl) ?_
  refine y_calli (As := [.int (xs (i + 1)), .int (xs (i + 2))]) (rest := []) C 457 rfl 0 (k_m_text l D τ ρ σ w ((xs (i + 1))) ((xs (i + 2))) hI hS (by omega)) rfl rfl mml_TaleMachineLaw_62 mim_yX9_text mse_yX9_text mcd_yX9_text min_yX9_text hd_yX9_text rfl rfl rfl (by decide) rfl (Nat.le_of_ble_eq_true rfl) (kdec dk_law 288 rfl) (by decide) (fun x1 w2 h3 => ?_)
  obtain ⟨I4, f5, p6, p7, p8⟩ := h3
  have e15 : (w2 20 10).toInt = (w 20 10).toInt := by rw [f5 20 10 rfl]
  have e16 : (w2 2 3).toInt = (w 2 3).toInt := by rw [f5 2 3 rfl]
  have e17 : (w2 0 9).toInt = (w 0 9).toInt := by rw [f5 0 9 rfl]
  have e18 : (w2 61 2).toInt = (w 61 2).toInt := by rw [f5 61 2 rfl]
  have e19 : (w2 61 3).toInt = (w 61 3).toInt := by rw [f5 61 3 rfl]
  have e20 : (w2 61 12).toInt = (w 61 12).toInt := by rw [f5 61 12 rfl]
  have e21 : (w2 61 29).toInt = (w 61 29).toInt := by rw [f5 61 29 rfl]
  have e22 : (w2 61 31).toInt = (w 61 31).toInt := by rw [f5 61 31 rfl]
  have M9 : yM w2 := kMoP_kF f5 hMp rfl rfl rfl rfl (fun _ => rfl)
  have S10 : kSl w2 := kSl_kF f5 hSl (fun _ => rfl) (fun _ => rfl) (fun _ => rfl)
  have T12 : ∀ k9 : Nat, w2 1 k9 = w2 63 k9 := fun k9 => ((f5 1 k9 rfl).trans (hTp k9)).trans (f5 63 k9 rfl).symm
  have Q13 : yR (w2 20 10) (w2 2 3) := p6
  have O23 : yO (w2 25 2) (w2 25 5) := by rw [f5 25 2 rfl, f5 25 5 rfl]; exact hs0
  have O24 : yO (w2 34 2) (w2 34 5) := by rw [f5 34 2 rfl, f5 34 5 rfl]; exact hs1
  have O25 : yO (w2 43 2) (w2 43 5) := by rw [f5 43 2 rfl, f5 43 5 rfl]; exact hs2
  have O26 : yO (w2 52 2) (w2 52 5) := by rw [f5 52 2 rfl, f5 52 5 rfl]; exact hs3
  have B14 : yB (w2 20 10) (w2 61 3) := by rw [f5 20 10 rfl, f5 61 3 rfl]; exact hSt
  clear p6
  refine y_pop C 458 rfl (kdec dk_law 289 rfl) rfl ?_
  refine y_aload_n C 459 rfl 2 (kdec dk_law 290 rfl) rfl rfl ?_
  refine y_aload_n C 460 rfl 0 (kdec dk_law 291 rfl) rfl rfl ?_
  refine y_iload_n C 461 rfl 3 (kdec dk_law 292 rfl) rfl rfl ?_
  refine y_iconst C 462 rfl (nI 1) (kdec dk_law 293 rfl) (by first | rfl | decide) ?_
  refine y_iadd C 463 rfl (kdec dk_law 294 rfl) ?_
  refine y_sld C 464 rfl (by omega) (by omega) (kdec dk_law 295 rfl) ?_
  refine y_aload_n C 465 rfl 0 (kdec dk_law 296 rfl) rfl rfl ?_
  refine y_iload_n C 466 rfl 3 (kdec dk_law 297 rfl) rfl rfl ?_
  refine y_iconst C 467 rfl (nI 2) (kdec dk_law 298 rfl) (by first | rfl | decide) ?_
  refine y_iadd C 468 rfl (kdec dk_law 299 rfl) ?_
  refine y_sld C 469 rfl (by omega) (by omega) (kdec dk_law 300 rfl) ?_
  refine y_calli (As := [.int (xs (i + 1)), .int (xs (i + 2))]) (rest := []) C 472 rfl 61 (k_x_text l D τ ρ σ w2 ((xs (i + 1))) ((xs (i + 2))) I4 (by omega)) rfl rfl mml_TaleMachineLaw_65 mim_yX10_text mse_yX10_text mcd_yX10_text min_yX10_text hd_yX10_text rfl rfl rfl (by decide) rfl (Nat.le_of_ble_eq_true rfl) (kdec dk_law 301 rfl) (by decide) (fun x27 w28 h29 => ?_)
  obtain ⟨I30, f31, p32, p33⟩ := h29
  have e40 : (w28 20 10).toInt = (w2 20 10).toInt := by rw [f31 20 10 rfl]
  have e41 : (w28 2 3).toInt = (w2 2 3).toInt := by rw [f31 2 3 rfl]
  have e42 : (w28 12 1).toInt = (w2 12 1).toInt := by rw [f31 12 1 rfl]
  have e43 : (w28 14 1).toInt = (w2 14 1).toInt := by rw [f31 14 1 rfl]
  have e44 : (w28 0 9).toInt = (w2 0 9).toInt := by rw [f31 0 9 rfl]
  have e45 : (w28 61 2).toInt = (w2 61 2).toInt := by rw [f31 61 2 rfl]
  have e46 : (w28 61 3).toInt = (w2 61 3).toInt := by rw [f31 61 3 rfl]
  have e47 : (w28 61 12).toInt = (w2 61 12).toInt := by rw [f31 61 12 rfl]
  have M34 : yM w28 := kMoP_kF f31 M9 rfl rfl rfl rfl (fun _ => rfl)
  have S35 : kSl w28 := kSl_kF f31 S10 (fun _ => rfl) (fun _ => rfl) (fun _ => rfl)
  have T37 : ∀ k9 : Nat, w28 1 k9 = w28 63 k9 := fun k9 => ((f31 1 k9 rfl).trans (T12 k9)).trans (f31 63 k9 rfl).symm
  have Q38 : yR (w28 20 10) (w28 2 3) := by rw [f31 20 10 rfl, f31 2 3 rfl]; exact Q13
  have O48 : yO (w28 25 2) (w28 25 5) := by rw [f31 25 2 rfl, f31 25 5 rfl]; exact O23
  have O49 : yO (w28 34 2) (w28 34 5) := by rw [f31 34 2 rfl, f31 34 5 rfl]; exact O24
  have O50 : yO (w28 43 2) (w28 43 5) := by rw [f31 43 2 rfl, f31 43 5 rfl]; exact O25
  have O51 : yO (w28 52 2) (w28 52 5) := by rw [f31 52 2 rfl, f31 52 5 rfl]; exact O26
  have B39 : yB (w28 20 10) (w28 61 3) := by rw [f31 20 10 rfl, f31 61 3 rfl]; exact B14
  refine y_pop C 473 rfl (kdec dk_law 302 rfl) rfl ?_
  refine y_goto C 555 (kdec dk_law 303 rfl) (by decide) ?_
  exact kont w28 ⟨I30, M34, S35, T37, Q38, by omega, by omega, by omega, by omega, by omega, B39, O48, O49, O50, O51⟩
set_option maxHeartbeats 4000000 in
set_option maxRecDepth 100000 in
theorem law_c476 {p : Program} {l : Launch} {e : Env} {s : State} {m : MethodId} {b Ln : Nat} {xs : Nat → Int32} {below : List Frame} {meth : Method} {c : Code} {Q : State → Prop} {D : va_G} {τ : Nat → ClassId} {ρ σ : Nat → Nat} (C : yC p s m c b Ln xs D τ ρ σ) (hL : Ln ≤ 4608) {i : Nat} (hi : i + 9 ≤ Ln) {w : kw} (hJ : yJ i w) (kont : ∀ w' : kw, yJ (i + 9) w' → yV p l e s m b below meth c Q D τ ρ 87 37057 555 [(0, .ref b), (1, .ref (ρ 0)), (2, .ref (ρ 61)), (3, .int (nI i))] [] w') : yV p l e s m b below meth c Q D τ ρ 87 37057 476 [(0, .ref b), (1, .ref (ρ 0)), (2, .ref (ρ 61)), (3, .int (nI i))] [] w := by
  obtain ⟨hI, hMp, hSl, hTp, hS, hq1, hq2, hq3, hq4, hT, hSt, hs0, hs1, hs2, hs3⟩ := hJ
  refine y_aload_n C 477 rfl 1 (kdec dk_law 304 rfl) rfl rfl ?_
  refine y_aload_n C 478 rfl 0 (kdec dk_law 305 rfl) rfl rfl ?_
  refine y_iload_n C 479 rfl 3 (kdec dk_law 306 rfl) rfl rfl ?_
  refine y_iconst C 480 rfl (nI 1) (kdec dk_law 307 rfl) (by first | rfl | decide) ?_
  refine y_iadd C 481 rfl (kdec dk_law 308 rfl) ?_
  refine y_sld C 482 rfl (by omega) (by omega) (kdec dk_law 309 rfl) ?_
  refine y_calli (As := [.int (xs (i + 1))]) (rest := []) C 485 rfl 0 (k_m_save l D τ ρ σ w ((xs (i + 1))) hI hS hs0 hs1 hs2 hs3) rfl rfl mml_TaleMachineLaw_66 mim_yX9_save mse_yX9_save mcd_yX9_save min_yX9_save hd_yX9_save rfl rfl rfl (by decide) rfl (Nat.le_of_ble_eq_true rfl) (kdec dk_law 310 rfl) (by decide) (fun x1 w2 h3 => ?_)
  obtain ⟨I4, f5, p6, p7, p8, p9, p10, p11⟩ := h3
  have e18 : (w2 20 10).toInt = (w 20 10).toInt := by rw [f5 20 10 rfl]
  have e19 : (w2 2 3).toInt = (w 2 3).toInt := by rw [f5 2 3 rfl]
  have e20 : (w2 12 1).toInt = (w 12 1).toInt := by rw [f5 12 1 rfl]
  have e21 : (w2 14 1).toInt = (w 14 1).toInt := by rw [f5 14 1 rfl]
  have e22 : (w2 0 9).toInt = (w 0 9).toInt := by rw [f5 0 9 rfl]
  have e23 : (w2 61 2).toInt = (w 61 2).toInt := by rw [f5 61 2 rfl]
  have e24 : (w2 61 3).toInt = (w 61 3).toInt := by rw [f5 61 3 rfl]
  have e25 : (w2 61 12).toInt = (w 61 12).toInt := by rw [f5 61 12 rfl]
  have e26 : (w2 61 29).toInt = (w 61 29).toInt := by rw [f5 61 29 rfl]
  have e27 : (w2 61 31).toInt = (w 61 31).toInt := by rw [f5 61 31 rfl]
  have M12 : yM w2 := kMoP_kF f5 hMp rfl rfl rfl rfl (fun _ => rfl)
  have S13 : kSl w2 := kSl_kF f5 hSl (fun _ => rfl) (fun _ => rfl) (fun _ => rfl)
  have T15 : ∀ k9 : Nat, w2 1 k9 = w2 63 k9 := fun k9 => ((f5 1 k9 rfl).trans (hTp k9)).trans (f5 63 k9 rfl).symm
  have Q16 : yR (w2 20 10) (w2 2 3) := p6
  have O28 : yO (w2 25 2) (w2 25 5) := p8
  have O29 : yO (w2 34 2) (w2 34 5) := p9
  have O30 : yO (w2 43 2) (w2 43 5) := p10
  have O31 : yO (w2 52 2) (w2 52 5) := p11
  have B17 : yB (w2 20 10) (w2 61 3) := by rw [f5 20 10 rfl, f5 61 3 rfl]; exact hSt
  clear p6 p8 p9 p10 p11
  refine y_pop C 486 rfl (kdec dk_law 311 rfl) rfl ?_
  refine y_aload_n C 487 rfl 2 (kdec dk_law 312 rfl) rfl rfl ?_
  refine y_aload_n C 488 rfl 0 (kdec dk_law 313 rfl) rfl rfl ?_
  refine y_iload_n C 489 rfl 3 (kdec dk_law 314 rfl) rfl rfl ?_
  refine y_iconst C 490 rfl (nI 1) (kdec dk_law 315 rfl) (by first | rfl | decide) ?_
  refine y_iadd C 491 rfl (kdec dk_law 316 rfl) ?_
  refine y_sld C 492 rfl (by omega) (by omega) (kdec dk_law 317 rfl) ?_
  refine y_calli (As := [.int (xs (i + 1))]) (rest := []) C 495 rfl 61 (k_x_save l D τ ρ σ w2 ((xs (i + 1))) I4 M12 S13) rfl rfl mml_TaleMachineLaw_69 mim_yX10_save mse_yX10_save mcd_yX10_save min_yX10_save hd_yX10_save rfl rfl rfl (by decide) rfl (Nat.le_of_ble_eq_true rfl) (kdec dk_law 318 rfl) (by decide) (fun x32 w33 h34 => ?_)
  obtain ⟨I35, f36, p37, M38a, S39⟩ := h34
  have e44 : (w33 20 10).toInt = (w2 20 10).toInt := by rw [f36 20 10 rfl]
  have e45 : (w33 2 3).toInt = (w2 2 3).toInt := by rw [f36 2 3 rfl]
  have e46 : (w33 12 1).toInt = (w2 12 1).toInt := by rw [f36 12 1 rfl]
  have e47 : (w33 14 1).toInt = (w2 14 1).toInt := by rw [f36 14 1 rfl]
  have e48 : (w33 0 9).toInt = (w2 0 9).toInt := by rw [f36 0 9 rfl]
  have e49 : (w33 61 2).toInt = (w2 61 2).toInt := by rw [f36 61 2 rfl]
  have e50 : (w33 61 3).toInt = (w2 61 3).toInt := by rw [f36 61 3 rfl]
  have e51 : (w33 61 12).toInt = (w2 61 12).toInt := by rw [f36 61 12 rfl]
  have e52 : (w33 61 29).toInt = (w2 61 29).toInt := by rw [f36 61 29 rfl]
  have e53 : (w33 61 31).toInt = (w2 61 31).toInt := by rw [f36 61 31 rfl]
  have M38 : yM w33 := M38a
  have T41 : ∀ k9 : Nat, w33 1 k9 = w33 63 k9 := fun k9 => ((f36 1 k9 rfl).trans (T15 k9)).trans (f36 63 k9 rfl).symm
  have Q42 : yR (w33 20 10) (w33 2 3) := by rw [f36 20 10 rfl, f36 2 3 rfl]; exact Q16
  have O54 : yO (w33 25 2) (w33 25 5) := by rw [f36 25 2 rfl, f36 25 5 rfl]; exact O28
  have O55 : yO (w33 34 2) (w33 34 5) := by rw [f36 34 2 rfl, f36 34 5 rfl]; exact O29
  have O56 : yO (w33 43 2) (w33 43 5) := by rw [f36 43 2 rfl, f36 43 5 rfl]; exact O30
  have O57 : yO (w33 52 2) (w33 52 5) := by rw [f36 52 2 rfl, f36 52 5 rfl]; exact O31
  have B43 : yB (w33 20 10) (w33 61 3) := by rw [f36 20 10 rfl, f36 61 3 rfl]; exact B17
  clear M38a
  refine y_pop C 496 rfl (kdec dk_law 319 rfl) rfl ?_
  refine y_goto C 555 (kdec dk_law 320 rfl) (by decide) ?_
  exact kont w33 ⟨I35, M38, S39, T41, Q42, by omega, by omega, by omega, by omega, by omega, B43, O54, O55, O56, O57⟩
set_option maxHeartbeats 4000000 in
set_option maxRecDepth 100000 in
theorem law_c499 {p : Program} {l : Launch} {e : Env} {s : State} {m : MethodId} {b Ln : Nat} {xs : Nat → Int32} {below : List Frame} {meth : Method} {c : Code} {Q : State → Prop} {D : va_G} {τ : Nat → ClassId} {ρ σ : Nat → Nat} (C : yC p s m c b Ln xs D τ ρ σ) (hL : Ln ≤ 4608) {i : Nat} (hi : i + 9 ≤ Ln) {w : kw} (hJ : yJ i w) (kont : ∀ w' : kw, yJ (i + 9) w' → yV p l e s m b below meth c Q D τ ρ 87 37057 555 [(0, .ref b), (1, .ref (ρ 0)), (2, .ref (ρ 61)), (3, .int (nI i))] [] w') : yV p l e s m b below meth c Q D τ ρ 87 37057 499 [(0, .ref b), (1, .ref (ρ 0)), (2, .ref (ρ 61)), (3, .int (nI i))] [] w := by
  obtain ⟨hI, hMp, hSl, hTp, hS, hq1, hq2, hq3, hq4, hT, hSt, hs0, hs1, hs2, hs3⟩ := hJ
  refine y_aload_n C 500 rfl 1 (kdec dk_law 321 rfl) rfl rfl ?_
  refine y_aload_n C 501 rfl 0 (kdec dk_law 322 rfl) rfl rfl ?_
  refine y_iload_n C 502 rfl 3 (kdec dk_law 323 rfl) rfl rfl ?_
  refine y_iconst C 503 rfl (nI 1) (kdec dk_law 324 rfl) (by first | rfl | decide) ?_
  refine y_iadd C 504 rfl (kdec dk_law 325 rfl) ?_
  refine y_sld C 505 rfl (by omega) (by omega) (kdec dk_law 326 rfl) ?_
  refine y_calli (As := [.int (xs (i + 1))]) (rest := []) C 508 rfl 0 (k_m_restore l D τ ρ σ w ((xs (i + 1))) hI hS hs0 hs1 hs2 hs3) rfl rfl mml_TaleMachineLaw_70 mim_yX9_restore mse_yX9_restore mcd_yX9_restore min_yX9_restore hd_yX9_restore rfl rfl rfl (by decide) rfl (Nat.le_of_ble_eq_true rfl) (kdec dk_law 327 rfl) (by decide) (fun x1 w2 h3 => ?_)
  obtain ⟨I4, f5, p6, p7, p8⟩ := h3
  have e15 : (w2 2 3).toInt = (w 2 3).toInt := by rw [f5 2 3 rfl]
  have e16 : (w2 12 1).toInt = (w 12 1).toInt := by rw [f5 12 1 rfl]
  have e17 : (w2 14 1).toInt = (w 14 1).toInt := by rw [f5 14 1 rfl]
  have e18 : (w2 0 9).toInt = (w 0 9).toInt := by rw [f5 0 9 rfl]
  have e19 : (w2 61 2).toInt = (w 61 2).toInt := by rw [f5 61 2 rfl]
  have e20 : (w2 61 3).toInt = (w 61 3).toInt := by rw [f5 61 3 rfl]
  have e21 : (w2 61 12).toInt = (w 61 12).toInt := by rw [f5 61 12 rfl]
  have e22 : (w2 61 29).toInt = (w 61 29).toInt := by rw [f5 61 29 rfl]
  have e23 : (w2 61 31).toInt = (w 61 31).toInt := by rw [f5 61 31 rfl]
  have M9 : yM w2 := kMoP_kF f5 hMp rfl rfl rfl rfl (fun _ => rfl)
  have S10 : kSl w2 := kSl_kF f5 hSl (fun _ => rfl) (fun _ => rfl) (fun _ => rfl)
  have T12 : ∀ k9 : Nat, w2 1 k9 = w2 63 k9 := fun k9 => ((f5 1 k9 rfl).trans (hTp k9)).trans (f5 63 k9 rfl).symm
  have Q13 : yR (w2 20 10) (w2 2 3) := p6
  have O24 : yO (w2 25 2) (w2 25 5) := by rw [f5 25 2 rfl, f5 25 5 rfl]; exact hs0
  have O25 : yO (w2 34 2) (w2 34 5) := by rw [f5 34 2 rfl, f5 34 5 rfl]; exact hs1
  have O26 : yO (w2 43 2) (w2 43 5) := by rw [f5 43 2 rfl, f5 43 5 rfl]; exact hs2
  have O27 : yO (w2 52 2) (w2 52 5) := by rw [f5 52 2 rfl, f5 52 5 rfl]; exact hs3
  have B14 : yB (w2 20 10) (w2 61 3) := by rw [f5 61 3 rfl]; exact yB_same p8 hSt
  clear p6 p8
  refine y_pop C 509 rfl (kdec dk_law 328 rfl) rfl ?_
  refine y_aload_n C 510 rfl 2 (kdec dk_law 329 rfl) rfl rfl ?_
  refine y_aload_n C 511 rfl 0 (kdec dk_law 330 rfl) rfl rfl ?_
  refine y_iload_n C 512 rfl 3 (kdec dk_law 331 rfl) rfl rfl ?_
  refine y_iconst C 513 rfl (nI 1) (kdec dk_law 332 rfl) (by first | rfl | decide) ?_
  refine y_iadd C 514 rfl (kdec dk_law 333 rfl) ?_
  refine y_sld C 515 rfl (by omega) (by omega) (kdec dk_law 334 rfl) ?_
  refine y_calli (As := [.int (xs (i + 1))]) (rest := []) C 518 rfl 61 (k_x_restore l D τ ρ σ w2 ((xs (i + 1))) I4 M9 S10) rfl rfl mml_TaleMachineLaw_73 mim_yX10_restore mse_yX10_restore mcd_yX10_restore min_yX10_restore hd_yX10_restore rfl rfl rfl (by decide) rfl (Nat.le_of_ble_eq_true rfl) (kdec dk_law 335 rfl) (by decide) (fun x28 w29 h30 => ?_)
  obtain ⟨I31, f32, p33, M34a⟩ := h30
  have e40 : (w29 20 10).toInt = (w2 20 10).toInt := by rw [f32 20 10 rfl]
  have e41 : (w29 2 3).toInt = (w2 2 3).toInt := by rw [f32 2 3 rfl]
  have e42 : (w29 12 1).toInt = (w2 12 1).toInt := by rw [f32 12 1 rfl]
  have e43 : (w29 14 1).toInt = (w2 14 1).toInt := by rw [f32 14 1 rfl]
  have e44 : (w29 0 9).toInt = (w2 0 9).toInt := by rw [f32 0 9 rfl]
  have e45 : (w29 61 2).toInt = (w2 61 2).toInt := by rw [f32 61 2 rfl]
  have e46 : (w29 61 3).toInt = (w2 61 3).toInt := by rw [f32 61 3 rfl]
  have e47 : (w29 61 29).toInt = (w2 61 29).toInt := by rw [f32 61 29 rfl]
  have e48 : (w29 61 31).toInt = (w2 61 31).toInt := by rw [f32 61 31 rfl]
  have M34 : yM w29 := M34a
  have S35 : kSl w29 := kSl_kF f32 S10 (fun _ => rfl) (fun _ => rfl) (fun _ => rfl)
  have T37 : ∀ k9 : Nat, w29 1 k9 = w29 63 k9 := fun k9 => ((f32 1 k9 rfl).trans (T12 k9)).trans (f32 63 k9 rfl).symm
  have Q38 : yR (w29 20 10) (w29 2 3) := by rw [f32 20 10 rfl, f32 2 3 rfl]; exact Q13
  have O49 : yO (w29 25 2) (w29 25 5) := by rw [f32 25 2 rfl, f32 25 5 rfl]; exact O24
  have O50 : yO (w29 34 2) (w29 34 5) := by rw [f32 34 2 rfl, f32 34 5 rfl]; exact O25
  have O51 : yO (w29 43 2) (w29 43 5) := by rw [f32 43 2 rfl, f32 43 5 rfl]; exact O26
  have O52 : yO (w29 52 2) (w29 52 5) := by rw [f32 52 2 rfl, f32 52 5 rfl]; exact O27
  have B39 : yB (w29 20 10) (w29 61 3) := by rw [f32 20 10 rfl, f32 61 3 rfl]; exact B14
  clear M34a
  refine y_pop C 519 rfl (kdec dk_law 336 rfl) rfl ?_
  refine y_goto C 555 (kdec dk_law 337 rfl) (by decide) ?_
  exact kont w29 ⟨I31, M34, S35, T37, Q38, by omega, by omega, by omega, by omega, by omega, B39, O49, O50, O51, O52⟩
set_option maxHeartbeats 4000000 in
set_option maxRecDepth 100000 in
theorem law_c522 {p : Program} {l : Launch} {e : Env} {s : State} {m : MethodId} {b Ln : Nat} {xs : Nat → Int32} {below : List Frame} {meth : Method} {c : Code} {Q : State → Prop} {D : va_G} {τ : Nat → ClassId} {ρ σ : Nat → Nat} (C : yC p s m c b Ln xs D τ ρ σ) (hL : Ln ≤ 4608) {i : Nat} (hi : i + 9 ≤ Ln) {w : kw} (hJ : yJ i w) (kont : ∀ w' : kw, yJ (i + 9) w' → yV p l e s m b below meth c Q D τ ρ 87 37057 555 [(0, .ref b), (1, .ref (ρ 0)), (2, .ref (ρ 61)), (3, .int (nI i))] [] w') : yV p l e s m b below meth c Q D τ ρ 87 37057 522 [(0, .ref b), (1, .ref (ρ 0)), (2, .ref (ρ 61)), (3, .int (nI i))] [] w := by
  obtain ⟨hI, hMp, hSl, hTp, hS, hq1, hq2, hq3, hq4, hT, hSt, hs0, hs1, hs2, hs3⟩ := hJ
  refine y_aload_n C 523 rfl 1 (kdec dk_law 338 rfl) rfl rfl ?_
  refine y_aload_n C 524 rfl 0 (kdec dk_law 339 rfl) rfl rfl ?_
  refine y_iload_n C 525 rfl 3 (kdec dk_law 340 rfl) rfl rfl ?_
  refine y_iconst C 526 rfl (nI 1) (kdec dk_law 341 rfl) (by first | rfl | decide) ?_
  refine y_iadd C 527 rfl (kdec dk_law 342 rfl) ?_
  refine y_sld C 528 rfl (by omega) (by omega) (kdec dk_law 343 rfl) ?_
  refine y_aload_n C 529 rfl 0 (kdec dk_law 344 rfl) rfl rfl ?_
  refine y_iload_n C 530 rfl 3 (kdec dk_law 345 rfl) rfl rfl ?_
  refine y_iconst C 531 rfl (nI 2) (kdec dk_law 346 rfl) (by first | rfl | decide) ?_
  refine y_iadd C 532 rfl (kdec dk_law 347 rfl) ?_
  refine y_sld C 533 rfl (by omega) (by omega) (kdec dk_law 348 rfl) ?_
  refine y_calli (As := [.int (xs (i + 1)), .int (xs (i + 2))]) (rest := []) C 536 rfl 0 (k_m_squeezed l D τ ρ σ w ((xs (i + 1))) ((xs (i + 2))) hI) rfl rfl mml_TaleMachineLaw_74 mim_yX9_squeezed mse_yX9_squeezed mcd_yX9_squeezed min_yX9_squeezed hd_yX9_squeezed rfl rfl rfl (by decide) rfl (Nat.le_of_ble_eq_true rfl) (kdec dk_law 349 rfl) (by decide) (fun x1 w2 h3 => ?_)
  obtain ⟨I4, f5, p6⟩ := h3
  have e13 : (w2 20 10).toInt = (w 20 10).toInt := by rw [f5 20 10 rfl]
  have e14 : (w2 2 3).toInt = (w 2 3).toInt := by rw [f5 2 3 rfl]
  have e15 : (w2 12 1).toInt = (w 12 1).toInt := by rw [f5 12 1 rfl]
  have e16 : (w2 14 1).toInt = (w 14 1).toInt := by rw [f5 14 1 rfl]
  have e17 : (w2 0 9).toInt = (w 0 9).toInt := by rw [f5 0 9 rfl]
  have e18 : (w2 61 2).toInt = (w 61 2).toInt := by rw [f5 61 2 rfl]
  have e19 : (w2 61 3).toInt = (w 61 3).toInt := by rw [f5 61 3 rfl]
  have e20 : (w2 61 12).toInt = (w 61 12).toInt := by rw [f5 61 12 rfl]
  have e21 : (w2 61 29).toInt = (w 61 29).toInt := by rw [f5 61 29 rfl]
  have e22 : (w2 61 31).toInt = (w 61 31).toInt := by rw [f5 61 31 rfl]
  have M7 : yM w2 := kMoP_kF f5 hMp rfl rfl rfl rfl (fun _ => rfl)
  have S8 : kSl w2 := kSl_kF f5 hSl (fun _ => rfl) (fun _ => rfl) (fun _ => rfl)
  have T10 : ∀ k9 : Nat, w2 1 k9 = w2 63 k9 := fun k9 => ((f5 1 k9 rfl).trans (hTp k9)).trans (f5 63 k9 rfl).symm
  have Q11 : yR (w2 20 10) (w2 2 3) := by rw [f5 20 10 rfl, f5 2 3 rfl]; exact hS
  have O23 : yO (w2 25 2) (w2 25 5) := by rw [f5 25 2 rfl, f5 25 5 rfl]; exact hs0
  have O24 : yO (w2 34 2) (w2 34 5) := by rw [f5 34 2 rfl, f5 34 5 rfl]; exact hs1
  have O25 : yO (w2 43 2) (w2 43 5) := by rw [f5 43 2 rfl, f5 43 5 rfl]; exact hs2
  have O26 : yO (w2 52 2) (w2 52 5) := by rw [f5 52 2 rfl, f5 52 5 rfl]; exact hs3
  have B12 : yB (w2 20 10) (w2 61 3) := by rw [f5 20 10 rfl, f5 61 3 rfl]; exact hSt
  refine y_pop C 537 rfl (kdec dk_law 350 rfl) rfl ?_
  refine y_aload_n C 538 rfl 2 (kdec dk_law 351 rfl) rfl rfl ?_
  refine y_aload_n C 539 rfl 0 (kdec dk_law 352 rfl) rfl rfl ?_
  refine y_iload_n C 540 rfl 3 (kdec dk_law 353 rfl) rfl rfl ?_
  refine y_iconst C 541 rfl (nI 1) (kdec dk_law 354 rfl) (by first | rfl | decide) ?_
  refine y_iadd C 542 rfl (kdec dk_law 355 rfl) ?_
  refine y_sld C 543 rfl (by omega) (by omega) (kdec dk_law 356 rfl) ?_
  refine y_aload_n C 544 rfl 0 (kdec dk_law 357 rfl) rfl rfl ?_
  refine y_iload_n C 545 rfl 3 (kdec dk_law 358 rfl) rfl rfl ?_
  refine y_iconst C 546 rfl (nI 2) (kdec dk_law 359 rfl) (by first | rfl | decide) ?_
  refine y_iadd C 547 rfl (kdec dk_law 360 rfl) ?_
  refine y_sld C 548 rfl (by omega) (by omega) (kdec dk_law 361 rfl) ?_
  refine y_calli (As := [.int (xs (i + 1)), .int (xs (i + 2))]) (rest := []) C 551 rfl 61 (k_x_squeezed l D τ ρ σ w2 ((xs (i + 1))) ((xs (i + 2))) I4) rfl rfl mml_TaleMachineLaw_77 mim_yX10_squeezed mse_yX10_squeezed mcd_yX10_squeezed min_yX10_squeezed hd_yX10_squeezed rfl rfl rfl (by decide) rfl (Nat.le_of_ble_eq_true rfl) (kdec dk_law 362 rfl) (by decide) (fun x27 w28 h29 => ?_)
  obtain ⟨I30, f31, p32⟩ := h29
  have e39 : (w28 20 10).toInt = (w2 20 10).toInt := by rw [f31 20 10 rfl]
  have e40 : (w28 2 3).toInt = (w2 2 3).toInt := by rw [f31 2 3 rfl]
  have e41 : (w28 12 1).toInt = (w2 12 1).toInt := by rw [f31 12 1 rfl]
  have e42 : (w28 14 1).toInt = (w2 14 1).toInt := by rw [f31 14 1 rfl]
  have e43 : (w28 0 9).toInt = (w2 0 9).toInt := by rw [f31 0 9 rfl]
  have e44 : (w28 61 2).toInt = (w2 61 2).toInt := by rw [f31 61 2 rfl]
  have e45 : (w28 61 3).toInt = (w2 61 3).toInt := by rw [f31 61 3 rfl]
  have e46 : (w28 61 12).toInt = (w2 61 12).toInt := by rw [f31 61 12 rfl]
  have e47 : (w28 61 29).toInt = (w2 61 29).toInt := by rw [f31 61 29 rfl]
  have e48 : (w28 61 31).toInt = (w2 61 31).toInt := by rw [f31 61 31 rfl]
  have M33 : yM w28 := kMoP_kF f31 M7 rfl rfl rfl rfl (fun _ => rfl)
  have S34 : kSl w28 := kSl_kF f31 S8 (fun _ => rfl) (fun _ => rfl) (fun _ => rfl)
  have T36 : ∀ k9 : Nat, w28 1 k9 = w28 63 k9 := fun k9 => ((f31 1 k9 rfl).trans (T10 k9)).trans (f31 63 k9 rfl).symm
  have Q37 : yR (w28 20 10) (w28 2 3) := by rw [f31 20 10 rfl, f31 2 3 rfl]; exact Q11
  have O49 : yO (w28 25 2) (w28 25 5) := by rw [f31 25 2 rfl, f31 25 5 rfl]; exact O23
  have O50 : yO (w28 34 2) (w28 34 5) := by rw [f31 34 2 rfl, f31 34 5 rfl]; exact O24
  have O51 : yO (w28 43 2) (w28 43 5) := by rw [f31 43 2 rfl, f31 43 5 rfl]; exact O25
  have O52 : yO (w28 52 2) (w28 52 5) := by rw [f31 52 2 rfl, f31 52 5 rfl]; exact O26
  have B38 : yB (w28 20 10) (w28 61 3) := by rw [f31 20 10 rfl, f31 61 3 rfl]; exact B12
  refine y_pop C 552 rfl (kdec dk_law 363 rfl) rfl ?_
  refine y_goto C 555 (kdec dk_law 364 rfl) (by decide) ?_
  exact kont w28 ⟨I30, M33, S34, T36, Q37, by omega, by omega, by omega, by omega, by omega, B38, O49, O50, O51, O52⟩
