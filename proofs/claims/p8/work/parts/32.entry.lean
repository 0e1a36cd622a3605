def ySv0 : List Int32 := [0, 0, 0, 0, 0, 0, 0, 1, 0, 0]
set_option maxRecDepth 100000 in
theorem ySm0 : ∀ j : Nat, j < 10 → Cond.eq (.elem (.static "TaleMachine$Engine" "AFTER_VAR" "[I") (.int (Int32.ofNat j))) (.int (ySv0.getD j 0)) ∈ flatC (Jvm.Cond.and given_1 narrow_1) := by decide +kernel
def ySv1 : List Int32 := [1, 3, 3, 3, 2, 1, 1, 1, 1, 1]
set_option maxRecDepth 100000 in
theorem ySm1 : ∀ j : Nat, j < 10 → Cond.eq (.elem (.static "TaleMachine$Engine" "NEEDED_BY_VAR" "[I") (.int (Int32.ofNat j))) (.int (ySv1.getD j 0)) ∈ flatC (Jvm.Cond.and given_1 narrow_1) := by decide +kernel
def ySv2 : List Int32 := [4, 2, 2, 2, 2, 2, 2, 2, 1, 1, 2, 0, 0, 0, 0, 1, 1, 1, 1, 1, 1, 1, 1, 1, 1, 4, 4, 4, 4, 4, 4, 4]
set_option maxRecDepth 100000 in
theorem ySm2 : ∀ j : Nat, j < 32 → Cond.eq (.elem (.static "TaleMachine$Engine" "AFTER_TWO" "[I") (.int (Int32.ofNat j))) (.int (ySv2.getD j 0)) ∈ flatC (Jvm.Cond.and given_1 narrow_1) := by decide +kernel
def ySv3 : List Int32 := [0, 0, 0, 0, 0, 4, 4, 0, 0, 0, 0, 0, 4, 2, 4, 4]
set_option maxRecDepth 100000 in
theorem ySm3 : ∀ j : Nat, j < 16 → Cond.eq (.elem (.static "TaleMachine$Engine" "AFTER_NONE" "[I") (.int (Int32.ofNat j))) (.int (ySv3.getD j 0)) ∈ flatC (Jvm.Cond.and given_1 narrow_1) := by decide +kernel
def ySv4 : List Int32 := [2, 3, 3, 1, 1, 0, 0, 0, 4, 0, 0, 0, 0, 0, 1, 1]
set_option maxRecDepth 100000 in
theorem ySm4 : ∀ j : Nat, j < 16 → Cond.eq (.elem (.static "TaleMachine$Engine" "AFTER_ONE" "[I") (.int (Int32.ofNat j))) (.int (ySv4.getD j 0)) ∈ flatC (Jvm.Cond.and given_1 narrow_1) := by decide +kernel
set_option maxRecDepth 100000 in
theorem ySm5 : ∀ j : Nat, j < 24 → Cond.eq (.elem (.field (.string "TaleMachine$Teller" 101) "java/lang/String" "value" "[B") (.int (Int32.ofNat j))) (.int (kTextB.getD j 0)) ∈ flatC (Jvm.Cond.and given_1 narrow_1) := by decide +kernel
/-- what holds of statics and texts at the law's entry -/
def yS (σ : Nat → Nat) (A : Nat → Prop) (s : State) : Prop :=
  (∀ q ∈ kStat, va_Z q.1 q.2.1 "[I" (.ref (σ q.2.2.1)) A s s.heap ∧ ∃ f : Nat → Int32, va_T .int (σ q.2.2.1) q.2.2.2 (fun j => .int (f j)) A s s.heap) ∧
  (vk_R "TaleMachine$Teller" 101 kText (σ 5) s ∧ vk_R "TaleMachine$Reader" 84 kText (σ 5) s ∧ vk_S 1 [24] [kTextB] (fun _ => σ 5) (fun _ => σ 6) A s s.heap) ∧
  va_Z "java/lang/String" "COMPACT_STRINGS" "Z" (.int 1) A s s.heap ∧ va_Zq "jdk/internal/util/Preconditions" "SIOOBE_FORMATTER" "Ljava/util/function/BiFunction;" A s s.heap
theorem yE_of {D : va_G} {τ : Nat → ClassId} {ρ σ : Nat → Nat} {A : Nat → Prop} {s : State} (h : nE D τ s) (hs : yS σ A s) (hi : ∀ i j : Nat, i < kSh.length → j < kSh.length → ρ i = ρ j → i = j) (hA : ∀ q, kA ρ q → A q) : kE D τ ρ σ s s.heap := by
  obtain ⟨h1, ⟨h2, h3, h4⟩, h5, h6⟩ := hs
  refine ⟨h.1, h.2.1, hi, fun q hq => ⟨(h1 q hq).1.narrow hA, ?_⟩, ⟨h2, h3, h4.narrow hA⟩, h5.narrow hA, h6.narrow hA⟩
  obtain ⟨f, hf⟩ := (h1 q hq).2
  exact ⟨f, hf.narrow hA⟩
set_option maxRecDepth 100000 in
theorem yNest : ∀ w ∈ kNest, w ∈ lw_tbl := by decide +kernel
set_option maxHeartbeats 4000000 in
set_option maxRecDepth 100000 in
theorem y_classes {s : State} {args : Array Value} (hu : ∀ w ∈ kUW, w.before args s = true) : ∃ D : va_G, ∀ (c : Nat) (q : vw_C), vwCl[c]? = some q → u_Kn s q.1 q.2.1 q.2.2 (D.1 c) (D.2 c) := by
  have h0 : ∀ k : Nat, ∃ x : ClassId × (Nat → Nat), ∀ q : vw_C, vwCl[k]? = some q → u_Kn s q.1 q.2.1 q.2.2 x.1 x.2 := by
    intro k
    match k with
    | 0 => obtain ⟨a, i, h⟩ := u_known (C := RX0) (T := TX0) (N := 2) (n := 2) hu inX0 (hu _ m_inst0); exact ⟨(a, i), fun q hq => by cases hq; exact h⟩
    | 1 => obtain ⟨a, i, h⟩ := u_known (C := RX1) (T := TX1) (N := 17) (n := 17) hu inX1 (hu _ m_inst1); exact ⟨(a, i), fun q hq => by cases hq; exact h⟩
    | 2 => obtain ⟨a, i, h⟩ := u_known (C := RX2) (T := TX2) (N := 1) (n := 1) hu inX2 (hu _ m_inst2); exact ⟨(a, i), fun q hq => by cases hq; exact h⟩
    | 3 => obtain ⟨a, i, h⟩ := u_known (C := RX3) (T := TX3) (N := 8) (n := 8) hu inX3 (hu _ m_inst3); exact ⟨(a, i), fun q hq => by cases hq; exact h⟩
    | 4 => obtain ⟨a, i, h⟩ := u_known (C := RX4) (T := TX4) (N := 8) (n := 8) hu inX4 (hu _ m_inst4); exact ⟨(a, i), fun q hq => by cases hq; exact h⟩
    | 5 => obtain ⟨a, i, h⟩ := u_known (C := RX5) (T := TX5) (N := 8) (n := 8) hu inX5 (hu _ m_inst5); exact ⟨(a, i), fun q hq => by cases hq; exact h⟩
    | 6 => obtain ⟨a, i, h⟩ := u_known (C := RX6) (T := TX6) (N := 10) (n := 10) hu inX6 (hu _ m_inst6); exact ⟨(a, i), fun q hq => by cases hq; exact h⟩
    | 7 => obtain ⟨a, i, h⟩ := u_known (C := RX7) (T := TX7) (N := 14) (n := 14) hu inX7 (hu _ m_inst7); exact ⟨(a, i), fun q hq => by cases hq; exact h⟩
    | 8 => obtain ⟨a, i, h⟩ := u_known (C := RX8) (T := TX8) (N := 2) (n := 2) hu inX8 (hu _ m_inst8); exact ⟨(a, i), fun q hq => by cases hq; exact h⟩
    | 9 => obtain ⟨a, i, h⟩ := u_known (C := RX9) (T := TX9) (N := 10) (n := 10) hu inX9 (hu _ m_inst9); exact ⟨(a, i), fun q hq => by cases hq; exact h⟩
    | 10 => obtain ⟨a, i, h⟩ := u_known (C := RX10) (T := TX10) (N := 49) (n := 49) hu inX10 (hu _ m_inst10); exact ⟨(a, i), fun q hq => by cases hq; exact h⟩
    | k + 11 => exact ⟨(0, fun _ => 0), fun q hq => by simp [vwCl] at hq⟩
  obtain ⟨d, hd⟩ := Classical.axiomOfChoice h0
  exact ⟨(fun k => (d k).1, fun k => (d k).2), fun c q hq => hd c q hq⟩
set_option maxHeartbeats 4000000 in
set_option maxRecDepth 100000 in
theorem y_arrays {s : State} {args : Array Value} (hu : ∀ w ∈ kUW, w.before args s = true) (ho : (Cond.arrayOver (.object "TaleMachine$Slot")).before args s = true) : ∃ τ : Nat → ClassId, ∀ (k : Nat) (q : ClassId × FieldType), (kT τ)[k]? = some q → ArrOfT s q.1 q.2 ∧ va_RA s q.1 q.2 := by
  obtain ⟨a0, k0, c0, f0, g0, e0⟩ := Cond.arrayClass_spec (hu _ m_arr0)
  obtain ⟨a1, k1, c1, f1, g1, e1⟩ := Cond.arrayClass_spec (hu _ m_arr1)
  obtain ⟨comp, a2, k2, h1, h2, h3, h4, h5⟩ := Cond.arrayOver_spec ho
  refine ⟨fun t => match t with | 0 => a0 | 1 => a1 | _ => a2, fun k q hq => ?_⟩
  match k, hq with
  | 0, hq => cases hq; exact ⟨fun n z => ⟨fun k h => (by cases h), k0, g0, c0, e0⟩, f0⟩
  | 1, hq => cases hq; exact ⟨fun n z => ⟨fun k h => (by cases h), k1, g1, c1, e1⟩, f1⟩
  | 2, hq => cases hq; exact ⟨fun n z => ⟨fun k h => (by cases h), k2, h3, comp, h4⟩, ⟨k2, comp, h3, h4, h1, h5⟩⟩
  | k + 3, hq => simp [kT] at hq
set_option maxHeartbeats 4000000 in
set_option maxRecDepth 100000 in
theorem y_statics {s : State} {args : Array Value} (hts : ∀ w ∈ lw_tbl, w.before args s = true) (hgv : (Jvm.Cond.and given_1 narrow_1).before args s = true) : ∃ σ : Nat → Nat, yS σ (fun q : Nat => s.heap.size ≤ q) s := by
  have hs := flat_of_before _ hgv
  have hA : ∀ a : Nat, a < s.heap.size → ¬ (fun q : Nat => s.heap.size ≤ q) a := fun a h => Nat.not_le.mpr h
  have hini := hts (.initialized "TaleMachine$Engine") (by decide +kernel)
  obtain ⟨t0, e0, T0⟩ := va_Tof (tm := .static "TaleMachine$Engine" "AFTER_VAR" "[I") (ty := .int) (N := 10) (f := fun j => .int (ySv0.getD j 0)) (A := (fun q : Nat => s.heap.size ≤ q)) (by decide) (hs _ (by decide +kernel)) (va_eqt (z := Int32.ofNat 10) (hs _ (by decide +kernel))) (fun j hj => va_eqt (hs _ (ySm0 j hj))) hA
  have Z0 := va_Zref (A := (fun q : Nat => s.heap.size ≤ q)) (hts (.laysStatic "TaleMachine$Engine" "AFTER_VAR" "[I") (by decide +kernel)) hini e0 hA
  obtain ⟨t1, e1, T1⟩ := va_Tof (tm := .static "TaleMachine$Engine" "NEEDED_BY_VAR" "[I") (ty := .int) (N := 10) (f := fun j => .int (ySv1.getD j 0)) (A := (fun q : Nat => s.heap.size ≤ q)) (by decide) (hs _ (by decide +kernel)) (va_eqt (z := Int32.ofNat 10) (hs _ (by decide +kernel))) (fun j hj => va_eqt (hs _ (ySm1 j hj))) hA
  have Z1 := va_Zref (A := (fun q : Nat => s.heap.size ≤ q)) (hts (.laysStatic "TaleMachine$Engine" "NEEDED_BY_VAR" "[I") (by decide +kernel)) hini e1 hA
  obtain ⟨t2, e2, T2⟩ := va_Tof (tm := .static "TaleMachine$Engine" "AFTER_TWO" "[I") (ty := .int) (N := 32) (f := fun j => .int (ySv2.getD j 0)) (A := (fun q : Nat => s.heap.size ≤ q)) (by decide) (hs _ (by decide +kernel)) (va_eqt (z := Int32.ofNat 32) (hs _ (by decide +kernel))) (fun j hj => va_eqt (hs _ (ySm2 j hj))) hA
  have Z2 := va_Zref (A := (fun q : Nat => s.heap.size ≤ q)) (hts (.laysStatic "TaleMachine$Engine" "AFTER_TWO" "[I") (by decide +kernel)) hini e2 hA
  obtain ⟨t3, e3, T3⟩ := va_Tof (tm := .static "TaleMachine$Engine" "AFTER_NONE" "[I") (ty := .int) (N := 16) (f := fun j => .int (ySv3.getD j 0)) (A := (fun q : Nat => s.heap.size ≤ q)) (by decide) (hs _ (by decide +kernel)) (va_eqt (z := Int32.ofNat 16) (hs _ (by decide +kernel))) (fun j hj => va_eqt (hs _ (ySm3 j hj))) hA
  have Z3 := va_Zref (A := (fun q : Nat => s.heap.size ≤ q)) (hts (.laysStatic "TaleMachine$Engine" "AFTER_NONE" "[I") (by decide +kernel)) hini e3 hA
  obtain ⟨t4, e4, T4⟩ := va_Tof (tm := .static "TaleMachine$Engine" "AFTER_ONE" "[I") (ty := .int) (N := 16) (f := fun j => .int (ySv4.getD j 0)) (A := (fun q : Nat => s.heap.size ≤ q)) (by decide) (hs _ (by decide +kernel)) (va_eqt (z := Int32.ofNat 16) (hs _ (by decide +kernel))) (fun j hj => va_eqt (hs _ (ySm4 j hj))) hA
  have Z4 := va_Zref (A := (fun q : Nat => s.heap.size ≤ q)) (hts (.laysStatic "TaleMachine$Engine" "AFTER_ONE" "[I") (by decide +kernel)) hini e4 hA
  obtain ⟨adK, adV, hS5, hev⟩ := vk_Sof (N := 1) (tm := fun _ => .string "TaleMachine$Teller" 101) (len := [24]) (byt := [kTextB]) (A := (fun q : Nat => s.heap.size ≤ q)) (fun i hi => by
      obtain rfl : i = 0 := by omega
      decide) (fun _ _ => hs _ (by decide +kernel)) (fun _ _ => hs _ (by decide +kernel)) (fun _ _ => hs _ (by decide +kernel)) (fun i hi => by
      obtain rfl : i = 0 := by omega
      exact hs _ (by decide +kernel)) (fun i hi j hj => by
      obtain rfl : i = 0 := by omega
      exact hs _ (ySm5 j hj)) (fun i j hi hj hn => absurd (show i = j by omega) hn) hA
  have eT : (Term.string "TaleMachine$Teller" 101).eval args s none [] s = some (.ref (adK 0)) := hev 0 (by decide)
  have eR : (Term.string "TaleMachine$Reader" 84).eval args s none [] s = some (.ref (adK 0)) := va_eqR (t := .string "TaleMachine$Teller" 101) (hs _ (by decide +kernel)) eT
  refine ⟨fun k => match k with | 0 => t0 | 1 => t1 | 2 => t2 | 3 => t3 | 4 => t4 | 5 => adK 0 | _ => adV 0, ?_, ⟨vk_R.of (hts _ (by decide +kernel)) eT, vk_R.of (hts _ (by decide +kernel)) eR, ⟨fun i hi => ?_, fun i j hi hj _ => by omega⟩⟩, ?_, ?_⟩
  · intro q hq
    simp only [kStat, List.mem_cons, List.not_mem_nil, or_false] at hq
    rcases hq with rfl | rfl | rfl | rfl | rfl
    · exact ⟨Z0, _, T0⟩
    · exact ⟨Z1, _, T1⟩
    · exact ⟨Z2, _, T2⟩
    · exact ⟨Z3, _, T3⟩
    · exact ⟨Z4, _, T4⟩
  · obtain rfl : i = 0 := by omega
    exact hS5.1 0 hi
  · exact va_Zof (hts _ (by decide +kernel)) (hts _ (by decide +kernel)) (va_eqt (hs _ (by decide +kernel))) hA
  · exact va_Zqof (hts _ (by decide +kernel)) (hts _ (by decide +kernel)) (hs _ (by decide +kernel)) hA
set_option maxHeartbeats 4000000 in
theorem y_entry {p : Program} {s : State} {m : MethodId} {meth : Method} {c : Code} {b L : Nat} {xs : Nat → Int32} (C0 : lw_At p s m meth c b L xs) : ∃ (D : va_G) (τ : Nat → ClassId) (σ : Nat → Nat), nE D τ s ∧ yS σ (fun q : Nat => s.heap.size ≤ q) s ∧ ∀ w ∈ kUW, w.before #[Value.ref b] s = true := by
  obtain ⟨hx, hb, hr, hml, hown, hts, hX, hbl, hlocks, hgv⟩ := C0
  have hu : ∀ w ∈ kUW, w.before #[Value.ref b] s = true := fun w hw => hts w (List.mem_filter.mp hw).1
  have ho := hts (.arrayOver (.object "TaleMachine$Slot")) (by decide +kernel)
  obtain ⟨D, hD⟩ := y_classes hu
  obtain ⟨τ, hτ⟩ := y_arrays hu ho
  obtain ⟨σ, hσ⟩ := y_statics hts hgv
  exact ⟨D, τ, σ, ⟨⟨hD, hτ⟩, fun w hw => va_Nw.of (kNest_tab w hw) (hts w (yNest w hw)), va_AO.of ho⟩, hσ, hu⟩
