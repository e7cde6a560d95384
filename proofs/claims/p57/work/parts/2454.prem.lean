/-! what the start gives -/
abbrev AH (s : State) : Nat → Prop := fun q => s.heap.size ≤ q
def nwL : List Cond := flatC (Jvm.Cond.and given_1 narrow_1)
theorem AH_o (s : State) : ∀ a : Nat, a < s.heap.size → ¬ AH s a := fun _ h => Nat.not_le.mpr h
theorem prem_D {s : State} {b : Nat} (hts : ∀ w ∈ lw_tbl, w.before #[Value.ref b] s = true) : ∃ D : va_G, ∀ (k : Nat) (q : vw_C), vwCl[k]? = some q → u_Kn s q.1 q.2.1 q.2.2 (D.1 k) (D.2 k) := by
  have h : ∀ k : Nat, ∃ x : ClassId × (Nat → Nat), ∀ q : vw_C, vwCl[k]? = some q → u_Kn s q.1 q.2.1 q.2.2 x.1 x.2 := by
    intro k
    match k with
    | 0 => obtain ⟨c, i, h⟩ := u_known (C := RJ0) (T := TJ0) (N := 4) (n := 4) hts (by decide +kernel) (hts (.instantiable RJ0 4) (by decide +kernel)); exact ⟨(c, i), fun q hq => by cases hq; exact h⟩
    | 1 => obtain ⟨c, i, h⟩ := u_known (C := RJ4) (T := TJ4) (N := 4) (n := 4) hts (by decide +kernel) (hts (.instantiable RJ4 4) (by decide +kernel)); exact ⟨(c, i), fun q hq => by cases hq; exact h⟩
    | 2 => obtain ⟨c, i, h⟩ := u_known (C := RJx00060) (T := TJx00060) (N := 6) (n := 6) hts (by decide +kernel) (hts (.instantiable RJx00060 6) (by decide +kernel)); exact ⟨(c, i), fun q hq => by cases hq; exact h⟩
    | 3 => obtain ⟨c, i, h⟩ := u_known (C := RJx7c733) (T := TJx7c733) (N := 6) (n := 6) hts (by decide +kernel) (hts (.instantiable RJx7c733 6) (by decide +kernel)); exact ⟨(c, i), fun q hq => by cases hq; exact h⟩
    | 4 => obtain ⟨c, i, h⟩ := u_known (C := RX1) (T := TX1) (N := 16) (n := 16) hts (by decide +kernel) (hts (.instantiable RX1 16) (by decide +kernel)); exact ⟨(c, i), fun q hq => by cases hq; exact h⟩
    | 5 => obtain ⟨c, i, h⟩ := u_known (C := RX2) (T := TX2) (N := 3) (n := 3) hts (by decide +kernel) (hts (.instantiable RX2 3) (by decide +kernel)); exact ⟨(c, i), fun q hq => by cases hq; exact h⟩
    | 6 => obtain ⟨c, i, h⟩ := u_known (C := RX3) (T := TX3) (N := 3) (n := 3) hts (by decide +kernel) (hts (.instantiable RX3 3) (by decide +kernel)); exact ⟨(c, i), fun q hq => by cases hq; exact h⟩
    | 7 => obtain ⟨c, i, h⟩ := u_known (C := RX4) (T := TX4) (N := 5) (n := 5) hts (by decide +kernel) (hts (.instantiable RX4 5) (by decide +kernel)); exact ⟨(c, i), fun q hq => by cases hq; exact h⟩
    | 8 => obtain ⟨c, i, h⟩ := u_known (C := RX7) (T := TX7) (N := 10) (n := 10) hts (by decide +kernel) (hts (.instantiable RX7 10) (by decide +kernel)); exact ⟨(c, i), fun q hq => by cases hq; exact h⟩
    | k + 9 => exact ⟨(0, fun _ => 0), fun q hq => by cases hq⟩
  exact ⟨(fun k => (Classical.choose (h k)).1, fun k => (Classical.choose (h k)).2), fun k => Classical.choose_spec (h k)⟩
theorem arr_1 {A : Array Value} {s : State} {ty : FieldType} (h : (Cond.arrayClass ty).before A s = true) : ∃ c : ClassId, ArrOfT s c ty ∧ s.vm.findClass ("[" ++ ty.toString) = some c := by
  obtain ⟨c, k, comp, h1, h2, h3⟩ := Cond.arrayClass_spec h
  exact ⟨c, fun n z => ⟨fun k h => (by cases h), k, h2, comp, h3⟩, h1⟩
theorem prem_AO {s : State} {b : Nat} (hts : ∀ w ∈ lw_tbl, w.before #[Value.ref b] s = true) : va_AO "BridgeAuction$Game" s := va_AO.of (hts (.arrayOver (.object "BridgeAuction$Game")) (by decide +kernel))
theorem prem_AA {s : State} {b : Nat} (hts : ∀ w ∈ lw_tbl, w.before #[Value.ref b] s = true) : va_AOA .int s := va_AOA.of (hts (.arrayOver (.array .int)) (by decide +kernel))
theorem prem_C {s : State} {b : Nat} (hts : ∀ w ∈ lw_tbl, w.before #[Value.ref b] s = true) : ∃ C : Nat → ClassId, ∀ (k : Nat) (q : ClassId × FieldType), (tyA C)[k]? = some q → ArrOfT s q.1 q.2 ∧ va_RA s q.1 q.2 := by
  obtain ⟨c0, a0, b0⟩ := arr_1 (hts (.arrayClass .int) (by decide +kernel))
  obtain ⟨c1, a1, b1⟩ := arr_1 (hts (.arrayClass .char) (by decide +kernel))
  obtain ⟨c3, a3, b3⟩ := arr_1 (hts (.arrayClass .byte) (by decide +kernel))
  obtain ⟨c5, a5, b5⟩ := arr_1 (hts (.arrayClass .boolean) (by decide +kernel))
  obtain ⟨comp4, c4, k4, -, -, f3, f4, f5⟩ := Jvm.Stand.arrayOver_specB (va_AOA.use (A := #[]) (prem_AA hts))
  obtain ⟨comp, c2, k2, e1, e2, e3, e4, e5⟩ := Cond.arrayOver_spec (va_AO.use (A := #[]) (prem_AO hts))
  refine ⟨fun i => [c0, c1, c2, c3, c4, c5].getD i 0, fun k q hq => ?_⟩
  match k, hq with
  | 0, hq => cases hq; exact ⟨a0, b0⟩
  | 1, hq => cases hq; exact ⟨a1, b1⟩
  | 2, hq => cases hq; exact ⟨fun n z => ⟨fun k h => (by cases h), k2, e3, comp, e4⟩, k2, comp, e3, e4, e1, e5⟩
  | 3, hq => cases hq; exact ⟨a3, b3⟩
  | 4, hq => cases hq; exact ⟨fun n z => ⟨fun k h => (by cases h), k4, f3, comp4, f4⟩, f5⟩
  | 5, hq => cases hq; exact ⟨a5, b5⟩
  | k + 6, hq => cases hq
theorem prem_EN {s : State} {b : Nat} (hts : ∀ w ∈ lw_tbl, w.before #[Value.ref b] s = true) : EN s := ⟨fun q hq => va_Nw.of rfl (hts _ ((by decide +kernel : ∀ q ∈ nwF, Cond.fieldLinkNest q.1 q.2.1 q.2.2.1 q.2.2.2.1 q.2.2.2.2.1 q.2.2.2.2.2 ∈ lw_tbl) q hq)), va_Nw.of rfl (hts _ (by decide +kernel)), va_Nw.of rfl (hts _ (by decide +kernel))⟩
theorem prem_CL {s : State} {b : Nat} (hts : ∀ w ∈ lw_tbl, w.before #[Value.ref b] s = true) : CLs s := fun c h1 h2 => va_Nw.of rfl (hts _ ((by decide +kernel : ∀ c, c < 6 → 0 < c → Cond.classLink RL (clI c) (xN c) ∈ lw_tbl) c h2 h1))
theorem prem_NC {s : State} {b : Nat} (hs : ∀ w ∈ nwL, w.before #[Value.ref b] s = true) : NCs s := fun c d h1 h2 h3 h4 h5 => va_Nc.of (hs _ ((by decide +kernel : ∀ c, c < 6 → ∀ d, d < 6 → (0 < c ∧ 0 < d ∧ c ≠ d) → Cond.not (.castable (xN c) (xN d)) ∈ nwL) c h2 d h4 ⟨h1, h3, h5⟩))
theorem str_ev {A : Array Value} {s : State} {own : String} {k : Nat} (h : (Cond.exactly (.string own k) "java/lang/String").before A s = true) : ∃ a, (Term.string own k).eval A s none [] s = some (.ref a) := by
  obtain ⟨a, c, cell, kk, q1, q2⟩ := Cond.exactly_spec h
  exact ⟨a, q1⟩
theorem prem_XR {s : State} {b : Nat} (hts : ∀ w ∈ lw_tbl, w.before #[Value.ref b] s = true) (hs : ∀ w ∈ nwL, w.before #[Value.ref b] s = true) : XR s := by
  refine ⟨fun q hq => ?_, fun x hx => ?_, fun k hk => ?_⟩
  · obtain ⟨a, ha⟩ := str_ev (hs _ ((by decide +kernel : ∀ q ∈ xTx, Cond.exactly (.string "BridgeAuction" q.1) "java/lang/String" ∈ nwL) q hq))
    exact ⟨a, vk_R.of (hts _ ((by decide +kernel : ∀ q ∈ xTx, Cond.stringRef "BridgeAuction" q.1 q.2 ∈ lw_tbl) q hq)) ha⟩
  · exact va_Nw.of rfl (hts _ ((by decide +kernel : ∀ x ∈ xDe, Cond.declares x ∈ lw_tbl) x hx))
  · exact va_Nw.of rfl (hts _ ((by decide +kernel : ∀ k, k < 6 → Cond.castable (xN (k + 1)) (xN (k + 1)) ∈ lw_tbl) k hk))
theorem vx_Lof {A : Array Value} {s : State} {C n d : String} (h : (Cond.laysStatic C n d).before A s = true) : vx_L C n d (AH s) s s.heap := by
  obtain ⟨c, k, i, f, a, cell, h1, h2, h3, h4, h5, h6, h7, h8, h9⟩ := Cond.laysStatic_spec h
  exact ⟨c, k, i, f, a, cell, h1, h2, h3, h4, h5, h6, h7, h8, h9, AH_o s a (Array.getElem?_eq_some_iff.mp h5).1⟩
theorem prem_XV {s : State} {b : Nat} (hts : ∀ w ∈ lw_tbl, w.before #[Value.ref b] s = true) (hs : ∀ w ∈ nwL, w.before #[Value.ref b] s = true) : XV (AH s) s s.heap :=
  ⟨⟨va_Zqof (hts (.laysStatic Bundle.tN "UNASSIGNED_STACK" Bundle.steD) (by decide +kernel)) (hts (.initialized Bundle.tN) (by decide +kernel)) (hs (.isRef (.static Bundle.tN "UNASSIGNED_STACK" Bundle.steD)) (by decide +kernel)) (AH_o s), vx_Lof (hts (.laysStatic Bundle.tN "UNASSIGNED_STACK" Bundle.steD) (by decide +kernel))⟩,
   ⟨va_Zqof (hts (.laysStatic Bundle.tN "SUPPRESSED_SENTINEL" Bundle.listD) (by decide +kernel)) (hts (.initialized Bundle.tN) (by decide +kernel)) (hs (.isRef (.static Bundle.tN "SUPPRESSED_SENTINEL" Bundle.listD)) (by decide +kernel)) (AH_o s), vx_Lof (hts (.laysStatic Bundle.tN "SUPPRESSED_SENTINEL" Bundle.listD) (by decide +kernel))⟩⟩
