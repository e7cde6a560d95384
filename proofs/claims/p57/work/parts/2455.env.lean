/-! .. of the enums, the tables and the texts -/
theorem va_En_cg {E d : String} {nm : List String} {F : List (String × String × String × List Int32)} {ad ad' : Nat → Nat} {A : Nat → Prop} {U : State} {H : Heap} (h : va_En E d nm F ad A U H) (e : ∀ i, i < nm.length → ad' i = ad i) : va_En E d nm F ad' A U H :=
  ⟨fun i hi => by rw [e i hi]; exact h.1 i hi, fun i j hi hj q => h.2 i j hi hj (by rw [← e i hi, ← e j hj]; exact q)⟩
theorem va_T_cg {ty : FieldType} {t N : Nat} {f g : Nat → Value} {A : Nat → Prop} {U : State} {H : Heap} (h : va_T ty t N f A U H) (e : ∀ j, j < N → g j = f j) : va_T ty t N g A U H := by
  obtain ⟨cell, h1, h2, h3, h4, h5, h6, h7⟩ := h
  exact ⟨cell, h1, h2, h3, h4, h5, fun j hj => by rw [e j hj]; exact h6 j hj, h7⟩
theorem va_Ef_cg {N : Nat} {o n d : String} {v v' : Nat → Value} {ad ad' : Nat → Nat} {A : Nat → Prop} {U : State} {H : Heap} (h : va_Ef N o n d v ad A U H) (e1 : ∀ i, i < N → v' i = v i) (e2 : ∀ i, i < N → ad' i = ad i) : va_Ef N o n d v' ad' A U H := fun i hi => by rw [e1 i hi, e2 i hi]; exact h i hi
/-- a number's row, as the start has it -/
theorem row_of {b : Nat} {s : State} {C n d : String} {ty : FieldType} {N : Nat} {f : Nat → Value} (hts : ∀ w ∈ lw_tbl, w.before #[Value.ref b] s = true) (hN : N < 2 ^ 31) (hl : Cond.laysStatic C n d ∈ lw_tbl) (hi : Cond.initialized C ∈ lw_tbl) (h1 : (Cond.arrayOf (.static C n d) ty).before #[Value.ref b] s = true) (h2 : (Cond.eq (.length (.static C n d)) (.int (Int32.ofNat N))).before #[Value.ref b] s = true) (h3 : ∀ j : Nat, j < N → (Term.elem (.static C n d) (.int (Int32.ofNat j))).eval #[Value.ref b] s none [] s = some (f j)) : ∃ t : Nat, va_Z C n d (.ref t) (AH s) s s.heap ∧ va_T ty t N f (AH s) s s.heap := by
  obtain ⟨t, e, h⟩ := va_Tof (A := AH s) hN h1 (va_eqv h2 rfl) h3 (AH_o s)
  exact ⟨t, va_Zof (hts _ hl) (hts _ hi) e (AH_o s), h⟩
def nwP : List Cond := nwL.take 199
theorem nwP_in {w : Cond} (h : w ∈ nwP) : w ∈ nwL := List.mem_of_mem_take h
def nwT : List Cond := nwL.drop 850
theorem nwT_in {w : Cond} (h : w ∈ nwT) : w ∈ nwL := List.mem_of_mem_drop h
theorem seg_in {big : List Cond} {a N : Nat} {f : Nat → Cond} (h : (big.drop a).take N = (List.range N).map f) {j : Nat} (hj : j < N) : f j ∈ big := List.mem_of_mem_drop (List.mem_of_mem_take (by rw [h]; exact List.mem_map.mpr ⟨j, List.mem_range.mpr hj, rfl⟩))
def txA : List Nat := [228, 244, 260, 275, 289, 304, 329, 314, 339, 239, 253, 269, 284, 297, 323, 4, 9, 14, 0, 30, 35, 40, 45]
def kwI : List Nat := [58, 66, 71, 76, 81, 86, 89, 94, 97, 60, 68, 73, 78, 83, 91, 227, 232, 234, 240, 242, 244, 246, 248]
def txO (i : Nat) : String := if i < 15 then "BridgeAuction$Verb" else "BridgeAuctionLaw"
abbrev txT (i : Nat) : Term := .string (txO i) (kwI.getD i 0)
/-- a text of the sixteen -/
theorem text_of {b : Nat} {s : State} (hs : ∀ w ∈ nwL, w.before #[Value.ref b] s = true) {i : Nat} (hi : i < 23) : ∃ q : Nat × Nat, (txT i).eval #[Value.ref b] s none [] s = some (.ref q.1) ∧ va_O "java/lang/String" q.1 (AH s) s s.heap ∧ va_OF "java/lang/String" "coder" "B" (.int 0) q.1 (AH s) s s.heap ∧ va_OF "java/lang/String" "value" "[B" (.ref q.2) q.1 (AH s) s s.heap ∧ va_T .byte q.2 ((txtL.map List.length).getD i 0) (fun j => .int ((txtL.getD i []).getD j 0)) (AH s) s s.heap := by
  have h1 : ∀ i, i < 23 → Cond.exactly (txT i) "java/lang/String" ∈ nwT ∧ Cond.eq (.field (txT i) "java/lang/String" "coder" "B") (.int 0) ∈ nwT ∧ Cond.arrayOf (.field (txT i) "java/lang/String" "value" "[B") .byte ∈ nwT ∧ Cond.eq (.length (.field (txT i) "java/lang/String" "value" "[B")) (.int (Int32.ofNat ((txtL.map List.length).getD i 0))) ∈ nwT ∧ (txtL.map List.length).getD i 0 < 2 ^ 31 := by decide +kernel
  have h2 : ∀ i, i < 23 → (nwT.drop (txA.getD i 0)).take ((txtL.map List.length).getD i 0) = (List.range ((txtL.map List.length).getD i 0)).map (fun j => Cond.eq (.elem (.field (txT i) "java/lang/String" "value" "[B") (.int (Int32.ofNat j))) (.int ((txtL.getD i []).getD j 0))) := by decide +kernel
  obtain ⟨a1, a2, a3, a4, a5⟩ := h1 i hi
  have a1 := nwT_in a1
  have a2 := nwT_in a2
  have a3 := nwT_in a3
  have a4 := nwT_in a4
  obtain ⟨a, ha⟩ := str_ev (hs _ a1)
  obtain ⟨t, e, h⟩ := va_Tof (A := AH s) (f := fun j => .int ((txtL.getD i []).getD j 0)) a5 (hs _ a3) (va_eqv (hs _ a4) rfl) (fun j hj => va_eqv (hs _ (nwT_in (seg_in (h2 i hi) hj))) rfl) (AH_o s)
  exact ⟨(a, t), ha, va_Oof (hs _ a1) ha (AH_o s), vk_OFof ha (va_eqv (hs _ a2) rfl) (AH_o s), vk_OFof ha e (AH_o s), h⟩
theorem OF_in {o n d : String} {v w : Value} {t : Nat} {A : Nat → Prop} {U : State} {H : Heap} (h : va_OF o n d v t A U H) (k : va_OF o n d w t A U H) : v = w := by
  obtain ⟨cf, kc, i, f, cell, h1, h2, h3, h4, h5, h6⟩ := h
  obtain ⟨cf', kc', i', f', cell', k1, k2, k3, k4, k5, k6⟩ := k
  cases h1.symm.trans k1
  cases h3.symm.trans k3
  exact Option.some.inj (h5.symm.trans k5)
theorem text_in : ∀ i, i < 23 → ∀ j, j < 23 → Int32.ofNat ((txtL.map List.length).getD i 0) = Int32.ofNat ((txtL.map List.length).getD j 0) → (∀ k, k < (txtL.map List.length).getD i 0 → (txtL.getD i []).getD k 0 = (txtL.getD j []).getD k 0) → i = j := by decide +kernel
theorem prem_ev {s : State} {b : Nat} (hts : ∀ w ∈ lw_tbl, w.before #[Value.ref b] s = true) (hs : ∀ w ∈ nwL, w.before #[Value.ref b] s = true) : ∃ ev : Nat → Nat, RVs ev s ∧ EVs ev (AH s) s s.heap ∧ DVs ev (AH s) s s.heap := by
  obtain ⟨aV, hV, eV⟩ := va_Enof2 (E := "BridgeAuction$Verdict") (d := "LBridgeAuction$Verdict;") (nm := vnV) (F := [("java/lang/Enum", "ordinal", "I", [0, 1, 2, 3, 4, 5])]) (A := AH s)
    (fun i hi => hts _ ((by decide +kernel : ∀ i, i < vnV.length → Cond.laysStatic "BridgeAuction$Verdict" (vnV.getD i "") "LBridgeAuction$Verdict;" ∈ lw_tbl) i hi)) (hts _ (by decide +kernel))
    (fun i hi => hs _ (nwP_in <| (by decide +kernel : ∀ i, i < vnV.length → Cond.exactly (.static "BridgeAuction$Verdict" (vnV.getD i "") "LBridgeAuction$Verdict;") "BridgeAuction$Verdict" ∈ nwP) i hi))
    (fun q hq i hi => hs _ (nwP_in <| (by decide +kernel : ∀ q ∈ [("java/lang/Enum", "ordinal", "I", ([0, 1, 2, 3, 4, 5] : List Int32))], ∀ i, i < vnV.length → Cond.eq (.field (.static "BridgeAuction$Verdict" (vnV.getD i "") "LBridgeAuction$Verdict;") q.1 q.2.1 q.2.2.1) (.int (q.2.2.2.getD i 0)) ∈ nwP) q hq i hi))
    (fun i j hi hj hij => ((by decide +kernel : ∀ i, i < vnV.length → ∀ j, j < vnV.length → i ≠ j → Cond.not (.eq (.static "BridgeAuction$Verdict" (vnV.getD i "") "LBridgeAuction$Verdict;") (.static "BridgeAuction$Verdict" (vnV.getD j "") "LBridgeAuction$Verdict;")) ∈ nwP ∨ Cond.not (.eq (.static "BridgeAuction$Verdict" (vnV.getD j "") "LBridgeAuction$Verdict;") (.static "BridgeAuction$Verdict" (vnV.getD i "") "LBridgeAuction$Verdict;")) ∈ nwP) i hi j hj hij).imp (fun k => hs _ (nwP_in k)) (fun k => hs _ (nwP_in k))) (AH_o s)
  obtain ⟨aB, hB, eB⟩ := va_Enof2 (E := "BridgeAuction$Verb") (d := "LBridgeAuction$Verb;") (nm := vnB) (F := [("java/lang/Enum", "ordinal", "I", [0, 1, 2, 3, 4, 5, 6, 7, 8])]) (A := AH s)
    (fun i hi => hts _ ((by decide +kernel : ∀ i, i < vnB.length → Cond.laysStatic "BridgeAuction$Verb" (vnB.getD i "") "LBridgeAuction$Verb;" ∈ lw_tbl) i hi)) (hts _ (by decide +kernel))
    (fun i hi => hs _ (nwP_in <| (by decide +kernel : ∀ i, i < vnB.length → Cond.exactly (.static "BridgeAuction$Verb" (vnB.getD i "") "LBridgeAuction$Verb;") "BridgeAuction$Verb" ∈ nwP) i hi))
    (fun q hq i hi => hs _ (nwP_in <| (by decide +kernel : ∀ q ∈ [("java/lang/Enum", "ordinal", "I", ([0, 1, 2, 3, 4, 5, 6, 7, 8] : List Int32))], ∀ i, i < vnB.length → Cond.eq (.field (.static "BridgeAuction$Verb" (vnB.getD i "") "LBridgeAuction$Verb;") q.1 q.2.1 q.2.2.1) (.int (q.2.2.2.getD i 0)) ∈ nwP) q hq i hi))
    (fun i j hi hj hij => ((by decide +kernel : ∀ i, i < vnB.length → ∀ j, j < vnB.length → i ≠ j → Cond.not (.eq (.static "BridgeAuction$Verb" (vnB.getD i "") "LBridgeAuction$Verb;") (.static "BridgeAuction$Verb" (vnB.getD j "") "LBridgeAuction$Verb;")) ∈ nwP ∨ Cond.not (.eq (.static "BridgeAuction$Verb" (vnB.getD j "") "LBridgeAuction$Verb;") (.static "BridgeAuction$Verb" (vnB.getD i "") "LBridgeAuction$Verb;")) ∈ nwP) i hi j hj hij).imp (fun k => hs _ (nwP_in k)) (fun k => hs _ (nwP_in k))) (AH_o s)
  obtain ⟨tv, zv, rv⟩ := row_of (C := "BridgeAuction$1") (n := "$SwitchMap$BridgeAuction$Verdict") (d := "[I") (ty := .int) (N := 6) (f := fun j => .int (smV.getD j 0)) hts (by decide) (by decide +kernel) (by decide +kernel) (hs _ (by decide +kernel)) (hs _ (by decide +kernel)) (fun j hj => va_eqv (hs _ (nwP_in <| (by decide +kernel : ∀ j, j < 6 → Cond.eq (.elem (.static "BridgeAuction$1" "$SwitchMap$BridgeAuction$Verdict" "[I") (.int (Int32.ofNat j))) (.int (smV.getD j 0)) ∈ nwP) j hj)) rfl)
  obtain ⟨tb, zb, rb⟩ := row_of (C := "BridgeAuction$1") (n := "$SwitchMap$BridgeAuction$Verb") (d := "[I") (ty := .int) (N := 9) (f := fun j => .int (smB.getD j 0)) hts (by decide) (by decide +kernel) (by decide +kernel) (hs _ (by decide +kernel)) (hs _ (by decide +kernel)) (fun j hj => va_eqv (hs _ (nwP_in <| (by decide +kernel : ∀ j, j < 9 → Cond.eq (.elem (.static "BridgeAuction$1" "$SwitchMap$BridgeAuction$Verb" "[I") (.int (Int32.ofNat j))) (.int (smB.getD j 0)) ∈ nwP) j hj)) rfl)
  obtain ⟨ta, za, ra⟩ := row_of (C := "BridgeAuction$Verb") (n := "ALL") (d := "[LBridgeAuction$Verb;") (ty := .object "BridgeAuction$Verb") (N := 9) (f := fun j => .ref (aB j)) hts (by decide) (by decide +kernel) (by decide +kernel) (hs _ (by decide +kernel)) (hs _ (by decide +kernel)) (fun j hj => va_eqv (hs _ (seg_in (by decide +kernel : (nwL.drop 186).take 9 = (List.range 9).map (fun j => Cond.eq (.elem (.static "BridgeAuction$Verb" "ALL" "[LBridgeAuction$Verb;") (.int (Int32.ofNat j))) (.static "BridgeAuction$Verb" (vnB.getD j "") "LBridgeAuction$Verb;"))) hj)) (eB j hj))
  obtain ⟨t1, z1, r1⟩ := row_of (C := "java/lang/Integer") (n := "DigitOnes") (d := "[B") (ty := .byte) (N := 100) (f := fun j => .int (nI (48 + j % 10))) hts (by decide) (by decide +kernel) (by decide +kernel) (hs _ (by decide +kernel)) (hs _ (by decide +kernel)) (fun j hj => va_eqv (hs _ (seg_in (by decide +kernel : (nwL.drop 202).take 100 = (List.range 100).map (fun j => Cond.eq (.elem (.static "java/lang/Integer" "DigitOnes" "[B") (.int (Int32.ofNat j))) (.int (nI (48 + j % 10))))) hj)) rfl)
  obtain ⟨t2, z2, r2⟩ := row_of (C := "java/lang/Integer") (n := "DigitTens") (d := "[B") (ty := .byte) (N := 100) (f := fun j => .int (nI (48 + j / 10 % 10))) hts (by decide) (by decide +kernel) (by decide +kernel) (hs _ (by decide +kernel)) (hs _ (by decide +kernel)) (fun j hj => va_eqv (hs _ (seg_in (by decide +kernel : (nwL.drop 305).take 100 = (List.range 100).map (fun j => Cond.eq (.elem (.static "java/lang/Integer" "DigitTens" "[B") (.int (Int32.ofNat j))) (.int (nI (48 + j / 10 % 10))))) hj)) rfl)
  have hx : ∀ i : Nat, ∃ q : Nat × Nat, i < 23 → (txT i).eval #[Value.ref b] s none [] s = some (.ref q.1) ∧ va_O "java/lang/String" q.1 (AH s) s s.heap ∧ va_OF "java/lang/String" "coder" "B" (.int 0) q.1 (AH s) s s.heap ∧ va_OF "java/lang/String" "value" "[B" (.ref q.2) q.1 (AH s) s s.heap ∧ va_T .byte q.2 ((txtL.map List.length).getD i 0) (fun j => .int ((txtL.getD i []).getD j 0)) (AH s) s s.heap := by
    intro i
    by_cases hi : i < 23
    · obtain ⟨q, h⟩ := text_of hs hi
      exact ⟨q, fun _ => h⟩
    · exact ⟨(0, 0), fun h => absurd h hi⟩
  obtain ⟨tx, htx⟩ : ∃ tx : Nat → Nat × Nat, ∀ i, i < 23 → (txT i).eval #[Value.ref b] s none [] s = some (.ref (tx i).1) ∧ va_O "java/lang/String" (tx i).1 (AH s) s s.heap ∧ va_OF "java/lang/String" "coder" "B" (.int 0) (tx i).1 (AH s) s s.heap ∧ va_OF "java/lang/String" "value" "[B" (.ref (tx i).2) (tx i).1 (AH s) s s.heap ∧ va_T .byte (tx i).2 ((txtL.map List.length).getD i 0) (fun j => .int ((txtL.getD i []).getD j 0)) (AH s) s s.heap := ⟨fun i => Classical.choose (hx i), fun i => Classical.choose_spec (hx i)⟩
  have hk : va_Ef 9 "BridgeAuction$Verb" "keyword" "Ljava/lang/String;" (fun i => .ref (tx i).1) aB (AH s) s s.heap := va_Efof (nm := vnB) (E := "BridgeAuction$Verb") (d0 := "LBridgeAuction$Verb;") (tm := txT) eB (fun i hi => hs _ (nwP_in <| (by decide +kernel : ∀ i, i < 9 → Cond.eq (.field (.static "BridgeAuction$Verb" (vnB.getD i "") "LBridgeAuction$Verb;") "BridgeAuction$Verb" "keyword" "Ljava/lang/String;") (txT i) ∈ nwP) i hi)) (fun i hi => (htx i (by omega)).1) (AH_o s)
  have ha : va_Ef 9 "BridgeAuction$Verb" "arguments" "Ljava/lang/String;" (fun i => .ref (tx (argN.getD i 0)).1) aB (AH s) s s.heap := va_Efof (nm := vnB) (E := "BridgeAuction$Verb") (d0 := "LBridgeAuction$Verb;") (tm := fun i => txT (argN.getD i 0)) eB (fun i hi => hs _ (nwP_in <| (by decide +kernel : ∀ i, i < 9 → Cond.eq (.field (.static "BridgeAuction$Verb" (vnB.getD i "") "LBridgeAuction$Verb;") "BridgeAuction$Verb" "arguments" "Ljava/lang/String;") (txT (argN.getD i 0)) ∈ nwP) i hi)) (fun i hi => (htx _ ((by decide +kernel : ∀ i, i < 9 → argN.getD i 0 < 23) i hi)).1) (AH_o s)
  have hS : vk_S 23 (txtL.map List.length) txtL (fun i => (tx i).1) (fun i => (tx i).2) (AH s) s s.heap := by
    refine ⟨fun i hi => (htx i hi).2, fun i j hi hj e => ?_⟩
    have e : (tx i).1 = (tx j).1 := e
    obtain ⟨-, -, -, i1, i2⟩ := htx i hi
    obtain ⟨-, -, -, j1, j2⟩ := htx j hj
    rw [← e] at j1
    have e2 : (tx i).2 = (tx j).2 := by
      exact Value.ref.inj (OF_in i1 j1)
    rw [← e2] at j2
    obtain ⟨c, g1, g2, g3, g4, g5, g6, g7⟩ := i2
    obtain ⟨c', k1, k2, k3, k4, k5, k6, k7⟩ := j2
    cases g1.symm.trans k1
    have hn := g5.symm.trans k5
    refine text_in i hi j hj hn (fun k hk => ?_)
    have hl : (txtL.map List.length).getD i 0 = (txtL.map List.length).getD j 0 := (by decide +kernel : ∀ i, i < 23 → ∀ j, j < 23 → Int32.ofNat ((txtL.map List.length).getD i 0) = Int32.ofNat ((txtL.map List.length).getD j 0) → (txtL.map List.length).getD i 0 = (txtL.map List.length).getD j 0) i hi j hj hn
    exact Value.int.inj (Option.some.inj ((g6 k hk).symm.trans (k6 k (hl ▸ hk))))
  obtain ⟨ev, e0, e1, e30, e31, e32, e34, e35, e40, e60⟩ : ∃ ev : Nat → Nat, (∀ i, i < 6 → ev i = aV i) ∧ (∀ i, i < 9 → ev (10 + i) = aB i) ∧ ev 30 = tv ∧ ev 31 = tb ∧ ev 32 = ta ∧ ev 34 = t1 ∧ ev 35 = t2 ∧ (∀ i, i < 23 → ev (40 + i) = (tx i).1) ∧ (∀ i, i < 23 → ev (70 + i) = (tx i).2) := by
    refine ⟨fun n => if n < 6 then aV n else if n < 19 then aB (n - 10) else if n = 30 then tv else if n = 31 then tb else if n = 32 then ta else if n = 34 then t1 else if n = 35 then t2 else if n < 63 then (tx (n - 40)).1 else (tx (n - 70)).2, fun i hi => if_pos hi, fun i hi => ?_, rfl, rfl, rfl, rfl, rfl, fun i hi => ?_, fun i hi => ?_⟩
    · dsimp only
      rw [if_neg (by omega), if_pos (by omega), Nat.add_sub_cancel_left]
    · dsimp only
      rw [if_neg (by omega), if_neg (by omega), if_neg (by omega), if_neg (by omega), if_neg (by omega), if_neg (by omega), if_neg (by omega), if_pos (by omega), Nat.add_sub_cancel_left]
    · dsimp only
      rw [if_neg (by omega), if_neg (by omega), if_neg (by omega), if_neg (by omega), if_neg (by omega), if_neg (by omega), if_neg (by omega), if_neg (by omega), Nat.add_sub_cancel_left]
  refine ⟨ev, ?_, ⟨⟨va_En_cg hV e0, va_En_cg hB e1, ⟨by rw [e30]; exact zv, by rw [e30]; exact rv⟩, ⟨by rw [e31]; exact zb, by rw [e31]; exact rb⟩, ⟨by rw [e32]; exact za, by rw [e32]; exact va_T_cg ra (fun j hj => congrArg Value.ref (e1 j hj))⟩, va_Ef_cg hk (fun i hi => congrArg Value.ref (e40 i (by omega))) e1, va_Ef_cg ha (fun i hi => congrArg Value.ref (e40 _ ((by decide +kernel : ∀ i, i < 9 → argN.getD i 0 < 23) i hi))) e1, ?_, prem_XV hts hs⟩, va_Zof (hts _ (by decide +kernel)) (hts _ (by decide +kernel)) (va_eqi (hs _ (by decide +kernel))) (AH_o s), va_Zqof (hts _ (by decide +kernel)) (hts _ (by decide +kernel)) (hs _ (by decide +kernel)) (AH_o s)⟩, ⟨⟨by rw [e34]; exact z1, by rw [e34]; exact r1⟩, ⟨by rw [e35]; exact z2, by rw [e35]; exact r2⟩⟩⟩
  · refine ⟨fun q hq => ?_, prem_AA hts, va_Nw.of rfl (hts _ (by decide +kernel))⟩
    obtain ⟨hq1, hq2, hq3⟩ := (by decide +kernel : ∀ q ∈ lTx, Cond.stringRef "BridgeAuctionLaw" q.1 q.2.2 ∈ lw_tbl ∧ q.2.1 < 23 ∧ txT q.2.1 = .string "BridgeAuctionLaw" q.1) q hq
    have hh := (htx q.2.1 hq2).1
    rw [hq3] at hh
    rw [e40 q.2.1 hq2]
    exact vk_R.of (hts _ hq1) hh
  · refine ⟨fun i hi => ?_, fun i j hi hj q => hS.2 i j hi hj ?_⟩
    · show va_O _ (ev (40 + i)) _ _ _ ∧ va_OF _ _ _ _ (ev (40 + i)) _ _ _ ∧ va_OF _ _ _ (.ref (ev (70 + i))) (ev (40 + i)) _ _ _ ∧ va_T _ (ev (70 + i)) _ _ _ _ _
      rw [e40 i hi, e60 i hi]
      exact hS.1 i hi
    · have q : ev (40 + i) = ev (40 + j) := q
      rw [e40 i hi, e40 j hj] at q
      exact q
