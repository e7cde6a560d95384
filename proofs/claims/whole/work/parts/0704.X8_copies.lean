def f_X8_copies_l3b (F1 : (Nat → Int32)) (x1 : Nat) (x2 : Nat) (k3 : Nat) (arb1_3 : (Nat → Int32)) : Sum ((Nat → Int32)) ((Nat → Int32)) := (Sum.inr (upd arb1_3 (x2 + k3) (F1 (x1 + k3))))
def f_X8_copies_l3x (F1 : (Nat → Int32)) (x1 : Nat) (x2 : Nat) (arb1_3 : (Nat → Int32)) : (Nat → Int32) := arb1_3
def f_X8_copies_l3s (F1 : (Nat → Int32)) (x1 : Nat) (x2 : Nat) (k3 : Nat) (q_ : (Nat → Int32)) : Sum ((Nat → Int32)) ((Nat → Int32)) := f_X8_copies_l3b F1 x1 x2 k3 (q_)
def f_X8_copies_l3e (F1 : (Nat → Int32)) (x1 : Nat) (x2 : Nat) (q_ : (Nat → Int32)) : (Nat → Int32) := f_X8_copies_l3x F1 x1 x2 (q_)
def f_X8_copies_l3 (F1 : (Nat → Int32)) (x1 : Nat) (x2 : Nat) (n3 k3 : Nat) (arb1_3 : (Nat → Int32)) : (Nat → Int32) := lpF (f_X8_copies_l3s F1 x1 x2) (f_X8_copies_l3e F1 x1 x2) n3 k3 arb1_3
def f_X8_copies (F1 : (Nat → Int32)) (F2 : (Nat → Int32)) (x1 : Nat) (x2 : Nat) : (Nat → Int32) := (f_X8_copies_l3 F1 x1 x2 (178) 0 (F2))
set_option maxHeartbeats 4000000 in
set_option maxRecDepth 100000 in
theorem c_X8_copies (l : Launch) (D : va_G) (C : Nat → ClassId) (n1 : Nat) (n2 : Nat) (r1 : Nat) (F1 : (Nat → Int32)) (r2 : Nat) (F2 : (Nat → Int32)) (x1 : Nat) (x2 : Nat) (sz : Nat) (hc1 : x1 + 178 ≤ n1) (hc2 : x2 + 178 ≤ n2) (hc3 : n1 < 2 ^ 31) (hc4 : n2 < 2 ^ 31) : Met l yX8_copies wsX8_copies ({ frames := 0, cells := 0, slots := 0, locals := 0 } : Room) (rwP [.ref r1, .int (nI x1), .ref r2, .int (nI x2)] D C ([(r1, .inl (C 0, n1, .inl F1))] ++ [(r2, .inl (C 0, n2, .inl F2))]) sz) (rwO none D ([(r1, .inl (C 0, n1, .inl F1))] ++ [(r2, .inl (C 0, n2, .inl ((f_X8_copies F1 F2 x1 x2))))]) (va_A ([(r1, .inl (C 0, n1, .inl F1))] ++ [(r2, .inl (C 0, n2, .inl F2))]) sz)) 0 0 (va_A ([(r1, .inl (C 0, n1, .inl F1))] ++ [(r2, .inl (C 0, n2, .inl F2))]) sz) := by
  refine Met.ofW (cc := cX8_copies) (maxL := 5) (ret := none) (by decide) rfl ?_
  intro p e s m args below meth c s₁ B hml hv
  obtain ⟨rfl, hsz, hP, hK, hD0, hE⟩ := hv
  have hx := B.exec
  have hb := B.bytes
  have hr := B.returns
  have hts := atoms_spec (ws := wsX8_copies) B.pre
  have hown : s.vm.findClass RX8 = some m.cls := findClass_of_methodNamed B.named
  have hlocks := B.notSynchronized
  subst hsz
  have hD := hD0.self (sz := s.heap.size)
  generalize hAe : va_A ([(r1, .inl (C 0, n1, .inl F1))] ++ [(r2, .inl (C 0, n2, .inl F2))]) s.heap.size = A at hD ⊢
  have hA : ∀ q : Nat, s.heap.size ≤ q → A q := fun q h => by rw [← hAe]; exact Or.inr h
  have hS0 : va_S A s.heap s.heap [] := va_S.rf
  have hP : va_P D vwCl ([(r1, .inl (C 0, n1, .inl F1))] ++ [(r2, .inl (C 0, n2, .inl F2))]) s.heap := hP
  have hS := hS0
  have hl := lv_entry ([.ref r1, .int (nI x1), .ref r2, .int (nI x2)]) (n := 5) (Nat.le_of_ble_eq_true rfl)
  rw [lg_entry_eq]
  generalize (lg_sl ([.ref r1, .int (nI x1), .ref r2, .int (nI x2)]) ++ List.replicate (5 - (lg_sl ([.ref r1, .int (nI x1), .ref r2, .int (nI x2)])).length) Slot.unset).toArray = ls at hl ⊢
  have hl : lv_has ls 5 [(0, .ref r1), (1, .int (nI x1)), (2, .ref r2), (3, .int (nI x2))] := hl
  obtain ⟨z, hz⟩ : ∃ z, z = f_X8_copies F1 F2 x1 x2 := ⟨_, rfl⟩
  rw [← hz]
  have J3 : ∀ (n3 k3 : Nat) (arb1_3 : (Nat → Int32)) (H : Heap) (locs : List Loc) (ls : Array Slot), k3 + n3 = 178 → z = f_X8_copies_l3 F1 x1 x2 n3 k3 arb1_3 → va_P D vwCl ([(r1, .inl (C 0, n1, .inl F1))] ++ [(r2, .inl (C 0, n2, .inl arb1_3))]) H → va_D A ([(r1, .inl (C 0, n1, .inl F1))] ++ [(r2, .inl (C 0, n2, .inl arb1_3))]) → va_S A s.heap H locs → lv_has ls 5 [(0, .ref r1), (1, .int (nI x1)), (2, .ref r2), (3, .int (nI x2)), (4, .int (nI k3))] → W p l e ({ frames := 0, cells := 0, slots := 0, locals := 0 } : Room) s m ([.ref r1, .int (nI x1), .ref r2, .int (nI x2)] : List Value).toArray below meth c H locs 0 0 (MQ below (rwO none D ([(r1, .inl (C 0, n1, .inl F1))] ++ [(r2, .inl (C 0, n2, .inl z))]) A) ([.ref r1, .int (nI x1), .ref r2, .int (nI x2)] : List Value).toArray s 0 0 A) (F0 m 3 ls []) := by
    intro n3
    induction n3 with
    | zero =>
      intro k3 arb1_3 H locs ls hk3 hz  hP hD hS hl
      have hz : z = f_X8_copies_l3x F1 x1 x2 arb1_3 := hz
      refine lv_iload hx hb dX8_copies_3 (lv_at hl 4 rfl) ?_
      refine lv_sipush (v := 178) hx hb dX8_copies_5 (by decide +kernel) ?_
      refine lv_icmp_ge (tgt := 29) hx hb dX8_copies_8 (by decide) (fun c_8 => ?_) (fun c_8 => absurd (by have e : (178 : Int32) = nI 178 := (by decide +kernel); rw [e]; exact nI_le (by omega) (by omega)) c_8)
      have hz : z = arb1_3 := hz
      rw [hz]
      exact rw_retV hx hb hr hP hS dX8_copies_29 hlocks
    | succ n3 ih3 =>
      intro k3 arb1_3 H locs ls hk3 hz3  hP hD hS hl
      obtain ⟨z3, hz⟩ : ∃ zz_, zz_ = f_X8_copies_l3b F1 x1 x2 k3 arb1_3 := ⟨_, rfl⟩
      have hq3 : z = sE id (fun q_ => lpF (f_X8_copies_l3s F1 x1 x2) (f_X8_copies_l3e F1 x1 x2) n3 (k3 + 1) q_) z3 := by rw [hz3, hz]; rfl
      refine lv_iload hx hb dX8_copies_3 (lv_at hl 4 rfl) ?_
      refine lv_sipush (v := 178) hx hb dX8_copies_5 (by decide +kernel) ?_
      refine lv_icmp_ge (tgt := 29) hx hb dX8_copies_8 (by decide) (fun c_8 => absurd c_8 (by have e : (178 : Int32) = nI 178 := (by decide +kernel); rw [e]; exact nI_ge (by omega) (by omega))) (fun c_8 => ?_)
      refine lv_aload_n hx hb dX8_copies_11 rfl (lv_at hl 2 rfl) ?_
      refine lv_iload_n hx hb dX8_copies_12 rfl (lv_at hl 3 rfl) ?_
      refine lv_iload hx hb dX8_copies_13 (lv_at hl 4 rfl) ?_
      refine addN hx hb dX8_copies_15 ?_
      refine lv_aload_n hx hb dX8_copies_16 rfl (lv_at hl 0 rfl) ?_
      refine lv_iload_n hx hb dX8_copies_17 rfl (lv_at hl 1 rfl) ?_
      refine lv_iload hx hb dX8_copies_18 (lv_at hl 4 rfl) ?_
      refine addN hx hb dX8_copies_20 ?_
      refine ialdN (tys := tyA C) hx hb hK hP 0 0 rfl rfl (i := (x1 + k3)) (by omega) (by omega) dX8_copies_21 ?_
      refine iastN (tys := tyA C) hx hb hK hP hD hS 1 0 rfl rfl (i := (x2 + k3)) (by omega) (by omega) dX8_copies_22 (fun H locs hP hD hS => ?_)
      have hP : va_P D vwCl ([(r1, .inl (C 0, n1, .inl F1))] ++ [(r2, .inl (C 0, n2, .inl (upd arb1_3 (x2 + k3) (F1 (x1 + k3)))))]) H := hP
      have hD : va_D A ([(r1, .inl (C 0, n1, .inl F1))] ++ [(r2, .inl (C 0, n2, .inl (upd arb1_3 (x2 + k3) (F1 (x1 + k3)))))]) := hD
      refine lv_iinc (v := (nI (k3 + 1))) (lv' := [(4, .int (nI (k3 + 1))), (0, .ref r1), (1, .int (nI x1)), (2, .ref r2), (3, .int (nI x2))]) hx hb dX8_copies_23 hl (k := 4) rfl (by exact nI_1 _) (by decide) rfl (fun ls hl => ?_)
      refine lv_goto (tgt := 3) hx hb dX8_copies_26 (by decide) ?_
      exact ih3 (k3 + 1) ((upd arb1_3 (x2 + k3) (F1 (x1 + k3)))) _ _ ls (by omega) (by rw [hq3, hz]; rfl)  hP hD hS (lv_sub hl [1, 2, 3, 4, 0] rfl)
  refine lv_iconst (v := 0) hx hb dX8_copies_0 (by decide) ?_
  refine lv_istore (lv' := [(4, .int 0), (0, .ref r1), (1, .int (nI x1)), (2, .ref r2), (3, .int (nI x2))]) hx hb dX8_copies_1 hl (by decide) rfl (fun ls hl => ?_)
  exact J3 (178) 0 (F2) _ _ ls (by omega) hz  hP hD hS (lv_sub hl [1, 2, 3, 4, 0] rfl)

