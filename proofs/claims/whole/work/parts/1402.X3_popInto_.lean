def f_X3_popInto_ (N : (Nat × Nat)) (Gj : GS) (G : GS) : Nat × (Nat × Nat) × GS := (lt_ (f_X1_copyFrom G Gj) (fun y26 => ((nCt N - 1), (mkHH ((nNx N + 7) % 8) (nCt N - 1)), y26)))
set_option maxHeartbeats 4000000 in
set_option maxRecDepth 100000 in
theorem c_X3_popInto_ (l : Launch) (D : va_G) (C : Nat → ClassId) (h : Nat → Nat) (N : (Nat × Nat)) (Gj : GS) (a : Nat → Nat) (G : GS) (sz : Nat) (hN : nNx N < 8) (hC0 : 0 < nCt N) (hC : nCt N ≤ 8) : Met l yX3_popInto wsX3_popInto ({ frames := 2, cells := 0, slots := 0, locals := 41 } : Room) (rwP [.ref (h 0), .ref (a 0)] D C (hhcells C h N ++ gcells C (hG h ((nNx N + 7) % 8)) Gj ++ gcells C a G) sz) (rwO (some (.int (nI ((f_X3_popInto_ N Gj G).1)))) D (hhcells C h ((f_X3_popInto_ N Gj G).2.1) ++ gcells C (hG h ((nNx N + 7) % 8)) Gj ++ gcells C a ((f_X3_popInto_ N Gj G).2.2)) (va_A (hhcells C h N ++ gcells C (hG h ((nNx N + 7) % 8)) Gj ++ gcells C a G) sz)) 0 0 (va_A (hhcells C h N ++ gcells C (hG h ((nNx N + 7) % 8)) Gj ++ gcells C a G) sz) := by
  refine Met.ofW (cc := cX3_popInto) (maxL := 2) (ret := (some .int)) (by decide) rfl ?_
  intro p e s m args below meth c s₁ B hml hv
  obtain ⟨rfl, hsz, hP, hK, hD0, hE⟩ := hv
  have hx := B.exec
  have hb := B.bytes
  have hr := B.returns
  have hts := atoms_spec (ws := wsX3_popInto) B.pre
  have hown : s.vm.findClass RX3 = some m.cls := findClass_of_methodNamed B.named
  have hlocks := B.notSynchronized
  subst hsz
  have hD := hD0.self (sz := s.heap.size)
  generalize hAe : va_A (hhcells C h N ++ gcells C (hG h ((nNx N + 7) % 8)) Gj ++ gcells C a G) s.heap.size = A at hD ⊢
  have hA : ∀ q : Nat, s.heap.size ≤ q → A q := fun q h => by rw [← hAe]; exact Or.inr h
  have hS0 : va_S A s.heap s.heap [] := va_S.rf
  have hP : va_P D vwCl (hhcells C h N ++ gcells C (hG h ((nNx N + 7) % 8)) Gj ++ gcells C a G) s.heap := hP
  have hS := hS0
  have hinX3 : ∀ w ∈ u_ws RX3 TX3 3, w ∈ wsX3_popInto := by decide +kernel
  have hl := lv_entry ([.ref (h 0), .ref (a 0)]) (n := 2) (Nat.le_of_ble_eq_true rfl)
  rw [lg_entry_eq]
  generalize (lg_sl ([.ref (h 0), .ref (a 0)]) ++ List.replicate (2 - (lg_sl ([.ref (h 0), .ref (a 0)])).length) Slot.unset).toArray = ls at hl ⊢
  have hl : lv_has ls 2 [(0, .ref (h 0)), (1, .ref (a 0))] := hl
  obtain ⟨z, hz⟩ : ∃ z, z = f_X3_popInto_ N Gj G := ⟨_, rfl⟩
  rw [← hz]
  refine lv_aload_n hx hb dX3_popInto_0 rfl (lv_at hl 0 rfl) ?_
  refine lv_aload_n hx hb dX3_popInto_1 rfl (lv_at hl 0 rfl) ?_
  refine va_get (D := D) (ci := 6) (v := .int (nI (nNx N))) (C := RX3) (T := TX3) (N := 3) hx hb hts hinX3 hown hK hP 0 rfl rfl 1 (by decide) (hts (.fieldLink RX3 17 "BridgeAuction$History" "next" "I") (by decide +kernel)) (fun _ h9 => h9) rfl dX3_popInto_2 ?_
  refine lv_bipush (v := 8) hx hb dX3_popInto_5 (by decide +kernel) ?_
  refine topN (k := 8) (by decide +kernel) ?_
  refine addN hx hb dX3_popInto_7 ?_
  refine lv_iconst (v := 1) hx hb dX3_popInto_8 (by decide) ?_
  refine lv_isub hx hb dX3_popInto_9 ?_
  refine topN (k := (nNx N + 7)) (show ((nI ((nNx N) + 8)) - 1) = (nI (nNx N + 7)) from by exact nI_pred (nNx N + 7)) ?_
  refine lv_bipush (v := 8) hx hb dX3_popInto_10 (by decide +kernel) ?_
  refine lv_irem hx hb dX3_popInto_12 (by decide) ?_
  refine topN (k := ((nNx N + 7) % 8)) (show ((nI (nNx N + 7)) - (nI (nNx N + 7)) / 8 * 8) = (nI ((nNx N + 7) % 8)) from by exact nI_rem8 (by omega)) ?_
  refine va_put (D := D) (ci := 6) (v := .int (nI ((nNx N + 7) % 8))) (ty := .int) (C := RX3) (T := TX3) (N := 3) hx hb hts hinX3 tyX3 tyX3_ok nmX3 hown hK hP hD hS 0 rfl rfl 1 (by decide) (hts (.fieldLink RX3 17 "BridgeAuction$History" "next" "I") (by decide +kernel)) (fun _ h9 => h9) rfl (by decide +kernel) rfl rfl (Nat.le_of_ble_eq_true rfl) dX3_popInto_13 (fun H locs hP hD hS => ?_)
  have hP : va_P D vwCl (hhcells C h (mkHH ((nNx N + 7) % 8) (nCt N)) ++ gcells C (hG h ((nNx N + 7) % 8)) Gj ++ gcells C a G) H := hP
  have hD : va_D A (hhcells C h (mkHH ((nNx N + 7) % 8) (nCt N)) ++ gcells C (hG h ((nNx N + 7) % 8)) Gj ++ gcells C a G) := hD
  refine lv_aload_n hx hb dX3_popInto_16 rfl (lv_at hl 1 rfl) ?_
  refine lv_aload_n hx hb dX3_popInto_17 rfl (lv_at hl 0 rfl) ?_
  refine va_get (D := D) (ci := 6) (v := .ref (h 1)) (C := RX3) (T := TX3) (N := 3) hx hb hts hinX3 hown hK hP 0 rfl rfl 0 (by decide) (hts (.fieldLink RX3 11 "BridgeAuction$History" "ring" "[LBridgeAuction$Game;") (by decide +kernel)) (fun _ h9 => h9) rfl dX3_popInto_18 ?_
  refine lv_aload_n hx hb dX3_popInto_21 rfl (lv_at hl 0 rfl) ?_
  refine va_get (D := D) (ci := 6) (v := .int (nI ((nNx N + 7) % 8))) (C := RX3) (T := TX3) (N := 3) hx hb hts hinX3 hown hK hP 0 rfl rfl 1 (by decide) (hts (.fieldLink RX3 17 "BridgeAuction$History" "next" "I") (by decide +kernel)) (fun _ h9 => h9) rfl dX3_popInto_22 ?_
  refine aldqN (K := "BridgeAuction$Game") hx hb hK hP 1 2 rfl rfl (i := ((nNx N + 7) % 8)) (by omega) (by decide) dX3_popInto_25 ?_
  have hPc := hP.sub (ws' := (gcells C a G ++ gcells C (hG h ((nNx N + 7) % 8)) Gj)) [11, 12, 13, 14, 15, 16, 17, 18, 19, 2, 3, 4, 5, 6, 7, 8, 9, 10] rfl
  have hDc := hD.sub (ws' := (gcells C a G ++ gcells C (hG h ((nNx N + 7) % 8)) Gj)) [11, 12, 13, 14, 15, 16, 17, 18, 19, 2, 3, 4, 5, 6, 7, 8, 9, 10] (by decide) rfl
  have hFc := va_free (wc := (gcells C a G ++ gcells C (hG h ((nNx N + 7) % 8)) Gj)) hD hS hA [11, 12, 13, 14, 15, 16, 17, 18, 19, 2, 3, 4, 5, 6, 7, 8, 9, 10] rfl
  refine callRw (va_runV (As := [.ref ((hG h ((nNx N + 7) % 8)) 0)]) (rest := []) ⟨hx, hb, hml, hown, hts⟩ (c_X1_copyFrom l D C a G (hG h ((nNx N + 7) % 8)) Gj _) (cwV 1 hts gX3_popInto_X1_copyFrom rfl rfl rfl (by decide +kernel) ⟨Nat.le_of_ble_eq_true rfl, Nat.le_of_ble_eq_true rfl⟩) (rwP_v hPc hK hE hDc (va_recv hK hPc (ci := 4) (q0 := 0) rfl rfl)) rfl rfl hl.1 rfl (lv_room (Nat.le_of_ble_eq_true rfl)) dX3_popInto_26 ⟨Nat.le_refl _, Nat.le_refl _⟩) hS hFc (fun H1 locs hPn hk hS => ?_)
  generalize hy26 : (f_X1_copyFrom G Gj) = y26 at hPn ⊢
  have hz := lt_eq hz hy26.symm
  have hP : va_P D vwCl (hhcells C h (mkHH ((nNx N + 7) % 8) (nCt N)) ++ gcells C (hG h ((nNx N + 7) % 8)) Gj ++ gcells C a y26) H1 := rwJoin (wr := (hhcells C h (mkHH ((nNx N + 7) % 8) (nCt N)))) (ws' := (hhcells C h (mkHH ((nNx N + 7) % 8) (nCt N)) ++ gcells C (hG h ((nNx N + 7) % 8)) Gj ++ gcells C a y26)) hP hD [11, 12, 13, 14, 15, 16, 17, 18, 19, 2, 3, 4, 5, 6, 7, 8, 9, 10] [0, 1] rfl rfl (by decide) (by decide) (by decide) hk hFc hPn rfl [0, 1, 11, 12, 13, 14, 15, 16, 17, 18, 19, 2, 3, 4, 5, 6, 7, 8, 9, 10] rfl
  have hD : va_D A (hhcells C h (mkHH ((nNx N + 7) % 8) (nCt N)) ++ gcells C (hG h ((nNx N + 7) % 8)) Gj ++ gcells C a y26) := adr_D hD rfl
  generalize H1 = H at hP hS ⊢
  refine lv_aload_n hx hb dX3_popInto_29 rfl (lv_at hl 0 rfl) ?_
  refine lv_dup hx hb dX3_popInto_30 rfl ?_
  refine va_get (D := D) (ci := 6) (v := .int (nI (nCt N))) (C := RX3) (T := TX3) (N := 3) hx hb hts hinX3 hown hK hP 0 rfl rfl 2 (by decide) (hts (.fieldLink RX3 21 "BridgeAuction$History" "count" "I") (by decide +kernel)) (fun _ h9 => h9) rfl dX3_popInto_31 ?_
  refine lv_iconst (v := 1) hx hb dX3_popInto_34 (by decide) ?_
  refine lv_isub hx hb dX3_popInto_35 ?_
  refine topN (k := (nCt N - 1)) (show ((nI (nCt N)) - 1) = (nI (nCt N - 1)) from by exact nI_dec (by omega)) ?_
  refine va_put (D := D) (ci := 6) (v := .int (nI (nCt N - 1))) (ty := .int) (C := RX3) (T := TX3) (N := 3) hx hb hts hinX3 tyX3 tyX3_ok nmX3 hown hK hP hD hS 0 rfl rfl 2 (by decide) (hts (.fieldLink RX3 21 "BridgeAuction$History" "count" "I") (by decide +kernel)) (fun _ h9 => h9) rfl (by decide +kernel) rfl rfl (Nat.le_of_ble_eq_true rfl) dX3_popInto_36 (fun H locs hP hD hS => ?_)
  have hP : va_P D vwCl (hhcells C h (mkHH ((nNx N + 7) % 8) (nCt N - 1)) ++ gcells C (hG h ((nNx N + 7) % 8)) Gj ++ gcells C a y26) H := hP
  have hD : va_D A (hhcells C h (mkHH ((nNx N + 7) % 8) (nCt N - 1)) ++ gcells C (hG h ((nNx N + 7) % 8)) Gj ++ gcells C a y26) := hD
  refine lv_aload_n hx hb dX3_popInto_39 rfl (lv_at hl 0 rfl) ?_
  refine va_get (D := D) (ci := 6) (v := .int (nI (nCt N - 1))) (C := RX3) (T := TX3) (N := 3) hx hb hts hinX3 hown hK hP 0 rfl rfl 2 (by decide) (hts (.fieldLink RX3 21 "BridgeAuction$History" "count" "I") (by decide +kernel)) (fun _ h9 => h9) rfl dX3_popInto_40 ?_
  have hz : z = ((nCt N - 1), (mkHH ((nNx N + 7) % 8) (nCt N - 1)), y26) := hz
  rw [hz]
  exact rw_ret hx hb hr hP hS rfl dX3_popInto_43 hlocks

