theorem copyFrom_safe {G G2 : GS} (h : GSafe G) (h2 : GSafe G2) : GSafe (f_X1_copyFrom G G2) :=
  ⟨h2.1, h2.2.1, fun k => cpy_all (P := fun x => x < 8) h2.2.2.1 h.2.2.1 k, fun k => cpy_all (P := fun x => x < 8) h2.2.2.2 h.2.2.2 k⟩
def f_X3_push_ (N : (Nat × Nat)) (Gj : GS) (G : GS) : (Nat × Nat) × GS := (lt_ (f_X1_copyFrom Gj G) (fun y10 => ((mkHH ((nNx N + 1) % 8) (min (nCt N + 1) 8)), y10)))
set_option maxHeartbeats 4000000 in
set_option maxRecDepth 100000 in
theorem c_X3_push_ (l : Launch) (D : va_G) (C : Nat → ClassId) (h : Nat → Nat) (N : (Nat × Nat)) (Gj : GS) (a : Nat → Nat) (G : GS) (sz : Nat) (hN : nNx N < 8) (hC : nCt N ≤ 8) : Met l yX3_push wsX3_push ({ frames := 2, cells := 0, slots := 0, locals := 41 } : Room) (rwP [.ref (h 0), .ref (a 0)] D C (hhcells C h N ++ gcells C (hG h (nNx N)) Gj ++ gcells C a G) sz) (rwO none D (hhcells C h ((f_X3_push_ N Gj G).1) ++ gcells C (hG h (nNx N)) ((f_X3_push_ N Gj G).2) ++ gcells C a G) (va_A (hhcells C h N ++ gcells C (hG h (nNx N)) Gj ++ gcells C a G) sz)) 0 0 (va_A (hhcells C h N ++ gcells C (hG h (nNx N)) Gj ++ gcells C a G) sz) := by
  refine Met.ofW (cc := cX3_push) (maxL := 2) (ret := none) (by decide) rfl ?_
  intro p e s m args below meth c s₁ B hml hv
  obtain ⟨rfl, hsz, hP, hK, hD0, hE⟩ := hv
  have hx := B.exec
  have hb := B.bytes
  have hr := B.returns
  have hts := atoms_spec (ws := wsX3_push) B.pre
  have hown : s.vm.findClass RX3 = some m.cls := findClass_of_methodNamed B.named
  have hlocks := B.notSynchronized
  subst hsz
  have hD := hD0.self (sz := s.heap.size)
  generalize hAe : va_A (hhcells C h N ++ gcells C (hG h (nNx N)) Gj ++ gcells C a G) s.heap.size = A at hD ⊢
  have hA : ∀ q : Nat, s.heap.size ≤ q → A q := fun q h => by rw [← hAe]; exact Or.inr h
  have hS0 : va_S A s.heap s.heap [] := va_S.rf
  have hP : va_P D vwCl (hhcells C h N ++ gcells C (hG h (nNx N)) Gj ++ gcells C a G) s.heap := hP
  have hS := hS0
  have hinX3 : ∀ w ∈ u_ws RX3 TX3 3, w ∈ wsX3_push := by decide +kernel
  have hl := lv_entry ([.ref (h 0), .ref (a 0)]) (n := 2) (Nat.le_of_ble_eq_true rfl)
  rw [lg_entry_eq]
  generalize (lg_sl ([.ref (h 0), .ref (a 0)]) ++ List.replicate (2 - (lg_sl ([.ref (h 0), .ref (a 0)])).length) Slot.unset).toArray = ls at hl ⊢
  have hl : lv_has ls 2 [(0, .ref (h 0)), (1, .ref (a 0))] := hl
  obtain ⟨z, hz⟩ : ∃ z, z = f_X3_push_ N Gj G := ⟨_, rfl⟩
  rw [← hz]
  refine lv_aload_n hx hb dX3_push_0 rfl (lv_at hl 0 rfl) ?_
  refine va_get (D := D) (ci := 6) (v := .ref (h 1)) (C := RX3) (T := TX3) (N := 3) hx hb hts hinX3 hown hK hP 0 rfl rfl 0 (by decide) (hts (.fieldLink RX3 11 "BridgeAuction$History" "ring" "[LBridgeAuction$Game;") (by decide +kernel)) (fun _ h9 => h9) rfl dX3_push_1 ?_
  refine lv_aload_n hx hb dX3_push_4 rfl (lv_at hl 0 rfl) ?_
  refine va_get (D := D) (ci := 6) (v := .int (nI (nNx N))) (C := RX3) (T := TX3) (N := 3) hx hb hts hinX3 hown hK hP 0 rfl rfl 1 (by decide) (hts (.fieldLink RX3 17 "BridgeAuction$History" "next" "I") (by decide +kernel)) (fun _ h9 => h9) rfl dX3_push_5 ?_
  refine aldqN (K := "BridgeAuction$Game") hx hb hK hP 1 2 rfl rfl (i := (nNx N)) (by omega) (by decide) dX3_push_8 ?_
  refine lv_aload_n hx hb dX3_push_9 rfl (lv_at hl 1 rfl) ?_
  have hPc := hP.sub (ws' := (gcells C (hG h (nNx N)) Gj ++ gcells C a G)) [2, 3, 4, 5, 6, 7, 8, 9, 10, 11, 12, 13, 14, 15, 16, 17, 18, 19] rfl
  have hDc := hD.sub (ws' := (gcells C (hG h (nNx N)) Gj ++ gcells C a G)) [2, 3, 4, 5, 6, 7, 8, 9, 10, 11, 12, 13, 14, 15, 16, 17, 18, 19] (by decide) rfl
  have hFc := va_free (wc := (gcells C (hG h (nNx N)) Gj ++ gcells C a G)) hD hS hA [2, 3, 4, 5, 6, 7, 8, 9, 10, 11, 12, 13, 14, 15, 16, 17, 18, 19] rfl
  refine callRw (va_runV (As := [.ref (a 0)]) (rest := []) ⟨hx, hb, hml, hown, hts⟩ (c_X1_copyFrom l D C (hG h (nNx N)) Gj a G _) (cwV 1 hts gX3_push_X1_copyFrom rfl rfl rfl (by decide +kernel) ⟨Nat.le_of_ble_eq_true rfl, Nat.le_of_ble_eq_true rfl⟩) (rwP_v hPc hK hE hDc (va_recv hK hPc (ci := 4) (q0 := 0) rfl rfl)) rfl rfl hl.1 rfl (lv_room (Nat.le_of_ble_eq_true rfl)) dX3_push_10 ⟨Nat.le_refl _, Nat.le_refl _⟩) hS hFc (fun H1 locs hPn hk hS => ?_)
  generalize hy10 : (f_X1_copyFrom Gj G) = y10 at hPn ⊢
  have hz := lt_eq hz hy10.symm
  have hP : va_P D vwCl (hhcells C h N ++ gcells C (hG h (nNx N)) y10 ++ gcells C a G) H1 := rwJoin (wr := (hhcells C h N)) (ws' := (hhcells C h N ++ gcells C (hG h (nNx N)) y10 ++ gcells C a G)) hP hD [2, 3, 4, 5, 6, 7, 8, 9, 10, 11, 12, 13, 14, 15, 16, 17, 18, 19] [0, 1] rfl rfl (by decide) (by decide) (by decide) hk hFc hPn rfl [0, 1, 2, 3, 4, 5, 6, 7, 8, 9, 10, 11, 12, 13, 14, 15, 16, 17, 18, 19] rfl
  have hD : va_D A (hhcells C h N ++ gcells C (hG h (nNx N)) y10 ++ gcells C a G) := adr_D hD rfl
  generalize H1 = H at hP hS ⊢
  refine lv_aload_n hx hb dX3_push_13 rfl (lv_at hl 0 rfl) ?_
  refine lv_aload_n hx hb dX3_push_14 rfl (lv_at hl 0 rfl) ?_
  refine va_get (D := D) (ci := 6) (v := .int (nI (nNx N))) (C := RX3) (T := TX3) (N := 3) hx hb hts hinX3 hown hK hP 0 rfl rfl 1 (by decide) (hts (.fieldLink RX3 17 "BridgeAuction$History" "next" "I") (by decide +kernel)) (fun _ h9 => h9) rfl dX3_push_15 ?_
  refine lv_iconst (v := 1) hx hb dX3_push_18 (by decide) ?_
  refine topN (k := 1) (by decide +kernel) ?_
  refine addN hx hb dX3_push_19 ?_
  refine lv_bipush (v := 8) hx hb dX3_push_20 (by decide +kernel) ?_
  refine lv_irem hx hb dX3_push_22 (by decide) ?_
  refine topN (k := ((nNx N + 1) % 8)) (show ((nI ((nNx N) + 1)) - (nI ((nNx N) + 1)) / 8 * 8) = (nI ((nNx N + 1) % 8)) from by exact nI_rem8 (by omega)) ?_
  refine va_put (D := D) (ci := 6) (v := .int (nI ((nNx N + 1) % 8))) (ty := .int) (C := RX3) (T := TX3) (N := 3) hx hb hts hinX3 tyX3 tyX3_ok nmX3 hown hK hP hD hS 0 rfl rfl 1 (by decide) (hts (.fieldLink RX3 17 "BridgeAuction$History" "next" "I") (by decide +kernel)) (fun _ h9 => h9) rfl (by decide +kernel) rfl rfl (Nat.le_of_ble_eq_true rfl) dX3_push_23 (fun H locs hP hD hS => ?_)
  have hP : va_P D vwCl (hhcells C h (mkHH ((nNx N + 1) % 8) (nCt N)) ++ gcells C (hG h (nNx N)) y10 ++ gcells C a G) H := hP
  have hD : va_D A (hhcells C h (mkHH ((nNx N + 1) % 8) (nCt N)) ++ gcells C (hG h (nNx N)) y10 ++ gcells C a G) := hD
  refine lv_aload_n hx hb dX3_push_26 rfl (lv_at hl 0 rfl) ?_
  refine lv_aload_n hx hb dX3_push_27 rfl (lv_at hl 0 rfl) ?_
  refine va_get (D := D) (ci := 6) (v := .int (nI (nCt N))) (C := RX3) (T := TX3) (N := 3) hx hb hts hinX3 hown hK hP 0 rfl rfl 2 (by decide) (hts (.fieldLink RX3 21 "BridgeAuction$History" "count" "I") (by decide +kernel)) (fun _ h9 => h9) rfl dX3_push_28 ?_
  refine lv_iconst (v := 1) hx hb dX3_push_31 (by decide) ?_
  refine topN (k := 1) (by decide +kernel) ?_
  refine addN hx hb dX3_push_32 ?_
  refine lv_bipush (v := 8) hx hb dX3_push_33 (by decide +kernel) ?_
  refine va_mmin hx hb (hml.trans hl.1.symm) hown (hts (.methodLink RX3 29 Lib.Math.min.name) (by decide +kernel)) (hts (.static Lib.Math.min.name) (by decide +kernel)) (hts (.initialized "java/lang/Math") (by decide +kernel)) (hts (.code Lib.Math.min.name Lib.Math.min.code 2 (some .int)) (by decide +kernel)) (Nat.le_of_ble_eq_true rfl) (Nat.le_of_ble_eq_true rfl) (Nat.le_of_ble_eq_true rfl) (Nat.le_of_ble_eq_true rfl) dX3_push_35 ?_
  refine topI (y := (imin (nI ((nCt N) + 1)) 8)) rfl ?_
  refine topN (k := (min (nCt N + 1) 8)) (show (imin (nI ((nCt N) + 1)) 8) = (nI (min (nCt N + 1) 8)) from by exact imin_nI (b := 8) (by omega) (by decide)) ?_
  refine va_put (D := D) (ci := 6) (v := .int (nI (min (nCt N + 1) 8))) (ty := .int) (C := RX3) (T := TX3) (N := 3) hx hb hts hinX3 tyX3 tyX3_ok nmX3 hown hK hP hD hS 0 rfl rfl 2 (by decide) (hts (.fieldLink RX3 21 "BridgeAuction$History" "count" "I") (by decide +kernel)) (fun _ h9 => h9) rfl (by decide +kernel) rfl rfl (Nat.le_of_ble_eq_true rfl) dX3_push_38 (fun H locs hP hD hS => ?_)
  have hP : va_P D vwCl (hhcells C h (mkHH ((nNx N + 1) % 8) (min (nCt N + 1) 8)) ++ gcells C (hG h (nNx N)) y10 ++ gcells C a G) H := hP
  have hD : va_D A (hhcells C h (mkHH ((nNx N + 1) % 8) (min (nCt N + 1) 8)) ++ gcells C (hG h (nNx N)) y10 ++ gcells C a G) := hD
  have hz : z = ((mkHH ((nNx N + 1) % 8) (min (nCt N + 1) 8)), y10) := hz
  rw [hz]
  exact rw_retV hx hb hr hP hS dX3_push_41 hlocks

