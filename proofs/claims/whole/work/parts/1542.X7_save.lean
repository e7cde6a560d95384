def f_X7_save (Q : QS) (G : GS) (G1 : GS) : Nat × Int32 × QS × GS := (lt_ (f_X1_copyFrom G1 G) (fun y8 => (0, (nI (gP G)), (mkQ true (qEr Q) (qFa Q)), y8)))
set_option maxHeartbeats 4000000 in
set_option maxRecDepth 100000 in
theorem c_X7_save (l : Launch) (D : va_G) (C : Nat → ClassId) (ev : Nat → Nat) (u : Nat → Nat) (Q : QS) (G : GS) (G1 : GS) (sz : Nat) (hG : GSafe G) (hG : GSafe G1) (hl9 : l.stackTraces = false) : vx_Met l yX7_save wsX7_save ({ frames := 2, cells := 0, slots := 0, locals := 41 } : Room) (xP [.ref (u 0)] D C ev (wj [acells C u Q, gcells C (uA u) G, gcells C (uB u) G1]) sz) (xO ((f_X7_save Q G G1).1) (some (.int ((f_X7_save Q G G1).2.1))) D (wj [acells C u ((f_X7_save Q G G1).2.2.1), gcells C (uA u) G, gcells C (uB u) ((f_X7_save Q G G1).2.2.2)]) (va_A (wj [acells C u Q, gcells C (uA u) G, gcells C (uB u) G1]) sz)) (xC ((f_X7_save Q G G1).1) D (wj [acells C u ((f_X7_save Q G G1).2.2.1), gcells C (uA u) G, gcells C (uB u) ((f_X7_save Q G G1).2.2.2)]) (va_A (wj [acells C u Q, gcells C (uA u) G, gcells C (uB u) G1]) sz)) 0 0 (va_A (wj [acells C u Q, gcells C (uA u) G, gcells C (uB u) G1]) sz) := by
  refine vx_ofW (cc := cX7_save) (maxL := 1) (ret := (some .int)) (by decide) rfl ?_
  intro p e s m args below meth c s₁ B hml htab hv
  obtain ⟨rfl, hsz, hP, hK, hD0, hE, hR, hX, hT9, hV9⟩ := hv
  have hx := B.exec
  have hb := B.bytes
  have hr := B.returns
  have hts := atoms_spec (ws := wsX7_save) B.pre
  have hown : s.vm.findClass RX7 = some m.cls := findClass_of_methodNamed B.named
  have hlocks := B.notSynchronized
  subst hsz
  have hD := hD0.self (sz := s.heap.size)
  generalize hAe : va_A (wj [acells C u Q, gcells C (uA u) G, gcells C (uB u) G1]) s.heap.size = A at hD hX hV9 ⊢
  have hA : ∀ q : Nat, s.heap.size ≤ q → A q := fun q h => by rw [← hAe]; exact Or.inr h
  have hS0 : va_S A s.heap s.heap [] := va_S.rf
  have hP : va_P D vwCl (wj [acells C u Q, gcells C (uA u) G, gcells C (uB u) G1]) s.heap := hP
  have hS := hS0
  obtain ⟨⟨hV, hB, hMV, hMB, hAL, hEk, hEa, hTX, hXZ⟩, hCS, hSF⟩ := id hX
  obtain ⟨hS12, hP4, hlo, hhi⟩ := id hG
  obtain ⟨hS12, hP4, hlo, hhi⟩ := id hG
  have hinX1 : ∀ w ∈ u_ws RX1 TX1 16, w ∈ wsX7_save := by decide +kernel
  have hinX7 : ∀ w ∈ u_ws RX7 TX7 10, w ∈ wsX7_save := by decide +kernel
  have hl := lv_entry ([.ref (u 0)]) (n := 1) (Nat.le_of_ble_eq_true rfl)
  rw [lg_entry_eq]
  generalize (lg_sl ([.ref (u 0)]) ++ List.replicate (1 - (lg_sl ([.ref (u 0)])).length) Slot.unset).toArray = ls at hl ⊢
  have hl : lv_has ls 1 [(0, .ref (u 0))] := hl
  obtain ⟨z, hz⟩ : ∃ z, z = f_X7_save Q G G1 := ⟨_, rfl⟩
  rw [← hz]
  refine lv_aload_n hx hb dX7_save_0 rfl (lv_at hl 0 rfl) ?_
  refine va_get (D := D) (ci := 8) (v := .ref ((uB u) 0)) (C := RX7) (T := TX7) (N := 10) hx hb hts hinX7 hown hK hP 0 rfl rfl 1 (by decide) (hts (.fieldLink RX7 16 "BridgeAuction" "snapshot" "LBridgeAuction$Game;") (by decide +kernel)) (fun _ h9 => h9) rfl dX7_save_1 ?_
  refine lv_aload_n hx hb dX7_save_4 rfl (lv_at hl 0 rfl) ?_
  refine va_get (D := D) (ci := 8) (v := .ref ((uA u) 0)) (C := RX7) (T := TX7) (N := 10) hx hb hts hinX7 hown hK hP 0 rfl rfl 0 (by decide) (hts (.fieldLink RX7 10 "BridgeAuction" "game" "LBridgeAuction$Game;") (by decide +kernel)) (fun _ h9 => h9) rfl dX7_save_5 ?_
  have hPc : va_P D vwCl (gcells C (uB u) G1 ++ gcells C (uA u) G) _ := wj_P (cs := [gcells C (uB u) G1, gcells C (uA u) G]) hP [2, 1] rfl
  have hDc : va_D A (gcells C (uB u) G1 ++ gcells C (uA u) G) := wj_D (cs := [gcells C (uB u) G1, gcells C (uA u) G]) hD [2, 1] (by decide) rfl
  have hFc : ∀ q, va_A (gcells C (uB u) G1 ++ gcells C (uA u) G) (Array.size _) q → A q := wj_F (cs := [gcells C (uB u) G1, gcells C (uA u) G]) hD hS hA [2, 1] rfl
  refine callRw (va_runV (As := [.ref ((uA u) 0)]) (rest := []) ⟨hx, hb, hml, hown, hts⟩ (c_X1_copyFrom l D C (uB u) G1 (uA u) G _) (cwV 1 hts gX7_save_X1_copyFrom rfl rfl rfl (by decide +kernel) ⟨Nat.le_of_ble_eq_true rfl, Nat.le_of_ble_eq_true rfl⟩) (rwP_v hPc hK hE hDc (va_recv hK hPc (ci := 4) (q0 := 0) rfl rfl)) rfl rfl hl.1 rfl (lv_room (Nat.le_of_ble_eq_true rfl)) dX7_save_8 ⟨Nat.le_of_ble_eq_true rfl, Nat.le_of_ble_eq_true rfl⟩) hS hFc (fun H1 locs hPn hk hS => ?_)
  generalize hy8 : (f_X1_copyFrom G1 G) = y8 at hPn ⊢
  have hz := lt_eq hz hy8.symm
  have hP : va_P D vwCl (wj [acells C u Q, gcells C (uA u) G, gcells C (uB u) y8]) H1 := jb (bs := [acells C u Q, gcells C (uA u) G, gcells C (uB u) G1]) (cs := [gcells C (uB u) G1, gcells C (uA u) G]) (rs := [acells C u Q]) (cs' := [gcells C (uB u) y8, gcells C (uA u) G]) (bs' := [acells C u Q, gcells C (uA u) G, gcells C (uB u) y8]) hP hD (bsP 3 [2, 1, 0] rfl (by decide) rfl) (bsP 3 [2, 1, 0] rfl (by decide) rfl) hk hPn
  have hD : va_D A (wj [acells C u Q, gcells C (uA u) G, gcells C (uB u) y8]) := adr_D hD rfl
  generalize H1 = H at hP hS ⊢
  refine lv_aload_n hx hb dX7_save_11 rfl (lv_at hl 0 rfl) ?_
  refine lv_iconst (v := 1) hx hb dX7_save_12 (by decide) ?_
  refine va_put (D := D) (ci := 8) (v := .int 1) (ty := .boolean) (C := RX7) (T := TX7) (N := 10) hx hb hts hinX7 tyX7 tyX7_ok nmX7 hown hK hP hD hS 0 rfl rfl 7 (by decide) (hts (.fieldLink RX7 50 "BridgeAuction" "hasSnapshot" "Z") (by decide +kernel)) (fun _ h9 => h9) rfl (by decide +kernel) (rfl) (by rfl) (Nat.le_of_ble_eq_true rfl) dX7_save_13 (fun H locs hP hD hS => ?_)
  have hP : va_P D vwCl (wj [acells C u (mkQ true (qEr Q) (qFa Q)), gcells C (uA u) G, gcells C (uB u) y8]) H := hP
  have hD : va_D A (wj [acells C u (mkQ true (qEr Q) (qFa Q)), gcells C (uA u) G, gcells C (uB u) y8]) := hD
  refine lv_aload_n hx hb dX7_save_16 rfl (lv_at hl 0 rfl) ?_
  refine va_get (D := D) (ci := 8) (v := .ref ((uA u) 0)) (C := RX7) (T := TX7) (N := 10) hx hb hts hinX7 hown hK hP 0 rfl rfl 0 (by decide) (hts (.fieldLink RX7 10 "BridgeAuction" "game" "LBridgeAuction$Game;") (by decide +kernel)) (fun _ h9 => h9) rfl dX7_save_17 ?_
  refine va_getN (D := D) (ci := 4) (v := .int (nI (gP G))) (C := RX1) (T := TX1) (N := 16) hx hb hts hinX1 hown hK hP 1 rfl rfl 2 (by decide) (hE.use 2 rfl) (fun _ h9 => h9) rfl dX7_save_20 ?_
  have hz : z = (0, (nI (gP G)), (mkQ true (qEr Q) (qFa Q)), y8) := hz
  rw [hz]
  exact x_ret hx hb hr hP hS rfl rfl (Nat.le_of_ble_eq_true rfl) (Nat.le_of_ble_eq_true rfl) dX7_save_23 hlocks

