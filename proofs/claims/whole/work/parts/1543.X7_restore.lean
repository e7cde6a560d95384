def f_X7_restore (Q : QS) (G : GS) (G1 : GS) (S : HS) : Nat × Int32 × QS × GS × HS := (if (qHs Q) = true then (lt_ (f_X1_copyFrom G G1) (fun y26 => (0, (nI (gP y26)), Q, y26, (mkHS (hRg S) (hNx S) 0)))) else (3, 0, Q, G, S))
set_option maxHeartbeats 4000000 in
set_option maxRecDepth 100000 in
theorem c_X7_restore (l : Launch) (D : va_G) (C : Nat → ClassId) (ev : Nat → Nat) (u : Nat → Nat) (Q : QS) (G : GS) (G1 : GS) (S : HS) (sz : Nat) (hG : GSafe G) (hG : GSafe G1) (hl9 : l.stackTraces = false) : vx_Met l yX7_restore wsX7_restore ({ frames := 6, cells := 1, slots := 6, locals := 82 } : Room) (xP [.ref (u 0)] D C ev (wj [acells C u Q, gcells C (uA u) G, gcells C (uB u) G1, hcells C (uH u) S]) sz) (xO ((f_X7_restore Q G G1 S).1) (some (.int ((f_X7_restore Q G G1 S).2.1))) D (wj [acells C u ((f_X7_restore Q G G1 S).2.2.1), gcells C (uA u) ((f_X7_restore Q G G1 S).2.2.2.1), gcells C (uB u) G1, hcells C (uH u) ((f_X7_restore Q G G1 S).2.2.2.2)]) (va_A (wj [acells C u Q, gcells C (uA u) G, gcells C (uB u) G1, hcells C (uH u) S]) sz)) (xC ((f_X7_restore Q G G1 S).1) D (wj [acells C u ((f_X7_restore Q G G1 S).2.2.1), gcells C (uA u) ((f_X7_restore Q G G1 S).2.2.2.1), gcells C (uB u) G1, hcells C (uH u) ((f_X7_restore Q G G1 S).2.2.2.2)]) (va_A (wj [acells C u Q, gcells C (uA u) G, gcells C (uB u) G1, hcells C (uH u) S]) sz)) 1 6 (va_A (wj [acells C u Q, gcells C (uA u) G, gcells C (uB u) G1, hcells C (uH u) S]) sz) := by
  refine vx_ofW (cc := cX7_restore) (maxL := 1) (ret := (some .int)) (by decide) rfl ?_
  intro p e s m args below meth c s₁ B hml htab hv
  obtain ⟨rfl, hsz, hP, hK, hD0, hE, hR, hX, hT9, hV9⟩ := hv
  have hx := B.exec
  have hb := B.bytes
  have hr := B.returns
  have hts := atoms_spec (ws := wsX7_restore) B.pre
  have hown : s.vm.findClass RX7 = some m.cls := findClass_of_methodNamed B.named
  have hlocks := B.notSynchronized
  subst hsz
  have hD := hD0.self (sz := s.heap.size)
  generalize hAe : va_A (wj [acells C u Q, gcells C (uA u) G, gcells C (uB u) G1, hcells C (uH u) S]) s.heap.size = A at hD hX hV9 ⊢
  have hA : ∀ q : Nat, s.heap.size ≤ q → A q := fun q h => by rw [← hAe]; exact Or.inr h
  have hS0 : va_S A s.heap s.heap [] := va_S.rf
  have hP : va_P D vwCl (wj [acells C u Q, gcells C (uA u) G, gcells C (uB u) G1, hcells C (uH u) S]) s.heap := hP
  have hS := hS0
  obtain ⟨⟨hV, hB, hMV, hMB, hAL, hEk, hEa, hTX, hXZ⟩, hCS, hSF⟩ := id hX
  obtain ⟨hS12, hP4, hlo, hhi⟩ := id hG
  obtain ⟨hS12, hP4, hlo, hhi⟩ := id hG
  have hinX1 : ∀ w ∈ u_ws RX1 TX1 16, w ∈ wsX7_restore := by decide +kernel
  have hinX3 : ∀ w ∈ u_ws RX3 TX3 3, w ∈ wsX7_restore := by decide +kernel
  have hinX7 : ∀ w ∈ u_ws RX7 TX7 10, w ∈ wsX7_restore := by decide +kernel
  have hl := lv_entry ([.ref (u 0)]) (n := 1) (Nat.le_of_ble_eq_true rfl)
  rw [lg_entry_eq]
  generalize (lg_sl ([.ref (u 0)]) ++ List.replicate (1 - (lg_sl ([.ref (u 0)])).length) Slot.unset).toArray = ls at hl ⊢
  have hl : lv_has ls 1 [(0, .ref (u 0))] := hl
  obtain ⟨z, hz⟩ : ∃ z, z = f_X7_restore Q G G1 S := ⟨_, rfl⟩
  rw [← hz]
  refine lv_aload_n hx hb dX7_restore_0 rfl (lv_at hl 0 rfl) ?_
  refine va_get (D := D) (ci := 8) (v := .int (bI (qHs Q))) (C := RX7) (T := TX7) (N := 10) hx hb hts hinX7 hown hK hP 0 rfl rfl 7 (by decide) (hts (.fieldLink RX7 50 "BridgeAuction" "hasSnapshot" "Z") (by decide +kernel)) (fun _ h9 => h9) rfl dX7_restore_1 ?_
  refine bif_ne (tgt := 18) hx hb dX7_restore_4 (by decide) (fun c_4 => ?_) (fun c_4 => ?_)
  · have hz := hz.trans (ifB_t c_4)
    refine lv_aload_n hx hb dX7_restore_18 rfl (lv_at hl 0 rfl) ?_
    refine va_get (D := D) (ci := 8) (v := .ref ((uA u) 0)) (C := RX7) (T := TX7) (N := 10) hx hb hts hinX7 hown hK hP 0 rfl rfl 0 (by decide) (hts (.fieldLink RX7 10 "BridgeAuction" "game" "LBridgeAuction$Game;") (by decide +kernel)) (fun _ h9 => h9) rfl dX7_restore_19 ?_
    refine lv_aload_n hx hb dX7_restore_22 rfl (lv_at hl 0 rfl) ?_
    refine va_get (D := D) (ci := 8) (v := .ref ((uB u) 0)) (C := RX7) (T := TX7) (N := 10) hx hb hts hinX7 hown hK hP 0 rfl rfl 1 (by decide) (hts (.fieldLink RX7 16 "BridgeAuction" "snapshot" "LBridgeAuction$Game;") (by decide +kernel)) (fun _ h9 => h9) rfl dX7_restore_23 ?_
    have hPc : va_P D vwCl (gcells C (uA u) G ++ gcells C (uB u) G1) _ := wj_P (cs := [gcells C (uA u) G, gcells C (uB u) G1]) hP [1, 2] rfl
    have hDc : va_D A (gcells C (uA u) G ++ gcells C (uB u) G1) := wj_D (cs := [gcells C (uA u) G, gcells C (uB u) G1]) hD [1, 2] (by decide) rfl
    have hFc : ∀ q, va_A (gcells C (uA u) G ++ gcells C (uB u) G1) (Array.size _) q → A q := wj_F (cs := [gcells C (uA u) G, gcells C (uB u) G1]) hD hS hA [1, 2] rfl
    refine callRw (va_runV (As := [.ref ((uB u) 0)]) (rest := []) ⟨hx, hb, hml, hown, hts⟩ (c_X1_copyFrom l D C (uA u) G (uB u) G1 _) (cwV 1 hts gX7_restore_X1_copyFrom rfl rfl rfl (by decide +kernel) ⟨Nat.le_of_ble_eq_true rfl, Nat.le_of_ble_eq_true rfl⟩) (rwP_v hPc hK hE hDc (va_recv hK hPc (ci := 4) (q0 := 0) rfl rfl)) rfl rfl hl.1 rfl (lv_room (Nat.le_of_ble_eq_true rfl)) dX7_restore_26 ⟨Nat.le_of_ble_eq_true rfl, Nat.le_of_ble_eq_true rfl⟩) hS hFc (fun H1 locs hPn hk hS => ?_)
    generalize hy26 : (f_X1_copyFrom G G1) = y26 at hPn ⊢
    have hz := lt_eq hz hy26.symm
    have hP : va_P D vwCl (wj [acells C u Q, gcells C (uA u) y26, gcells C (uB u) G1, hcells C (uH u) S]) H1 := jb (bs := [acells C u Q, gcells C (uA u) G, gcells C (uB u) G1, hcells C (uH u) S]) (cs := [gcells C (uA u) G, gcells C (uB u) G1]) (rs := [acells C u Q, hcells C (uH u) S]) (cs' := [gcells C (uA u) y26, gcells C (uB u) G1]) (bs' := [acells C u Q, gcells C (uA u) y26, gcells C (uB u) G1, hcells C (uH u) S]) hP hD (bsP 4 [1, 2, 0, 3] rfl (by decide) rfl) (bsP 4 [2, 0, 1, 3] rfl (by decide) rfl) hk hPn
    have hD : va_D A (wj [acells C u Q, gcells C (uA u) y26, gcells C (uB u) G1, hcells C (uH u) S]) := adr_D hD rfl
    generalize H1 = H at hP hS ⊢
    refine lv_aload_n hx hb dX7_restore_29 rfl (lv_at hl 0 rfl) ?_
    refine va_get (D := D) (ci := 8) (v := .ref ((uH u) 0)) (C := RX7) (T := TX7) (N := 10) hx hb hts hinX7 hown hK hP 0 rfl rfl 4 (by decide) (hts (.fieldLink RX7 32 "BridgeAuction" "history" "LBridgeAuction$History;") (by decide +kernel)) (fun _ h9 => h9) rfl dX7_restore_30 ?_
    refine lv_iconst (v := 0) hx hb dX7_restore_33 (by decide) ?_
    refine topN (k := 0) (by decide +kernel) ?_
    refine va_putN (D := D) (ci := 6) (v := .int (nI 0)) (ty := .int) (C := RX3) (T := TX3) (N := 3) hx hb hts hinX3 tyX3 tyX3_ok nmX3 hown hK hP hD hS 19 rfl rfl 2 (by decide) (hE.use 19 rfl) (fun _ h9 => h9) rfl (by decide +kernel) rfl rfl (Nat.le_of_ble_eq_true rfl) dX7_restore_34 (fun H locs hP hD hS => ?_)
    have hP : va_P D vwCl (wj [acells C u Q, gcells C (uA u) y26, gcells C (uB u) G1, hcells C (uH u) (mkHS (hRg S) (hNx S) 0)]) H := hP
    have hD : va_D A (wj [acells C u Q, gcells C (uA u) y26, gcells C (uB u) G1, hcells C (uH u) (mkHS (hRg S) (hNx S) 0)]) := hD
    refine lv_aload_n hx hb dX7_restore_37 rfl (lv_at hl 0 rfl) ?_
    refine va_get (D := D) (ci := 8) (v := .ref ((uA u) 0)) (C := RX7) (T := TX7) (N := 10) hx hb hts hinX7 hown hK hP 0 rfl rfl 0 (by decide) (hts (.fieldLink RX7 10 "BridgeAuction" "game" "LBridgeAuction$Game;") (by decide +kernel)) (fun _ h9 => h9) rfl dX7_restore_38 ?_
    refine va_getN (D := D) (ci := 4) (v := .int (nI (gP y26))) (C := RX1) (T := TX1) (N := 16) hx hb hts hinX1 hown hK hP 1 rfl rfl 2 (by decide) (hE.use 2 rfl) (fun _ h9 => h9) rfl dX7_restore_41 ?_
    have hz : z = (0, (nI (gP y26)), Q, y26, (mkHS (hRg S) (hNx S) 0)) := hz
    rw [hz]
    exact x_ret hx hb hr hP hS rfl rfl (Nat.le_of_ble_eq_true rfl) (Nat.le_of_ble_eq_true rfl) dX7_restore_44 hlocks
  · have hz := hz.trans (ifB_f c_4)
    have hz : z = (3, 0, Q, G, S) := hz
    rw [hz]
    exact x_throwW (C := C) (k9 := 2) (text := "there is no snapshot") (wsm := wsX7_restore) hx hb hl9 hts hown hT9 hV9 hP hS (by decide) (by decide +kernel) (by decide +kernel) (by decide +kernel) (by decide +kernel) (by decide +kernel) (by decide +kernel) (by decide +kernel) (hml.trans hl.1.symm) htab dX7_restore_7 dX7_restore_10 dX7_restore_11 dX7_restore_14 dX7_restore_17 (Nat.le_of_ble_eq_true rfl) (Nat.le_of_ble_eq_true rfl) (Nat.le_of_ble_eq_true rfl) (Nat.le_of_ble_eq_true rfl) hlocks rfl (Nat.le_of_ble_eq_true rfl) (Nat.le_of_ble_eq_true rfl)

