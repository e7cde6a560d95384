def f_X7_undo (Q : QS) (G : GS) (S : HS) : Nat × Nat × GS × HS := (if (nI (hCt S)) = 0 then (5, 0, G, S) else (lt_ (f_X3_popInto S G) (fun y29 => (0, y29.1, y29.2.2, y29.2.1))))
set_option maxHeartbeats 4000000 in
set_option maxRecDepth 100000 in
theorem c_X7_undo (l : Launch) (D : va_G) (C : Nat → ClassId) (ev : Nat → Nat) (u : Nat → Nat) (Q : QS) (G : GS) (S : HS) (sz : Nat) (hG : GSafe G) (hN : hNx S < 8) (hC : hCt S ≤ 8) (hl9 : l.stackTraces = false) : vx_Met l yX7_undo wsX7_undo ({ frames := 6, cells := 1, slots := 6, locals := 82 } : Room) (xP [.ref (u 0)] D C ev (wj [acells C u Q, gcells C (uA u) G, hcells C (uH u) S]) sz) (xO ((f_X7_undo Q G S).1) (some (.int (nI ((f_X7_undo Q G S).2.1)))) D (wj [acells C u Q, gcells C (uA u) ((f_X7_undo Q G S).2.2.1), hcells C (uH u) ((f_X7_undo Q G S).2.2.2)]) (va_A (wj [acells C u Q, gcells C (uA u) G, hcells C (uH u) S]) sz)) (xC ((f_X7_undo Q G S).1) D (wj [acells C u Q, gcells C (uA u) ((f_X7_undo Q G S).2.2.1), hcells C (uH u) ((f_X7_undo Q G S).2.2.2)]) (va_A (wj [acells C u Q, gcells C (uA u) G, hcells C (uH u) S]) sz)) 1 6 (va_A (wj [acells C u Q, gcells C (uA u) G, hcells C (uH u) S]) sz) := by
  refine vx_ofW (cc := cX7_undo) (maxL := 1) (ret := (some .int)) (by decide) rfl ?_
  intro p e s m args below meth c s₁ B hml htab hv
  obtain ⟨rfl, hsz, hP, hK, hD0, hE, hR, hX, hT9, hV9⟩ := hv
  have hx := B.exec
  have hb := B.bytes
  have hr := B.returns
  have hts := atoms_spec (ws := wsX7_undo) B.pre
  have hown : s.vm.findClass RX7 = some m.cls := findClass_of_methodNamed B.named
  have hlocks := B.notSynchronized
  subst hsz
  have hD := hD0.self (sz := s.heap.size)
  generalize hAe : va_A (wj [acells C u Q, gcells C (uA u) G, hcells C (uH u) S]) s.heap.size = A at hD hX hV9 ⊢
  have hA : ∀ q : Nat, s.heap.size ≤ q → A q := fun q h => by rw [← hAe]; exact Or.inr h
  have hS0 : va_S A s.heap s.heap [] := va_S.rf
  have hP : va_P D vwCl (wj [acells C u Q, gcells C (uA u) G, hcells C (uH u) S]) s.heap := hP
  have hS := hS0
  obtain ⟨⟨hV, hB, hMV, hMB, hAL, hEk, hEa, hTX, hXZ⟩, hCS, hSF⟩ := id hX
  obtain ⟨hS12, hP4, hlo, hhi⟩ := id hG
  have hinX3 : ∀ w ∈ u_ws RX3 TX3 3, w ∈ wsX7_undo := by decide +kernel
  have hinX7 : ∀ w ∈ u_ws RX7 TX7 10, w ∈ wsX7_undo := by decide +kernel
  have hl := lv_entry ([.ref (u 0)]) (n := 1) (Nat.le_of_ble_eq_true rfl)
  rw [lg_entry_eq]
  generalize (lg_sl ([.ref (u 0)]) ++ List.replicate (1 - (lg_sl ([.ref (u 0)])).length) Slot.unset).toArray = ls at hl ⊢
  have hl : lv_has ls 1 [(0, .ref (u 0))] := hl
  obtain ⟨z, hz⟩ : ∃ z, z = f_X7_undo Q G S := ⟨_, rfl⟩
  rw [← hz]
  refine lv_aload_n hx hb dX7_undo_0 rfl (lv_at hl 0 rfl) ?_
  refine va_get (D := D) (ci := 8) (v := .ref ((uH u) 0)) (C := RX7) (T := TX7) (N := 10) hx hb hts hinX7 hown hK hP 0 rfl rfl 4 (by decide) (hts (.fieldLink RX7 32 "BridgeAuction" "history" "LBridgeAuction$History;") (by decide +kernel)) (fun _ h9 => h9) rfl dX7_undo_1 ?_
  refine va_getN (D := D) (ci := 6) (v := .int (nI (hCt S))) (C := RX3) (T := TX3) (N := 3) hx hb hts hinX3 hown hK hP 10 rfl rfl 2 (by decide) (hE.use 19 rfl) (fun _ h9 => h9) rfl dX7_undo_4 ?_
  refine lv_if_ne (tgt := 21) hx hb dX7_undo_7 (by decide) (fun c_7 => ?_) (fun c_7 => ?_)
  · have hz := hz.trans (if_neg c_7)
    have q7 : 0 < hCt S := Nat.pos_of_ne_zero (fun e => c_7 (by rw [e]; decide +kernel))
    refine lv_aload_n hx hb dX7_undo_21 rfl (lv_at hl 0 rfl) ?_
    refine va_get (D := D) (ci := 8) (v := .ref ((uH u) 0)) (C := RX7) (T := TX7) (N := 10) hx hb hts hinX7 hown hK hP 0 rfl rfl 4 (by decide) (hts (.fieldLink RX7 32 "BridgeAuction" "history" "LBridgeAuction$History;") (by decide +kernel)) (fun _ h9 => h9) rfl dX7_undo_22 ?_
    refine lv_aload_n hx hb dX7_undo_25 rfl (lv_at hl 0 rfl) ?_
    refine va_get (D := D) (ci := 8) (v := .ref ((uA u) 0)) (C := RX7) (T := TX7) (N := 10) hx hb hts hinX7 hown hK hP 0 rfl rfl 0 (by decide) (hts (.fieldLink RX7 10 "BridgeAuction" "game" "LBridgeAuction$Game;") (by decide +kernel)) (fun _ h9 => h9) rfl dX7_undo_26 ?_
    have hPc : va_P D vwCl (hcells C (uH u) S ++ gcells C (uA u) G) _ := wj_P (cs := [hcells C (uH u) S, gcells C (uA u) G]) hP [2, 1] rfl
    have hDc : va_D A (hcells C (uH u) S ++ gcells C (uA u) G) := wj_D (cs := [hcells C (uH u) S, gcells C (uA u) G]) hD [2, 1] (by decide) rfl
    have hFc : ∀ q, va_A (hcells C (uH u) S ++ gcells C (uA u) G) (Array.size _) q → A q := wj_F (cs := [hcells C (uH u) S, gcells C (uA u) G]) hD hS hA [2, 1] rfl
    refine callRw (va_runV (As := [.ref ((uA u) 0)]) (rest := []) ⟨hx, hb, hml, hown, hts⟩ (c_X3_popInto l D C (uH u) S (uA u) G _ (by show (hNx S) < 8; first | assumption | omega) (by show 0 < (hCt S); first | assumption | omega) (by show (hCt S) ≤ 8; first | assumption | omega)) (cwV 1 hts gX7_undo_X3_popInto rfl rfl rfl (by decide +kernel) ⟨Nat.le_of_ble_eq_true rfl, Nat.le_of_ble_eq_true rfl⟩) (rwP_v hPc hK hE hDc (va_recv hK hPc (ci := 6) (q0 := 0) rfl rfl)) rfl rfl hl.1 rfl (lv_room (Nat.le_of_ble_eq_true rfl)) dX7_undo_29 ⟨Nat.le_of_ble_eq_true rfl, Nat.le_of_ble_eq_true rfl⟩) hS hFc (fun H1 locs hPn hk hS => ?_)
    generalize hy29 : (f_X3_popInto S G) = y29 at hPn ⊢
    have hz := lt_eq hz hy29.symm
    have hP : va_P D vwCl (wj [acells C u Q, gcells C (uA u) y29.2.2, hcells C (uH u) y29.2.1]) H1 := jb (bs := [acells C u Q, gcells C (uA u) G, hcells C (uH u) S]) (cs := [hcells C (uH u) S, gcells C (uA u) G]) (rs := [acells C u Q]) (cs' := [hcells C (uH u) y29.2.1, gcells C (uA u) y29.2.2]) (bs' := [acells C u Q, gcells C (uA u) y29.2.2, hcells C (uH u) y29.2.1]) hP hD (bsP 3 [2, 1, 0] rfl (by decide) rfl) (bsP 3 [2, 1, 0] rfl (by decide) rfl) hk hPn
    have hD : va_D A (wj [acells C u Q, gcells C (uA u) y29.2.2, hcells C (uH u) y29.2.1]) := adr_D hD rfl
    generalize H1 = H at hP hS ⊢
    have hz : z = (0, y29.1, y29.2.2, y29.2.1) := hz
    rw [hz]
    exact x_ret hx hb hr hP hS rfl rfl (Nat.le_of_ble_eq_true rfl) (Nat.le_of_ble_eq_true rfl) dX7_undo_32 hlocks
  · have hz := hz.trans (if_pos c_7)
    have hz : z = (5, 0, G, S) := hz
    rw [hz]
    exact x_throwW (C := C) (k9 := 4) (text := "there is nothing to undo") (wsm := wsX7_undo) hx hb hl9 hts hown hT9 hV9 hP hS (by decide) (by decide +kernel) (by decide +kernel) (by decide +kernel) (by decide +kernel) (by decide +kernel) (by decide +kernel) (by decide +kernel) (hml.trans hl.1.symm) htab dX7_undo_10 dX7_undo_13 dX7_undo_14 dX7_undo_17 dX7_undo_20 (Nat.le_of_ble_eq_true rfl) (Nat.le_of_ble_eq_true rfl) (Nat.le_of_ble_eq_true rfl) (Nat.le_of_ble_eq_true rfl) hlocks rfl (Nat.le_of_ble_eq_true rfl) (Nat.le_of_ble_eq_true rfl)

