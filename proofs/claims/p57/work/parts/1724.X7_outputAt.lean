def f_X7_outputAt (T : TX) (x : Int32) : Nat × Int32 := if x < 0 then (1, 0) else if x < nI T.2 then (0, nI (T.1 x.toNatClampNeg)) else (1, 0)
theorem X1_in_of {x : Int32} {n : Nat} (h : ¬ x < 0) (h2 : x < nI n) (hn : n < 2 ^ 31) : vp_in x n := by
  obtain ⟨j, hj, rfl⟩ := nI_of h
  exact vp_in_nI ((nI_ltI hj hn).mp h2) hn
set_option maxHeartbeats 4000000 in
set_option maxRecDepth 100000 in
theorem c_X7_outputAt (l : Launch) (D : va_G) (C : Nat → ClassId) (ev : Nat → Nat) (u : Nat → Nat) (Q : QS) (T : TX) (O : OS) (x : Int32) (hO : OT T O) (sz : Nat) (hl9 : l.stackTraces = false) : vx_Met l yX7_outputAt wsX7_outputAt ({ frames := 6, cells := 1, slots := 6, locals := 88 } : Room) (xoP [.ref (u 0), .int x] D C ev (wj [acells C u Q, ocells C (uO u) O]) sz) (xO ((f_X7_outputAt T x).1) (some (.int ((f_X7_outputAt T x).2))) D (wj [acells C u Q, ocells C (uO u) O]) (va_A (wj [acells C u Q, ocells C (uO u) O]) sz)) (xC ((f_X7_outputAt T x).1) D (wj [acells C u Q, ocells C (uO u) O]) (va_A (wj [acells C u Q, ocells C (uO u) O]) sz)) 1 6 (va_A (wj [acells C u Q, ocells C (uO u) O]) sz) := by
  refine vx_ofW (cc := cX7_outputAt) (maxL := 2) (ret := (some .char)) (by decide) rfl ?_
  intro p e s m args below meth c s₁ B hml htab hv
  obtain ⟨⟨rfl, hsz, hP, hK, hD0, hE, hR, hX, hT9, hV9⟩, hV0⟩ := hv
  have hx := B.exec
  have hb := B.bytes
  have hr := B.returns
  have hts := atoms_spec (ws := wsX7_outputAt) B.pre
  have hown : s.vm.findClass RX7 = some m.cls := findClass_of_methodNamed B.named
  have hlocks := B.notSynchronized
  subst hsz
  have hD := hD0.self (sz := s.heap.size)
  generalize hAe : va_A (wj [acells C u Q, ocells C (uO u) O]) s.heap.size = A at hD hX hV0 hV9 ⊢
  have hA : ∀ q : Nat, s.heap.size ≤ q → A q := fun q h => by rw [← hAe]; exact Or.inr h
  have hS0 : va_S A s.heap s.heap [] := va_S.rf
  have hP : va_P D vwCl (wj [acells C u Q, ocells C (uO u) O]) s.heap := hP
  have hS := hS0
  obtain ⟨⟨hV, hB, hMV, hMB, hAL, hEk, hEa, hTX, hXZ⟩, hCS, hSF⟩ := id hX
  have hinX7 : ∀ w ∈ u_ws RX7 TX7 10, w ∈ wsX7_outputAt := by decide +kernel
  obtain ⟨hn1, hn2, -, -, hc, hn3, hn7⟩ := id hO
  have hl := lv_entry ([.ref (u 0), .int x]) (n := 2) (Nat.le_of_ble_eq_true rfl)
  rw [lg_entry_eq]
  generalize (lg_sl ([.ref (u 0), .int x]) ++ List.replicate (2 - (lg_sl ([.ref (u 0), .int x])).length) Slot.unset).toArray = ls at hl ⊢
  have hl : lv_has ls 2 [(0, .ref (u 0)), (1, .int x)] := hl
  refine lv_iload_n hx hb dX7_outputAt_0 rfl (lv_at hl 1 rfl) ?_
  refine lv_if_lt (tgt := 15) hx hb dX7_outputAt_1 (by decide) (fun c_1 => ?_) (fun c_1 => ?_)
  · have ez : f_X7_outputAt T x = (1, 0) := by unfold f_X7_outputAt; exact if_pos c_1
    rw [ez]
    exact x_throwW (C := C) (k9 := 0) (text := "no such character of the output text") (wsm := wsX7_outputAt) hx hb hl9 hts hown hT9 hV9 hP hS (by decide) (by decide +kernel) (by decide +kernel) (by decide +kernel) (by decide +kernel) (by decide +kernel) (by decide +kernel) (by decide +kernel) (hml.trans hl.1.symm) htab dX7_outputAt_15 dX7_outputAt_18 dX7_outputAt_19 dX7_outputAt_22 dX7_outputAt_25 (Nat.le_of_ble_eq_true rfl) (Nat.le_of_ble_eq_true rfl) (Nat.le_of_ble_eq_true rfl) (Nat.le_of_ble_eq_true rfl) hlocks rfl (Nat.le_of_ble_eq_true rfl) (Nat.le_of_ble_eq_true rfl)
  · refine lv_iload_n hx hb dX7_outputAt_4 rfl (lv_at hl 1 rfl) ?_
    refine lv_aload_n hx hb dX7_outputAt_5 rfl (lv_at hl 0 rfl) ?_
    refine va_get (D := D) (ci := 8) (v := .ref (uO u 0)) (C := RX7) (T := TX7) (N := 10) hx hb hts hinX7 hown hK hP 0 rfl rfl 6 (by decide) (hts (.fieldLink RX7 46 "BridgeAuction" "output" "Ljava/lang/StringBuilder;") (by decide +kernel)) (fun _ h9 => h9) rfl dX7_outputAt_6 ?_
    have hPc : va_P D vwCl (ocells C (uO u) O) _ := wj_P (cs := [ocells C (uO u) O]) hP [1] rfl
    refine callRo (va_runV (As := []) (rest := [.int x]) ⟨hx, hb, hml, hown, hts⟩ (c_J4_length_8abf5 l D C ev (uO u) O) (cwV 0 hts gX7_outputAt_J4_length_8abf5 rfl rfl rfl (by decide +kernel) ⟨Nat.le_of_ble_eq_true rfl, Nat.le_of_ble_eq_true rfl⟩) (roPE_v hPc hK hE hR hX hS (va_recv hK hPc (ci := 1) (q0 := 0) rfl rfl)) rfl rfl hl.1 rfl (lv_room (Nat.le_of_ble_eq_true rfl)) dX7_outputAt_9 ⟨by first | exact Nat.le_refl _ | exact Nat.le_of_ble_eq_true rfl | (show cells + 0 ≤ 31; omega), by first | exact Nat.le_refl _ | exact Nat.le_of_ble_eq_true rfl | (show slots + 0 ≤ 1054; omega)⟩) ?_
    refine topI (y := (nI T.2)) (by rw [hn1]) ?_
    refine lv_icmp_lt (tgt := 26) hx hb dX7_outputAt_12 (by decide) (fun c_12 => ?_) (fun c_12 => ?_)
    · have hin : vp_in x T.2 := (X1_in_of c_1 c_12 (by omega))
      obtain ⟨ex, lx⟩ := nat_of hin (by omega)
      refine lv_aload_n hx hb dX7_outputAt_26 rfl (lv_at hl 0 rfl) ?_
      refine va_get (D := D) (ci := 8) (v := .ref (uO u 0)) (C := RX7) (T := TX7) (N := 10) hx hb hts hinX7 hown hK hP 0 rfl rfl 6 (by decide) (hts (.fieldLink RX7 46 "BridgeAuction" "output" "Ljava/lang/StringBuilder;") (by decide +kernel)) (fun _ h9 => h9) rfl dX7_outputAt_27 ?_
      refine lv_iload_n hx hb dX7_outputAt_30 rfl (lv_at hl 1 rfl) ?_
      refine topN ex ?_
      refine callRo (va_runV (As := [.int (nI x.toNatClampNeg)]) (rest := []) ⟨hx, hb, hml, hown, hts⟩ (c_J4_charAt_5068e l D C ev (uO u) T O x.toNatClampNeg hO lx) (cwV 1 hts gX7_outputAt_J4_charAt_5068e rfl rfl rfl (by decide +kernel) ⟨Nat.le_of_ble_eq_true rfl, Nat.le_of_ble_eq_true rfl⟩) (roPE_v hPc hK hE hR hX hS (va_recv hK hPc (ci := 1) (q0 := 0) rfl rfl)) rfl rfl hl.1 rfl (lv_room (Nat.le_of_ble_eq_true rfl)) dX7_outputAt_31 ⟨by first | exact Nat.le_refl _ | exact Nat.le_of_ble_eq_true rfl | (show cells + 0 ≤ 31; omega), by first | exact Nat.le_refl _ | exact Nat.le_of_ble_eq_true rfl | (show slots + 0 ≤ 1054; omega)⟩) ?_
      have ez : f_X7_outputAt T x = (0, nI (T.1 x.toNatClampNeg)) := by unfold f_X7_outputAt; rw [if_neg c_1]; exact if_pos c_12
      rw [ez]
      exact x_retC hx hb hr hP hS rfl rfl (pk_charN (by have := hn7 x.toNatClampNeg; omega)).1 (Nat.le_of_ble_eq_true rfl) (Nat.le_of_ble_eq_true rfl) dX7_outputAt_34 hlocks
    · have ez : f_X7_outputAt T x = (1, 0) := by unfold f_X7_outputAt; rw [if_neg c_1]; exact if_neg c_12
      rw [ez]
      exact x_throwW (C := C) (k9 := 0) (text := "no such character of the output text") (wsm := wsX7_outputAt) hx hb hl9 hts hown hT9 hV9 hP hS (by decide) (by decide +kernel) (by decide +kernel) (by decide +kernel) (by decide +kernel) (by decide +kernel) (by decide +kernel) (by decide +kernel) (hml.trans hl.1.symm) htab dX7_outputAt_15 dX7_outputAt_18 dX7_outputAt_19 dX7_outputAt_22 dX7_outputAt_25 (Nat.le_of_ble_eq_true rfl) (Nat.le_of_ble_eq_true rfl) (Nat.le_of_ble_eq_true rfl) (Nat.le_of_ble_eq_true rfl) hlocks rfl (Nat.le_of_ble_eq_true rfl) (Nat.le_of_ble_eq_true rfl)
