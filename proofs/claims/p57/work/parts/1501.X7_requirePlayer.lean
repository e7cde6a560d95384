def f_X7_requirePlayer (Q : QS) (G : GS) (x : Int32) : Nat := (if (f_X1_isPlayer G (x)) = true then 0 else 1)
set_option maxHeartbeats 4000000 in
set_option maxRecDepth 100000 in
theorem c_X7_requirePlayer (l : Launch) (D : va_G) (C : Nat → ClassId) (ev : Nat → Nat) (u : Nat → Nat) (Q : QS) (G : GS) (x : Int32) (sz : Nat) (hG : GSafe G) (hl9 : l.stackTraces = false) : vx_Met l yX7_requirePlayer wsX7_requirePlayer ({ frames := 6, cells := 1, slots := 6, locals := 82 } : Room) (xP [.ref (u 0), .int x] D C ev (wj [acells C u Q, gcells C (uA u) G]) sz) (xO ((f_X7_requirePlayer Q G x)) none D (wj [acells C u Q, gcells C (uA u) G]) (va_A (wj [acells C u Q, gcells C (uA u) G]) sz)) (xC ((f_X7_requirePlayer Q G x)) D (wj [acells C u Q, gcells C (uA u) G]) (va_A (wj [acells C u Q, gcells C (uA u) G]) sz)) 1 6 (va_A (wj [acells C u Q, gcells C (uA u) G]) sz) := by
  refine vx_ofW (cc := cX7_requirePlayer) (maxL := 2) (ret := none) (by decide) rfl ?_
  intro p e s m args below meth c s₁ B hml htab hv
  obtain ⟨rfl, hsz, hP, hK, hD0, hE, hR, hX, hT9, hV9⟩ := hv
  have hx := B.exec
  have hb := B.bytes
  have hr := B.returns
  have hts := atoms_spec (ws := wsX7_requirePlayer) B.pre
  have hown : s.vm.findClass RX7 = some m.cls := findClass_of_methodNamed B.named
  have hlocks := B.notSynchronized
  subst hsz
  have hD := hD0.self (sz := s.heap.size)
  generalize hAe : va_A (wj [acells C u Q, gcells C (uA u) G]) s.heap.size = A at hD hX hV9 ⊢
  have hA : ∀ q : Nat, s.heap.size ≤ q → A q := fun q h => by rw [← hAe]; exact Or.inr h
  have hS0 : va_S A s.heap s.heap [] := va_S.rf
  have hP : va_P D vwCl (wj [acells C u Q, gcells C (uA u) G]) s.heap := hP
  have hS := hS0
  obtain ⟨⟨hV, hB, hMV, hMB, hAL, hEk, hEa, hTX, hXZ⟩, hCS, hSF⟩ := id hX
  obtain ⟨hS12, hP4, hlo, hhi⟩ := id hG
  have hinX7 : ∀ w ∈ u_ws RX7 TX7 10, w ∈ wsX7_requirePlayer := by decide +kernel
  have hl := lv_entry ([.ref (u 0), .int x]) (n := 2) (Nat.le_of_ble_eq_true rfl)
  rw [lg_entry_eq]
  generalize (lg_sl ([.ref (u 0), .int x]) ++ List.replicate (2 - (lg_sl ([.ref (u 0), .int x])).length) Slot.unset).toArray = ls at hl ⊢
  have hl : lv_has ls 2 [(0, .ref (u 0)), (1, .int x)] := hl
  obtain ⟨z, hz⟩ : ∃ z, z = f_X7_requirePlayer Q G x := ⟨_, rfl⟩
  rw [← hz]
  refine lv_aload_n hx hb dX7_requirePlayer_0 rfl (lv_at hl 0 rfl) ?_
  refine va_get (D := D) (ci := 8) (v := .ref ((uA u) 0)) (C := RX7) (T := TX7) (N := 10) hx hb hts hinX7 hown hK hP 0 rfl rfl 0 (by decide) (hts (.fieldLink RX7 10 "BridgeAuction" "game" "LBridgeAuction$Game;") (by decide +kernel)) (fun _ h9 => h9) rfl dX7_requirePlayer_1 ?_
  refine lv_iload_n hx hb dX7_requirePlayer_4 rfl (lv_at hl 1 rfl) ?_
  refine callRo (va_runV (As := [.int x]) (rest := []) ⟨hx, hb, hml, hown, hts⟩ (c_X1_isPlayer l D C (uA u) G (x) hG) (cwV 1 hts gX7_requirePlayer_X1_isPlayer rfl rfl rfl (by decide +kernel) ⟨Nat.le_of_ble_eq_true rfl, Nat.le_of_ble_eq_true rfl⟩) (roP_v (wj_P (cs := [gcells C (uA u) G]) hP [1] rfl) hK hE (va_recv hK (wj_P (cs := [gcells C (uA u) G]) hP [1] rfl) (ci := 4) (q0 := 0) rfl rfl)) rfl rfl hl.1 rfl (lv_room (Nat.le_of_ble_eq_true rfl)) dX7_requirePlayer_5 ⟨Nat.le_of_ble_eq_true rfl, Nat.le_of_ble_eq_true rfl⟩) ?_
  refine bif_ne (tgt := 22) hx hb dX7_requirePlayer_8 (by decide) (fun c_8 => ?_) (fun c_8 => ?_)
  · have hz := hz.trans (ifB_t c_8)
    have hz : z = 0 := hz
    rw [hz]
    exact x_retV hx hb hr hP hS rfl (Nat.le_of_ble_eq_true rfl) (Nat.le_of_ble_eq_true rfl) dX7_requirePlayer_22 hlocks
  · have hz := hz.trans (ifB_f c_8)
    have hz : z = 1 := hz
    rw [hz]
    exact x_throwW (C := C) (k9 := 0) (text := "no such player") (wsm := wsX7_requirePlayer) hx hb hl9 hts hown hT9 hV9 hP hS (by decide) (by decide +kernel) (by decide +kernel) (by decide +kernel) (by decide +kernel) (by decide +kernel) (by decide +kernel) (by decide +kernel) (hml.trans hl.1.symm) htab dX7_requirePlayer_11 dX7_requirePlayer_14 dX7_requirePlayer_15 dX7_requirePlayer_18 dX7_requirePlayer_21 (Nat.le_of_ble_eq_true rfl) (Nat.le_of_ble_eq_true rfl) (Nat.le_of_ble_eq_true rfl) (Nat.le_of_ble_eq_true rfl) hlocks rfl (Nat.le_of_ble_eq_true rfl) (Nat.le_of_ble_eq_true rfl)

