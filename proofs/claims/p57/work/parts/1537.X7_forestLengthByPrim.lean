def f_X7_forestLengthByPrim (Q : QS) (G : GS) (Rr : GR) : Nat × Int32 := (0, (f_X2_primLength Rr G))
set_option maxHeartbeats 4000000 in
set_option maxRecDepth 100000 in
theorem c_X7_forestLengthByPrim (l : Launch) (D : va_G) (C : Nat → ClassId) (ev : Nat → Nat) (u : Nat → Nat) (Q : QS) (G : GS) (Rr : GR) (sz : Nat) (hG : GSafe G) (hl9 : l.stackTraces = false) : vx_Met l yX7_forestLengthByPrim wsX7_forestLengthByPrim ({ frames := 3, cells := 0, slots := 0, locals := 70 } : Room) (xP [.ref (u 0)] D C ev (wj [acells C u Q, gcells C (uA u) G, grcells C (uG u) Rr]) sz) (xO ((f_X7_forestLengthByPrim Q G Rr).1) (some (.int ((f_X7_forestLengthByPrim Q G Rr).2))) D (wj [acells C u Q, gcells C (uA u) G, grcells C (uG u) Rr]) (va_A (wj [acells C u Q, gcells C (uA u) G, grcells C (uG u) Rr]) sz)) (xC ((f_X7_forestLengthByPrim Q G Rr).1) D (wj [acells C u Q, gcells C (uA u) G, grcells C (uG u) Rr]) (va_A (wj [acells C u Q, gcells C (uA u) G, grcells C (uG u) Rr]) sz)) 0 0 (va_A (wj [acells C u Q, gcells C (uA u) G, grcells C (uG u) Rr]) sz) := by
  refine vx_ofW (cc := cX7_forestLengthByPrim) (maxL := 1) (ret := (some .int)) (by decide) rfl ?_
  intro p e s m args below meth c s₁ B hml htab hv
  obtain ⟨rfl, hsz, hP, hK, hD0, hE, hR, hX, hT9, hV9⟩ := hv
  have hx := B.exec
  have hb := B.bytes
  have hr := B.returns
  have hts := atoms_spec (ws := wsX7_forestLengthByPrim) B.pre
  have hown : s.vm.findClass RX7 = some m.cls := findClass_of_methodNamed B.named
  have hlocks := B.notSynchronized
  subst hsz
  have hD := hD0.self (sz := s.heap.size)
  generalize hAe : va_A (wj [acells C u Q, gcells C (uA u) G, grcells C (uG u) Rr]) s.heap.size = A at hD hX hV9 ⊢
  have hA : ∀ q : Nat, s.heap.size ≤ q → A q := fun q h => by rw [← hAe]; exact Or.inr h
  have hS0 : va_S A s.heap s.heap [] := va_S.rf
  have hP : va_P D vwCl (wj [acells C u Q, gcells C (uA u) G, grcells C (uG u) Rr]) s.heap := hP
  have hS := hS0
  obtain ⟨⟨hV, hB, hMV, hMB, hAL, hEk, hEa, hTX, hXZ⟩, hCS, hSF⟩ := id hX
  obtain ⟨hS12, hP4, hlo, hhi⟩ := id hG
  have hinX7 : ∀ w ∈ u_ws RX7 TX7 10, w ∈ wsX7_forestLengthByPrim := by decide +kernel
  have hl := lv_entry ([.ref (u 0)]) (n := 1) (Nat.le_of_ble_eq_true rfl)
  rw [lg_entry_eq]
  generalize (lg_sl ([.ref (u 0)]) ++ List.replicate (1 - (lg_sl ([.ref (u 0)])).length) Slot.unset).toArray = ls at hl ⊢
  have hl : lv_has ls 1 [(0, .ref (u 0))] := hl
  obtain ⟨z, hz⟩ : ∃ z, z = f_X7_forestLengthByPrim Q G Rr := ⟨_, rfl⟩
  rw [← hz]
  refine lv_aload_n hx hb dX7_forestLengthByPrim_0 rfl (lv_at hl 0 rfl) ?_
  refine va_get (D := D) (ci := 8) (v := .ref ((uA u) 0)) (C := RX7) (T := TX7) (N := 10) hx hb hts hinX7 hown hK hP 0 rfl rfl 0 (by decide) (hts (.fieldLink RX7 10 "BridgeAuction" "game" "LBridgeAuction$Game;") (by decide +kernel)) (fun _ h9 => h9) rfl dX7_forestLengthByPrim_1 ?_
  refine callRo (va_runS (As := [.ref ((uA u) 0)]) (rest := []) ⟨hx, hb, hml, hown, hts⟩ (c_X2_primLength l D C (uG u) Rr (uA u) G hG) (va_cwS 1 hts gX7_forestLengthByPrim_X2_primLength rfl rfl rfl (by decide +kernel) ⟨Nat.le_of_ble_eq_true rfl, Nat.le_of_ble_eq_true rfl⟩) (roP_s (wj_P (cs := [grcells C (uG u) Rr, gcells C (uA u) G]) hP [2, 1] rfl) hK hE) rfl rfl hl.1 rfl (lv_room (Nat.le_of_ble_eq_true rfl)) dX7_forestLengthByPrim_4 ⟨Nat.le_of_ble_eq_true rfl, Nat.le_of_ble_eq_true rfl⟩) ?_
  have hz : z = (0, (f_X2_primLength Rr G)) := hz
  rw [hz]
  exact x_ret hx hb hr hP hS rfl rfl (Nat.le_of_ble_eq_true rfl) (Nat.le_of_ble_eq_true rfl) dX7_forestLengthByPrim_7 hlocks

