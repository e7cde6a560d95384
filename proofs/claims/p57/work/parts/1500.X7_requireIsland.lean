def f_X7_requireIsland (x : Int32) : Nat := (if (f_X1_isIsland (x)) = true then 0 else 1)
set_option maxHeartbeats 4000000 in
set_option maxRecDepth 100000 in
theorem c_X7_requireIsland (l : Launch) (D : va_G) (C : Nat → ClassId) (ev : Nat → Nat) (x : Int32) (sz : Nat) (hl9 : l.stackTraces = false) : vx_Met l yX7_requireIsland wsX7_requireIsland ({ frames := 6, cells := 1, slots := 6, locals := 82 } : Room) (xP [.int x] D C ev ([] : va_W) sz) (xO ((f_X7_requireIsland x)) none D [] (va_A ([] : va_W) sz)) (xC ((f_X7_requireIsland x)) D [] (va_A ([] : va_W) sz)) 1 6 (va_A ([] : va_W) sz) := by
  refine vx_ofW (cc := cX7_requireIsland) (maxL := 1) (ret := none) (by decide) rfl ?_
  intro p e s m args below meth c s₁ B hml htab hv
  obtain ⟨rfl, hsz, hP, hK, hD0, hE, hR, hX, hT9, hV9⟩ := hv
  have hx := B.exec
  have hb := B.bytes
  have hr := B.returns
  have hts := atoms_spec (ws := wsX7_requireIsland) B.pre
  have hown : s.vm.findClass RX7 = some m.cls := findClass_of_methodNamed B.named
  have hlocks := B.notSynchronized
  subst hsz
  have hD := hD0.self (sz := s.heap.size)
  generalize hAe : va_A ([] : va_W) s.heap.size = A at hD hX hV9 ⊢
  have hA : ∀ q : Nat, s.heap.size ≤ q → A q := fun q h => by rw [← hAe]; exact Or.inr h
  have hS0 : va_S A s.heap s.heap [] := va_S.rf
  have hP : va_P D vwCl ([] : va_W) s.heap := hP
  have hS := hS0
  obtain ⟨⟨hV, hB, hMV, hMB, hAL, hEk, hEa, hTX, hXZ⟩, hCS, hSF⟩ := id hX
  have hl := lv_entry ([.int x]) (n := 1) (Nat.le_of_ble_eq_true rfl)
  rw [lg_entry_eq]
  generalize (lg_sl ([.int x]) ++ List.replicate (1 - (lg_sl ([.int x])).length) Slot.unset).toArray = ls at hl ⊢
  have hl : lv_has ls 1 [(0, .int x)] := hl
  obtain ⟨z, hz⟩ : ∃ z, z = f_X7_requireIsland x := ⟨_, rfl⟩
  rw [← hz]
  refine lv_iload_n hx hb dX7_requireIsland_0 rfl (lv_at hl 0 rfl) ?_
  refine callRo (va_runS (As := [.int x]) (rest := []) ⟨hx, hb, hml, hown, hts⟩ (c_X1_isIsland l D C (x)) (va_cwS 1 hts gX7_requireIsland_X1_isIsland rfl rfl rfl (by decide +kernel) ⟨Nat.le_of_ble_eq_true rfl, Nat.le_of_ble_eq_true rfl⟩) (roP_s hP hK hE) rfl rfl hl.1 rfl (lv_room (Nat.le_of_ble_eq_true rfl)) dX7_requireIsland_1 ⟨Nat.le_of_ble_eq_true rfl, Nat.le_of_ble_eq_true rfl⟩) ?_
  refine bif_ne (tgt := 18) hx hb dX7_requireIsland_4 (by decide) (fun c_4 => ?_) (fun c_4 => ?_)
  · have hz := hz.trans (ifB_t c_4)
    have hz : z = 0 := hz
    rw [hz]
    exact x_retV hx hb hr hP hS rfl (Nat.le_of_ble_eq_true rfl) (Nat.le_of_ble_eq_true rfl) dX7_requireIsland_18 hlocks
  · have hz := hz.trans (ifB_f c_4)
    have hz : z = 1 := hz
    rw [hz]
    exact x_throwW (C := C) (k9 := 0) (text := "no such island") (wsm := wsX7_requireIsland) hx hb hl9 hts hown hT9 hV9 hP hS (by decide) (by decide +kernel) (by decide +kernel) (by decide +kernel) (by decide +kernel) (by decide +kernel) (by decide +kernel) (by decide +kernel) (hml.trans hl.1.symm) htab dX7_requireIsland_7 dX7_requireIsland_10 dX7_requireIsland_11 dX7_requireIsland_14 dX7_requireIsland_17 (Nat.le_of_ble_eq_true rfl) (Nat.le_of_ble_eq_true rfl) (Nat.le_of_ble_eq_true rfl) (Nat.le_of_ble_eq_true rfl) hlocks rfl (Nat.le_of_ble_eq_true rfl) (Nat.le_of_ble_eq_true rfl)

