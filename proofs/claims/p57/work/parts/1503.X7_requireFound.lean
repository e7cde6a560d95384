def f_X7_requireFound (x : Int32) : Nat := (if x = (-1) then 5 else 0)
set_option maxHeartbeats 4000000 in
set_option maxRecDepth 100000 in
theorem c_X7_requireFound (l : Launch) (D : va_G) (C : Nat → ClassId) (ev : Nat → Nat) (x : Int32) (sz : Nat) (hl9 : l.stackTraces = false) : vx_Met l yX7_requireFound wsX7_requireFound ({ frames := 6, cells := 1, slots := 6, locals := 82 } : Room) (xP [.int x] D C ev ([] : va_W) sz) (xO ((f_X7_requireFound x)) none D [] (va_A ([] : va_W) sz)) (xC ((f_X7_requireFound x)) D [] (va_A ([] : va_W) sz)) 1 6 (va_A ([] : va_W) sz) := by
  refine vx_ofW (cc := cX7_requireFound) (maxL := 1) (ret := none) (by decide) rfl ?_
  intro p e s m args below meth c s₁ B hml htab hv
  obtain ⟨rfl, hsz, hP, hK, hD0, hE, hR, hX, hT9, hV9⟩ := hv
  have hx := B.exec
  have hb := B.bytes
  have hr := B.returns
  have hts := atoms_spec (ws := wsX7_requireFound) B.pre
  have hown : s.vm.findClass RX7 = some m.cls := findClass_of_methodNamed B.named
  have hlocks := B.notSynchronized
  subst hsz
  have hD := hD0.self (sz := s.heap.size)
  generalize hAe : va_A ([] : va_W) s.heap.size = A at hD hX hV9 ⊢
  have hA : ∀ q : Nat, s.heap.size ≤ q → A q := fun q h => by rw [← hAe]; exact Or.inr h
  have hS0 : va_S A s.heap s.heap [] := va_S.rf
  have hP : va_P D vwCl ([] : va_W) s.heap := hP
  have hS := hS0
  obtain ⟨⟨hV, hB, hMV, hMB, hAL, hEk, hEa, hTX, hXZ⟩, hCS, hSF⟩ := id hX
  have hl := lv_entry ([.int x]) (n := 1) (Nat.le_of_ble_eq_true rfl)
  rw [lg_entry_eq]
  generalize (lg_sl ([.int x]) ++ List.replicate (1 - (lg_sl ([.int x])).length) Slot.unset).toArray = ls at hl ⊢
  have hl : lv_has ls 1 [(0, .int x)] := hl
  obtain ⟨z, hz⟩ : ∃ z, z = f_X7_requireFound x := ⟨_, rfl⟩
  rw [← hz]
  refine lv_iload_n hx hb dX7_requireFound_0 rfl (lv_at hl 0 rfl) ?_
  refine lv_iconst (v := (-1)) hx hb dX7_requireFound_1 (by decide) ?_
  refine lv_icmp_ne (tgt := 16) hx hb dX7_requireFound_2 (by decide) (fun c_2 => ?_) (fun c_2 => ?_)
  · have hz := hz.trans (if_neg c_2)
    have hz : z = 0 := hz
    rw [hz]
    exact x_retV hx hb hr hP hS rfl (Nat.le_of_ble_eq_true rfl) (Nat.le_of_ble_eq_true rfl) dX7_requireFound_16 hlocks
  · have hz := hz.trans (if_pos c_2)
    have hz : z = 5 := hz
    rw [hz]
    exact x_throwW (C := C) (k9 := 4) (text := "there is none") (wsm := wsX7_requireFound) hx hb hl9 hts hown hT9 hV9 hP hS (by decide) (by decide +kernel) (by decide +kernel) (by decide +kernel) (by decide +kernel) (by decide +kernel) (by decide +kernel) (by decide +kernel) (hml.trans hl.1.symm) htab dX7_requireFound_5 dX7_requireFound_8 dX7_requireFound_9 dX7_requireFound_12 dX7_requireFound_15 (Nat.le_of_ble_eq_true rfl) (Nat.le_of_ble_eq_true rfl) (Nat.le_of_ble_eq_true rfl) (Nat.le_of_ble_eq_true rfl) hlocks rfl (Nat.le_of_ble_eq_true rfl) (Nat.le_of_ble_eq_true rfl)

