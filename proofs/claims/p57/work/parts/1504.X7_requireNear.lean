def f_X7_requireNear (x : Int32) : Nat × Int32 := (if x = 1000 then (5, 0) else (0, x))
set_option maxHeartbeats 4000000 in
set_option maxRecDepth 100000 in
theorem c_X7_requireNear (l : Launch) (D : va_G) (C : Nat → ClassId) (ev : Nat → Nat) (x : Int32) (sz : Nat) (hl9 : l.stackTraces = false) : vx_Met l yX7_requireNear wsX7_requireNear ({ frames := 6, cells := 1, slots := 6, locals := 82 } : Room) (xP [.int x] D C ev ([] : va_W) sz) (xO ((f_X7_requireNear x).1) (some (.int ((f_X7_requireNear x).2))) D [] (va_A ([] : va_W) sz)) (xC ((f_X7_requireNear x).1) D [] (va_A ([] : va_W) sz)) 1 6 (va_A ([] : va_W) sz) := by
  refine vx_ofW (cc := cX7_requireNear) (maxL := 1) (ret := (some .int)) (by decide) rfl ?_
  intro p e s m args below meth c s₁ B hml htab hv
  obtain ⟨rfl, hsz, hP, hK, hD0, hE, hR, hX, hT9, hV9⟩ := hv
  have hx := B.exec
  have hb := B.bytes
  have hr := B.returns
  have hts := atoms_spec (ws := wsX7_requireNear) B.pre
  have hown : s.vm.findClass RX7 = some m.cls := findClass_of_methodNamed B.named
  have hlocks := B.notSynchronized
  subst hsz
  have hD := hD0.self (sz := s.heap.size)
  generalize hAe : va_A ([] : va_W) s.heap.size = A at hD hX hV9 ⊢
  have hA : ∀ q : Nat, s.heap.size ≤ q → A q := fun q h => by rw [← hAe]; exact Or.inr h
  have hS0 : va_S A s.heap s.heap [] := va_S.rf
  have hP : va_P D vwCl ([] : va_W) s.heap := hP
  have hS := hS0
  obtain ⟨⟨hV, hB, hMV, hMB, hAL, hEk, hEa, hTX, hXZ⟩, hCS, hSF⟩ := id hX
  have hl := lv_entry ([.int x]) (n := 1) (Nat.le_of_ble_eq_true rfl)
  rw [lg_entry_eq]
  generalize (lg_sl ([.int x]) ++ List.replicate (1 - (lg_sl ([.int x])).length) Slot.unset).toArray = ls at hl ⊢
  have hl : lv_has ls 1 [(0, .int x)] := hl
  obtain ⟨z, hz⟩ : ∃ z, z = f_X7_requireNear x := ⟨_, rfl⟩
  rw [← hz]
  refine lv_iload_n hx hb dX7_requireNear_0 rfl (lv_at hl 0 rfl) ?_
  refine lv_sipush (v := 1000) hx hb dX7_requireNear_1 (by decide +kernel) ?_
  refine lv_icmp_ne (tgt := 18) hx hb dX7_requireNear_4 (by decide) (fun c_4 => ?_) (fun c_4 => ?_)
  · have hz := hz.trans (if_neg c_4)
    refine lv_iload_n hx hb dX7_requireNear_18 rfl (lv_at hl 0 rfl) ?_
    have hz : z = (0, x) := hz
    rw [hz]
    exact x_ret hx hb hr hP hS rfl rfl (Nat.le_of_ble_eq_true rfl) (Nat.le_of_ble_eq_true rfl) dX7_requireNear_19 hlocks
  · have hz := hz.trans (if_pos c_4)
    have hz : z = (5, 0) := hz
    rw [hz]
    exact x_throwW (C := C) (k9 := 4) (text := "the islands are not connected") (wsm := wsX7_requireNear) hx hb hl9 hts hown hT9 hV9 hP hS (by decide) (by decide +kernel) (by decide +kernel) (by decide +kernel) (by decide +kernel) (by decide +kernel) (by decide +kernel) (by decide +kernel) (hml.trans hl.1.symm) htab dX7_requireNear_7 dX7_requireNear_10 dX7_requireNear_11 dX7_requireNear_14 dX7_requireNear_17 (Nat.le_of_ble_eq_true rfl) (Nat.le_of_ble_eq_true rfl) (Nat.le_of_ble_eq_true rfl) (Nat.le_of_ble_eq_true rfl) hlocks rfl (Nat.le_of_ble_eq_true rfl) (Nat.le_of_ble_eq_true rfl)

