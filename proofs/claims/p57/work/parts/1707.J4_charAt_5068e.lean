set_option maxHeartbeats 4000000 in
set_option maxRecDepth 100000 in
theorem c_J4_charAt_5068e (l : Launch) (D : va_G) (C : Nat → ClassId) (ev : Nat → Nat) (b : Nat → Nat) (T : TX) (O : OS) (i : Nat) (hO : OT T O) (hi : i < T.2) : Met l yJ4_charAt_5068e wsJ4_charAt_5068e ({ frames := 3, cells := 0, slots := 0, locals := 67 } : Room) (roPE [.ref (b 0), .int (nI i)] D C ev (ocells C b O)) (roO (some (.int (nI (T.1 i))))) 0 0 (fun _ => False) := by
  refine Met.ofW (cc := cJ4_charAt_5068e) (maxL := 2) (ret := (some .char)) (by decide) rfl ?_
  intro p e s m args below meth c s₁ B hml hv
  obtain ⟨rfl, hP, hK, hE, hR, hX⟩ := hv
  have hx := B.exec
  have hb := B.bytes
  have hr := B.returns
  have hts := atoms_spec (ws := wsJ4_charAt_5068e) B.pre
  have hown : s.vm.findClass RJ4 = some m.cls := findClass_of_methodNamed B.named
  have hlocks := B.notSynchronized
  have hS : va_S (fun _ => False) s.heap s.heap [] := va_S.rf
  obtain ⟨⟨hV, hB, hMV, hMB, hAL, hEk, hEa, hTX, hXZ⟩, hCS, hSF⟩ := id hX
  obtain ⟨hn1, hn2, -, -, hc, hn3, -⟩ := id hO
  have hl := lv_entry ([.ref (b 0), .int (nI i)]) (n := 2) (Nat.le_of_ble_eq_true rfl)
  rw [lg_entry_eq]
  generalize (lg_sl ([.ref (b 0), .int (nI i)]) ++ List.replicate (2 - (lg_sl ([.ref (b 0), .int (nI i)])).length) Slot.unset).toArray = ls at hl ⊢
  have hl : lv_has ls 2 [(0, .ref (b 0)), (1, .int (nI i))] := hl
  refine lv_aload_n hx hb dJ4_charAt_5068e_0 rfl (lv_at hl 0 rfl) ?_
  refine lv_iload_n hx hb dJ4_charAt_5068e_1 rfl (lv_at hl 1 rfl) ?_
  refine callRo (va_runSU (C := RJ4) (hK.1 1 _ rfl).2 (As := [.int (nI i)]) (rest := []) ⟨hx, hb, hml, hown, hts⟩ (c_J5_charAt_5068e l D C ev b T O i hO hi) (va_cwSU 1 hts gJ4_charAt_5068e_J5_charAt_5068e_s329 rfl rfl rfl (by decide +kernel) ⟨Nat.le_of_ble_eq_true rfl, Nat.le_of_ble_eq_true rfl⟩) (roPE_v hP hK hE hR hX hS (va_recv hK hP (ci := 1) (q0 := 0) rfl rfl)) rfl rfl hl.1 rfl (lv_room (Nat.le_of_ble_eq_true rfl)) dJ4_charAt_5068e_2 ⟨by first | exact Nat.le_refl _ | exact Nat.le_of_ble_eq_true rfl | (show cells + 0 ≤ 31; omega), by first | exact Nat.le_refl _ | exact Nat.le_of_ble_eq_true rfl | (show slots + 0 ≤ 1054; omega)⟩) ?_
  exact ro_retX hx hb hr (pk_charN (by have := (hO.2.2.1 i (by omega)).1; omega)).1 rfl dJ4_charAt_5068e_5 hlocks
