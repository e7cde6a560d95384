def f_X8_isIsland (x : Int32) : Bool := (f_X8_isIn (x) (0) (7))
set_option maxHeartbeats 4000000 in
set_option maxRecDepth 100000 in
theorem c_X8_isIsland (l : Launch) (D : va_G) (C : Nat → ClassId) (x : Int32) : Met l yX8_isIsland wsX8_isIsland ({ frames := 1, cells := 0, slots := 0, locals := 22 } : Room) (roP [.int x] D C ([] : va_W)) (roO (some (.int (bI (f_X8_isIsland x))))) 0 0 (fun _ => False) := by
  refine Met.ofW (cc := cX8_isIsland) (maxL := 1) (ret := (some .boolean)) (by decide) rfl ?_
  intro p e s m args below meth c s₁ B hml hv
  obtain ⟨rfl, hP, hK, hE⟩ := hv
  have hx := B.exec
  have hb := B.bytes
  have hr := B.returns
  have hts := atoms_spec (ws := wsX8_isIsland) B.pre
  have hown : s.vm.findClass RX8 = some m.cls := findClass_of_methodNamed B.named
  have hlocks := B.notSynchronized
  have hl := lv_entry ([.int x]) (n := 1) (Nat.le_of_ble_eq_true rfl)
  rw [lg_entry_eq]
  generalize (lg_sl ([.int x]) ++ List.replicate (1 - (lg_sl ([.int x])).length) Slot.unset).toArray = ls at hl ⊢
  have hl : lv_has ls 1 [(0, .int x)] := hl
  obtain ⟨z, hz⟩ : ∃ z, z = f_X8_isIsland x := ⟨_, rfl⟩
  rw [← hz]
  refine lv_iload_n hx hb dX8_isIsland_0 rfl (lv_at hl 0 rfl) ?_
  refine lv_iconst (v := 0) hx hb dX8_isIsland_1 (by decide) ?_
  refine lv_bipush (v := 7) hx hb dX8_isIsland_2 (by decide +kernel) ?_
  refine callRo (va_runS (As := [.int x, .int 0, .int 7]) (rest := []) ⟨hx, hb, hml, hown, hts⟩ (c_X8_isIn l D C (x) (0) (7)) (va_cwS 3 hts gX8_isIsland_X8_isIn rfl rfl rfl (by decide +kernel) ⟨Nat.le_of_ble_eq_true rfl, Nat.le_of_ble_eq_true rfl⟩) (roP_s hP hK hE) rfl rfl hl.1 rfl (lv_room (Nat.le_of_ble_eq_true rfl)) dX8_isIsland_4 ⟨Nat.le_refl _, Nat.le_refl _⟩) ?_
  exact ro_retB hx hb hr (show _ = (f_X8_isIn (x) (0) (7)) from hz) dX8_isIsland_7 hlocks

