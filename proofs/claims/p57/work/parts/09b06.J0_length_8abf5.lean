def f_J0_length_8abf5 (i : Nat) : Nat := (tlen i)
set_option maxHeartbeats 4000000 in
set_option maxRecDepth 100000 in
theorem c_J0_length_8abf5 (l : Launch) (D : va_G) (C : Nat → ClassId) (ev : Nat → Nat) (i : Nat) (hi : i < 16) : Met l yJ0_length_8abf5 wsJ0_length_8abf5 ({ frames := 1, cells := 0, slots := 0, locals := 20 } : Room) (roPE [.ref (ev (40 + i))] D C ev ([] : va_W)) (roO (some (.int (nI (f_J0_length_8abf5 i))))) 0 0 (fun _ => False) := by
  refine Met.ofW (cc := cJ0_length_8abf5) (maxL := 1) (ret := (some .int)) (by decide) rfl ?_
  intro p e s m args below meth c s₁ B hml hv
  obtain ⟨rfl, hP, hK, hE, hR, hX⟩ := hv
  have hx := B.exec
  have hb := B.bytes
  have hr := B.returns
  have hts := atoms_spec (ws := wsJ0_length_8abf5) B.pre
  have hown : s.vm.findClass RJ0 = some m.cls := findClass_of_methodNamed B.named
  have hlocks := B.notSynchronized
  have hS : va_S (fun _ => False) s.heap s.heap [] := va_S.rf
  obtain ⟨⟨hV, hB, hMV, hMB, hAL, hEk, hEa, hTX, hXZ⟩, hCS, hSF⟩ := id hX
  have hl := lv_entry ([.ref (ev (40 + i))]) (n := 1) (Nat.le_of_ble_eq_true rfl)
  rw [lg_entry_eq]
  generalize (lg_sl ([.ref (ev (40 + i))]) ++ List.replicate (1 - (lg_sl ([.ref (ev (40 + i))])).length) Slot.unset).toArray = ls at hl ⊢
  have hl : lv_has ls 1 [(0, .ref (ev (40 + i)))] := hl
  obtain ⟨z, hz⟩ : ∃ z, z = f_J0_length_8abf5 i := ⟨_, rfl⟩
  rw [← hz]
  refine lv_aload_n hx hb dJ0_length_8abf5_0 rfl (lv_at hl 0 rfl) ?_
  refine vk_getf (v := .ref (ev (70 + i))) hx hb (hTX.1 i (by omega)).2.2.1 hS hown (hts (.fieldLink RJ0 9 "java/lang/String" "value" "[B") (by decide +kernel)) (fun _ h9 => h9) dJ0_length_8abf5_1 ?_
  refine va_tlen (v := nI (tlen i)) hx hb (hTX.1 i (by omega)).2.2.2 hS rfl dJ0_length_8abf5_4 ?_
  refine lv_aload_n hx hb dJ0_length_8abf5_5 rfl (lv_at hl 0 rfl) ?_
  refine callRo (va_runV (As := []) (rest := [.int (nI (tlen i))]) ⟨hx, hb, hml, hown, hts⟩ (c_J0_coder_7d493 l D C ev i (by first | assumption | omega)) (cwV 0 hts gJ0_length_8abf5_J0_coder_7d493 rfl rfl rfl (by decide +kernel) ⟨Nat.le_of_ble_eq_true rfl, Nat.le_of_ble_eq_true rfl⟩) (roPE_v hP hK hE hR hX hS (vk_recv (i := i) hTX (by omega) hS)) rfl rfl hl.1 rfl (lv_room (Nat.le_of_ble_eq_true rfl)) dJ0_length_8abf5_6 ⟨Nat.le_refl _, Nat.le_refl _⟩) ?_
  refine topI (y := 0) rfl ?_
  refine lv_ishr hx hb dJ0_length_8abf5_9 ?_
  refine topN (k := (tlen i)) (show ((nI (tlen i)) >>> (0 &&& 31)) = (nI (tlen i)) from by exact sb_shr0 _) ?_
  exact ro_ret hx hb hr (congrArg nI (show _ = (tlen i) from hz)) dJ0_length_8abf5_10 hlocks

