def f_J1_charAt_3b067 (i : Nat) (k : Nat) : Int32 := (c16 ((tbyt i k) &&& 255))
set_option maxHeartbeats 4000000 in
set_option maxRecDepth 100000 in
theorem c_J1_charAt_3b067 (l : Launch) (D : va_G) (C : Nat → ClassId) (ev : Nat → Nat) (i : Nat) (k : Nat) (hi : i < 16) (hk : k < tlen i) : Met l yJ1_charAt_3b067 wsJ1_charAt_3b067 ({ frames := 2, cells := 0, slots := 0, locals := 43 } : Room) (roPE [.ref (ev (70 + i)), .int (nI k)] D C ev ([] : va_W)) (roO (some (.int (f_J1_charAt_3b067 i k)))) 0 0 (fun _ => False) := by
  refine Met.ofW (cc := cJ1_charAt_3b067) (maxL := 2) (ret := (some .char)) (by decide) rfl ?_
  intro p e s m args below meth c s₁ B hml hv
  obtain ⟨rfl, hP, hK, hE, hR, hX⟩ := hv
  have hx := B.exec
  have hb := B.bytes
  have hr := B.returns
  have hts := atoms_spec (ws := wsJ1_charAt_3b067) B.pre
  have hown : s.vm.findClass RJ1 = some m.cls := findClass_of_methodNamed B.named
  have hlocks := B.notSynchronized
  have hS : va_S (fun _ => False) s.heap s.heap [] := va_S.rf
  obtain ⟨⟨hV, hB, hMV, hMB, hAL, hEk, hEa, hTX, hXZ⟩, hCS, hSF⟩ := id hX
  have hl := lv_entry ([.ref (ev (70 + i)), .int (nI k)]) (n := 2) (Nat.le_of_ble_eq_true rfl)
  rw [lg_entry_eq]
  generalize (lg_sl ([.ref (ev (70 + i)), .int (nI k)]) ++ List.replicate (2 - (lg_sl ([.ref (ev (70 + i)), .int (nI k)])).length) Slot.unset).toArray = ls at hl ⊢
  have hl : lv_has ls 2 [(0, .ref (ev (70 + i))), (1, .int (nI k))] := hl
  obtain ⟨z, hz⟩ : ∃ z, z = f_J1_charAt_3b067 i k := ⟨_, rfl⟩
  rw [← hz]
  refine lv_iload_n hx hb dJ1_charAt_3b067_0 rfl (lv_at hl 1 rfl) ?_
  refine lv_aload_n hx hb dJ1_charAt_3b067_1 rfl (lv_at hl 0 rfl) ?_
  refine va_tlen (v := nI (tlen i)) hx hb (hTX.1 i (by omega)).2.2.2 hS rfl dJ1_charAt_3b067_2 ?_
  refine callRo (va_runS (As := [.int (nI k), .int (nI (tlen i))]) (rest := []) ⟨hx, hb, hml, hown, hts⟩ (c_J0_checkIndex_df160 l D C ev (k) ((tlen i)) (by first | assumption | omega) (by have := tlen_le i; omega)) (va_cwS 2 hts gJ1_charAt_3b067_J0_checkIndex_df160 rfl rfl rfl (by decide +kernel) ⟨Nat.le_of_ble_eq_true rfl, Nat.le_of_ble_eq_true rfl⟩) (roPE_s hP hK hE hR hX hS) rfl rfl hl.1 rfl (lv_room (Nat.le_of_ble_eq_true rfl)) dJ1_charAt_3b067_3 ⟨Nat.le_refl _, Nat.le_refl _⟩) ?_
  refine lv_aload_n hx hb dJ1_charAt_3b067_6 rfl (lv_at hl 0 rfl) ?_
  refine lv_iload_n hx hb dJ1_charAt_3b067_7 rfl (lv_at hl 1 rfl) ?_
  refine va_tb (v := .int (tbyt i k)) hx hb (hTX.1 i (by omega)).2.2.2 hS (vp_in_nI (by show k < tlen i; exact hk) (by show tlen i < 2 ^ 31; have := tlen_le i; omega)) (tbyt_at (by have := tlen_le i; omega)) dJ1_charAt_3b067_8 ?_
  refine lv_sipush (v := 255) hx hb dJ1_charAt_3b067_9 (by decide +kernel) ?_
  refine lv_iand hx hb dJ1_charAt_3b067_12 ?_
  refine lv_i2c (v := c16 ((tbyt i k) &&& 255)) hx hb dJ1_charAt_3b067_13 (c16_ok _) ?_
  exact ro_retX hx hb hr (by first | rfl | exact nar_c16 _) hz dJ1_charAt_3b067_14 hlocks

