def f_X8_siteAt (k : Nat) : Nat := (22 + (13 * k))
set_option maxHeartbeats 4000000 in
set_option maxRecDepth 100000 in
theorem c_X8_siteAt (l : Launch) (D : va_G) (C : Nat → ClassId) (k : Nat) (h_k : k < 12) : Met l yX8_siteAt wsX8_siteAt ({ frames := 0, cells := 0, slots := 0, locals := 0 } : Room) (roP [.int (nI k)] D C ([] : va_W)) (roO (some (.int (nI (f_X8_siteAt k))))) 0 0 (fun _ => False) := by
  refine Met.ofW (cc := cX8_siteAt) (maxL := 1) (ret := (some .int)) (by decide) rfl ?_
  intro p e s m args below meth c s₁ B hml hv
  obtain ⟨rfl, hP, hK, hE⟩ := hv
  have hx := B.exec
  have hb := B.bytes
  have hr := B.returns
  have hts := atoms_spec (ws := wsX8_siteAt) B.pre
  have hown : s.vm.findClass RX8 = some m.cls := findClass_of_methodNamed B.named
  have hlocks := B.notSynchronized
  have hl := lv_entry ([.int (nI k)]) (n := 1) (Nat.le_of_ble_eq_true rfl)
  rw [lg_entry_eq]
  generalize (lg_sl ([.int (nI k)]) ++ List.replicate (1 - (lg_sl ([.int (nI k)])).length) Slot.unset).toArray = ls at hl ⊢
  have hl : lv_has ls 1 [(0, .int (nI k))] := hl
  obtain ⟨z, hz⟩ : ∃ z, z = f_X8_siteAt k := ⟨_, rfl⟩
  rw [← hz]
  refine lv_bipush (v := 22) hx hb dX8_siteAt_0 (by decide +kernel) ?_
  refine lv_bipush (v := 13) hx hb dX8_siteAt_2 (by decide +kernel) ?_
  refine lv_iload_n hx hb dX8_siteAt_4 rfl (lv_at hl 0 rfl) ?_
  refine topN2 (k := 13) (by decide +kernel) ?_
  refine mulN hx hb dX8_siteAt_5 ?_
  refine topN2 (k := 22) (by decide +kernel) ?_
  refine addN hx hb dX8_siteAt_6 ?_
  exact ro_ret hx hb hr (congrArg nI (show _ = (22 + (13 * k)) from hz)) dX8_siteAt_7 hlocks

