def f_X8_playerAt (q : Nat) : Nat := (14 + (2 * q))
set_option maxHeartbeats 4000000 in
set_option maxRecDepth 100000 in
theorem c_X8_playerAt (l : Launch) (D : va_G) (C : Nat → ClassId) (q : Nat) (h_q : q < 4) : Met l yX8_playerAt wsX8_playerAt ({ frames := 0, cells := 0, slots := 0, locals := 0 } : Room) (roP [.int (nI q)] D C ([] : va_W)) (roO (some (.int (nI (f_X8_playerAt q))))) 0 0 (fun _ => False) := by
  refine Met.ofW (cc := cX8_playerAt) (maxL := 1) (ret := (some .int)) (by decide) rfl ?_
  intro p e s m args below meth c s₁ B hml hv
  obtain ⟨rfl, hP, hK, hE⟩ := hv
  have hx := B.exec
  have hb := B.bytes
  have hr := B.returns
  have hts := atoms_spec (ws := wsX8_playerAt) B.pre
  have hown : s.vm.findClass RX8 = some m.cls := findClass_of_methodNamed B.named
  have hlocks := B.notSynchronized
  have hl := lv_entry ([.int (nI q)]) (n := 1) (Nat.le_of_ble_eq_true rfl)
  rw [lg_entry_eq]
  generalize (lg_sl ([.int (nI q)]) ++ List.replicate (1 - (lg_sl ([.int (nI q)])).length) Slot.unset).toArray = ls at hl ⊢
  have hl : lv_has ls 1 [(0, .int (nI q))] := hl
  obtain ⟨z, hz⟩ : ∃ z, z = f_X8_playerAt q := ⟨_, rfl⟩
  rw [← hz]
  refine lv_bipush (v := 14) hx hb dX8_playerAt_0 (by decide +kernel) ?_
  refine lv_iconst (v := 2) hx hb dX8_playerAt_2 (by decide) ?_
  refine lv_iload_n hx hb dX8_playerAt_3 rfl (lv_at hl 0 rfl) ?_
  refine topN2 (k := 2) (by decide +kernel) ?_
  refine mulN hx hb dX8_playerAt_4 ?_
  refine topN2 (k := 14) (by decide +kernel) ?_
  refine addN hx hb dX8_playerAt_5 ?_
  exact ro_ret hx hb hr (congrArg nI (show _ = (14 + (2 * q)) from hz)) dX8_playerAt_6 hlocks

