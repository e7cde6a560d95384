theorem ordB_at {n : Nat} (h : n < 9) : ([0, 1, 2, 3, 4, 5, 6, 7, 8] : List Int32).getD n 0 = nI n := by
  revert n; decide +kernel
theorem ordV_at {n : Nat} (h : n < 6) : ([0, 1, 2, 3, 4, 5] : List Int32).getD n 0 = nI n := by
  revert n; decide +kernel
def f_ordB (n : Nat) : Nat := n
set_option maxHeartbeats 4000000 in
set_option maxRecDepth 100000 in
theorem c_ordB (l : Launch) (D : va_G) (C : Nat → ClassId) (ev : Nat → Nat) (n : Nat) (hn : n < 9) : Met l yJx29ce0_ordinal_8abf5 wsJx29ce0_ordinal_8abf5 ({ frames := 0, cells := 0, slots := 0, locals := 0 } : Room) (roPE [.ref (ev (10 + n))] D C ev ([] : va_W)) (roO (some (.int (nI (f_ordB n))))) 0 0 (fun _ => False) := by
  refine Met.ofW (cc := cJx29ce0_ordinal_8abf5) (maxL := 1) (ret := (some .int)) (by decide) rfl ?_
  intro p e s m args below meth c s₁ B hml hv
  obtain ⟨rfl, hP, hK, hE, hR, hX⟩ := hv
  have hx := B.exec
  have hb := B.bytes
  have hr := B.returns
  have hts := atoms_spec (ws := wsJx29ce0_ordinal_8abf5) B.pre
  have hown : s.vm.findClass RJx29ce0 = some m.cls := findClass_of_methodNamed B.named
  have hlocks := B.notSynchronized
  have hS : va_S (fun _ => False) s.heap s.heap [] := va_S.rf
  obtain ⟨⟨hV, hB, hMV, hMB, hAL, hEk, hEa, hTX, hXZ⟩, hCS, hSF⟩ := id hX
  have hl := lv_entry ([.ref (ev (10 + n))]) (n := 1) (Nat.le_of_ble_eq_true rfl)
  rw [lg_entry_eq]
  generalize (lg_sl ([.ref (ev (10 + n))]) ++ List.replicate (1 - (lg_sl ([.ref (ev (10 + n))])).length) Slot.unset).toArray = ls at hl ⊢
  have hl : lv_has ls 1 [(0, .ref (ev (10 + n)))] := hl
  obtain ⟨z, hz⟩ : ∃ z, z = f_ordB n := ⟨_, rfl⟩
  rw [← hz]
  refine lv_aload_n hx hb dJx29ce0_ordinal_8abf5_0 rfl (lv_at hl 0 rfl) ?_
  refine va_getE (i := n) (q := ("java/lang/Enum", "ordinal", "I", [0, 1, 2, 3, 4, 5, 6, 7, 8])) hx hb hB (by show n < 9; omega) hS hown (List.mem_singleton.mpr rfl) (hts (.fieldLink RJx29ce0 7 "java/lang/Enum" "ordinal" "I") (by decide +kernel)) (fun _ h9 => h9) dJx29ce0_ordinal_8abf5_1 ?_
  refine topN (k := n) (ordB_at (by omega)) ?_
  exact ro_ret hx hb hr (congrArg nI (show _ = n from hz)) dJx29ce0_ordinal_8abf5_4 hlocks
