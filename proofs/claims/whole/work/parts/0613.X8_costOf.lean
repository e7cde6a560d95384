def f_X8_costOf (nw : (Nat → Int32)) (x : Int32) : Int32 := ((f_X8_of nw (x) (2)) + (nw 0))
set_option maxHeartbeats 4000000 in
set_option maxRecDepth 100000 in
theorem c_X8_costOf (l : Launch) (D : va_G) (C : Nat → ClassId) (b : Nat → Nat) (M : MS) (x : Int32) (hM : MSafe M) : Met l yX8_costOf wsX8_costOf ({ frames := 3, cells := 0, slots := 0, locals := 65 } : Room) (roP [.ref (b 0), .int x] D C (mcells C b M)) (roO (some (.int (f_X8_costOf (mNow M) x)))) 0 0 (fun _ => False) := by
  refine Met.ofW (cc := cX8_costOf) (maxL := 2) (ret := (some .int)) (by decide) rfl ?_
  intro p e s m args below meth c s₁ B hml hv
  obtain ⟨rfl, hP, hK, hE⟩ := hv
  have hx := B.exec
  have hb := B.bytes
  have hr := B.returns
  have hts := atoms_spec (ws := wsX8_costOf) B.pre
  have hown : s.vm.findClass RX8 = some m.cls := findClass_of_methodNamed B.named
  have hlocks := B.notSynchronized
  obtain ⟨⟨hS2, hS12⟩, ⟨hP2, hP4⟩, hLH, hFE⟩ := id hM
  have hinX8 : ∀ w ∈ u_ws RX8 TX8 20, w ∈ wsX8_costOf := by decide +kernel
  have hl := lv_entry ([.ref (b 0), .int x]) (n := 2) (Nat.le_of_ble_eq_true rfl)
  rw [lg_entry_eq]
  generalize (lg_sl ([.ref (b 0), .int x]) ++ List.replicate (2 - (lg_sl ([.ref (b 0), .int x])).length) Slot.unset).toArray = ls at hl ⊢
  have hl : lv_has ls 2 [(0, .ref (b 0)), (1, .int x)] := hl
  obtain ⟨z, hz⟩ : ∃ z, z = f_X8_costOf (mNow M) x := ⟨_, rfl⟩
  rw [← hz]
  refine lv_aload_n hx hb dX8_costOf_0 rfl (lv_at hl 0 rfl) ?_
  refine lv_iload_n hx hb dX8_costOf_1 rfl (lv_at hl 1 rfl) ?_
  refine lv_iconst (v := 2) hx hb dX8_costOf_2 (by decide) ?_
  refine topN (k := 2) (by decide +kernel) ?_
  refine callRo (va_runV (As := [.int x, .int (nI 2)]) (rest := []) ⟨hx, hb, hml, hown, hts⟩ (c_X8_of l D C b M (x) (2) hM (by omega)) (cwV 2 hts gX8_costOf_X8_of rfl rfl rfl (by decide +kernel) ⟨Nat.le_of_ble_eq_true rfl, Nat.le_of_ble_eq_true rfl⟩) (roP_v hP hK hE (va_recv hK hP (ci := 9) (q0 := 0) rfl rfl)) rfl rfl hl.1 rfl (lv_room (Nat.le_of_ble_eq_true rfl)) dX8_costOf_3 ⟨Nat.le_refl _, Nat.le_refl _⟩) ?_
  refine lv_aload_n hx hb dX8_costOf_6 rfl (lv_at hl 0 rfl) ?_
  refine va_get (D := D) (ci := 9) (v := .ref (b 1)) (C := RX8) (T := TX8) (N := 20) hx hb hts hinX8 hown hK hP 0 rfl rfl 0 (by decide) (hts (.fieldLink RX8 9 "BridgeAuctionModel" "now" "[I") (by decide +kernel)) (fun _ h9 => h9) rfl dX8_costOf_7 ?_
  refine lv_iconst (v := 0) hx hb dX8_costOf_10 (by decide) ?_
  refine topN (k := 0) (by decide +kernel) ?_
  refine ialdN (tys := tyA C) hx hb hK hP 1 0 rfl rfl (i := 0) (by omega) (by decide) dX8_costOf_11 ?_
  refine lv_iadd hx hb dX8_costOf_12 ?_
  exact ro_ret hx hb hr hz dX8_costOf_13 hlocks

