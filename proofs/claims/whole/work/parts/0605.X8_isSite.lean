def f_X8_isSite (nw : (Nat → Int32)) (x : Int32) : Bool := (f_X8_isIn (x) (0) (((nI (mS nw)) - 1)))
set_option maxHeartbeats 4000000 in
set_option maxRecDepth 100000 in
theorem c_X8_isSite (l : Launch) (D : va_G) (C : Nat → ClassId) (b : Nat → Nat) (M : MS) (x : Int32) (hM : MSafe M) : Met l yX8_isSite wsX8_isSite ({ frames := 1, cells := 0, slots := 0, locals := 22 } : Room) (roP [.ref (b 0), .int x] D C (mcells C b M)) (roO (some (.int (bI (f_X8_isSite (mNow M) x))))) 0 0 (fun _ => False) := by
  refine Met.ofW (cc := cX8_isSite) (maxL := 2) (ret := (some .boolean)) (by decide) rfl ?_
  intro p e s m args below meth c s₁ B hml hv
  obtain ⟨rfl, hP, hK, hE⟩ := hv
  have hx := B.exec
  have hb := B.bytes
  have hr := B.returns
  have hts := atoms_spec (ws := wsX8_isSite) B.pre
  have hown : s.vm.findClass RX8 = some m.cls := findClass_of_methodNamed B.named
  have hlocks := B.notSynchronized
  obtain ⟨⟨hS2, hS12⟩, ⟨hP2, hP4⟩, hLH, hFE⟩ := id hM
  have hinX8 : ∀ w ∈ u_ws RX8 TX8 20, w ∈ wsX8_isSite := by decide +kernel
  have hl := lv_entry ([.ref (b 0), .int x]) (n := 2) (Nat.le_of_ble_eq_true rfl)
  rw [lg_entry_eq]
  generalize (lg_sl ([.ref (b 0), .int x]) ++ List.replicate (2 - (lg_sl ([.ref (b 0), .int x])).length) Slot.unset).toArray = ls at hl ⊢
  have hl : lv_has ls 2 [(0, .ref (b 0)), (1, .int x)] := hl
  obtain ⟨z, hz⟩ : ∃ z, z = f_X8_isSite (mNow M) x := ⟨_, rfl⟩
  rw [← hz]
  refine lv_iload_n hx hb dX8_isSite_0 rfl (lv_at hl 1 rfl) ?_
  refine lv_iconst (v := 0) hx hb dX8_isSite_1 (by decide) ?_
  refine lv_aload_n hx hb dX8_isSite_2 rfl (lv_at hl 0 rfl) ?_
  refine va_get (D := D) (ci := 9) (v := .ref (b 1)) (C := RX8) (T := TX8) (N := 20) hx hb hts hinX8 hown hK hP 0 rfl rfl 0 (by decide) (hts (.fieldLink RX8 9 "BridgeAuctionModel" "now" "[I") (by decide +kernel)) (fun _ h9 => h9) rfl dX8_isSite_3 ?_
  refine lv_iconst (v := 2) hx hb dX8_isSite_6 (by decide) ?_
  refine topN (k := 2) (by decide +kernel) ?_
  refine ialdN (tys := tyA C) hx hb hK hP 1 0 rfl rfl (i := 2) (by omega) (by decide) dX8_isSite_7 ?_
  refine topN (k := mS (mNow M)) (by first | exact hS2 | exact hP2) ?_
  refine lv_iconst (v := 1) hx hb dX8_isSite_8 (by decide) ?_
  refine lv_isub hx hb dX8_isSite_9 ?_
  refine callRo (va_runS (As := [.int x, .int 0, .int ((nI (mS (mNow M))) - 1)]) (rest := []) ⟨hx, hb, hml, hown, hts⟩ (c_X8_isIn l D C (x) (0) (((nI (mS (mNow M))) - 1))) (va_cwS 3 hts gX8_isSite_X8_isIn rfl rfl rfl (by decide +kernel) ⟨Nat.le_of_ble_eq_true rfl, Nat.le_of_ble_eq_true rfl⟩) (roP_s (hP.sub (ws' := ([] : va_W)) [] rfl) hK hE) rfl rfl hl.1 rfl (lv_room (Nat.le_of_ble_eq_true rfl)) dX8_isSite_10 ⟨Nat.le_refl _, Nat.le_refl _⟩) ?_
  exact ro_retB hx hb hr (show _ = (f_X8_isIn (x) (0) (((nI (mS (mNow M))) - 1))) from hz) dX8_isSite_13 hlocks

