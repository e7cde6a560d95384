def f_X7_componentCount (Q : QS) (G : GS) (Rr : GR) : Int32 := (f_X2_countBySearch Rr G)
set_option maxHeartbeats 4000000 in
set_option maxRecDepth 100000 in
theorem c_X7_componentCount (l : Launch) (D : va_G) (C : Nat → ClassId) (u : Nat → Nat) (Q : QS) (G : GS) (Rr : GR) (hG : GSafe G) : Met l yX7_componentCount wsX7_componentCount ({ frames := 11, cells := 0, slots := 0, locals := 266 } : Room) (roP [.ref (u 0)] D C (acells C u Q ++ gcells C (uA u) G ++ grcells C (uG u) Rr)) (roO (some (.int (f_X7_componentCount Q G Rr)))) 0 0 (fun _ => False) := by
  refine Met.ofW (cc := cX7_componentCount) (maxL := 1) (ret := (some .int)) (by decide) rfl ?_
  intro p e s m args below meth c s₁ B hml hv
  obtain ⟨rfl, hP, hK, hE⟩ := hv
  have hx := B.exec
  have hb := B.bytes
  have hr := B.returns
  have hts := atoms_spec (ws := wsX7_componentCount) B.pre
  have hown : s.vm.findClass RX7 = some m.cls := findClass_of_methodNamed B.named
  have hlocks := B.notSynchronized
  obtain ⟨hS12, hP4, hlo, hhi⟩ := id hG
  have hinX7 : ∀ w ∈ u_ws RX7 TX7 10, w ∈ wsX7_componentCount := by decide +kernel
  have hl := lv_entry ([.ref (u 0)]) (n := 1) (Nat.le_of_ble_eq_true rfl)
  rw [lg_entry_eq]
  generalize (lg_sl ([.ref (u 0)]) ++ List.replicate (1 - (lg_sl ([.ref (u 0)])).length) Slot.unset).toArray = ls at hl ⊢
  have hl : lv_has ls 1 [(0, .ref (u 0))] := hl
  obtain ⟨z, hz⟩ : ∃ z, z = f_X7_componentCount Q G Rr := ⟨_, rfl⟩
  rw [← hz]
  refine lv_aload_n hx hb dX7_componentCount_0 rfl (lv_at hl 0 rfl) ?_
  refine va_get (D := D) (ci := 8) (v := .ref ((uA u) 0)) (C := RX7) (T := TX7) (N := 10) hx hb hts hinX7 hown hK hP 0 rfl rfl 0 (by decide) (hts (.fieldLink RX7 10 "BridgeAuction" "game" "LBridgeAuction$Game;") (by decide +kernel)) (fun _ h9 => h9) rfl dX7_componentCount_1 ?_
  refine callRo (va_runS (As := [.ref ((uA u) 0)]) (rest := []) ⟨hx, hb, hml, hown, hts⟩ (c_X2_countBySearch l D C (uG u) Rr (uA u) G hG) (va_cwS 1 hts gX7_componentCount_X2_countBySearch rfl rfl rfl (by decide +kernel) ⟨Nat.le_of_ble_eq_true rfl, Nat.le_of_ble_eq_true rfl⟩) (roP_s (hP.sub (ws' := (grcells C (uG u) Rr ++ gcells C (uA u) G)) [10, 11, 12, 13, 1, 2, 3, 4, 5, 6, 7, 8, 9] rfl) hK hE) rfl rfl hl.1 rfl (lv_room (Nat.le_of_ble_eq_true rfl)) dX7_componentCount_4 ⟨Nat.le_refl _, Nat.le_refl _⟩) ?_
  exact ro_ret hx hb hr hz dX7_componentCount_7 hlocks

