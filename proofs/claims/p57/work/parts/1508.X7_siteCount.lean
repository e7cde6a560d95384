def f_X7_siteCount (Q : QS) (G : GS) : Int32 := (nI (gS G))
set_option maxHeartbeats 4000000 in
set_option maxRecDepth 100000 in
theorem c_X7_siteCount (l : Launch) (D : va_G) (C : Nat → ClassId) (u : Nat → Nat) (Q : QS) (G : GS) : Met l yX7_siteCount wsX7_siteCount ({ frames := 0, cells := 0, slots := 0, locals := 0 } : Room) (roP [.ref (u 0)] D C (acells C u Q ++ gcells C (uA u) G)) (roO (some (.int (f_X7_siteCount Q G)))) 0 0 (fun _ => False) := by
  refine Met.ofW (cc := cX7_siteCount) (maxL := 1) (ret := (some .int)) (by decide) rfl ?_
  intro p e s m args below meth c s₁ B hml hv
  obtain ⟨rfl, hP, hK, hE⟩ := hv
  have hx := B.exec
  have hb := B.bytes
  have hr := B.returns
  have hts := atoms_spec (ws := wsX7_siteCount) B.pre
  have hown : s.vm.findClass RX7 = some m.cls := findClass_of_methodNamed B.named
  have hlocks := B.notSynchronized
  have hinX1 : ∀ w ∈ u_ws RX1 TX1 16, w ∈ wsX7_siteCount := by decide +kernel
  have hinX7 : ∀ w ∈ u_ws RX7 TX7 10, w ∈ wsX7_siteCount := by decide +kernel
  have hl := lv_entry ([.ref (u 0)]) (n := 1) (Nat.le_of_ble_eq_true rfl)
  rw [lg_entry_eq]
  generalize (lg_sl ([.ref (u 0)]) ++ List.replicate (1 - (lg_sl ([.ref (u 0)])).length) Slot.unset).toArray = ls at hl ⊢
  have hl : lv_has ls 1 [(0, .ref (u 0))] := hl
  obtain ⟨z, hz⟩ : ∃ z, z = f_X7_siteCount Q G := ⟨_, rfl⟩
  rw [← hz]
  refine lv_aload_n hx hb dX7_siteCount_0 rfl (lv_at hl 0 rfl) ?_
  refine va_get (D := D) (ci := 8) (v := .ref ((uA u) 0)) (C := RX7) (T := TX7) (N := 10) hx hb hts hinX7 hown hK hP 0 rfl rfl 0 (by decide) (hts (.fieldLink RX7 10 "BridgeAuction" "game" "LBridgeAuction$Game;") (by decide +kernel)) (fun _ h9 => h9) rfl dX7_siteCount_1 ?_
  refine va_getN (D := D) (ci := 4) (v := .int (nI (gS G))) (C := RX1) (T := TX1) (N := 16) hx hb hts hinX1 hown hK hP 1 rfl rfl 5 (by decide) (hE.use 5 rfl) (fun _ h9 => h9) rfl dX7_siteCount_4 ?_
  exact ro_ret hx hb hr hz dX7_siteCount_7 hlocks

