def f_X7_refuseUnlessFine (n : Nat) : Nat := (if (smV.getD n 0) = 1 then 1 else (if (smV.getD n 0) = 2 then 2 else (if (smV.getD n 0) = 3 then 3 else (if (smV.getD n 0) = 4 then 4 else (if (smV.getD n 0) = 5 then 5 else 0)))))
set_option maxHeartbeats 4000000 in
set_option maxRecDepth 100000 in
theorem c_X7_refuseUnlessFine (l : Launch) (D : va_G) (C : Nat → ClassId) (ev : Nat → Nat) (n : Nat) (sz : Nat) (h_n : n < 6) (hl9 : l.stackTraces = false) : vx_Met l yX7_refuseUnlessFine wsX7_refuseUnlessFine ({ frames := 6, cells := 1, slots := 6, locals := 82 } : Room) (xP [.ref (ev n)] D C ev ([] : va_W) sz) (xO ((f_X7_refuseUnlessFine n)) none D [] (va_A ([] : va_W) sz)) (xC ((f_X7_refuseUnlessFine n)) D [] (va_A ([] : va_W) sz)) 1 6 (va_A ([] : va_W) sz) := by
  refine vx_ofW (cc := cX7_refuseUnlessFine) (maxL := 1) (ret := none) (by decide) rfl ?_
  intro p e s m args below meth c s₁ B hml htab hv
  obtain ⟨rfl, hsz, hP, hK, hD0, hE, hR, hX, hT9, hV9⟩ := hv
  have hx := B.exec
  have hb := B.bytes
  have hr := B.returns
  have hts := atoms_spec (ws := wsX7_refuseUnlessFine) B.pre
  have hown : s.vm.findClass RX7 = some m.cls := findClass_of_methodNamed B.named
  have hlocks := B.notSynchronized
  subst hsz
  have hD := hD0.self (sz := s.heap.size)
  generalize hAe : va_A ([] : va_W) s.heap.size = A at hD hX hV9 ⊢
  have hA : ∀ q : Nat, s.heap.size ≤ q → A q := fun q h => by rw [← hAe]; exact Or.inr h
  have hS0 : va_S A s.heap s.heap [] := va_S.rf
  have hP : va_P D vwCl ([] : va_W) s.heap := hP
  have hS := hS0
  obtain ⟨⟨hV, hB, hMV, hMB, hAL, hEk, hEa, hTX, hXZ⟩, hCS, hSF⟩ := id hX
  have hl := lv_entry ([.ref (ev n)]) (n := 1) (Nat.le_of_ble_eq_true rfl)
  rw [lg_entry_eq]
  generalize (lg_sl ([.ref (ev n)]) ++ List.replicate (1 - (lg_sl ([.ref (ev n)])).length) Slot.unset).toArray = ls at hl ⊢
  have hl : lv_has ls 1 [(0, .ref (ev n))] := hl
  obtain ⟨z, hz⟩ : ∃ z, z = f_X7_refuseUnlessFine n := ⟨_, rfl⟩
  rw [← hz]
  refine va_gets (v := .ref (ev 30)) (C := "BridgeAuction$1") (n := "$SwitchMap$BridgeAuction$Verdict") (d := "[I") hx hb hMV.1 hS hown (hts (.fieldLink RX7 336 "BridgeAuction$1" "$SwitchMap$BridgeAuction$Verdict" "[I") (by decide +kernel)) (fun _ h9 => h9) dX7_refuseUnlessFine_0 ?_
  refine lv_aload_n hx hb dX7_refuseUnlessFine_3 rfl (lv_at hl 0 rfl) ?_
  refine callRo (va_runU (As := []) (rest := [.ref (ev 30)]) ⟨hx, hb, hml, hown, hts⟩ (c_ordV l D C ev n (by omega)) (va_cwU 0 hts gX7_refuseUnlessFine_Jx29ce0_ordinal_8abf5_u341X6 rfl rfl rfl rfl (by decide +kernel) ⟨Nat.le_of_ble_eq_true rfl, Nat.le_of_ble_eq_true rfl⟩) (roPE_v hP hK hE hR hX hS (va_Orecv (hV.1 n (by show n < 6; omega)).2.1 hS)) rfl rfl hl.1 rfl (lv_room (Nat.le_of_ble_eq_true rfl)) dX7_refuseUnlessFine_4 ⟨Nat.le_of_ble_eq_true rfl, Nat.le_of_ble_eq_true rfl⟩) ?_
  refine topN (k := n) rfl ?_
  refine va_ti (v := .int (smV.getD n 0)) hx hb hMV.2 hS (vp_in_nI (by omega) (by decide)) (smV_at (by omega)) dX7_refuseUnlessFine_7 ?_
  by_cases c_8_0 : (smV.getD n 0) = 1
  · have hz := hz.trans (if_pos c_8_0)
    refine lv_tableIn (tgt := 44) hx hb dX7_refuseUnlessFine_8 (by rw [c_8_0]; decide) (by rw [c_8_0]; decide) (by rw [c_8_0]; rfl) (by decide) ?_
    have hz : z = 1 := hz
    rw [hz]
    exact x_throwW (C := C) (k9 := 0) (text := "no such island, player or site") (wsm := wsX7_refuseUnlessFine) hx hb hl9 hts hown hT9 hV9 hP hS (by decide) (by decide +kernel) (by decide +kernel) (by decide +kernel) (by decide +kernel) (by decide +kernel) (by decide +kernel) (by decide +kernel) (hml.trans hl.1.symm) htab dX7_refuseUnlessFine_44 dX7_refuseUnlessFine_47 dX7_refuseUnlessFine_48 dX7_refuseUnlessFine_51 dX7_refuseUnlessFine_54 (Nat.le_of_ble_eq_true rfl) (Nat.le_of_ble_eq_true rfl) (Nat.le_of_ble_eq_true rfl) (Nat.le_of_ble_eq_true rfl) hlocks rfl (Nat.le_of_ble_eq_true rfl) (Nat.le_of_ble_eq_true rfl)
  have hz := hz.trans (if_neg c_8_0)
  by_cases c_8_1 : (smV.getD n 0) = 2
  · have hz := hz.trans (if_pos c_8_1)
    refine lv_tableIn (tgt := 55) hx hb dX7_refuseUnlessFine_8 (by rw [c_8_1]; decide) (by rw [c_8_1]; decide) (by rw [c_8_1]; rfl) (by decide) ?_
    have hz : z = 2 := hz
    rw [hz]
    exact x_throwW (C := C) (k9 := 1) (text := "an argument is out of its range") (wsm := wsX7_refuseUnlessFine) hx hb hl9 hts hown hT9 hV9 hP hS (by decide) (by decide +kernel) (by decide +kernel) (by decide +kernel) (by decide +kernel) (by decide +kernel) (by decide +kernel) (by decide +kernel) (hml.trans hl.1.symm) htab dX7_refuseUnlessFine_55 dX7_refuseUnlessFine_58 dX7_refuseUnlessFine_59 dX7_refuseUnlessFine_62 dX7_refuseUnlessFine_65 (Nat.le_of_ble_eq_true rfl) (Nat.le_of_ble_eq_true rfl) (Nat.le_of_ble_eq_true rfl) (Nat.le_of_ble_eq_true rfl) hlocks rfl (Nat.le_of_ble_eq_true rfl) (Nat.le_of_ble_eq_true rfl)
  have hz := hz.trans (if_neg c_8_1)
  by_cases c_8_2 : (smV.getD n 0) = 3
  · have hz := hz.trans (if_pos c_8_2)
    refine lv_tableIn (tgt := 66) hx hb dX7_refuseUnlessFine_8 (by rw [c_8_2]; decide) (by rw [c_8_2]; decide) (by rw [c_8_2]; rfl) (by decide) ?_
    have hz : z = 3 := hz
    rw [hz]
    exact x_throwW (C := C) (k9 := 2) (text := "the state does not allow this") (wsm := wsX7_refuseUnlessFine) hx hb hl9 hts hown hT9 hV9 hP hS (by decide) (by decide +kernel) (by decide +kernel) (by decide +kernel) (by decide +kernel) (by decide +kernel) (by decide +kernel) (by decide +kernel) (hml.trans hl.1.symm) htab dX7_refuseUnlessFine_66 dX7_refuseUnlessFine_69 dX7_refuseUnlessFine_70 dX7_refuseUnlessFine_73 dX7_refuseUnlessFine_76 (Nat.le_of_ble_eq_true rfl) (Nat.le_of_ble_eq_true rfl) (Nat.le_of_ble_eq_true rfl) (Nat.le_of_ble_eq_true rfl) hlocks rfl (Nat.le_of_ble_eq_true rfl) (Nat.le_of_ble_eq_true rfl)
  have hz := hz.trans (if_neg c_8_2)
  by_cases c_8_3 : (smV.getD n 0) = 4
  · have hz := hz.trans (if_pos c_8_3)
    refine lv_tableIn (tgt := 77) hx hb dX7_refuseUnlessFine_8 (by rw [c_8_3]; decide) (by rw [c_8_3]; decide) (by rw [c_8_3]; rfl) (by decide) ?_
    have hz : z = 4 := hz
    rw [hz]
    exact x_throwW (C := C) (k9 := 3) (text := "the rules do not allow this") (wsm := wsX7_refuseUnlessFine) hx hb hl9 hts hown hT9 hV9 hP hS (by decide) (by decide +kernel) (by decide +kernel) (by decide +kernel) (by decide +kernel) (by decide +kernel) (by decide +kernel) (by decide +kernel) (hml.trans hl.1.symm) htab dX7_refuseUnlessFine_77 dX7_refuseUnlessFine_80 dX7_refuseUnlessFine_81 dX7_refuseUnlessFine_84 dX7_refuseUnlessFine_87 (Nat.le_of_ble_eq_true rfl) (Nat.le_of_ble_eq_true rfl) (Nat.le_of_ble_eq_true rfl) (Nat.le_of_ble_eq_true rfl) hlocks rfl (Nat.le_of_ble_eq_true rfl) (Nat.le_of_ble_eq_true rfl)
  have hz := hz.trans (if_neg c_8_3)
  by_cases c_8_4 : (smV.getD n 0) = 5
  · have hz := hz.trans (if_pos c_8_4)
    refine lv_tableIn (tgt := 88) hx hb dX7_refuseUnlessFine_8 (by rw [c_8_4]; decide) (by rw [c_8_4]; decide) (by rw [c_8_4]; rfl) (by decide) ?_
    have hz : z = 5 := hz
    rw [hz]
    exact x_throwW (C := C) (k9 := 4) (text := "no such bid") (wsm := wsX7_refuseUnlessFine) hx hb hl9 hts hown hT9 hV9 hP hS (by decide) (by decide +kernel) (by decide +kernel) (by decide +kernel) (by decide +kernel) (by decide +kernel) (by decide +kernel) (by decide +kernel) (hml.trans hl.1.symm) htab dX7_refuseUnlessFine_88 dX7_refuseUnlessFine_91 dX7_refuseUnlessFine_92 dX7_refuseUnlessFine_95 dX7_refuseUnlessFine_98 (Nat.le_of_ble_eq_true rfl) (Nat.le_of_ble_eq_true rfl) (Nat.le_of_ble_eq_true rfl) (Nat.le_of_ble_eq_true rfl) hlocks rfl (Nat.le_of_ble_eq_true rfl) (Nat.le_of_ble_eq_true rfl)
  have hz := hz.trans (if_neg c_8_4)
  refine lv_tableOut (tgt := 99) hx hb dX7_refuseUnlessFine_8 (tsw_out (lo := 1) (n := 5) (by decide) (by intro i hi hi2; rcases (by omega : i = 1 ∨ i = 2 ∨ i = 3 ∨ i = 4 ∨ i = 5) with rfl | rfl | rfl | rfl | rfl <;> first | exact fun h => c_8_0 (h.trans (by decide +kernel)) | exact fun h => c_8_1 (h.trans (by decide +kernel)) | exact fun h => c_8_2 (h.trans (by decide +kernel)) | exact fun h => c_8_3 (h.trans (by decide +kernel)) | exact fun h => c_8_4 (h.trans (by decide +kernel)))) (by decide) ?_
  have hz : z = 0 := hz
  rw [hz]
  exact x_retV hx hb hr hP hS rfl (Nat.le_of_ble_eq_true rfl) (Nat.le_of_ble_eq_true rfl) dX7_refuseUnlessFine_99 hlocks

