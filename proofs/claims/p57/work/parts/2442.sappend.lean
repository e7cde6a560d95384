/-! StringBuilder.append(String): the text comes behind -/
theorem OT_cat {T : TX} {O : OS} {n : Nat} {t : Nat → Int32} {w : Nat → Nat} (h : OT T O) (hN : T.2 + n ≤ oC O) (hn : T.2 + n ≤ 34) (hw : ∀ i, i < n → t i = sb_b (w i)) (hw8 : ∀ i, w i < 128) (hf : sb_Fit t) : OT (wS w n T) (mkO (oV O) (oC O) (va_cpy t (oB O) 0 T.2 n) (oM O) (T.2 + n)) := by
  obtain ⟨h1, h2, h3, h4, h5, h6, h7⟩ := h
  refine ⟨rfl, hn, sb_latPut (w := n) (s := w) (a' := va_cpy t (oB O) 0 T.2 n) h3 (fun j hj => ?_) (fun i hi => ⟨by have := hw8 i; omega, ?_⟩), sb_fitC hf h4, h5, hN, cat_lt h7 hw8⟩
  · show (if T.2 ≤ j ∧ j < T.2 + n then t (0 + (j - T.2)) else oB O j) = oB O j
    rw [if_neg (by omega)]
  · show (if T.2 ≤ T.2 + i ∧ T.2 + i < T.2 + n then t (0 + (T.2 + i - T.2)) else oB O (T.2 + i)) = sb_b (w i)
    rw [if_pos (by omega), Nat.zero_add, Nat.add_sub_cancel_left]
    exact hw i hi
set_option maxHeartbeats 4000000 in
set_option maxRecDepth 100000 in
theorem cs_J5_inflateIfNeededFor_a7421 (l : Launch) (D : va_G) (C : Nat → ClassId) (ev : Nat → Nat) (b : Nat → Nat) (O : OS) (o v n : Nat) (t : Nat → Int32) : Met l yJ5_inflateIfNeededFor_a7421 wsJ5_inflateIfNeededFor_a7421 ({ frames := 1, cells := 0, slots := 0, locals := 40 } : Room) (roS [.ref (b 0), .ref o] D C ev (ocells C b O) o v n t) (roO none) 0 0 (fun _ => False) := by
  refine Met.ofW (cc := cJ5_inflateIfNeededFor_a7421) (maxL := 2) (ret := none) (by decide) rfl ?_
  intro p e s m args below meth c s₁ B hml hv
  obtain ⟨⟨rfl, hP, hK, hE, hR, hX⟩, hST⟩ := hv
  have hx := B.exec
  have hb := B.bytes
  have hr := B.returns
  have hts := atoms_spec (ws := wsJ5_inflateIfNeededFor_a7421) B.pre
  have hown : s.vm.findClass RJ5 = some m.cls := findClass_of_methodNamed B.named
  have hlocks := B.notSynchronized
  have hS : va_S (fun _ => False) s.heap s.heap [] := va_S.rf
  obtain ⟨⟨hV, hB, hMV, hMB, hAL, hEk, hEa, hTX, hXZ⟩, hCS, hSF⟩ := id hX
  have hinJ4 : ∀ w ∈ u_ws RJ4 TJ4 4, w ∈ wsJ5_inflateIfNeededFor_a7421 := by decide +kernel
  have hl := lv_entry ([.ref (b 0), .ref o]) (n := 2) (Nat.le_of_ble_eq_true rfl)
  rw [lg_entry_eq]
  generalize (lg_sl ([.ref (b 0), .ref o]) ++ List.replicate (2 - (lg_sl ([.ref (b 0), .ref o])).length) Slot.unset).toArray = ls at hl ⊢
  have hl : lv_has ls 2 [(0, .ref (b 0)), (1, .ref o)] := hl
  refine va_gets (v := .int 1) (C := "java/lang/String") (n := "COMPACT_STRINGS") (d := "Z") hx hb hCS hS hown (hts (.fieldLink RJ5 18 "java/lang/String" "COMPACT_STRINGS" "Z") (by decide +kernel)) (fun _ h9 => h9) dJ5_inflateIfNeededFor_a7421_0 ?_
  refine lv_if_eq (tgt := 21) hx hb dJ5_inflateIfNeededFor_a7421_3 (by decide) (fun c_3 => absurd c_3 (by decide)) (fun _ => ?_)
  refine lv_aload_n hx hb dJ5_inflateIfNeededFor_a7421_6 rfl (lv_at hl 0 rfl) ?_
  refine va_get (D := D) (ci := 1) (v := .int 0) (C := RJ4) (T := TJ4) (N := 4) hx hb hts hinJ4 hown hK hP 0 rfl rfl 1 (by decide) (hts (.fieldLink RJ5 22 "java/lang/AbstractStringBuilder" "coder" "B") (by decide +kernel)) (fun _ h9 => h9) rfl dJ5_inflateIfNeededFor_a7421_7 ?_
  refine lv_aload_n hx hb dJ5_inflateIfNeededFor_a7421_10 rfl (lv_at hl 1 rfl) ?_
  refine callRo (va_runV (As := []) (rest := [.int 0]) ⟨hx, hb, hml, hown, hts⟩ (cs_J0_coder_7d493 l D C ev o v n t) (cwV 0 hts gJ5_inflateIfNeededFor_a7421_J0_coder_7d493 rfl rfl rfl (by decide +kernel) ⟨Nat.le_of_ble_eq_true rfl, Nat.le_of_ble_eq_true rfl⟩) (roS_v (hP.sub (ws' := ([] : va_W)) [] rfl) hK hE hR hX hST hS (STR_recv hST hS)) rfl rfl hl.1 rfl (lv_room (Nat.le_of_ble_eq_true rfl)) dJ5_inflateIfNeededFor_a7421_11 ⟨Nat.le_refl _, Nat.le_refl _⟩) ?_
  refine topI (y := 0) rfl ?_
  refine lv_icmp_eq (tgt := 21) hx hb dJ5_inflateIfNeededFor_a7421_14 (by decide) (fun _ => ?_) (fun c_14 => absurd rfl c_14)
  exact ro_retV hx hb hr dJ5_inflateIfNeededFor_a7421_21 hlocks
set_option maxHeartbeats 4000000 in
set_option maxRecDepth 100000 in
theorem cs_J0_getBytes_840e7 (l : Launch) (D : va_G) (C : Nat → ClassId) (ev : Nat → Nat) (b : Nat → Nat) (O : OS) (k : Nat) (o v n : Nat) (t : Nat → Int32) (hn : n ≤ 34) (hk : k + n ≤ oC O) (hc : oC O ≤ 34) (hf : sb_Fit t) (sz : Nat) : Met l yJ0_getBytes_840e7 wsJ0_getBytes_840e7 ({ frames := 1, cells := 0, slots := 0, locals := 60 } : Room) (oS [.ref o, .ref (oV O), .int (nI k), .int 0] D C ev (ocells C b O) sz o v n t) (eO (fun _ : OS => none) D (fun O1 => O1 = mkO (oV O) (oC O) (va_cpy t (oB O) 0 k n) (oM O) (oN O)) (fun O1 => ocells C b O1) (va_A (ocells C b O) sz)) 0 0 (va_A (ocells C b O) sz) := by
  refine Met.ofW (cc := cJ0_getBytes_840e7) (maxL := 4) (ret := none) (by decide) rfl ?_
  intro p e s m args below meth c s₁ B hml hv
  obtain ⟨⟨⟨rfl, hsz, hP, hK, hD0, hE, hR, hX⟩, hV0⟩, hST⟩ := hv
  have hx := B.exec
  have hb := B.bytes
  have hr := B.returns
  have hts := atoms_spec (ws := wsJ0_getBytes_840e7) B.pre
  have hown : s.vm.findClass RJ0 = some m.cls := findClass_of_methodNamed B.named
  have hlocks := B.notSynchronized
  subst hsz
  have hD := hD0.self (sz := s.heap.size)
  generalize hAe : va_A (ocells C b O) s.heap.size = A at hD hX hV0 hST ⊢
  have hA : ∀ q : Nat, s.heap.size ≤ q → A q := fun q h => by rw [← hAe]; exact Or.inr h
  have hS0 : va_S A s.heap s.heap [] := va_S.rf
  have hP : va_P D vwCl (ocells C b O) s.heap := hP
  have hS := hS0
  obtain ⟨⟨hV, hB, hMV, hMB, hAL, hEk, hEa, hTX, hXZ⟩, hCS, hSF⟩ := id hX
  have hl := lv_entry ([.ref o, .ref (oV O), .int (nI k), .int 0]) (n := 4) (Nat.le_of_ble_eq_true rfl)
  rw [lg_entry_eq]
  generalize (lg_sl ([.ref o, .ref (oV O), .int (nI k), .int 0]) ++ List.replicate (4 - (lg_sl ([.ref o, .ref (oV O), .int (nI k), .int 0])).length) Slot.unset).toArray = ls at hl ⊢
  have hl : lv_has ls 4 [(0, .ref o), (1, .ref (oV O)), (2, .int (nI k)), (3, .int 0)] := hl
  refine lv_aload_n hx hb dJ0_getBytes_840e7_0 rfl (lv_at hl 0 rfl) ?_
  refine callRo (va_runV (As := []) (rest := []) ⟨hx, hb, hml, hown, hts⟩ (cs_J0_coder_7d493 l D C ev o v n t) (cwV 0 hts gJ0_getBytes_840e7_J0_coder_7d493 rfl rfl rfl (by decide +kernel) ⟨Nat.le_of_ble_eq_true rfl, Nat.le_of_ble_eq_true rfl⟩) (roS_v (hP.sub (ws' := ([] : va_W)) [] rfl) hK hE hR hX hST hS (STR_recv hST hS)) rfl rfl hl.1 rfl (lv_room (Nat.le_of_ble_eq_true rfl)) dJ0_getBytes_840e7_1 ⟨Nat.le_refl _, Nat.le_refl _⟩) ?_
  refine topI (y := 0) rfl ?_
  refine lv_iload_n hx hb dJ0_getBytes_840e7_4 rfl (lv_at hl 3 rfl) ?_
  refine lv_icmp_ne (tgt := 28) hx hb dJ0_getBytes_840e7_5 (by decide) (fun c_5 => absurd rfl c_5) (fun _ => ?_)
  refine lv_aload_n hx hb dJ0_getBytes_840e7_8 rfl (lv_at hl 0 rfl) ?_
  refine vk_getf (v := .ref v) hx hb hST.2.2.1 hS hown (hts (.fieldLink RJ0 9 "java/lang/String" "value" "[B") (by decide +kernel)) (fun _ h9 => h9) dJ0_getBytes_840e7_9 ?_
  refine lv_iconst (v := 0) hx hb dJ0_getBytes_840e7_12 (by decide) ?_
  refine lv_aload_n hx hb dJ0_getBytes_840e7_13 rfl (lv_at hl 1 rfl) ?_
  refine lv_iload_n hx hb dJ0_getBytes_840e7_14 rfl (lv_at hl 2 rfl) ?_
  refine lv_iload_n hx hb dJ0_getBytes_840e7_15 rfl (lv_at hl 3 rfl) ?_
  refine lv_ishl hx hb dJ0_getBytes_840e7_16 ?_
  refine topI (y := nI k) (sb_shl0 _) ?_
  refine lv_aload_n hx hb dJ0_getBytes_840e7_17 rfl (lv_at hl 0 rfl) ?_
  refine vk_getf (v := .ref v) hx hb hST.2.2.1 hS hown (hts (.fieldLink RJ0 9 "java/lang/String" "value" "[B") (by decide +kernel)) (fun _ h9 => h9) dJ0_getBytes_840e7_18 ?_
  refine va_tlen (v := nI n) hx hb hST.2.2.2 hS rfl dJ0_getBytes_840e7_21 ?_
  refine vk_copyt (sp := 0) (dp := nI k) (n := nI n) hx hb (hml.trans hl.1.symm) hown (hts (.methodLink RJ0 212 arraycopyName) (by decide +kernel)) (hts (.native arraycopyName) (by decide +kernel)) (hts (.static arraycopyName) (by decide +kernel)) (hts (.initialized "java/lang/System") (by decide +kernel)) hK hP hD hS hST.2.2.2 1 3 rfl rfl (by decide) (nI_pos (by omega)) (nI_pos (by omega)) (by rw [sb_cl0, nI_clamp (by omega)]; omega) (by rw [nI_clamp (by omega), nI_clamp (by omega)]; exact hk) (fun i _ => hf _) (Nat.le_of_ble_eq_true rfl) (Nat.le_of_ble_eq_true rfl) dJ0_getBytes_840e7_22 (fun H locs hP hD hS => ?_)
  rw [sb_cl0, nI_clamp (show k < 2 ^ 31 by omega), nI_clamp (show n < 2 ^ 31 by omega)] at hP hD
  have hP : va_P D vwCl (ocells C b (mkO (oV O) (oC O) (va_cpy t (oB O) 0 k n) (oM O) (oN O))) H := hP
  have hD : va_D A (ocells C b (mkO (oV O) (oC O) (va_cpy t (oB O) 0 k n) (oM O) (oN O))) := hD
  refine lv_goto (tgt := 43) hx hb dJ0_getBytes_840e7_25 (by decide) ?_
  exact e_retV (mkO (oV O) (oC O) (va_cpy t (oB O) 0 k n) (oM O) (oN O)) rfl hx hb hr rfl hP hD hS (Nat.le_refl _) (Nat.le_refl _) dJ0_getBytes_840e7_43 hlocks
set_option maxHeartbeats 4000000 in
set_option maxRecDepth 100000 in
theorem cs_J5_putStringAt_47b60 (l : Launch) (D : va_G) (C : Nat → ClassId) (ev : Nat → Nat) (b : Nat → Nat) (O : OS) (k : Nat) (o v n : Nat) (t : Nat → Int32) (hn : n ≤ 34) (hk : k + n ≤ oC O) (hc : oC O ≤ 34) (hf : sb_Fit t) (sz : Nat) : Met l yJ5_putStringAt_47b60 wsJ5_putStringAt_47b60 ({ frames := 2, cells := 0, slots := 0, locals := 100 } : Room) (oS [.ref (b 0), .int (nI k), .ref o] D C ev (ocells C b O) sz o v n t) (eO (fun _ : OS => none) D (fun O1 => O1 = mkO (oV O) (oC O) (va_cpy t (oB O) 0 k n) (oM O) (oN O)) (fun O1 => ocells C b O1) (va_A (ocells C b O) sz)) 0 0 (va_A (ocells C b O) sz) := by
  refine Met.ofW (cc := cJ5_putStringAt_47b60) (maxL := 3) (ret := none) (by decide) rfl ?_
  intro p e s m args below meth c s₁ B hml hv
  obtain ⟨⟨⟨rfl, hsz, hP, hK, hD0, hE, hR, hX⟩, hV0⟩, hST⟩ := hv
  have hx := B.exec
  have hb := B.bytes
  have hr := B.returns
  have hts := atoms_spec (ws := wsJ5_putStringAt_47b60) B.pre
  have hown : s.vm.findClass RJ5 = some m.cls := findClass_of_methodNamed B.named
  have hlocks := B.notSynchronized
  subst hsz
  have hD := hD0.self (sz := s.heap.size)
  generalize hAe : va_A (ocells C b O) s.heap.size = A at hD hX hV0 hST ⊢
  have hA : ∀ q : Nat, s.heap.size ≤ q → A q := fun q h => by rw [← hAe]; exact Or.inr h
  have hS0 : va_S A s.heap s.heap [] := va_S.rf
  have hP : va_P D vwCl (ocells C b O) s.heap := hP
  have hS := hS0
  obtain ⟨⟨hV, hB, hMV, hMB, hAL, hEk, hEa, hTX, hXZ⟩, hCS, hSF⟩ := id hX
  have hinJ4 : ∀ w ∈ u_ws RJ4 TJ4 4, w ∈ wsJ5_putStringAt_47b60 := by decide +kernel
  have hl := lv_entry ([.ref (b 0), .int (nI k), .ref o]) (n := 3) (Nat.le_of_ble_eq_true rfl)
  rw [lg_entry_eq]
  generalize (lg_sl ([.ref (b 0), .int (nI k), .ref o]) ++ List.replicate (3 - (lg_sl ([.ref (b 0), .int (nI k), .ref o])).length) Slot.unset).toArray = ls at hl ⊢
  have hl : lv_has ls 3 [(0, .ref (b 0)), (1, .int (nI k)), (2, .ref o)] := hl
  refine lv_aload_n hx hb dJ5_putStringAt_47b60_0 rfl (lv_at hl 0 rfl) ?_
  refine lv_aload_n hx hb dJ5_putStringAt_47b60_1 rfl (lv_at hl 2 rfl) ?_
  refine callRo (va_runU (As := [.ref o]) (rest := []) ⟨hx, hb, hml, hown, hts⟩ (cs_J5_inflateIfNeededFor_a7421 l D C ev b O o v n t) (va_cwU 1 hts gJ5_putStringAt_47b60_J5_inflateIfNeededFor_a7421_u397J4 rfl rfl rfl rfl (by decide +kernel) ⟨Nat.le_of_ble_eq_true rfl, Nat.le_of_ble_eq_true rfl⟩) (roS_v hP hK hE hR hX hST hS (va_recv hK hP (ci := 1) (q0 := 0) rfl rfl)) rfl rfl hl.1 rfl (lv_room (Nat.le_of_ble_eq_true rfl)) dJ5_putStringAt_47b60_2 ⟨Nat.le_refl _, Nat.le_refl _⟩) ?_
  refine lv_aload_n hx hb dJ5_putStringAt_47b60_5 rfl (lv_at hl 2 rfl) ?_
  refine lv_aload_n hx hb dJ5_putStringAt_47b60_6 rfl (lv_at hl 0 rfl) ?_
  refine va_get (D := D) (ci := 1) (v := .ref (oV O)) (C := RJ4) (T := TJ4) (N := 4) hx hb hts hinJ4 hown hK hP 0 rfl rfl 0 (by decide) (hts (.fieldLink RJ5 15 "java/lang/AbstractStringBuilder" "value" "[B") (by decide +kernel)) (fun _ h9 => h9) rfl dJ5_putStringAt_47b60_7 ?_
  refine lv_iload_n hx hb dJ5_putStringAt_47b60_10 rfl (lv_at hl 1 rfl) ?_
  refine lv_aload_n hx hb dJ5_putStringAt_47b60_11 rfl (lv_at hl 0 rfl) ?_
  refine va_get (D := D) (ci := 1) (v := .int 0) (C := RJ4) (T := TJ4) (N := 4) hx hb hts hinJ4 hown hK hP 0 rfl rfl 1 (by decide) (hts (.fieldLink RJ5 22 "java/lang/AbstractStringBuilder" "coder" "B") (by decide +kernel)) (fun _ h9 => h9) rfl dJ5_putStringAt_47b60_12 ?_
  have hFc : ∀ q, va_A (ocells C b O) _ q → A q := all_F hD hS hA
  refine callE (va_runV (As := [.ref (oV O), .int (nI k), .int 0]) (rest := []) ⟨hx, hb, hml, hown, hts⟩ (cs_J0_getBytes_840e7 l D C ev b O k o v n t hn hk hc hf _) (cwV 3 hts gJ5_putStringAt_47b60_J0_getBytes_840e7 rfl rfl rfl (by decide +kernel) ⟨Nat.le_of_ble_eq_true rfl, Nat.le_of_ble_eq_true rfl⟩) (oS_v hP hK hE hD hR hX hV0 hST hS hFc (STR_recv hST hS)) rfl rfl hl.1 rfl (lv_room (Nat.le_of_ble_eq_true rfl)) dJ5_putStringAt_47b60_15 ⟨Nat.le_of_ble_eq_true rfl, Nat.le_of_ble_eq_true rfl⟩) hS hFc (fun O1 H1 locs hF1 hPn hDn hk hS => ?_)
  have hP : va_P D vwCl (ocells C b O1) H1 := hPn
  have hD : va_D A (ocells C b O1) := hDn.weaken (fun _ x _ h => hFc x.1 h)
  exact e_retV O1 rfl hx hb hr hF1 hP hD hS (Nat.le_of_ble_eq_true rfl) (Nat.le_of_ble_eq_true rfl) dJ5_putStringAt_47b60_18 hlocks
set_option maxHeartbeats 4000000 in
set_option maxRecDepth 100000 in
theorem cs_J5_append_cf1ce (l : Launch) (D : va_G) (C : Nat → ClassId) (ev : Nat → Nat) (b : Nat → Nat) (T : TX) (O : OS) (o v n : Nat) (t : Nat → Int32) (w : Nat → Nat) (hO : OT T O) (hn : T.2 + n ≤ 34) (hw : ∀ i, i < n → t i = sb_b (w i)) (hw8 : ∀ i, w i < 128) (hf : sb_Fit t) (sz : Nat) : Met l yJ5_append_cf1ce wsJ5_append_cf1ce ({ frames := 4, cells := 1, slots := 34, locals := 130 } : Room) (oS [.ref (b 0), .ref o] D C ev (ocells C b O) sz o v n t) (eO (fun _ : OS => some (.ref (b 0))) D (OT (wS w n T)) (fun O1 => ocells C b O1) (va_A (ocells C b O) sz)) 1 34 (va_A (ocells C b O) sz) := by
  refine Met.ofW (cc := cJ5_append_cf1ce) (maxL := 3) (ret := (some (.object "java/lang/AbstractStringBuilder"))) (by decide) rfl ?_
  intro p e s m args below meth c s₁ B hml hv
  obtain ⟨⟨⟨rfl, hsz, hP, hK, hD0, hE, hR, hX⟩, hV0⟩, hST⟩ := hv
  have hx := B.exec
  have hb := B.bytes
  have hr := B.returns
  have hts := atoms_spec (ws := wsJ5_append_cf1ce) B.pre
  have hown : s.vm.findClass RJ5 = some m.cls := findClass_of_methodNamed B.named
  have hlocks := B.notSynchronized
  subst hsz
  have hD := hD0.self (sz := s.heap.size)
  generalize hAe : va_A (ocells C b O) s.heap.size = A at hD hX hV0 hST ⊢
  have hA : ∀ q : Nat, s.heap.size ≤ q → A q := fun q h => by rw [← hAe]; exact Or.inr h
  have hS0 : va_S A s.heap s.heap [] := va_S.rf
  have hP : va_P D vwCl (ocells C b O) s.heap := hP
  have hS := hS0
  obtain ⟨⟨hV, hB, hMV, hMB, hAL, hEk, hEa, hTX, hXZ⟩, hCS, hSF⟩ := id hX
  have hinJ4 : ∀ w ∈ u_ws RJ4 TJ4 4, w ∈ wsJ5_append_cf1ce := by decide +kernel
  obtain ⟨hn1, hn2, -, -, hc, hn3, -⟩ := id hO
  have hl := lv_entry ([.ref (b 0), .ref o]) (n := 3) (Nat.le_of_ble_eq_true rfl)
  rw [lg_entry_eq]
  generalize (lg_sl ([.ref (b 0), .ref o]) ++ List.replicate (3 - (lg_sl ([.ref (b 0), .ref o])).length) Slot.unset).toArray = ls at hl ⊢
  have hl : lv_has ls 3 [(0, .ref (b 0)), (1, .ref o)] := hl
  refine lv_aload_n hx hb dJ5_append_cf1ce_0 rfl (lv_at hl 1 rfl) ?_
  refine lv_ifnonnull (tgt := 9) hx hb dJ5_append_cf1ce_1 (by decide) ?_
  refine lv_aload_n hx hb dJ5_append_cf1ce_9 rfl (lv_at hl 1 rfl) ?_
  refine callRo (va_runV (As := []) (rest := []) ⟨hx, hb, hml, hown, hts⟩ (cs_J0_length_8abf5 l D C ev o v n t (by omega)) (cwV 0 hts gJ5_append_cf1ce_J0_length_8abf5 rfl rfl rfl (by decide +kernel) ⟨Nat.le_of_ble_eq_true rfl, Nat.le_of_ble_eq_true rfl⟩) (roS_v (hP.sub (ws' := ([] : va_W)) [] rfl) hK hE hR hX hST hS (STR_recv hST hS)) rfl rfl hl.1 rfl (lv_room (Nat.le_of_ble_eq_true rfl)) dJ5_append_cf1ce_10 ⟨Nat.le_of_ble_eq_true rfl, Nat.le_of_ble_eq_true rfl⟩) ?_
  refine lv_istore_n (lv' := [(2, .int (nI n)), (0, .ref (b 0)), (1, .ref o)]) hx hb dJ5_append_cf1ce_13 rfl hl (by decide) rfl (fun ls hl => ?_)
  refine lv_aload_n hx hb dJ5_append_cf1ce_14 rfl (lv_at hl 1 rfl) ?_
  refine lv_aload_n hx hb dJ5_append_cf1ce_15 rfl (lv_at hl 1 rfl) ?_
  refine va_get (D := D) (ci := 1) (v := .int (nI (oN O))) (C := RJ4) (T := TJ4) (N := 4) hx hb hts hinJ4 hown hK hP 0 rfl rfl 3 (by decide) (hts (.fieldLink RJ5 79 "java/lang/AbstractStringBuilder" "count" "I") (by decide +kernel)) (fun _ h9 => h9) rfl dJ5_append_cf1ce_16 ?_
  refine lv_iload_n hx hb dJ5_append_cf1ce_19 rfl (lv_at hl 0 rfl) ?_
  refine lv_iadd hx hb dJ5_append_cf1ce_20 ?_
  refine topI (y := (nI (T.2 + n))) (by rw [hn1, nI_add]) ?_
  have hFc : ∀ q, va_A (ocells C b O) _ q → A q := all_F hD hS hA
  refine callE (va_runU (As := [.int (nI (T.2 + n))]) (rest := []) ⟨hx, hb, hml, hown, hts⟩ (c_J5_ensureCapacityInternal_d00df l D C ev b T O (T.2 + n) hO hn _) (va_cwU 1 hts gJ5_append_cf1ce_J5_ensureCapacityInternal_d00df_u100J4 rfl rfl rfl rfl (by decide +kernel) ⟨Nat.le_of_ble_eq_true rfl, Nat.le_of_ble_eq_true rfl⟩) (oP_v hP hK hE hD hR hX hV0 hS hFc (va_recv hK hP (ci := 1) (q0 := 0) rfl rfl)) rfl rfl hl.1 rfl (lv_room (Nat.le_of_ble_eq_true rfl)) dJ5_append_cf1ce_21 ⟨Nat.le_of_ble_eq_true rfl, Nat.le_of_ble_eq_true rfl⟩) hS hFc (fun O1 H1 locs hF1 hPn hDn hk hS => ?_)
  have hP : va_P D vwCl (ocells C b O1) H1 := hPn
  have hD : va_D A (ocells C b O1) := hDn.weaken (fun _ x _ h => hFc x.1 h)
  obtain ⟨hO1, hN1⟩ := hF1
  obtain ⟨hm1, hm2, hm3, hm4, hmc, hm5, hm6⟩ := id hO1
  have hmc34 : oC O1 ≤ 34 := by rcases hmc with h | h <;> omega
  refine lv_aload_n hx hb dJ5_append_cf1ce_24 rfl (lv_at hl 1 rfl) ?_
  refine lv_aload_n hx hb dJ5_append_cf1ce_25 rfl (lv_at hl 1 rfl) ?_
  refine va_get (D := D) (ci := 1) (v := .int (nI (oN O1))) (C := RJ4) (T := TJ4) (N := 4) hx hb hts hinJ4 hown hK hP 0 rfl rfl 3 (by decide) (hts (.fieldLink RJ5 79 "java/lang/AbstractStringBuilder" "count" "I") (by decide +kernel)) (fun _ h9 => h9) rfl dJ5_append_cf1ce_26 ?_
  refine lv_aload_n hx hb dJ5_append_cf1ce_29 rfl (lv_at hl 2 rfl) ?_
  have hFd : ∀ q, va_A (ocells C b O1) _ q → A q := all_F hD hS hA
  refine callE (va_runU (As := [.int (nI (oN O1)), .ref o]) (rest := []) ⟨hx, hb, hml, hown, hts⟩ (cs_J5_putStringAt_47b60 l D C ev b O1 (oN O1) o v n t (by omega) (by rw [hm1]; exact hN1) hmc34 hf _) (va_cwU 2 hts gJ5_append_cf1ce_J5_putStringAt_47b60_u208J4 rfl rfl rfl rfl (by decide +kernel) ⟨Nat.le_of_ble_eq_true rfl, Nat.le_of_ble_eq_true rfl⟩) (oS_v hP hK hE hD hR hX hV0 hST hS hFd (va_recv hK hP (ci := 1) (q0 := 0) rfl rfl)) rfl rfl hl.1 rfl (lv_room (Nat.le_of_ble_eq_true rfl)) dJ5_append_cf1ce_30 ⟨Nat.le_of_ble_eq_true rfl, Nat.le_of_ble_eq_true rfl⟩) hS hFd (fun O2 H2 locs hF2 hPn hDn hk hS => ?_)
  subst hF2
  have hP : va_P D vwCl (ocells C b (mkO (oV O1) (oC O1) (va_cpy t (oB O1) 0 (oN O1) n) (oM O1) (oN O1))) H2 := hPn
  have hD : va_D A (ocells C b (mkO (oV O1) (oC O1) (va_cpy t (oB O1) 0 (oN O1) n) (oM O1) (oN O1))) := hDn.weaken (fun _ x _ h => hFd x.1 h)
  refine lv_aload_n hx hb dJ5_append_cf1ce_33 rfl (lv_at hl 1 rfl) ?_
  refine lv_dup hx hb dJ5_append_cf1ce_34 rfl ?_
  refine va_get (D := D) (ci := 1) (v := .int (nI (oN O1))) (C := RJ4) (T := TJ4) (N := 4) hx hb hts hinJ4 hown hK hP 0 rfl rfl 3 (by decide) (hts (.fieldLink RJ5 79 "java/lang/AbstractStringBuilder" "count" "I") (by decide +kernel)) (fun _ h9 => h9) rfl dJ5_append_cf1ce_35 ?_
  refine lv_iload_n hx hb dJ5_append_cf1ce_38 rfl (lv_at hl 0 rfl) ?_
  refine lv_iadd hx hb dJ5_append_cf1ce_39 ?_
  refine topI (y := (nI (T.2 + n))) (by rw [hm1, nI_add]) ?_
  refine va_put (D := D) (ci := 1) (v := .int (nI (T.2 + n))) (ty := .int) (C := RJ4) (T := TJ4) (N := 4) hx hb hts hinJ4 tyJ4 tyJ4_ok nmJ4 hown hK hP hD hS 0 rfl rfl 3 (by decide) (hts (.fieldLink RJ5 79 "java/lang/AbstractStringBuilder" "count" "I") (by decide +kernel)) (fun _ h9 => h9) rfl (by decide +kernel) rfl rfl (Nat.le_of_ble_eq_true rfl) dJ5_append_cf1ce_40 (fun H locs hP hD hS => ?_)
  rw [hm1] at hP hD
  have hP : va_P D vwCl (ocells C b (mkO (oV O1) (oC O1) (va_cpy t (oB O1) 0 T.2 n) (oM O1) (T.2 + n))) H := hP
  have hD : va_D A (ocells C b (mkO (oV O1) (oC O1) (va_cpy t (oB O1) 0 T.2 n) (oM O1) (T.2 + n))) := hD
  refine lv_aload_n hx hb dJ5_append_cf1ce_43 rfl (lv_at hl 1 rfl) ?_
  exact e_retA (mkO (oV O1) (oC O1) (va_cpy t (oB O1) 0 T.2 n) (oM O1) (T.2 + n)) rfl hx hb hr (OT_cat hO1 hN1 hn hw hw8 hf) hP hD hS (Nat.le_of_ble_eq_true rfl) (Nat.le_of_ble_eq_true rfl) dJ5_append_cf1ce_44 hlocks
set_option maxHeartbeats 4000000 in
set_option maxRecDepth 100000 in
theorem cs_J4_append_15ec4 (l : Launch) (D : va_G) (C : Nat → ClassId) (ev : Nat → Nat) (b : Nat → Nat) (T : TX) (O : OS) (o v n : Nat) (t : Nat → Int32) (w : Nat → Nat) (hO : OT T O) (hn : T.2 + n ≤ 34) (hw : ∀ i, i < n → t i = sb_b (w i)) (hw8 : ∀ i, w i < 128) (hf : sb_Fit t) (sz : Nat) : Met l yJ4_append_15ec4 wsJ4_append_15ec4 ({ frames := 5, cells := 1, slots := 34, locals := 160 } : Room) (oS [.ref (b 0), .ref o] D C ev (ocells C b O) sz o v n t) (eO (fun _ : OS => some (.ref (b 0))) D (OT (wS w n T)) (fun O1 => ocells C b O1) (va_A (ocells C b O) sz)) 1 34 (va_A (ocells C b O) sz) := by
  refine Met.ofW (cc := cJ4_append_15ec4) (maxL := 2) (ret := (some (.object "java/lang/StringBuilder"))) (by decide) rfl ?_
  intro p e s m args below meth c s₁ B hml hv
  obtain ⟨⟨⟨rfl, hsz, hP, hK, hD0, hE, hR, hX⟩, hV0⟩, hST⟩ := hv
  have hx := B.exec
  have hb := B.bytes
  have hr := B.returns
  have hts := atoms_spec (ws := wsJ4_append_15ec4) B.pre
  have hown : s.vm.findClass RJ4 = some m.cls := findClass_of_methodNamed B.named
  have hlocks := B.notSynchronized
  subst hsz
  have hD := hD0.self (sz := s.heap.size)
  generalize hAe : va_A (ocells C b O) s.heap.size = A at hD hX hV0 hST ⊢
  have hA : ∀ q : Nat, s.heap.size ≤ q → A q := fun q h => by rw [← hAe]; exact Or.inr h
  have hS0 : va_S A s.heap s.heap [] := va_S.rf
  have hP : va_P D vwCl (ocells C b O) s.heap := hP
  have hS := hS0
  obtain ⟨⟨hV, hB, hMV, hMB, hAL, hEk, hEa, hTX, hXZ⟩, hCS, hSF⟩ := id hX
  have hl := lv_entry ([.ref (b 0), .ref o]) (n := 2) (Nat.le_of_ble_eq_true rfl)
  rw [lg_entry_eq]
  generalize (lg_sl ([.ref (b 0), .ref o]) ++ List.replicate (2 - (lg_sl ([.ref (b 0), .ref o])).length) Slot.unset).toArray = ls at hl ⊢
  have hl : lv_has ls 2 [(0, .ref (b 0)), (1, .ref o)] := hl
  refine lv_aload_n hx hb dJ4_append_15ec4_0 rfl (lv_at hl 0 rfl) ?_
  refine lv_aload_n hx hb dJ4_append_15ec4_1 rfl (lv_at hl 1 rfl) ?_
  have hFc : ∀ q, va_A (ocells C b O) _ q → A q := all_F hD hS hA
  refine callE (va_runSU (C := RJ4) (hK.1 1 _ rfl).2 (As := [.ref o]) (rest := []) ⟨hx, hb, hml, hown, hts⟩ (cs_J5_append_cf1ce l D C ev b T O o v n t w hO hn hw hw8 hf _) (va_cwSU 1 hts gJ4_append_15ec4_J5_append_cf1ce_s29 rfl rfl rfl (by decide +kernel) ⟨Nat.le_of_ble_eq_true rfl, Nat.le_of_ble_eq_true rfl⟩) (oS_v hP hK hE hD hR hX hV0 hST hS hFc (va_recv hK hP (ci := 1) (q0 := 0) rfl rfl)) rfl rfl hl.1 rfl (lv_room (Nat.le_of_ble_eq_true rfl)) dJ4_append_15ec4_2 ⟨Nat.le_of_ble_eq_true rfl, Nat.le_of_ble_eq_true rfl⟩) hS hFc (fun O1 H1 locs hF1 hPn hDn hk hS => ?_)
  have hP : va_P D vwCl (ocells C b O1) H1 := hPn
  have hD : va_D A (ocells C b O1) := hDn.weaken (fun _ x _ h => hFc x.1 h)
  refine lv_pop hx hb dJ4_append_15ec4_5 rfl ?_
  refine lv_aload_n hx hb dJ4_append_15ec4_6 rfl (lv_at hl 0 rfl) ?_
  exact e_retA O1 rfl hx hb hr hF1 hP hD hS (Nat.le_of_ble_eq_true rfl) (Nat.le_of_ble_eq_true rfl) dJ4_append_15ec4_7 hlocks
