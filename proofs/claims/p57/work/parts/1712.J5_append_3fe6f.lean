theorem OT_put {T : TX} {O : OS} {ch : Nat} (h : OT T O) (hN : T.2 + 1 ≤ oC O) (hn : T.2 + 1 ≤ 34) (hch : ch < 128) : OT (wC ch T) (mkO (oV O) (oC O) (upd (oB O) T.2 (sb_b ch)) (oM O) (T.2 + 1)) := by
  obtain ⟨h1, h2, h3, h4, h5, h6, h7⟩ := h
  refine ⟨rfl, hn, sb_latPut (w := 1) (s := fun _ => ch) (a' := upd (oB O) T.2 (sb_b ch)) h3 (fun j hj => pk_un (by omega)) (fun i hi => ?_), sb_fitU h4 (sb_fitB _), h5, hN, cat_lt h7 (fun _ => hch)⟩
  obtain rfl : i = 0 := by omega
  exact ⟨by omega, pk_us⟩
set_option maxHeartbeats 4000000 in
set_option maxRecDepth 100000 in
theorem c_J5_append_3fe6f (l : Launch) (D : va_G) (C : Nat → ClassId) (ev : Nat → Nat) (b : Nat → Nat) (T : TX) (O : OS) (ch : Nat) (hO : OT T O) (hn : T.2 + 1 ≤ 34) (hch : ch < 128) (sz : Nat) : Met l yJ5_append_3fe6f wsJ5_append_3fe6f ({ frames := 4, cells := 1, slots := 34, locals := 91 } : Room) (oP [.ref (b 0), .int (nI ch)] D C ev (ocells C b O) sz) (eO (fun _ : OS => some (.ref (b 0))) D (OT (wC ch T)) (fun O1 => ocells C b O1) (va_A (ocells C b O) sz)) 1 34 (va_A (ocells C b O) sz) := by
  refine Met.ofW (cc := cJ5_append_3fe6f) (maxL := 2) (ret := (some (.object "java/lang/AbstractStringBuilder"))) (by decide) rfl ?_
  intro p e s m args below meth c s₁ B hml hv
  obtain ⟨⟨rfl, hsz, hP, hK, hD0, hE, hR, hX⟩, hV0⟩ := hv
  have hx := B.exec
  have hb := B.bytes
  have hr := B.returns
  have hts := atoms_spec (ws := wsJ5_append_3fe6f) B.pre
  have hown : s.vm.findClass RJ5 = some m.cls := findClass_of_methodNamed B.named
  have hlocks := B.notSynchronized
  subst hsz
  have hD := hD0.self (sz := s.heap.size)
  generalize hAe : va_A (ocells C b O) s.heap.size = A at hD hX hV0 ⊢
  have hA : ∀ q : Nat, s.heap.size ≤ q → A q := fun q h => by rw [← hAe]; exact Or.inr h
  have hS0 : va_S A s.heap s.heap [] := va_S.rf
  have hP : va_P D vwCl (ocells C b O) s.heap := hP
  have hS := hS0
  obtain ⟨⟨hV, hB, hMV, hMB, hAL, hEk, hEa, hTX, hXZ⟩, hCS, hSF⟩ := id hX
  have hinJ4 : ∀ w ∈ u_ws RJ4 TJ4 4, w ∈ wsJ5_append_3fe6f := by decide +kernel
  obtain ⟨hn1, hn2, -, -, hc, hn3, -⟩ := id hO
  have hl := lv_entry ([.ref (b 0), .int (nI ch)]) (n := 2) (Nat.le_of_ble_eq_true rfl)
  rw [lg_entry_eq]
  generalize (lg_sl ([.ref (b 0), .int (nI ch)]) ++ List.replicate (2 - (lg_sl ([.ref (b 0), .int (nI ch)])).length) Slot.unset).toArray = ls at hl ⊢
  have hl : lv_has ls 2 [(0, .ref (b 0)), (1, .int (nI ch))] := hl
  refine lv_aload_n hx hb dJ5_append_3fe6f_0 rfl (lv_at hl 0 rfl) ?_
  refine lv_aload_n hx hb dJ5_append_3fe6f_1 rfl (lv_at hl 0 rfl) ?_
  refine va_get (D := D) (ci := 1) (v := .int (nI (oN O))) (C := RJ4) (T := TJ4) (N := 4) hx hb hts hinJ4 hown hK hP 0 rfl rfl 3 (by decide) (hts (.fieldLink RJ5 79 "java/lang/AbstractStringBuilder" "count" "I") (by decide +kernel)) (fun _ h9 => h9) rfl dJ5_append_3fe6f_2 ?_
  refine lv_iconst (v := 1) hx hb dJ5_append_3fe6f_5 (by decide) ?_
  refine lv_iadd hx hb dJ5_append_3fe6f_6 ?_
  refine topI (y := (nI (T.2 + 1))) (by rw [hn1]; exact nI_1 _) ?_
  have hFc : ∀ q, va_A (ocells C b O) _ q → A q := all_F hD hS hA
  refine callE (va_runU (As := [.int (nI (T.2 + 1))]) (rest := []) ⟨hx, hb, hml, hown, hts⟩ (c_J5_ensureCapacityInternal_d00df l D C ev b T O (T.2 + 1) hO (by omega) _) (va_cwU 1 hts gJ5_append_3fe6f_J5_ensureCapacityInternal_d00df_u100J4 rfl rfl rfl rfl (by decide +kernel) ⟨Nat.le_of_ble_eq_true rfl, Nat.le_of_ble_eq_true rfl⟩) (oP_v hP hK hE hD hR hX hV0 hS hFc (va_recv hK hP (ci := 1) (q0 := 0) rfl rfl)) rfl rfl hl.1 rfl (lv_room (Nat.le_of_ble_eq_true rfl)) dJ5_append_3fe6f_7 ⟨Nat.le_of_ble_eq_true rfl, Nat.le_of_ble_eq_true rfl⟩) hS hFc (fun O1 H1 locs hF1 hPn hDn hk hS => ?_)
  have hP : va_P D vwCl (ocells C b O1) H1 := hPn
  have hD : va_D A (ocells C b O1) := hDn.weaken (fun _ x _ h => hFc x.1 h)
  obtain ⟨hO1, hN1⟩ := hF1
  obtain ⟨hm1, hm2, hm3, hm4, hmc, hm5, hm6⟩ := id hO1
  have hmc34 : oC O1 ≤ 34 := by rcases hmc with h | h <;> omega
  refine lv_aload_n hx hb dJ5_append_3fe6f_10 rfl (lv_at hl 0 rfl) ?_
  refine callRo (va_runU (As := []) (rest := []) ⟨hx, hb, hml, hown, hts⟩ (c_J5_isLatin1_aae02 l D C ev b O1) (va_cwU 0 hts gJ5_append_3fe6f_J5_isLatin1_aae02_u83J4 rfl rfl rfl rfl (by decide +kernel) ⟨Nat.le_of_ble_eq_true rfl, Nat.le_of_ble_eq_true rfl⟩) (roPE_v hP hK hE hR hX hS (va_recv hK hP (ci := 1) (q0 := 0) rfl rfl)) rfl rfl hl.1 rfl (lv_room (Nat.le_of_ble_eq_true rfl)) dJ5_append_3fe6f_11 ⟨by first | exact Nat.le_refl _ | exact Nat.le_of_ble_eq_true rfl | (show cells + 0 ≤ 31; omega), by first | exact Nat.le_refl _ | exact Nat.le_of_ble_eq_true rfl | (show slots + 0 ≤ 1054; omega)⟩) ?_
  refine bif_eq (tgt := 45) hx hb dJ5_append_3fe6f_14 (by decide) (fun c_14 => absurd c_14 (by decide)) (fun c_14 => ?_)
  refine lv_iload_n hx hb dJ5_append_3fe6f_17 rfl (lv_at hl 1 rfl) ?_
  refine callRo (va_runS (As := [.int (nI ch)]) (rest := []) ⟨hx, hb, hml, hown, hts⟩ (c_J1_canEncode_fc78d l D C ev ch hch) (va_cwS 1 hts gJ5_append_3fe6f_J1_canEncode_fc78d rfl rfl rfl (by decide +kernel) ⟨Nat.le_of_ble_eq_true rfl, Nat.le_of_ble_eq_true rfl⟩) (roPE_s (hP.sub (ws' := ([] : va_W)) [] rfl) hK hE hR hX hS) rfl rfl hl.1 rfl (lv_room (Nat.le_of_ble_eq_true rfl)) dJ5_append_3fe6f_18 ⟨by first | exact Nat.le_refl _ | exact Nat.le_of_ble_eq_true rfl | (show cells + 0 ≤ 31; omega), by first | exact Nat.le_refl _ | exact Nat.le_of_ble_eq_true rfl | (show slots + 0 ≤ 1054; omega)⟩) ?_
  refine bif_eq (tgt := 45) hx hb dJ5_append_3fe6f_21 (by decide) (fun c_21 => absurd c_21 (by decide)) (fun c_21 => ?_)
  refine lv_aload_n hx hb dJ5_append_3fe6f_24 rfl (lv_at hl 0 rfl) ?_
  refine va_get (D := D) (ci := 1) (v := .ref (oV O1)) (C := RJ4) (T := TJ4) (N := 4) hx hb hts hinJ4 hown hK hP 0 rfl rfl 0 (by decide) (hts (.fieldLink RJ5 15 "java/lang/AbstractStringBuilder" "value" "[B") (by decide +kernel)) (fun _ h9 => h9) rfl dJ5_append_3fe6f_25 ?_
  refine lv_aload_n hx hb dJ5_append_3fe6f_28 rfl (lv_at hl 0 rfl) ?_
  refine lv_dup hx hb dJ5_append_3fe6f_29 rfl ?_
  refine va_get (D := D) (ci := 1) (v := .int (nI (oN O1))) (C := RJ4) (T := TJ4) (N := 4) hx hb hts hinJ4 hown hK hP 0 rfl rfl 3 (by decide) (hts (.fieldLink RJ5 79 "java/lang/AbstractStringBuilder" "count" "I") (by decide +kernel)) (fun _ h9 => h9) rfl dJ5_append_3fe6f_30 ?_
  refine lv_dup_x1 hx hb dJ5_append_3fe6f_33 rfl rfl ?_
  refine lv_iconst (v := 1) hx hb dJ5_append_3fe6f_34 (by decide) ?_
  refine lv_iadd hx hb dJ5_append_3fe6f_35 ?_
  refine topI (y := (nI (T.2 + 1))) (by rw [hm1]; exact nI_1 _) ?_
  refine va_put (D := D) (ci := 1) (v := .int (nI (T.2 + 1))) (ty := .int) (C := RJ4) (T := TJ4) (N := 4) hx hb hts hinJ4 tyJ4 tyJ4_ok nmJ4 hown hK hP hD hS 0 rfl rfl 3 (by decide) (hts (.fieldLink RJ5 79 "java/lang/AbstractStringBuilder" "count" "I") (by decide +kernel)) (fun _ h9 => h9) rfl (by decide +kernel) rfl rfl (Nat.le_of_ble_eq_true rfl) dJ5_append_3fe6f_36 (fun H locs hP hD hS => ?_)
  have hP : va_P D vwCl (ocells C b (mkO (oV O1) (oC O1) (oB O1) (oM O1) (T.2 + 1))) H := hP
  have hD : va_D A (ocells C b (mkO (oV O1) (oC O1) (oB O1) (oM O1) (T.2 + 1))) := hD
  refine lv_iload_n hx hb dJ5_append_3fe6f_39 rfl (lv_at hl 1 rfl) ?_
  refine lv_i2b (v := sb_b ch) hx hb dJ5_append_3fe6f_40 rfl ?_
  refine topN2 (k := T.2) (by rw [hm1]) ?_
  refine va_bast hx hb hK hP hD hS 1 3 rfl rfl (vp_in_nI (by show T.2 < oC O1; omega) (by show oC O1 < 2 ^ 31; omega)) dJ5_append_3fe6f_41 (fun H locs hP hD hS => ?_)
  have e8 : upd (oB O1) (nI T.2).toNatClampNeg (vp_nar .byte (sb_b ch)) = upd (oB O1) T.2 (sb_b ch) := by rw [nI_clamp (by omega), vpbb]
  have hP : va_P D vwCl (ocells C b (mkO (oV O1) (oC O1) (upd (oB O1) T.2 (sb_b ch)) (oM O1) (T.2 + 1))) H := by rw [← e8]; exact hP
  have hD : va_D A (ocells C b (mkO (oV O1) (oC O1) (upd (oB O1) T.2 (sb_b ch)) (oM O1) (T.2 + 1))) := by rw [← e8]; exact hD
  refine lv_goto (tgt := 75) hx hb dJ5_append_3fe6f_42 (by decide) ?_
  refine lv_aload_n hx hb dJ5_append_3fe6f_75 rfl (lv_at hl 0 rfl) ?_
  exact e_retA (mkO (oV O1) (oC O1) (upd (oB O1) T.2 (sb_b ch)) (oM O1) (T.2 + 1)) rfl hx hb hr (OT_put hO1 hN1 hn hch) hP hD hS (Nat.le_of_ble_eq_true rfl) (Nat.le_of_ble_eq_true rfl) dJ5_append_3fe6f_76 hlocks
