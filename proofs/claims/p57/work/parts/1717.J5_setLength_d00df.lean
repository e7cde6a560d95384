set_option maxHeartbeats 4000000 in
set_option maxRecDepth 100000 in
theorem c_J5_setLength_d00df (l : Launch) (D : va_G) (C : Nat → ClassId) (ev : Nat → Nat) (b : Nat → Nat) (T : TX) (O : OS) (hO : OT T O) (sz : Nat) : Met l yJ5_setLength_d00df wsJ5_setLength_d00df ({ frames := 4, cells := 1, slots := 34, locals := 91 } : Room) (oP [.ref (b 0), .int 0] D C ev (ocells C b O) sz) (eO (fun _ : OS => none) D (OT (T.1, 0)) (fun O1 => ocells C b O1) (va_A (ocells C b O) sz)) 1 34 (va_A (ocells C b O) sz) := by
  refine Met.ofW (cc := cJ5_setLength_d00df) (maxL := 2) (ret := none) (by decide) rfl ?_
  intro p e s m args below meth c s₁ B hml hv
  obtain ⟨⟨rfl, hsz, hP, hK, hD0, hE, hR, hX⟩, hV0⟩ := hv
  have hx := B.exec
  have hb := B.bytes
  have hr := B.returns
  have hts := atoms_spec (ws := wsJ5_setLength_d00df) B.pre
  have hown : s.vm.findClass RJ5 = some m.cls := findClass_of_methodNamed B.named
  have hlocks := B.notSynchronized
  subst hsz
  have hD := hD0.self (sz := s.heap.size)
  generalize hAe : va_A (ocells C b O) s.heap.size = A at hD hX hV0 ⊢
  have hA : ∀ q : Nat, s.heap.size ≤ q → A q := fun q h => by rw [← hAe]; exact Or.inr h
  have hS0 : va_S A s.heap s.heap [] := va_S.rf
  have hP : va_P D vwCl (ocells C b O) s.heap := hP
  have hS := hS0
  obtain ⟨⟨hV, hB, hMV, hMB, hAL, hEk, hEa, hTX, hXZ⟩, hCS, hSF⟩ := id hX
  have hinJ4 : ∀ w ∈ u_ws RJ4 TJ4 4, w ∈ wsJ5_setLength_d00df := by decide +kernel
  obtain ⟨hn1, hn2, -, -, hc, hn3, -⟩ := id hO
  have hl := lv_entry ([.ref (b 0), .int 0]) (n := 2) (Nat.le_of_ble_eq_true rfl)
  rw [lg_entry_eq]
  generalize (lg_sl ([.ref (b 0), .int 0]) ++ List.replicate (2 - (lg_sl ([.ref (b 0), .int 0])).length) Slot.unset).toArray = ls at hl ⊢
  have hl : lv_has ls 2 [(0, .ref (b 0)), (1, .int 0)] := hl
  refine lv_iload_n hx hb dJ5_setLength_d00df_0 rfl (lv_at hl 1 rfl) ?_
  refine lv_if_ge (tgt := 13) hx hb dJ5_setLength_d00df_1 (by decide) (fun _ => ?_) (fun c_1 => absurd (by decide) c_1)
  refine lv_aload_n hx hb dJ5_setLength_d00df_13 rfl (lv_at hl 0 rfl) ?_
  refine lv_iload_n hx hb dJ5_setLength_d00df_14 rfl (lv_at hl 1 rfl) ?_
  refine topI (y := (nI 0)) (rfl) ?_
  have hFc : ∀ q, va_A (ocells C b O) _ q → A q := all_F hD hS hA
  refine callE (va_runU (As := [.int (nI (0))]) (rest := []) ⟨hx, hb, hml, hown, hts⟩ (c_J5_ensureCapacityInternal_d00df l D C ev b T O (0) hO (by omega) _) (va_cwU 1 hts gJ5_setLength_d00df_J5_ensureCapacityInternal_d00df_u100J4 rfl rfl rfl rfl (by decide +kernel) ⟨Nat.le_of_ble_eq_true rfl, Nat.le_of_ble_eq_true rfl⟩) (oP_v hP hK hE hD hR hX hV0 hS hFc (va_recv hK hP (ci := 1) (q0 := 0) rfl rfl)) rfl rfl hl.1 rfl (lv_room (Nat.le_of_ble_eq_true rfl)) dJ5_setLength_d00df_15 ⟨Nat.le_of_ble_eq_true rfl, Nat.le_of_ble_eq_true rfl⟩) hS hFc (fun O1 H1 locs hF1 hPn hDn hk hS => ?_)
  have hP : va_P D vwCl (ocells C b O1) H1 := hPn
  have hD : va_D A (ocells C b O1) := hDn.weaken (fun _ x _ h => hFc x.1 h)
  obtain ⟨hO1, hN1⟩ := hF1
  obtain ⟨hm1, hm2, hm3, hm4, hmc, hm5, hm6⟩ := id hO1
  have hmc34 : oC O1 ≤ 34 := by rcases hmc with h | h <;> omega
  refine lv_aload_n hx hb dJ5_setLength_d00df_18 rfl (lv_at hl 0 rfl) ?_
  refine va_get (D := D) (ci := 1) (v := .int (nI (oN O1))) (C := RJ4) (T := TJ4) (N := 4) hx hb hts hinJ4 hown hK hP 0 rfl rfl 3 (by decide) (hts (.fieldLink RJ5 79 "java/lang/AbstractStringBuilder" "count" "I") (by decide +kernel)) (fun _ h9 => h9) rfl dJ5_setLength_d00df_19 ?_
  refine lv_iload_n hx hb dJ5_setLength_d00df_22 rfl (lv_at hl 1 rfl) ?_
  refine lv_icmp_ge (tgt := 63) hx hb dJ5_setLength_d00df_23 (by decide) (fun _ => ?_) (fun c_23 => absurd (nI_pos' (by omega)) c_23)
  refine lv_aload_n hx hb dJ5_setLength_d00df_63 rfl (lv_at hl 0 rfl) ?_
  refine va_get (D := D) (ci := 1) (v := .int (nI (oN O1))) (C := RJ4) (T := TJ4) (N := 4) hx hb hts hinJ4 hown hK hP 0 rfl rfl 3 (by decide) (hts (.fieldLink RJ5 79 "java/lang/AbstractStringBuilder" "count" "I") (by decide +kernel)) (fun _ h9 => h9) rfl dJ5_setLength_d00df_64 ?_
  refine lv_iload_n hx hb dJ5_setLength_d00df_67 rfl (lv_at hl 1 rfl) ?_
  refine lv_icmp_le (tgt := 76) hx hb dJ5_setLength_d00df_68 (by decide) (fun c_68 => ?_) (fun c_68 => ?_)
  · refine lv_aload_n hx hb dJ5_setLength_d00df_76 rfl (lv_at hl 0 rfl) ?_
    refine lv_iload_n hx hb dJ5_setLength_d00df_77 rfl (lv_at hl 1 rfl) ?_
    refine va_put (D := D) (ci := 1) (v := .int 0) (ty := .int) (C := RJ4) (T := TJ4) (N := 4) hx hb hts hinJ4 tyJ4 tyJ4_ok nmJ4 hown hK hP hD hS 0 rfl rfl 3 (by decide) (hts (.fieldLink RJ5 79 "java/lang/AbstractStringBuilder" "count" "I") (by decide +kernel)) (fun _ h9 => h9) rfl (by decide +kernel) rfl rfl (Nat.le_of_ble_eq_true rfl) dJ5_setLength_d00df_78 (fun H locs hP hD hS => ?_)
    have hP : va_P D vwCl (ocells C b (mkO (oV O1) (oC O1) (oB O1) (oM O1) 0)) H := hP
    have hD : va_D A (ocells C b (mkO (oV O1) (oC O1) (oB O1) (oM O1) 0)) := hD
    exact e_retV (mkO (oV O1) (oC O1) (oB O1) (oM O1) 0) rfl hx hb hr ⟨rfl, Nat.zero_le _, fun j hj => absurd hj (Nat.not_lt_zero j), hm4, hmc, Nat.zero_le _, hm6⟩ hP hD hS (Nat.le_of_ble_eq_true rfl) (Nat.le_of_ble_eq_true rfl) dJ5_setLength_d00df_81 hlocks
  · refine lv_aload_n hx hb dJ5_setLength_d00df_71 rfl (lv_at hl 0 rfl) ?_
    refine lv_iconst (v := 1) hx hb dJ5_setLength_d00df_72 (by decide) ?_
    refine va_put (D := D) (ci := 1) (v := .int 1) (ty := .boolean) (C := RJ4) (T := TJ4) (N := 4) hx hb hts hinJ4 tyJ4 tyJ4_ok nmJ4 hown hK hP hD hS 0 rfl rfl 2 (by decide) (hts (.fieldLink RJ5 73 "java/lang/AbstractStringBuilder" "maybeLatin1" "Z") (by decide +kernel)) (fun _ h9 => h9) rfl (by decide +kernel) rfl rfl (Nat.le_of_ble_eq_true rfl) dJ5_setLength_d00df_73 (fun H locs hP hD hS => ?_)
    have hP : va_P D vwCl (ocells C b (mkO (oV O1) (oC O1) (oB O1) 1 (oN O1))) H := hP
    have hD : va_D A (ocells C b (mkO (oV O1) (oC O1) (oB O1) 1 (oN O1))) := hD
    refine lv_aload_n hx hb dJ5_setLength_d00df_76 rfl (lv_at hl 0 rfl) ?_
    refine lv_iload_n hx hb dJ5_setLength_d00df_77 rfl (lv_at hl 1 rfl) ?_
    refine va_put (D := D) (ci := 1) (v := .int 0) (ty := .int) (C := RJ4) (T := TJ4) (N := 4) hx hb hts hinJ4 tyJ4 tyJ4_ok nmJ4 hown hK hP hD hS 0 rfl rfl 3 (by decide) (hts (.fieldLink RJ5 79 "java/lang/AbstractStringBuilder" "count" "I") (by decide +kernel)) (fun _ h9 => h9) rfl (by decide +kernel) rfl rfl (Nat.le_of_ble_eq_true rfl) dJ5_setLength_d00df_78 (fun H locs hP hD hS => ?_)
    have hP : va_P D vwCl (ocells C b (mkO (oV O1) (oC O1) (oB O1) (1) 0)) H := hP
    have hD : va_D A (ocells C b (mkO (oV O1) (oC O1) (oB O1) (1) 0)) := hD
    exact e_retV (mkO (oV O1) (oC O1) (oB O1) (1) 0) rfl hx hb hr ⟨rfl, Nat.zero_le _, fun j hj => absurd hj (Nat.not_lt_zero j), hm4, hmc, Nat.zero_le _, hm6⟩ hP hD hS (Nat.le_of_ble_eq_true rfl) (Nat.le_of_ble_eq_true rfl) dJ5_setLength_d00df_81 hlocks
