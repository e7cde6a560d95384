set_option maxHeartbeats 4000000 in
set_option maxRecDepth 100000 in
theorem c_J5_ensureCapacityInternal_d00df (l : Launch) (D : va_G) (C : Nat → ClassId) (ev : Nat → Nat) (b : Nat → Nat) (T : TX) (O : OS) (N : Nat) (hO : OT T O) (hN : N ≤ 34) (sz : Nat) : Met l yJ5_ensureCapacityInternal_d00df wsJ5_ensureCapacityInternal_d00df ({ frames := 3, cells := 1, slots := 34, locals := 69 } : Room) (oP [.ref (b 0), .int (nI N)] D C ev (ocells C b O) sz) (eO (fun _ : OS => none) D (fun O1 => OT T O1 ∧ N ≤ oC O1) (fun O1 => ocells C b O1) (va_A (ocells C b O) sz)) 1 34 (va_A (ocells C b O) sz) := by
  refine Met.ofW (cc := cJ5_ensureCapacityInternal_d00df) (maxL := 3) (ret := none) (by decide) rfl ?_
  intro p e s m args below meth c s₁ B hml hv
  obtain ⟨⟨rfl, hsz, hP, hK, hD0, hE, hR, hX⟩, hV0⟩ := hv
  have hx := B.exec
  have hb := B.bytes
  have hr := B.returns
  have hts := atoms_spec (ws := wsJ5_ensureCapacityInternal_d00df) B.pre
  have hown : s.vm.findClass RJ5 = some m.cls := findClass_of_methodNamed B.named
  have hlocks := B.notSynchronized
  subst hsz
  have hD := hD0.self (sz := s.heap.size)
  generalize hAe : va_A (ocells C b O) s.heap.size = A at hD hX hV0 ⊢
  have hA : ∀ q : Nat, s.heap.size ≤ q → A q := fun q h => by rw [← hAe]; exact Or.inr h
  have hS0 : va_S A s.heap s.heap [] := va_S.rf
  have hP : va_P D vwCl (ocells C b O) s.heap := hP
  have hS := hS0
  obtain ⟨⟨hV, hB, hMV, hMB, hAL, hEk, hEa, hTX, hXZ⟩, hCS, hSF⟩ := id hX
  have hinJ4 : ∀ w ∈ u_ws RJ4 TJ4 4, w ∈ wsJ5_ensureCapacityInternal_d00df := by decide +kernel
  obtain ⟨hn1, hn2, -, -, hc, hn3, -⟩ := id hO
  have hc34 : oC O ≤ 34 := by rcases hc with h | h <;> omega
  have hl := lv_entry ([.ref (b 0), .int (nI N)]) (n := 3) (Nat.le_of_ble_eq_true rfl)
  rw [lg_entry_eq]
  generalize (lg_sl ([.ref (b 0), .int (nI N)]) ++ List.replicate (3 - (lg_sl ([.ref (b 0), .int (nI N)])).length) Slot.unset).toArray = ls at hl ⊢
  have hl : lv_has ls 3 [(0, .ref (b 0)), (1, .int (nI N))] := hl
  refine lv_aload_n hx hb dJ5_ensureCapacityInternal_d00df_0 rfl (lv_at hl 0 rfl) ?_
  refine va_get (D := D) (ci := 1) (v := .ref (oV O)) (C := RJ4) (T := TJ4) (N := 4) hx hb hts hinJ4 hown hK hP 0 rfl rfl 0 (by decide) (hts (.fieldLink RJ5 15 "java/lang/AbstractStringBuilder" "value" "[B") (by decide +kernel)) (fun _ h9 => h9) rfl dJ5_ensureCapacityInternal_d00df_1 ?_
  refine va_alen (v := nI (oC O)) hx hb hK hP 1 3 rfl rfl rfl dJ5_ensureCapacityInternal_d00df_4 ?_
  refine lv_aload_n hx hb dJ5_ensureCapacityInternal_d00df_5 rfl (lv_at hl 0 rfl) ?_
  refine va_get (D := D) (ci := 1) (v := .int 0) (C := RJ4) (T := TJ4) (N := 4) hx hb hts hinJ4 hown hK hP 0 rfl rfl 1 (by decide) (hts (.fieldLink RJ5 22 "java/lang/AbstractStringBuilder" "coder" "B") (by decide +kernel)) (fun _ h9 => h9) rfl dJ5_ensureCapacityInternal_d00df_6 ?_
  refine lv_ishr hx hb dJ5_ensureCapacityInternal_d00df_9 ?_
  refine topI (y := (nI (oC O))) (sb_shr0 _) ?_
  refine lv_istore_n (lv' := [(2, .int (nI (oC O))), (0, .ref (b 0)), (1, .int (nI N))]) hx hb dJ5_ensureCapacityInternal_d00df_10 rfl hl (by decide) rfl (fun ls hl => ?_)
  refine lv_iload_n hx hb dJ5_ensureCapacityInternal_d00df_11 rfl (lv_at hl 2 rfl) ?_
  refine lv_iload_n hx hb dJ5_ensureCapacityInternal_d00df_12 rfl (lv_at hl 0 rfl) ?_
  refine lv_isub hx hb dJ5_ensureCapacityInternal_d00df_13 ?_
  have e9 : (nI N - nI (oC O)).toInt = (N : Int) - oC O := pk_sub_toInt (by omega) (by omega)
  by_cases hle : N ≤ oC O
  · refine lv_if_le (tgt := 38) hx hb dJ5_ensureCapacityInternal_d00df_14 (by decide) (fun _ => ?_) (fun c_14 => absurd (by rw [Int32.le_iff_toInt_le, e9, Int32.toInt_zero]; omega) c_14)
    exact e_retV O rfl hx hb hr ⟨hO, hle⟩ hP hD hS (Nat.zero_le _) (Nat.zero_le _) dJ5_ensureCapacityInternal_d00df_38 hlocks
  · refine lv_if_le (tgt := 38) hx hb dJ5_ensureCapacityInternal_d00df_14 (by decide) (fun c_14 => absurd c_14 (fun h => by rw [Int32.le_iff_toInt_le, e9, Int32.toInt_zero] at h; omega)) (fun _ => ?_)
    obtain ⟨r, cp, f, ml, n⟩ := O
    obtain rfl : cp = 16 := by rcases hc with h | h <;> (have h : cp = _ := h; have hle : ¬ N ≤ cp := hle; omega)
    have hle : ¬ N ≤ 16 := hle
    have hP : va_P D vwCl (ocells C b (mkO r 16 f ml n)) s.heap := hP
    have hD : va_D A (ocells C b (mkO r 16 f ml n)) := hD
    have hl : lv_has ls 3 [(2, .int (nI 16)), (0, .ref (b 0)), (1, .int (nI N))] := hl
    refine lv_aload_n hx hb dJ5_ensureCapacityInternal_d00df_17 rfl (lv_at hl 1 rfl) ?_
    refine lv_aload_n hx hb dJ5_ensureCapacityInternal_d00df_18 rfl (lv_at hl 1 rfl) ?_
    refine va_get (D := D) (ci := 1) (v := .ref r) (C := RJ4) (T := TJ4) (N := 4) hx hb hts hinJ4 hown hK hP 0 rfl rfl 0 (by decide) (hts (.fieldLink RJ5 15 "java/lang/AbstractStringBuilder" "value" "[B") (by decide +kernel)) (fun _ h9 => h9) rfl dJ5_ensureCapacityInternal_d00df_19 ?_
    refine lv_aload_n hx hb dJ5_ensureCapacityInternal_d00df_22 rfl (lv_at hl 1 rfl) ?_
    refine lv_iload_n hx hb dJ5_ensureCapacityInternal_d00df_23 rfl (lv_at hl 2 rfl) ?_
    refine callRo (va_runU (As := [.int (nI N)]) (rest := [.ref r, .ref (b 0)]) ⟨hx, hb, hml, hown, hts⟩ (c_J5_newCapacity_0f7a4 l D C ev b r f ml n N (by omega) hN) (va_cwU 1 hts gJ5_ensureCapacityInternal_d00df_J5_newCapacity_0f7a4_u104J4 rfl rfl rfl rfl (by decide +kernel) ⟨Nat.le_of_ble_eq_true rfl, Nat.le_of_ble_eq_true rfl⟩) (roPE_v hP hK hE hR hX hS (va_recv hK hP (ci := 1) (q0 := 0) rfl rfl)) rfl rfl hl.1 rfl (lv_room (Nat.le_of_ble_eq_true rfl)) dJ5_ensureCapacityInternal_d00df_24 ⟨by first | exact Nat.le_refl _ | exact Nat.le_of_ble_eq_true rfl | (show cells + 0 ≤ 31; omega), by first | exact Nat.le_refl _ | exact Nat.le_of_ble_eq_true rfl | (show slots + 0 ≤ 1054; omega)⟩) ?_
    refine lv_aload_n hx hb dJ5_ensureCapacityInternal_d00df_27 rfl (lv_at hl 1 rfl) ?_
    refine va_get (D := D) (ci := 1) (v := .int 0) (C := RJ4) (T := TJ4) (N := 4) hx hb hts hinJ4 hown hK hP 0 rfl rfl 1 (by decide) (hts (.fieldLink RJ5 22 "java/lang/AbstractStringBuilder" "coder" "B") (by decide +kernel)) (fun _ h9 => h9) rfl dJ5_ensureCapacityInternal_d00df_28 ?_
    refine lv_ishl hx hb dJ5_ensureCapacityInternal_d00df_31 ?_
    refine topI (y := 34) (by decide) ?_
    have hFc : ∀ q, va_A (ocells C b (mkO r 16 f ml n)) _ q → A q := all_F hD hS hA
    refine callE (va_runS (As := [.ref r, .int 34]) (rest := [.ref (b 0)]) ⟨hx, hb, hml, hown, hts⟩ (c_J7_copyOf_9075b l D C ev b r f ml n hO.2.2.2.1 _) (va_cwS 2 hts gJ5_ensureCapacityInternal_d00df_J7_copyOf_9075b rfl rfl rfl (by decide +kernel) ⟨Nat.le_of_ble_eq_true rfl, Nat.le_of_ble_eq_true rfl⟩) (oP_s hP hK hE hD hR hX hV0 hS hFc) rfl rfl hl.1 rfl (lv_room (Nat.le_of_ble_eq_true rfl)) dJ5_ensureCapacityInternal_d00df_32 ⟨Nat.le_of_ble_eq_true rfl, Nat.le_of_ble_eq_true rfl⟩) hS hFc (fun q H1 locs hF1 hPn hDn hk hS => ?_)
    have hPn : va_P D vwCl (ocells C b (mkO r 16 f ml n) ++ [(q, .inl (C 3, 34, .inl (va_cpy f (fun _ => 0) 0 0 16)))]) H1 := hPn
    have hP := hPn
    have hD : va_D A (ocells C b (mkO r 16 f ml n) ++ [(q, .inl (C 3, 34, .inl (va_cpy f (fun _ => 0) 0 0 16)))]) := hDn.weaken (fun _ x _ h => hFc x.1 h)
    refine va_put (D := D) (ci := 1) (v := .ref q) (ty := (.array .byte)) (C := RJ4) (T := TJ4) (N := 4) hx hb hts hinJ4 tyJ4 tyJ4_ok nmJ4 hown hK hP hD hS 0 rfl rfl 0 (by decide) (hts (.fieldLink RJ5 15 "java/lang/AbstractStringBuilder" "value" "[B") (by decide +kernel)) (fun _ h9 => h9) rfl (by decide +kernel) rfl rfl (Nat.le_of_ble_eq_true rfl) dJ5_ensureCapacityInternal_d00df_35 (fun H locs hP hD hS => ?_)
    have hP : va_P D vwCl (ocells C b (mkO q 34 (va_cpy f (fun _ => 0) 0 0 16) ml n)) H := va_P.sub hP [0, 2] rfl
    have hD : va_D A (ocells C b (mkO q 34 (va_cpy f (fun _ => 0) 0 0 16) ml n)) := va_D.sub hD [0, 2] rfl rfl
    exact e_retV (mkO q 34 (va_cpy f (fun _ => 0) 0 0 16) ml n) rfl hx hb hr ⟨⟨hO.1, hO.2.1, sb_latKeep hO.2.2.1 (fun j hj => (cpy_in (n := 16) (Nat.lt_of_lt_of_le hj hO.2.2.2.2.2.1) : va_cpy f (fun _ => 0) 0 0 16 j = f j)), sb_fitC hO.2.2.2.1 sb_fit0, Or.inr rfl, hO.2.1, hO.2.2.2.2.2.2⟩, hN⟩ hP hD hS (Nat.le_of_ble_eq_true rfl) (Nat.le_of_ble_eq_true rfl) dJ5_ensureCapacityInternal_d00df_38 hlocks
