set_option maxHeartbeats 4000000 in
set_option maxRecDepth 100000 in
theorem c_J6_getChars_ba4f3 (l : Launch) (D : va_G) (C : Nat → ClassId) (ev : Nat → Nat) (b : Nat → Nat) (O : OS) (k q : Nat) (hk : k < 100) (hq : dl k ≤ q) (hq1 : q ≤ oC O) (hc : oC O ≤ 34) (sz : Nat) : Met l yJ6_getChars_ba4f3 wsJ6_getChars_ba4f3 ({ frames := 0, cells := 0, slots := 0, locals := 0 } : Room) (oP [.int (nI k), .int (nI q), .ref (oV O)] D C ev (ocells C b O) sz) (eO (fun _ : OS => some (.int (nI (q - dl k)))) D (fun O1 => O1 = mkO (oV O) (oC O) (digput (oB O) k (q - dl k)) (oM O) (oN O)) (fun O1 => ocells C b O1) (va_A (ocells C b O) sz)) 0 0 (va_A (ocells C b O) sz) := by
  refine Met.ofW (cc := cJ6_getChars_ba4f3) (maxL := 7) (ret := (some .int)) (by decide) rfl ?_
  intro p e s m args below meth c s₁ B hml hv
  obtain ⟨⟨rfl, hsz, hP, hK, hD0, hE, hR, hX⟩, hV0⟩ := hv
  have hx := B.exec
  have hb := B.bytes
  have hr := B.returns
  have hts := atoms_spec (ws := wsJ6_getChars_ba4f3) B.pre
  have hown : s.vm.findClass RJ6 = some m.cls := findClass_of_methodNamed B.named
  have hlocks := B.notSynchronized
  subst hsz
  have hD := hD0.self (sz := s.heap.size)
  generalize hAe : va_A (ocells C b O) s.heap.size = A at hD hX hV0 ⊢
  have hA : ∀ q : Nat, s.heap.size ≤ q → A q := fun q h => by rw [← hAe]; exact Or.inr h
  have hS0 : va_S A s.heap s.heap [] := va_S.rf
  have hP : va_P D vwCl (ocells C b O) s.heap := hP
  have hS := hS0
  obtain ⟨⟨hV, hB, hMV, hMB, hAL, hEk, hEa, hTX, hXZ⟩, hCS, hSF⟩ := id hX
  have hd1 := dl_pos k
  have hd2 := dl_le k
  have hl := lv_entry ([.int (nI k), .int (nI q), .ref (oV O)]) (n := 7) (Nat.le_of_ble_eq_true rfl)
  rw [lg_entry_eq]
  generalize (lg_sl ([.int (nI k), .int (nI q), .ref (oV O)]) ++ List.replicate (7 - (lg_sl ([.int (nI k), .int (nI q), .ref (oV O)])).length) Slot.unset).toArray = ls at hl ⊢
  have hl : lv_has ls 7 [(0, .int (nI k)), (1, .int (nI q)), (2, .ref (oV O))] := hl
  obtain ⟨c1, hc1⟩ : ∃ c, c = 48 + k % 10 := ⟨_, rfl⟩
  obtain ⟨c2, hc2⟩ : ∃ c, c = 48 + k / 10 % 10 := ⟨_, rfl⟩
  refine lv_iload_n hx hb dJ6_getChars_ba4f3_0 rfl (lv_at hl 1 rfl) ?_
  refine lv_istore (lv' := [(5, .int (nI q)), (0, .int (nI k)), (1, .int (nI q)), (2, .ref (oV O))]) hx hb dJ6_getChars_ba4f3_1 hl (by decide) rfl (fun ls hl => ?_)
  refine lv_iload_n hx hb dJ6_getChars_ba4f3_3 rfl (lv_at hl 1 rfl) ?_
  refine lv_if_ge (tgt := 11) hx hb dJ6_getChars_ba4f3_4 (by decide) (fun _ => ?_) (fun c_4 => absurd (nI_pos' (by omega)) c_4)
  refine lv_iconst (v := 0) hx hb dJ6_getChars_ba4f3_11 (by decide) ?_
  refine lv_istore (lv' := [(6, .int 0), (5, .int (nI q)), (0, .int (nI k)), (1, .int (nI q)), (2, .ref (oV O))]) hx hb dJ6_getChars_ba4f3_12 hl (by decide) rfl (fun ls hl => ?_)
  refine lv_iload hx hb dJ6_getChars_ba4f3_14 (lv_at hl 0 rfl) ?_
  refine lv_if_ne (tgt := 22) hx hb dJ6_getChars_ba4f3_16 (by decide) (fun c_16 => absurd (rfl) c_16) (fun _ => ?_)
  refine lv_iload_n hx hb dJ6_getChars_ba4f3_19 rfl (lv_at hl 2 rfl) ?_
  refine lv_ineg hx hb dJ6_getChars_ba4f3_20 ?_
  refine lv_istore_n (lv' := [(0, .int (-(nI k))), (6, .int 0), (5, .int (nI q)), (1, .int (nI q)), (2, .ref (oV O))]) hx hb dJ6_getChars_ba4f3_21 rfl hl (by decide) rfl (fun ls hl => ?_)
  refine lv_iload_n hx hb dJ6_getChars_ba4f3_22 rfl (lv_at hl 0 rfl) ?_
  refine lv_bipush (v := (-100)) hx hb dJ6_getChars_ba4f3_23 (by decide) ?_
  refine lv_icmp_gt (tgt := 72) hx hb dJ6_getChars_ba4f3_25 (by decide) (fun _ => ?_) (fun c_25 => absurd (neg_gt100 k hk) c_25)
  refine lv_aload_n hx hb dJ6_getChars_ba4f3_72 rfl (lv_at hl 4 rfl) ?_
  refine lv_iinc (v := (nI (q - 1))) (lv' := [(5, .int (nI (q - 1))), (0, .int (-(nI k))), (6, .int 0), (1, .int (nI q)), (2, .ref (oV O))]) hx hb dJ6_getChars_ba4f3_73 hl (k := 2) rfl (nI_mn1 (by omega)) (by decide) rfl (fun ls hl => ?_)
  refine lv_iload hx hb dJ6_getChars_ba4f3_76 (lv_at hl 0 rfl) ?_
  refine va_gets (v := .ref (ev 34)) (C := "java/lang/Integer") (n := "DigitOnes") (d := "[B") hx hb hV0.1.1 hS hown (hts (.fieldLink RJ6 83 "java/lang/Integer" "DigitOnes" "[B") (by decide +kernel)) (fun _ h9 => h9) dJ6_getChars_ba4f3_78 ?_
  refine lv_iload_n hx hb dJ6_getChars_ba4f3_81 rfl (lv_at hl 1 rfl) ?_
  refine lv_ineg hx hb dJ6_getChars_ba4f3_82 ?_
  refine topI (y := (nI k)) (neg_neg_nI k hk) ?_
  refine va_tb (v := .int (nI (c1))) hx hb hV0.1.2 hS (vp_in_nI (by omega) (by decide)) (by rw [nI_clamp (by omega), hc1]) dJ6_getChars_ba4f3_83 ?_
  refine va_bast hx hb hK hP hD hS 1 3 rfl rfl (vp_in_nI (N := oC O) (by omega) (by omega)) dJ6_getChars_ba4f3_84 (fun H locs hP hD hS => ?_)
  have e7 : (nI (q - 1)).toNatClampNeg = q - 1 := nI_clamp (by omega)
  rw [e7, vpb] at hP hD
  have hP : va_P D vwCl (ocells C b (mkO (oV O) (oC O) (upd (oB O) (q - 1) (sb_b c1)) (oM O) (oN O))) H := hP
  have hD : va_D A (ocells C b (mkO (oV O) (oC O) (upd (oB O) (q - 1) (sb_b c1)) (oM O) (oN O))) := hD
  refine lv_iload_n hx hb dJ6_getChars_ba4f3_85 rfl (lv_at hl 1 rfl) ?_
  refine lv_bipush (v := (-9)) hx hb dJ6_getChars_ba4f3_86 (by decide) ?_
  by_cases h10 : k < 10
  · refine lv_icmp_ge (tgt := 104) hx hb dJ6_getChars_ba4f3_88 (by decide) (fun _ => ?_) (fun c_88 => absurd ((neg_ge9 k hk).mpr h10) c_88)
    refine lv_iload hx hb dJ6_getChars_ba4f3_104 (lv_at hl 2 rfl) ?_
    refine lv_if_eq (tgt := 118) hx hb dJ6_getChars_ba4f3_106 (by decide) (fun _ => ?_) (fun c_106 => absurd (rfl) c_106)
    refine lv_iload hx hb dJ6_getChars_ba4f3_118 (lv_at hl 0 rfl) ?_
    have ed : dl k = 1 := if_pos h10
    have eg : digput (oB O) k (q - 1) = upd (oB O) (q - 1) (sb_b c1) := by rw [hc1]; exact if_pos h10
    exact e_retI (mkO (oV O) (oC O) (upd (oB O) (q - 1) (sb_b c1)) (oM O) (oN O)) (by rw [ed]) hx hb hr (by rw [ed, eg]) hP hD hS (Nat.zero_le _) (Nat.zero_le _) dJ6_getChars_ba4f3_120 hlocks
  · refine lv_icmp_ge (tgt := 104) hx hb dJ6_getChars_ba4f3_88 (by decide) (fun c_88 => absurd c_88 (fun h => h10 ((neg_ge9 k hk).mp h))) (fun _ => ?_)
    refine lv_aload_n hx hb dJ6_getChars_ba4f3_91 rfl (lv_at hl 4 rfl) ?_
    have hq2 : 2 ≤ q := by have h9 := hq; unfold dl at h9; rw [if_neg h10] at h9; exact h9
    refine lv_iinc (v := (nI (q - 2))) (lv' := [(5, .int (nI (q - 2))), (0, .int (-(nI k))), (6, .int 0), (1, .int (nI q)), (2, .ref (oV O))]) hx hb dJ6_getChars_ba4f3_92 hl (k := 0) rfl ((nI_mn1 (q := q - 1) (by omega)).trans (by rw [show q - 1 - 1 = q - 2 by omega])) (by decide) rfl (fun ls hl => ?_)
    refine lv_iload hx hb dJ6_getChars_ba4f3_95 (lv_at hl 0 rfl) ?_
    refine va_gets (v := .ref (ev 35)) (C := "java/lang/Integer") (n := "DigitTens") (d := "[B") hx hb hV0.2.1 hS hown (hts (.fieldLink RJ6 87 "java/lang/Integer" "DigitTens" "[B") (by decide +kernel)) (fun _ h9 => h9) dJ6_getChars_ba4f3_97 ?_
    refine lv_iload_n hx hb dJ6_getChars_ba4f3_100 rfl (lv_at hl 1 rfl) ?_
    refine lv_ineg hx hb dJ6_getChars_ba4f3_101 ?_
    refine topI (y := (nI k)) (neg_neg_nI k hk) ?_
    refine va_tb (v := .int (nI (c2))) hx hb hV0.2.2 hS (vp_in_nI (by omega) (by decide)) (by rw [nI_clamp (by omega), hc2]) dJ6_getChars_ba4f3_102 ?_
    refine va_bast hx hb hK hP hD hS 1 3 rfl rfl (vp_in_nI (N := oC O) (by omega) (by omega)) dJ6_getChars_ba4f3_103 (fun H locs hP hD hS => ?_)
    have e7 : (nI (q - 2)).toNatClampNeg = q - 2 := nI_clamp (by omega)
    rw [e7, vpb] at hP hD
    have hP : va_P D vwCl (ocells C b (mkO (oV O) (oC O) (upd (upd (oB O) (q - 1) (sb_b c1)) (q - 2) (sb_b c2)) (oM O) (oN O))) H := hP
    have hD : va_D A (ocells C b (mkO (oV O) (oC O) (upd (upd (oB O) (q - 1) (sb_b c1)) (q - 2) (sb_b c2)) (oM O) (oN O))) := hD
    refine lv_iload hx hb dJ6_getChars_ba4f3_104 (lv_at hl 2 rfl) ?_
    refine lv_if_eq (tgt := 118) hx hb dJ6_getChars_ba4f3_106 (by decide) (fun _ => ?_) (fun c_106 => absurd (rfl) c_106)
    refine lv_iload hx hb dJ6_getChars_ba4f3_118 (lv_at hl 0 rfl) ?_
    have ed : dl k = 2 := if_neg h10
    have eg : digput (oB O) k (q - 2) = upd (upd (oB O) (q - 1) (sb_b c1)) (q - 2) (sb_b c2) := by
      unfold digput
      rw [if_neg h10, hc1, hc2, show q - 2 + 1 = q - 1 by omega]
    exact e_retI (mkO (oV O) (oC O) (upd (upd (oB O) (q - 1) (sb_b c1)) (q - 2) (sb_b c2)) (oM O) (oN O)) (by rw [ed]) hx hb hr (by rw [ed, eg]) hP hD hS (Nat.zero_le _) (Nat.zero_le _) dJ6_getChars_ba4f3_120 hlocks
