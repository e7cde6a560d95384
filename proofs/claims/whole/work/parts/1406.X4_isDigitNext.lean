def f_X4_isDigitNext_j44  (s0_44 : Bool) : Bool := s0_44
def f_X4_isDigitNext_j43  : Bool := (f_X4_isDigitNext_j44 (false))
def f_X4_isDigitNext (S : SS) : Bool := (if (nI (sSiz S)) ≤ (nI (sAt S)) then (f_X4_isDigitNext_j43) else (if ((sSgn S) (sAt S)) < 48 then (f_X4_isDigitNext_j43) else (if 57 < ((sSgn S) (sAt S)) then (f_X4_isDigitNext_j43) else (f_X4_isDigitNext_j44 (true)))))
set_option maxHeartbeats 4000000 in
set_option maxRecDepth 100000 in
theorem c_X4_isDigitNext (l : Launch) (D : va_G) (C : Nat → ClassId) (ev : Nat → Nat) (sc : Nat → Nat) (S : SS) (hSz : sSiz S ≤ 60) (hAt : sAt S ≤ sSiz S) : Met l yX4_isDigitNext wsX4_isDigitNext ({ frames := 0, cells := 0, slots := 0, locals := 0 } : Room) (roPE [.ref (sc 0)] D C ev (scells C ev sc S)) (roO (some (.int (bI (f_X4_isDigitNext S))))) 0 0 (fun _ => False) := by
  refine Met.ofW (cc := cX4_isDigitNext) (maxL := 1) (ret := (some .boolean)) (by decide) rfl ?_
  intro p e s m args below meth c s₁ B hml hv
  obtain ⟨rfl, hP, hK, hE, hR, hX⟩ := hv
  have hx := B.exec
  have hb := B.bytes
  have hr := B.returns
  have hts := atoms_spec (ws := wsX4_isDigitNext) B.pre
  have hown : s.vm.findClass RX4 = some m.cls := findClass_of_methodNamed B.named
  have hlocks := B.notSynchronized
  have hS : va_S (fun _ => False) s.heap s.heap [] := va_S.rf
  obtain ⟨⟨hV, hB, hMV, hMB, hAL, hEk, hEa, hTX, hXZ⟩, hCS, hSF⟩ := id hX
  have hinX4 : ∀ w ∈ u_ws RX4 TX4 5, w ∈ wsX4_isDigitNext := by decide +kernel
  have hl := lv_entry ([.ref (sc 0)]) (n := 1) (Nat.le_of_ble_eq_true rfl)
  rw [lg_entry_eq]
  generalize (lg_sl ([.ref (sc 0)]) ++ List.replicate (1 - (lg_sl ([.ref (sc 0)])).length) Slot.unset).toArray = ls at hl ⊢
  have hl : lv_has ls 1 [(0, .ref (sc 0))] := hl
  obtain ⟨z, hz⟩ : ∃ z, z = f_X4_isDigitNext S := ⟨_, rfl⟩
  rw [← hz]
  have J44 : ∀ (s0_44 : Bool)  (ls : Array Slot), z = f_X4_isDigitNext_j44 s0_44 → lv_has ls 1 [] → W p l e ({ frames := 0, cells := 0, slots := 0, locals := 0 } : Room) s m ([.ref (sc 0)] : List Value).toArray below meth c s.heap [] 0 0 (MQ below (roO (some (.int (bI z)))) ([.ref (sc 0)] : List Value).toArray s 0 0 (fun _ => False)) (F0 m 44 ls [.int (bI s0_44)]) := by
    intro s0_44 ls hz  hl
    exact ro_retB hx hb hr (show _ = s0_44 from hz) dX4_isDigitNext_44 hlocks
  have J43 : ∀  (ls : Array Slot), z = f_X4_isDigitNext_j43 → lv_has ls 1 [] → W p l e ({ frames := 0, cells := 0, slots := 0, locals := 0 } : Room) s m ([.ref (sc 0)] : List Value).toArray below meth c s.heap [] 0 0 (MQ below (roO (some (.int (bI z)))) ([.ref (sc 0)] : List Value).toArray s 0 0 (fun _ => False)) (F0 m 43 ls []) := by
    intro  ls hz  hl
    refine lv_iconst (v := 0) hx hb dX4_isDigitNext_43 (by decide) ?_
    exact J44 (false) ls hz  (lv_sub hl [] rfl)
  refine lv_aload_n hx hb dX4_isDigitNext_0 rfl (lv_at hl 0 rfl) ?_
  refine va_get (D := D) (ci := 7) (v := .int (nI (sAt S))) (C := RX4) (T := TX4) (N := 5) hx hb hts hinX4 hown hK hP 0 rfl rfl 2 (by decide) (hts (.fieldLink RX4 19 "BridgeAuction$Script" "at" "I") (by decide +kernel)) (fun _ h9 => h9) rfl dX4_isDigitNext_1 ?_
  refine lv_aload_n hx hb dX4_isDigitNext_4 rfl (lv_at hl 0 rfl) ?_
  refine va_get (D := D) (ci := 7) (v := .int (nI (sSiz S))) (C := RX4) (T := TX4) (N := 5) hx hb hts hinX4 hown hK hP 0 rfl rfl 1 (by decide) (hts (.fieldLink RX4 15 "BridgeAuction$Script" "size" "I") (by decide +kernel)) (fun _ h9 => h9) rfl dX4_isDigitNext_5 ?_
  refine lv_icmp_ge (tgt := 43) hx hb dX4_isDigitNext_8 (by decide) (fun c_8 => ?_) (fun c_8 => ?_)
  · have hz := hz.trans (if_pos c_8)
    exact J43  ls hz  (lv_sub hl [] rfl)
  · have hz := hz.trans (if_neg c_8)
    have q8 := ltN' (by omega) c_8
    refine lv_aload_n hx hb dX4_isDigitNext_11 rfl (lv_at hl 0 rfl) ?_
    refine va_get (D := D) (ci := 7) (v := .ref (sc 1)) (C := RX4) (T := TX4) (N := 5) hx hb hts hinX4 hown hK hP 0 rfl rfl 0 (by decide) (hts (.fieldLink RX4 9 "BridgeAuction$Script" "signs" "[C") (by decide +kernel)) (fun _ h9 => h9) rfl dX4_isDigitNext_12 ?_
    refine lv_aload_n hx hb dX4_isDigitNext_15 rfl (lv_at hl 0 rfl) ?_
    refine va_get (D := D) (ci := 7) (v := .int (nI (sAt S))) (C := RX4) (T := TX4) (N := 5) hx hb hts hinX4 hown hK hP 0 rfl rfl 2 (by decide) (hts (.fieldLink RX4 19 "BridgeAuction$Script" "at" "I") (by decide +kernel)) (fun _ h9 => h9) rfl dX4_isDigitNext_16 ?_
    refine caldN (tys := tyA C) hx hb hK hP 1 1 rfl rfl (i := (sAt S)) (by omega) (by decide) dX4_isDigitNext_19 ?_
    refine lv_bipush (v := 48) hx hb dX4_isDigitNext_20 (by decide +kernel) ?_
    refine lv_icmp_lt (tgt := 43) hx hb dX4_isDigitNext_22 (by decide) (fun c_22 => ?_) (fun c_22 => ?_)
    · have hz := hz.trans (if_pos c_22)
      exact J43  ls hz  (lv_sub hl [] rfl)
    · have hz := hz.trans (if_neg c_22)
      refine lv_aload_n hx hb dX4_isDigitNext_25 rfl (lv_at hl 0 rfl) ?_
      refine va_get (D := D) (ci := 7) (v := .ref (sc 1)) (C := RX4) (T := TX4) (N := 5) hx hb hts hinX4 hown hK hP 0 rfl rfl 0 (by decide) (hts (.fieldLink RX4 9 "BridgeAuction$Script" "signs" "[C") (by decide +kernel)) (fun _ h9 => h9) rfl dX4_isDigitNext_26 ?_
      refine lv_aload_n hx hb dX4_isDigitNext_29 rfl (lv_at hl 0 rfl) ?_
      refine va_get (D := D) (ci := 7) (v := .int (nI (sAt S))) (C := RX4) (T := TX4) (N := 5) hx hb hts hinX4 hown hK hP 0 rfl rfl 2 (by decide) (hts (.fieldLink RX4 19 "BridgeAuction$Script" "at" "I") (by decide +kernel)) (fun _ h9 => h9) rfl dX4_isDigitNext_30 ?_
      refine caldN (tys := tyA C) hx hb hK hP 1 1 rfl rfl (i := (sAt S)) (by omega) (by decide) dX4_isDigitNext_33 ?_
      refine lv_bipush (v := 57) hx hb dX4_isDigitNext_34 (by decide +kernel) ?_
      refine lv_icmp_gt (tgt := 43) hx hb dX4_isDigitNext_36 (by decide) (fun c_36 => ?_) (fun c_36 => ?_)
      · have hz := hz.trans (if_pos c_36)
        exact J43  ls hz  (lv_sub hl [] rfl)
      · have hz := hz.trans (if_neg c_36)
        refine lv_iconst (v := 1) hx hb dX4_isDigitNext_39 (by decide) ?_
        refine lv_goto (tgt := 44) hx hb dX4_isDigitNext_40 (by decide) ?_
        exact J44 (true) ls hz  (lv_sub hl [] rfl)

