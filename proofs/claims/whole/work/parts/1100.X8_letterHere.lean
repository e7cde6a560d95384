/-! the reference reads a script -/
theorem ltN' {k n : Nat} (hk : k < 2 ^ 31) (h : ¬ nI n ≤ nI k) : k < n := ltN rfl hk h
def f_X8_letterHere_j24  (s0_24 : Int32) : Int32 := s0_24
def f_X8_letterHere (tx : (Nat → Int32)) (sz : Nat) (pl : Nat) : Int32 := (if (nI sz) ≤ (nI pl) then (f_X8_letterHere_j24 ((-1))) else (f_X8_letterHere_j24 ((tx pl))))
set_option maxHeartbeats 4000000 in
set_option maxRecDepth 100000 in
theorem c_X8_letterHere (l : Launch) (D : va_G) (C : Nat → ClassId) (b : Nat → Nat) (M : MS) (hSi : mSiz M ≤ 60) (hPl : mPla M ≤ mSiz M) : Met l yX8_letterHere wsX8_letterHere ({ frames := 0, cells := 0, slots := 0, locals := 0 } : Room) (roP [.ref (b 0)] D C (mcells C b M)) (roO (some (.int (f_X8_letterHere (mTxt M) (mSiz M) (mPla M))))) 0 0 (fun _ => False) := by
  refine Met.ofW (cc := cX8_letterHere) (maxL := 1) (ret := (some .int)) (by decide) rfl ?_
  intro p e s m args below meth c s₁ B hml hv
  obtain ⟨rfl, hP, hK, hE⟩ := hv
  have hx := B.exec
  have hb := B.bytes
  have hr := B.returns
  have hts := atoms_spec (ws := wsX8_letterHere) B.pre
  have hown : s.vm.findClass RX8 = some m.cls := findClass_of_methodNamed B.named
  have hlocks := B.notSynchronized
  have hinX8 : ∀ w ∈ u_ws RX8 TX8 20, w ∈ wsX8_letterHere := by decide +kernel
  have hl := lv_entry ([.ref (b 0)]) (n := 1) (Nat.le_of_ble_eq_true rfl)
  rw [lg_entry_eq]
  generalize (lg_sl ([.ref (b 0)]) ++ List.replicate (1 - (lg_sl ([.ref (b 0)])).length) Slot.unset).toArray = ls at hl ⊢
  have hl : lv_has ls 1 [(0, .ref (b 0))] := hl
  obtain ⟨z, hz⟩ : ∃ z, z = f_X8_letterHere (mTxt M) (mSiz M) (mPla M) := ⟨_, rfl⟩
  rw [← hz]
  have J24 : ∀ (s0_24 : Int32)  (ls : Array Slot), z = f_X8_letterHere_j24 s0_24 → lv_has ls 1 [] → W p l e ({ frames := 0, cells := 0, slots := 0, locals := 0 } : Room) s m ([.ref (b 0)] : List Value).toArray below meth c s.heap [] 0 0 (MQ below (roO (some (.int z))) ([.ref (b 0)] : List Value).toArray s 0 0 (fun _ => False)) (F0 m 24 ls [.int s0_24]) := by
    intro s0_24 ls hz  hl
    exact ro_ret hx hb hr hz dX8_letterHere_24 hlocks
  refine lv_aload_n hx hb dX8_letterHere_0 rfl (lv_at hl 0 rfl) ?_
  refine va_get (D := D) (ci := 9) (v := .int (nI (mPla M))) (C := RX8) (T := TX8) (N := 20) hx hb hts hinX8 hown hK hP 0 rfl rfl 16 (by decide) (hts (.fieldLink RX8 207 "BridgeAuctionModel" "place" "I") (by decide +kernel)) (fun _ h9 => h9) rfl dX8_letterHere_1 ?_
  refine lv_aload_n hx hb dX8_letterHere_4 rfl (lv_at hl 0 rfl) ?_
  refine va_get (D := D) (ci := 9) (v := .int (nI (mSiz M))) (C := RX8) (T := TX8) (N := 20) hx hb hts hinX8 hown hK hP 0 rfl rfl 15 (by decide) (hts (.fieldLink RX8 210 "BridgeAuctionModel" "size" "I") (by decide +kernel)) (fun _ h9 => h9) rfl dX8_letterHere_5 ?_
  refine lv_icmp_ge (tgt := 23) hx hb dX8_letterHere_8 (by decide) (fun c_8 => ?_) (fun c_8 => ?_)
  · have hz := hz.trans (if_pos c_8)
    refine lv_iconst (v := (-1)) hx hb dX8_letterHere_23 (by decide) ?_
    exact J24 ((-1)) ls hz  (lv_sub hl [] rfl)
  · have hz := hz.trans (if_neg c_8)
    have q := ltN' (by omega) c_8
    refine lv_aload_n hx hb dX8_letterHere_11 rfl (lv_at hl 0 rfl) ?_
    refine va_get (D := D) (ci := 9) (v := .ref (b 5)) (C := RX8) (T := TX8) (N := 20) hx hb hts hinX8 hown hK hP 0 rfl rfl 8 (by decide) (hts (.fieldLink RX8 29 "BridgeAuctionModel" "text" "[I") (by decide +kernel)) (fun _ h9 => h9) rfl dX8_letterHere_12 ?_
    refine lv_aload_n hx hb dX8_letterHere_15 rfl (lv_at hl 0 rfl) ?_
    refine va_get (D := D) (ci := 9) (v := .int (nI (mPla M))) (C := RX8) (T := TX8) (N := 20) hx hb hts hinX8 hown hK hP 0 rfl rfl 16 (by decide) (hts (.fieldLink RX8 207 "BridgeAuctionModel" "place" "I") (by decide +kernel)) (fun _ h9 => h9) rfl dX8_letterHere_16 ?_
    refine ialdN (tys := tyA C) hx hb hK hP 5 0 rfl rfl (i := (mPla M)) (by omega) (by decide) dX8_letterHere_19 ?_
    refine lv_goto (tgt := 24) hx hb dX8_letterHere_20 (by decide) ?_
    exact J24 (((mTxt M) (mPla M))) ls hz  (lv_sub hl [] rfl)

