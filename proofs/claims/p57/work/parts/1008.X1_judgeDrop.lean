def f_X1_judgeDrop_j52  (s0_52 : Nat) : Nat := s0_52
def f_X1_judgeDrop_j16  : Nat := 1
def f_X1_judgeDrop (G : GS) (x : Int32) (y : Int32) : Nat := (if (f_X1_isPlayer G (x)) = true then (if (f_X1_isSite G (y)) = true then (if (f_X1_hasBid G (x.toNatClampNeg) (y.toNatClampNeg)) = true then (if ((gFer G) y.toNatClampNeg) = x then (f_X1_judgeDrop_j52 (3)) else (f_X1_judgeDrop_j52 (0))) else 5) else (f_X1_judgeDrop_j16)) else (f_X1_judgeDrop_j16))
set_option maxHeartbeats 4000000 in
set_option maxRecDepth 100000 in
theorem c_X1_judgeDrop (l : Launch) (D : va_G) (C : Nat → ClassId) (ev : Nat → Nat) (a : Nat → Nat) (G : GS) (x : Int32) (y : Int32) (hG : GSafe G) : Met l yX1_judgeDrop wsX1_judgeDrop ({ frames := 2, cells := 0, slots := 0, locals := 43 } : Room) (roPE [.ref (a 0), .int x, .int y] D C ev (gcells C a G)) (roO (some (.ref (ev (f_X1_judgeDrop G x y))))) 0 0 (fun _ => False) := by
  refine Met.ofW (cc := cX1_judgeDrop) (maxL := 3) (ret := (some (.object "BridgeAuction$Verdict"))) (by decide) rfl ?_
  intro p e s m args below meth c s₁ B hml hv
  obtain ⟨rfl, hP, hK, hE, hR, hX⟩ := hv
  have hx := B.exec
  have hb := B.bytes
  have hr := B.returns
  have hts := atoms_spec (ws := wsX1_judgeDrop) B.pre
  have hown : s.vm.findClass RX1 = some m.cls := findClass_of_methodNamed B.named
  have hlocks := B.notSynchronized
  have hS : va_S (fun _ => False) s.heap s.heap [] := va_S.rf
  obtain ⟨⟨hV, hB, hMV, hMB, hAL, hEk, hEa, hTX, hXZ⟩, hCS, hSF⟩ := id hX
  obtain ⟨hS12, hP4, hlo, hhi⟩ := id hG
  have hinX1 : ∀ w ∈ u_ws RX1 TX1 16, w ∈ wsX1_judgeDrop := by decide +kernel
  have hl := lv_entry ([.ref (a 0), .int x, .int y]) (n := 3) (Nat.le_of_ble_eq_true rfl)
  rw [lg_entry_eq]
  generalize (lg_sl ([.ref (a 0), .int x, .int y]) ++ List.replicate (3 - (lg_sl ([.ref (a 0), .int x, .int y])).length) Slot.unset).toArray = ls at hl ⊢
  have hl : lv_has ls 3 [(0, .ref (a 0)), (1, .int x), (2, .int y)] := hl
  obtain ⟨z, hz⟩ : ∃ z, z = f_X1_judgeDrop G x y := ⟨_, rfl⟩
  rw [← hz]
  have J52 : ∀ (s0_52 : Nat)  (ls : Array Slot), z = f_X1_judgeDrop_j52 s0_52 → lv_has ls 3 [] → W p l e ({ frames := 2, cells := 0, slots := 0, locals := 43 } : Room) s m ([.ref (a 0), .int x, .int y] : List Value).toArray below meth c s.heap [] 0 0 (MQ below (roO (some (.ref (ev z)))) ([.ref (a 0), .int x, .int y] : List Value).toArray s 0 0 (fun _ => False)) (F0 m 52 ls [.ref (ev s0_52)]) := by
    intro s0_52 ls hz  hl
    exact ro_retA hx hb hr (congrArg (fun q => ev q) (show _ = s0_52 from hz)) dX1_judgeDrop_52 hlocks
  have J16 : ∀  (ls : Array Slot), z = f_X1_judgeDrop_j16 → lv_has ls 3 [] → W p l e ({ frames := 2, cells := 0, slots := 0, locals := 43 } : Room) s m ([.ref (a 0), .int x, .int y] : List Value).toArray below meth c s.heap [] 0 0 (MQ below (roO (some (.ref (ev z)))) ([.ref (a 0), .int x, .int y] : List Value).toArray s 0 0 (fun _ => False)) (F0 m 16 ls []) := by
    intro  ls hz  hl
    refine va_gets (v := .ref (ev 1)) (C := "BridgeAuction$Verdict") (n := "NO_SUCH_INDEX") (d := "LBridgeAuction$Verdict;") hx hb (hV.1 1 (by decide)).1 hS hown (hts (.fieldLink RX1 124 "BridgeAuction$Verdict" "NO_SUCH_INDEX" "LBridgeAuction$Verdict;") (by decide +kernel)) (fun _ h9 => h9) dX1_judgeDrop_16 ?_
    exact ro_retA hx hb hr (congrArg (fun q => ev q) (show _ = 1 from hz)) dX1_judgeDrop_19 hlocks
  refine lv_aload_n hx hb dX1_judgeDrop_0 rfl (lv_at hl 0 rfl) ?_
  refine lv_iload_n hx hb dX1_judgeDrop_1 rfl (lv_at hl 1 rfl) ?_
  refine callRo (va_runV (As := [.int x]) (rest := []) ⟨hx, hb, hml, hown, hts⟩ (c_X1_isPlayer l D C a G (x) hG) (cwV 1 hts gX1_judgeDrop_X1_isPlayer rfl rfl rfl (by decide +kernel) ⟨Nat.le_of_ble_eq_true rfl, Nat.le_of_ble_eq_true rfl⟩) (roP_v hP hK hE (va_recv hK hP (ci := 4) (q0 := 0) rfl rfl)) rfl rfl hl.1 rfl (lv_room (Nat.le_of_ble_eq_true rfl)) dX1_judgeDrop_2 ⟨Nat.le_refl _, Nat.le_refl _⟩) ?_
  refine bif_eq (tgt := 16) hx hb dX1_judgeDrop_5 (by decide) (fun c_5 => ?_) (fun c_5 => ?_)
  · have hz := hz.trans (ifB_f c_5)
    exact J16  ls hz  (lv_sub hl [] rfl)
  · have hz := hz.trans (ifB_t c_5)
    refine lv_aload_n hx hb dX1_judgeDrop_8 rfl (lv_at hl 0 rfl) ?_
    refine lv_iload_n hx hb dX1_judgeDrop_9 rfl (lv_at hl 2 rfl) ?_
    refine callRo (va_runV (As := [.int y]) (rest := []) ⟨hx, hb, hml, hown, hts⟩ (c_X1_isSite l D C a G (y) hG) (cwV 1 hts gX1_judgeDrop_X1_isSite rfl rfl rfl (by decide +kernel) ⟨Nat.le_of_ble_eq_true rfl, Nat.le_of_ble_eq_true rfl⟩) (roP_v hP hK hE (va_recv hK hP (ci := 4) (q0 := 0) rfl rfl)) rfl rfl hl.1 rfl (lv_room (Nat.le_of_ble_eq_true rfl)) dX1_judgeDrop_10 ⟨Nat.le_refl _, Nat.le_refl _⟩) ?_
    refine bif_ne (tgt := 20) hx hb dX1_judgeDrop_13 (by decide) (fun c_13 => ?_) (fun c_13 => ?_)
    · have hz := hz.trans (ifB_t c_13)
      have hp := vp_mono (X1_isPlayer_in hG c_5) hP4
      have hs := vp_mono (X1_isSite_in hG c_13) hS12
      refine lv_aload_n hx hb dX1_judgeDrop_20 rfl (lv_at hl 0 rfl) ?_
      refine lv_iload_n hx hb dX1_judgeDrop_21 rfl (lv_at hl 1 rfl) ?_
      refine lv_iload_n hx hb dX1_judgeDrop_22 rfl (lv_at hl 2 rfl) ?_
      obtain ⟨ehn_1, lhn_1⟩ := nat_of (x := x) (n := 4) (by first | assumption) (by omega)
      refine topN2 ehn_1 ?_
      obtain ⟨ehn_2, lhn_2⟩ := nat_of (x := y) (n := 12) (by first | assumption) (by omega)
      refine topN ehn_2 ?_
      refine callRo (va_runV (As := [.int (nI x.toNatClampNeg), .int (nI y.toNatClampNeg)]) (rest := []) ⟨hx, hb, hml, hown, hts⟩ (c_X1_hasBid l D C a G (x.toNatClampNeg) (y.toNatClampNeg) hG (by omega) (by omega)) (cwV 2 hts gX1_judgeDrop_X1_hasBid rfl rfl rfl (by decide +kernel) ⟨Nat.le_of_ble_eq_true rfl, Nat.le_of_ble_eq_true rfl⟩) (roP_v hP hK hE (va_recv hK hP (ci := 4) (q0 := 0) rfl rfl)) rfl rfl hl.1 rfl (lv_room (Nat.le_of_ble_eq_true rfl)) dX1_judgeDrop_23 ⟨Nat.le_refl _, Nat.le_refl _⟩) ?_
      refine bif_ne (tgt := 33) hx hb dX1_judgeDrop_26 (by decide) (fun c_26 => ?_) (fun c_26 => ?_)
      · have hz := hz.trans (ifB_t c_26)
        refine lv_aload_n hx hb dX1_judgeDrop_33 rfl (lv_at hl 0 rfl) ?_
        refine va_get (D := D) (ci := 4) (v := .ref (a 7)) (C := RX1) (T := TX1) (N := 16) hx hb hts hinX1 hown hK hP 0 rfl rfl 10 (by decide) (hts (.fieldLink RX1 43 "BridgeAuction$Game" "ferries" "[I") (by decide +kernel)) (fun _ h9 => h9) rfl dX1_judgeDrop_34 ?_
        refine lv_iload_n hx hb dX1_judgeDrop_37 rfl (lv_at hl 2 rfl) ?_
        obtain ⟨ehn_3, lhn_3⟩ := nat_of (x := y) (n := 12) (by first | assumption) (by omega)
        refine topN ehn_3 ?_
        refine ialdN (tys := tyA C) hx hb hK hP 7 0 rfl rfl (i := y.toNatClampNeg) (by omega) (by decide) dX1_judgeDrop_38 ?_
        refine lv_iload_n hx hb dX1_judgeDrop_39 rfl (lv_at hl 1 rfl) ?_
        refine lv_icmp_ne (tgt := 49) hx hb dX1_judgeDrop_40 (by decide) (fun c_40 => ?_) (fun c_40 => ?_)
        · have hz := hz.trans (if_neg c_40)
          refine va_gets (v := .ref (ev 0)) (C := "BridgeAuction$Verdict") (n := "FINE") (d := "LBridgeAuction$Verdict;") hx hb (hV.1 0 (by decide)).1 hS hown (hts (.fieldLink RX1 117 "BridgeAuction$Verdict" "FINE" "LBridgeAuction$Verdict;") (by decide +kernel)) (fun _ h9 => h9) dX1_judgeDrop_49 ?_
          exact J52 (0) ls hz  (lv_sub hl [] rfl)
        · have hz := hz.trans (if_pos c_40)
          refine va_gets (v := .ref (ev 3)) (C := "BridgeAuction$Verdict") (n := "WRONG_STATE") (d := "LBridgeAuction$Verdict;") hx hb (hV.1 3 (by decide)).1 hS hown (hts (.fieldLink RX1 114 "BridgeAuction$Verdict" "WRONG_STATE" "LBridgeAuction$Verdict;") (by decide +kernel)) (fun _ h9 => h9) dX1_judgeDrop_43 ?_
          refine lv_goto (tgt := 52) hx hb dX1_judgeDrop_46 (by decide) ?_
          exact J52 (3) ls hz  (lv_sub hl [] rfl)
      · have hz := hz.trans (ifB_f c_26)
        refine va_gets (v := .ref (ev 5)) (C := "BridgeAuction$Verdict") (n := "NOT_FOUND") (d := "LBridgeAuction$Verdict;") hx hb (hV.1 5 (by decide)).1 hS hown (hts (.fieldLink RX1 165 "BridgeAuction$Verdict" "NOT_FOUND" "LBridgeAuction$Verdict;") (by decide +kernel)) (fun _ h9 => h9) dX1_judgeDrop_29 ?_
        exact ro_retA hx hb hr (congrArg (fun q => ev q) (show _ = 5 from hz)) dX1_judgeDrop_32 hlocks
    · have hz := hz.trans (ifB_f c_13)
      exact J16  ls hz  (lv_sub hl [] rfl)

