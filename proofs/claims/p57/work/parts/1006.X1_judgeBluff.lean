def f_X1_judgeBluff_j67  (s0_67 : Nat) : Nat := s0_67
def f_X1_judgeBluff_j31  : Nat := 2
def f_X1_judgeBluff_j16  : Nat := 1
def f_X1_judgeBluff (G : GS) (x : Int32) (y : Int32) (w : Int32) : Nat := (if (f_X1_isPlayer G (x)) = true then (if (f_X1_isSite G (y)) = true then (if w < 1 then (f_X1_judgeBluff_j31) else (if w ≤ 99 then (if (f_X1_hasBridge G (y.toNatClampNeg)) = true then 3 else (if (f_X1_bidsAbove G (y.toNatClampNeg) ((w - 1))) ≤ 0 then (f_X1_judgeBluff_j67 (0)) else (f_X1_judgeBluff_j67 (4)))) else (f_X1_judgeBluff_j31))) else (f_X1_judgeBluff_j16)) else (f_X1_judgeBluff_j16))
set_option maxHeartbeats 4000000 in
set_option maxRecDepth 100000 in
theorem c_X1_judgeBluff (l : Launch) (D : va_G) (C : Nat → ClassId) (ev : Nat → Nat) (a : Nat → Nat) (G : GS) (x : Int32) (y : Int32) (w : Int32) (hG : GSafe G) : Met l yX1_judgeBluff wsX1_judgeBluff ({ frames := 3, cells := 0, slots := 0, locals := 67 } : Room) (roPE [.ref (a 0), .int x, .int y, .int w] D C ev (gcells C a G)) (roO (some (.ref (ev (f_X1_judgeBluff G x y w))))) 0 0 (fun _ => False) := by
  refine Met.ofW (cc := cX1_judgeBluff) (maxL := 4) (ret := (some (.object "BridgeAuction$Verdict"))) (by decide) rfl ?_
  intro p e s m args below meth c s₁ B hml hv
  obtain ⟨rfl, hP, hK, hE, hR, hX⟩ := hv
  have hx := B.exec
  have hb := B.bytes
  have hr := B.returns
  have hts := atoms_spec (ws := wsX1_judgeBluff) B.pre
  have hown : s.vm.findClass RX1 = some m.cls := findClass_of_methodNamed B.named
  have hlocks := B.notSynchronized
  have hS : va_S (fun _ => False) s.heap s.heap [] := va_S.rf
  obtain ⟨⟨hV, hB, hMV, hMB, hAL, hEk, hEa, hTX, hXZ⟩, hCS, hSF⟩ := id hX
  obtain ⟨hS12, hP4, hlo, hhi⟩ := id hG
  have hl := lv_entry ([.ref (a 0), .int x, .int y, .int w]) (n := 4) (Nat.le_of_ble_eq_true rfl)
  rw [lg_entry_eq]
  generalize (lg_sl ([.ref (a 0), .int x, .int y, .int w]) ++ List.replicate (4 - (lg_sl ([.ref (a 0), .int x, .int y, .int w])).length) Slot.unset).toArray = ls at hl ⊢
  have hl : lv_has ls 4 [(0, .ref (a 0)), (1, .int x), (2, .int y), (3, .int w)] := hl
  obtain ⟨z, hz⟩ : ∃ z, z = f_X1_judgeBluff G x y w := ⟨_, rfl⟩
  rw [← hz]
  have J67 : ∀ (s0_67 : Nat)  (ls : Array Slot), z = f_X1_judgeBluff_j67 s0_67 → lv_has ls 4 [] → W p l e ({ frames := 3, cells := 0, slots := 0, locals := 67 } : Room) s m ([.ref (a 0), .int x, .int y, .int w] : List Value).toArray below meth c s.heap [] 0 0 (MQ below (roO (some (.ref (ev z)))) ([.ref (a 0), .int x, .int y, .int w] : List Value).toArray s 0 0 (fun _ => False)) (F0 m 67 ls [.ref (ev s0_67)]) := by
    intro s0_67 ls hz  hl
    exact ro_retA hx hb hr (congrArg (fun q => ev q) (show _ = s0_67 from hz)) dX1_judgeBluff_67 hlocks
  have J31 : ∀  (ls : Array Slot), z = f_X1_judgeBluff_j31 → lv_has ls 4 [] → W p l e ({ frames := 3, cells := 0, slots := 0, locals := 67 } : Room) s m ([.ref (a 0), .int x, .int y, .int w] : List Value).toArray below meth c s.heap [] 0 0 (MQ below (roO (some (.ref (ev z)))) ([.ref (a 0), .int x, .int y, .int w] : List Value).toArray s 0 0 (fun _ => False)) (F0 m 31 ls []) := by
    intro  ls hz  hl
    refine va_gets (v := .ref (ev 2)) (C := "BridgeAuction$Verdict") (n := "BAD_ARGUMENT") (d := "LBridgeAuction$Verdict;") hx hb (hV.1 2 (by decide)).1 hS hown (hts (.fieldLink RX1 108 "BridgeAuction$Verdict" "BAD_ARGUMENT" "LBridgeAuction$Verdict;") (by decide +kernel)) (fun _ h9 => h9) dX1_judgeBluff_31 ?_
    exact ro_retA hx hb hr (congrArg (fun q => ev q) (show _ = 2 from hz)) dX1_judgeBluff_34 hlocks
  have J16 : ∀  (ls : Array Slot), z = f_X1_judgeBluff_j16 → lv_has ls 4 [] → W p l e ({ frames := 3, cells := 0, slots := 0, locals := 67 } : Room) s m ([.ref (a 0), .int x, .int y, .int w] : List Value).toArray below meth c s.heap [] 0 0 (MQ below (roO (some (.ref (ev z)))) ([.ref (a 0), .int x, .int y, .int w] : List Value).toArray s 0 0 (fun _ => False)) (F0 m 16 ls []) := by
    intro  ls hz  hl
    refine va_gets (v := .ref (ev 1)) (C := "BridgeAuction$Verdict") (n := "NO_SUCH_INDEX") (d := "LBridgeAuction$Verdict;") hx hb (hV.1 1 (by decide)).1 hS hown (hts (.fieldLink RX1 124 "BridgeAuction$Verdict" "NO_SUCH_INDEX" "LBridgeAuction$Verdict;") (by decide +kernel)) (fun _ h9 => h9) dX1_judgeBluff_16 ?_
    exact ro_retA hx hb hr (congrArg (fun q => ev q) (show _ = 1 from hz)) dX1_judgeBluff_19 hlocks
  refine lv_aload_n hx hb dX1_judgeBluff_0 rfl (lv_at hl 0 rfl) ?_
  refine lv_iload_n hx hb dX1_judgeBluff_1 rfl (lv_at hl 1 rfl) ?_
  refine callRo (va_runV (As := [.int x]) (rest := []) ⟨hx, hb, hml, hown, hts⟩ (c_X1_isPlayer l D C a G (x) hG) (cwV 1 hts gX1_judgeBluff_X1_isPlayer rfl rfl rfl (by decide +kernel) ⟨Nat.le_of_ble_eq_true rfl, Nat.le_of_ble_eq_true rfl⟩) (roP_v hP hK hE (va_recv hK hP (ci := 4) (q0 := 0) rfl rfl)) rfl rfl hl.1 rfl (lv_room (Nat.le_of_ble_eq_true rfl)) dX1_judgeBluff_2 ⟨Nat.le_refl _, Nat.le_refl _⟩) ?_
  refine bif_eq (tgt := 16) hx hb dX1_judgeBluff_5 (by decide) (fun c_5 => ?_) (fun c_5 => ?_)
  · have hz := hz.trans (ifB_f c_5)
    exact J16  ls hz  (lv_sub hl [] rfl)
  · have hz := hz.trans (ifB_t c_5)
    refine lv_aload_n hx hb dX1_judgeBluff_8 rfl (lv_at hl 0 rfl) ?_
    refine lv_iload_n hx hb dX1_judgeBluff_9 rfl (lv_at hl 2 rfl) ?_
    refine callRo (va_runV (As := [.int y]) (rest := []) ⟨hx, hb, hml, hown, hts⟩ (c_X1_isSite l D C a G (y) hG) (cwV 1 hts gX1_judgeBluff_X1_isSite rfl rfl rfl (by decide +kernel) ⟨Nat.le_of_ble_eq_true rfl, Nat.le_of_ble_eq_true rfl⟩) (roP_v hP hK hE (va_recv hK hP (ci := 4) (q0 := 0) rfl rfl)) rfl rfl hl.1 rfl (lv_room (Nat.le_of_ble_eq_true rfl)) dX1_judgeBluff_10 ⟨Nat.le_refl _, Nat.le_refl _⟩) ?_
    refine bif_ne (tgt := 20) hx hb dX1_judgeBluff_13 (by decide) (fun c_13 => ?_) (fun c_13 => ?_)
    · have hz := hz.trans (ifB_t c_13)
      have hp := vp_mono (X1_isPlayer_in hG c_5) hP4
      have hs := vp_mono (X1_isSite_in hG c_13) hS12
      refine lv_iload_n hx hb dX1_judgeBluff_20 rfl (lv_at hl 3 rfl) ?_
      refine lv_iconst (v := 1) hx hb dX1_judgeBluff_21 (by decide) ?_
      refine lv_icmp_lt (tgt := 31) hx hb dX1_judgeBluff_22 (by decide) (fun c_22 => ?_) (fun c_22 => ?_)
      · have hz := hz.trans (if_pos c_22)
        exact J31  ls hz  (lv_sub hl [] rfl)
      · have hz := hz.trans (if_neg c_22)
        refine lv_iload_n hx hb dX1_judgeBluff_25 rfl (lv_at hl 3 rfl) ?_
        refine lv_bipush (v := 99) hx hb dX1_judgeBluff_26 (by decide +kernel) ?_
        refine lv_icmp_le (tgt := 35) hx hb dX1_judgeBluff_28 (by decide) (fun c_28 => ?_) (fun c_28 => ?_)
        · have hz := hz.trans (if_pos c_28)
          refine lv_aload_n hx hb dX1_judgeBluff_35 rfl (lv_at hl 0 rfl) ?_
          refine lv_iload_n hx hb dX1_judgeBluff_36 rfl (lv_at hl 2 rfl) ?_
          obtain ⟨ehn_1, lhn_1⟩ := nat_of (x := y) (n := 12) (by first | assumption) (by omega)
          refine topN ehn_1 ?_
          refine callRo (va_runV (As := [.int (nI y.toNatClampNeg)]) (rest := []) ⟨hx, hb, hml, hown, hts⟩ (c_X1_hasBridge l D C a G (y.toNatClampNeg) hG (by omega)) (cwV 1 hts gX1_judgeBluff_X1_hasBridge rfl rfl rfl (by decide +kernel) ⟨Nat.le_of_ble_eq_true rfl, Nat.le_of_ble_eq_true rfl⟩) (roP_v hP hK hE (va_recv hK hP (ci := 4) (q0 := 0) rfl rfl)) rfl rfl hl.1 rfl (lv_room (Nat.le_of_ble_eq_true rfl)) dX1_judgeBluff_37 ⟨Nat.le_refl _, Nat.le_refl _⟩) ?_
          refine bif_eq (tgt := 47) hx hb dX1_judgeBluff_40 (by decide) (fun c_40 => ?_) (fun c_40 => ?_)
          · have hz := hz.trans (ifB_f c_40)
            refine lv_aload_n hx hb dX1_judgeBluff_47 rfl (lv_at hl 0 rfl) ?_
            refine lv_iload_n hx hb dX1_judgeBluff_48 rfl (lv_at hl 2 rfl) ?_
            refine lv_iload_n hx hb dX1_judgeBluff_49 rfl (lv_at hl 3 rfl) ?_
            refine lv_iconst (v := 1) hx hb dX1_judgeBluff_50 (by decide) ?_
            refine lv_isub hx hb dX1_judgeBluff_51 ?_
            obtain ⟨ehn_2, lhn_2⟩ := nat_of (x := y) (n := 12) (by first | assumption) (by omega)
            refine topN2 ehn_2 ?_
            refine callRo (va_runV (As := [.int (nI y.toNatClampNeg), .int (w - 1)]) (rest := []) ⟨hx, hb, hml, hown, hts⟩ (c_X1_bidsAbove l D C a G (y.toNatClampNeg) ((w - 1)) hG (by omega)) (cwV 2 hts gX1_judgeBluff_X1_bidsAbove rfl rfl rfl (by decide +kernel) ⟨Nat.le_of_ble_eq_true rfl, Nat.le_of_ble_eq_true rfl⟩) (roP_v hP hK hE (va_recv hK hP (ci := 4) (q0 := 0) rfl rfl)) rfl rfl hl.1 rfl (lv_room (Nat.le_of_ble_eq_true rfl)) dX1_judgeBluff_52 ⟨Nat.le_refl _, Nat.le_refl _⟩) ?_
            refine lv_if_le (tgt := 64) hx hb dX1_judgeBluff_55 (by decide) (fun c_55 => ?_) (fun c_55 => ?_)
            · have hz := hz.trans (if_pos c_55)
              refine va_gets (v := .ref (ev 0)) (C := "BridgeAuction$Verdict") (n := "FINE") (d := "LBridgeAuction$Verdict;") hx hb (hV.1 0 (by decide)).1 hS hown (hts (.fieldLink RX1 117 "BridgeAuction$Verdict" "FINE" "LBridgeAuction$Verdict;") (by decide +kernel)) (fun _ h9 => h9) dX1_judgeBluff_64 ?_
              exact J67 (0) ls hz  (lv_sub hl [] rfl)
            · have hz := hz.trans (if_neg c_55)
              refine va_gets (v := .ref (ev 4)) (C := "BridgeAuction$Verdict") (n := "NOT_ALLOWED") (d := "LBridgeAuction$Verdict;") hx hb (hV.1 4 (by decide)).1 hS hown (hts (.fieldLink RX1 140 "BridgeAuction$Verdict" "NOT_ALLOWED" "LBridgeAuction$Verdict;") (by decide +kernel)) (fun _ h9 => h9) dX1_judgeBluff_58 ?_
              refine lv_goto (tgt := 67) hx hb dX1_judgeBluff_61 (by decide) ?_
              exact J67 (4) ls hz  (lv_sub hl [] rfl)
          · have hz := hz.trans (ifB_t c_40)
            refine va_gets (v := .ref (ev 3)) (C := "BridgeAuction$Verdict") (n := "WRONG_STATE") (d := "LBridgeAuction$Verdict;") hx hb (hV.1 3 (by decide)).1 hS hown (hts (.fieldLink RX1 114 "BridgeAuction$Verdict" "WRONG_STATE" "LBridgeAuction$Verdict;") (by decide +kernel)) (fun _ h9 => h9) dX1_judgeBluff_43 ?_
            exact ro_retA hx hb hr (congrArg (fun q => ev q) (show _ = 3 from hz)) dX1_judgeBluff_46 hlocks
        · have hz := hz.trans (if_neg c_28)
          exact J31  ls hz  (lv_sub hl [] rfl)
    · have hz := hz.trans (ifB_f c_13)
      exact J16  ls hz  (lv_sub hl [] rfl)

