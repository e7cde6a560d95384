def f_X1_judgeFerry_j104  (s0_104 : Nat) : Nat := s0_104
def f_X1_judgeFerry_j90  (s0_90 : Bool) : Nat := (if s0_90 = true then (f_X1_judgeFerry_j104 (0)) else (f_X1_judgeFerry_j104 (4)))
def f_X1_judgeFerry_j85  : Nat := (f_X1_judgeFerry_j90 (true))
def f_X1_judgeFerry_j51  : Nat := 3
def f_X1_judgeFerry_j16  : Nat := 1
def f_X1_judgeFerry (G : GS) (x : Int32) (y : Int32) : Nat := (if (f_X1_isPlayer G (x)) = true then (if (f_X1_isSite G (y)) = true then (if (f_X1_hasBid G (x.toNatClampNeg) (y.toNatClampNeg)) = true then (if (f_X1_hasUsedFerry G (x.toNatClampNeg)) = true then (f_X1_judgeFerry_j51) else (if ((gFer G) y.toNatClampNeg) = (-1) then (if ((gSuit G) ((gLo G) y.toNatClampNeg)) = x then (f_X1_judgeFerry_j85) else (if ((gSuit G) ((gHi G) y.toNatClampNeg)) = x then (f_X1_judgeFerry_j85) else (f_X1_judgeFerry_j90 (false)))) else (f_X1_judgeFerry_j51))) else 5) else (f_X1_judgeFerry_j16)) else (f_X1_judgeFerry_j16))
set_option maxHeartbeats 4000000 in
set_option maxRecDepth 100000 in
theorem c_X1_judgeFerry (l : Launch) (D : va_G) (C : Nat → ClassId) (ev : Nat → Nat) (a : Nat → Nat) (G : GS) (x : Int32) (y : Int32) (hG : GSafe G) : Met l yX1_judgeFerry wsX1_judgeFerry ({ frames := 2, cells := 0, slots := 0, locals := 43 } : Room) (roPE [.ref (a 0), .int x, .int y] D C ev (gcells C a G)) (roO (some (.ref (ev (f_X1_judgeFerry G x y))))) 0 0 (fun _ => False) := by
  refine Met.ofW (cc := cX1_judgeFerry) (maxL := 4) (ret := (some (.object "BridgeAuction$Verdict"))) (by decide) rfl ?_
  intro p e s m args below meth c s₁ B hml hv
  obtain ⟨rfl, hP, hK, hE, hR, hX⟩ := hv
  have hx := B.exec
  have hb := B.bytes
  have hr := B.returns
  have hts := atoms_spec (ws := wsX1_judgeFerry) B.pre
  have hown : s.vm.findClass RX1 = some m.cls := findClass_of_methodNamed B.named
  have hlocks := B.notSynchronized
  have hS : va_S (fun _ => False) s.heap s.heap [] := va_S.rf
  obtain ⟨⟨hV, hB, hMV, hMB, hAL, hEk, hEa, hTX, hXZ⟩, hCS, hSF⟩ := id hX
  obtain ⟨hS12, hP4, hlo, hhi⟩ := id hG
  have hinX1 : ∀ w ∈ u_ws RX1 TX1 16, w ∈ wsX1_judgeFerry := by decide +kernel
  have hl := lv_entry ([.ref (a 0), .int x, .int y]) (n := 4) (Nat.le_of_ble_eq_true rfl)
  rw [lg_entry_eq]
  generalize (lg_sl ([.ref (a 0), .int x, .int y]) ++ List.replicate (4 - (lg_sl ([.ref (a 0), .int x, .int y])).length) Slot.unset).toArray = ls at hl ⊢
  have hl : lv_has ls 4 [(0, .ref (a 0)), (1, .int x), (2, .int y)] := hl
  obtain ⟨z, hz⟩ : ∃ z, z = f_X1_judgeFerry G x y := ⟨_, rfl⟩
  rw [← hz]
  have J104 : ∀ (s0_104 : Nat)  (ls : Array Slot), z = f_X1_judgeFerry_j104 s0_104 → lv_has ls 4 [] → W p l e ({ frames := 2, cells := 0, slots := 0, locals := 43 } : Room) s m ([.ref (a 0), .int x, .int y] : List Value).toArray below meth c s.heap [] 0 0 (MQ below (roO (some (.ref (ev z)))) ([.ref (a 0), .int x, .int y] : List Value).toArray s 0 0 (fun _ => False)) (F0 m 104 ls [.ref (ev s0_104)]) := by
    intro s0_104 ls hz  hl
    exact ro_retA hx hb hr (congrArg (fun q => ev q) (show _ = s0_104 from hz)) dX1_judgeFerry_104 hlocks
  have J90 : ∀ (s0_90 : Bool)  (ls : Array Slot), z = f_X1_judgeFerry_j90 s0_90 → lv_has ls 4 [] → W p l e ({ frames := 2, cells := 0, slots := 0, locals := 43 } : Room) s m ([.ref (a 0), .int x, .int y] : List Value).toArray below meth c s.heap [] 0 0 (MQ below (roO (some (.ref (ev z)))) ([.ref (a 0), .int x, .int y] : List Value).toArray s 0 0 (fun _ => False)) (F0 m 90 ls [.int (bI s0_90)]) := by
    intro s0_90 ls hz  hl
    refine lv_istore_n (lv' := [(3, .int (bI s0_90))]) hx hb dX1_judgeFerry_90 rfl hl (by decide) rfl (fun ls hl => ?_)
    refine lv_iload_n hx hb dX1_judgeFerry_91 rfl (lv_at hl 0 rfl) ?_
    refine bif_eq (tgt := 101) hx hb dX1_judgeFerry_92 (by decide) (fun c_92 => ?_) (fun c_92 => ?_)
    · have hz := hz.trans (ifB_f c_92)
      refine va_gets (v := .ref (ev 4)) (C := "BridgeAuction$Verdict") (n := "NOT_ALLOWED") (d := "LBridgeAuction$Verdict;") hx hb (hV.1 4 (by decide)).1 hS hown (hts (.fieldLink RX1 140 "BridgeAuction$Verdict" "NOT_ALLOWED" "LBridgeAuction$Verdict;") (by decide +kernel)) (fun _ h9 => h9) dX1_judgeFerry_101 ?_
      exact J104 (4) ls hz  (lv_sub hl [] rfl)
    · have hz := hz.trans (ifB_t c_92)
      refine va_gets (v := .ref (ev 0)) (C := "BridgeAuction$Verdict") (n := "FINE") (d := "LBridgeAuction$Verdict;") hx hb (hV.1 0 (by decide)).1 hS hown (hts (.fieldLink RX1 117 "BridgeAuction$Verdict" "FINE" "LBridgeAuction$Verdict;") (by decide +kernel)) (fun _ h9 => h9) dX1_judgeFerry_95 ?_
      refine lv_goto (tgt := 104) hx hb dX1_judgeFerry_98 (by decide) ?_
      exact J104 (0) ls hz  (lv_sub hl [] rfl)
  have J85 : ∀  (ls : Array Slot), z = f_X1_judgeFerry_j85 → lv_has ls 4 [] → W p l e ({ frames := 2, cells := 0, slots := 0, locals := 43 } : Room) s m ([.ref (a 0), .int x, .int y] : List Value).toArray below meth c s.heap [] 0 0 (MQ below (roO (some (.ref (ev z)))) ([.ref (a 0), .int x, .int y] : List Value).toArray s 0 0 (fun _ => False)) (F0 m 85 ls []) := by
    intro  ls hz  hl
    refine lv_iconst (v := 1) hx hb dX1_judgeFerry_85 (by decide) ?_
    refine lv_goto (tgt := 90) hx hb dX1_judgeFerry_86 (by decide) ?_
    exact J90 (true) ls hz  (lv_sub hl [] rfl)
  have J51 : ∀  (ls : Array Slot), z = f_X1_judgeFerry_j51 → lv_has ls 4 [] → W p l e ({ frames := 2, cells := 0, slots := 0, locals := 43 } : Room) s m ([.ref (a 0), .int x, .int y] : List Value).toArray below meth c s.heap [] 0 0 (MQ below (roO (some (.ref (ev z)))) ([.ref (a 0), .int x, .int y] : List Value).toArray s 0 0 (fun _ => False)) (F0 m 51 ls []) := by
    intro  ls hz  hl
    refine va_gets (v := .ref (ev 3)) (C := "BridgeAuction$Verdict") (n := "WRONG_STATE") (d := "LBridgeAuction$Verdict;") hx hb (hV.1 3 (by decide)).1 hS hown (hts (.fieldLink RX1 114 "BridgeAuction$Verdict" "WRONG_STATE" "LBridgeAuction$Verdict;") (by decide +kernel)) (fun _ h9 => h9) dX1_judgeFerry_51 ?_
    exact ro_retA hx hb hr (congrArg (fun q => ev q) (show _ = 3 from hz)) dX1_judgeFerry_54 hlocks
  have J16 : ∀  (ls : Array Slot), z = f_X1_judgeFerry_j16 → lv_has ls 4 [] → W p l e ({ frames := 2, cells := 0, slots := 0, locals := 43 } : Room) s m ([.ref (a 0), .int x, .int y] : List Value).toArray below meth c s.heap [] 0 0 (MQ below (roO (some (.ref (ev z)))) ([.ref (a 0), .int x, .int y] : List Value).toArray s 0 0 (fun _ => False)) (F0 m 16 ls []) := by
    intro  ls hz  hl
    refine va_gets (v := .ref (ev 1)) (C := "BridgeAuction$Verdict") (n := "NO_SUCH_INDEX") (d := "LBridgeAuction$Verdict;") hx hb (hV.1 1 (by decide)).1 hS hown (hts (.fieldLink RX1 124 "BridgeAuction$Verdict" "NO_SUCH_INDEX" "LBridgeAuction$Verdict;") (by decide +kernel)) (fun _ h9 => h9) dX1_judgeFerry_16 ?_
    exact ro_retA hx hb hr (congrArg (fun q => ev q) (show _ = 1 from hz)) dX1_judgeFerry_19 hlocks
  refine lv_aload_n hx hb dX1_judgeFerry_0 rfl (lv_at hl 0 rfl) ?_
  refine lv_iload_n hx hb dX1_judgeFerry_1 rfl (lv_at hl 1 rfl) ?_
  refine callRo (va_runV (As := [.int x]) (rest := []) ⟨hx, hb, hml, hown, hts⟩ (c_X1_isPlayer l D C a G (x) hG) (cwV 1 hts gX1_judgeFerry_X1_isPlayer rfl rfl rfl (by decide +kernel) ⟨Nat.le_of_ble_eq_true rfl, Nat.le_of_ble_eq_true rfl⟩) (roP_v hP hK hE (va_recv hK hP (ci := 4) (q0 := 0) rfl rfl)) rfl rfl hl.1 rfl (lv_room (Nat.le_of_ble_eq_true rfl)) dX1_judgeFerry_2 ⟨Nat.le_refl _, Nat.le_refl _⟩) ?_
  refine bif_eq (tgt := 16) hx hb dX1_judgeFerry_5 (by decide) (fun c_5 => ?_) (fun c_5 => ?_)
  · have hz := hz.trans (ifB_f c_5)
    exact J16  ls hz  (lv_sub hl [] rfl)
  · have hz := hz.trans (ifB_t c_5)
    refine lv_aload_n hx hb dX1_judgeFerry_8 rfl (lv_at hl 0 rfl) ?_
    refine lv_iload_n hx hb dX1_judgeFerry_9 rfl (lv_at hl 2 rfl) ?_
    refine callRo (va_runV (As := [.int y]) (rest := []) ⟨hx, hb, hml, hown, hts⟩ (c_X1_isSite l D C a G (y) hG) (cwV 1 hts gX1_judgeFerry_X1_isSite rfl rfl rfl (by decide +kernel) ⟨Nat.le_of_ble_eq_true rfl, Nat.le_of_ble_eq_true rfl⟩) (roP_v hP hK hE (va_recv hK hP (ci := 4) (q0 := 0) rfl rfl)) rfl rfl hl.1 rfl (lv_room (Nat.le_of_ble_eq_true rfl)) dX1_judgeFerry_10 ⟨Nat.le_refl _, Nat.le_refl _⟩) ?_
    refine bif_ne (tgt := 20) hx hb dX1_judgeFerry_13 (by decide) (fun c_13 => ?_) (fun c_13 => ?_)
    · have hz := hz.trans (ifB_t c_13)
      have hp := vp_mono (X1_isPlayer_in hG c_5) hP4
      have hs := vp_mono (X1_isSite_in hG c_13) hS12
      refine lv_aload_n hx hb dX1_judgeFerry_20 rfl (lv_at hl 0 rfl) ?_
      refine lv_iload_n hx hb dX1_judgeFerry_21 rfl (lv_at hl 1 rfl) ?_
      refine lv_iload_n hx hb dX1_judgeFerry_22 rfl (lv_at hl 2 rfl) ?_
      obtain ⟨ehn_1, lhn_1⟩ := nat_of (x := x) (n := 4) (by first | assumption) (by omega)
      refine topN2 ehn_1 ?_
      obtain ⟨ehn_2, lhn_2⟩ := nat_of (x := y) (n := 12) (by first | assumption) (by omega)
      refine topN ehn_2 ?_
      refine callRo (va_runV (As := [.int (nI x.toNatClampNeg), .int (nI y.toNatClampNeg)]) (rest := []) ⟨hx, hb, hml, hown, hts⟩ (c_X1_hasBid l D C a G (x.toNatClampNeg) (y.toNatClampNeg) hG (by omega) (by omega)) (cwV 2 hts gX1_judgeFerry_X1_hasBid rfl rfl rfl (by decide +kernel) ⟨Nat.le_of_ble_eq_true rfl, Nat.le_of_ble_eq_true rfl⟩) (roP_v hP hK hE (va_recv hK hP (ci := 4) (q0 := 0) rfl rfl)) rfl rfl hl.1 rfl (lv_room (Nat.le_of_ble_eq_true rfl)) dX1_judgeFerry_23 ⟨Nat.le_refl _, Nat.le_refl _⟩) ?_
      refine bif_ne (tgt := 33) hx hb dX1_judgeFerry_26 (by decide) (fun c_26 => ?_) (fun c_26 => ?_)
      · have hz := hz.trans (ifB_t c_26)
        refine lv_aload_n hx hb dX1_judgeFerry_33 rfl (lv_at hl 0 rfl) ?_
        refine lv_iload_n hx hb dX1_judgeFerry_34 rfl (lv_at hl 1 rfl) ?_
        obtain ⟨ehn_3, lhn_3⟩ := nat_of (x := x) (n := 4) (by first | assumption) (by omega)
        refine topN ehn_3 ?_
        refine callRo (va_runV (As := [.int (nI x.toNatClampNeg)]) (rest := []) ⟨hx, hb, hml, hown, hts⟩ (c_X1_hasUsedFerry l D C a G (x.toNatClampNeg) hG (by omega)) (cwV 1 hts gX1_judgeFerry_X1_hasUsedFerry rfl rfl rfl (by decide +kernel) ⟨Nat.le_of_ble_eq_true rfl, Nat.le_of_ble_eq_true rfl⟩) (roP_v hP hK hE (va_recv hK hP (ci := 4) (q0 := 0) rfl rfl)) rfl rfl hl.1 rfl (lv_room (Nat.le_of_ble_eq_true rfl)) dX1_judgeFerry_35 ⟨Nat.le_refl _, Nat.le_refl _⟩) ?_
        refine bif_ne (tgt := 51) hx hb dX1_judgeFerry_38 (by decide) (fun c_38 => ?_) (fun c_38 => ?_)
        · have hz := hz.trans (ifB_t c_38)
          exact J51  ls hz  (lv_sub hl [] rfl)
        · have hz := hz.trans (ifB_f c_38)
          refine lv_aload_n hx hb dX1_judgeFerry_41 rfl (lv_at hl 0 rfl) ?_
          refine va_get (D := D) (ci := 4) (v := .ref (a 7)) (C := RX1) (T := TX1) (N := 16) hx hb hts hinX1 hown hK hP 0 rfl rfl 10 (by decide) (hts (.fieldLink RX1 43 "BridgeAuction$Game" "ferries" "[I") (by decide +kernel)) (fun _ h9 => h9) rfl dX1_judgeFerry_42 ?_
          refine lv_iload_n hx hb dX1_judgeFerry_45 rfl (lv_at hl 2 rfl) ?_
          obtain ⟨ehn_4, lhn_4⟩ := nat_of (x := y) (n := 12) (by first | assumption) (by omega)
          refine topN ehn_4 ?_
          refine ialdN (tys := tyA C) hx hb hK hP 7 0 rfl rfl (i := y.toNatClampNeg) (by omega) (by decide) dX1_judgeFerry_46 ?_
          refine lv_iconst (v := (-1)) hx hb dX1_judgeFerry_47 (by decide) ?_
          refine lv_icmp_eq (tgt := 55) hx hb dX1_judgeFerry_48 (by decide) (fun c_48 => ?_) (fun c_48 => ?_)
          · have hz := hz.trans (if_pos c_48)
            refine lv_aload_n hx hb dX1_judgeFerry_55 rfl (lv_at hl 0 rfl) ?_
            refine va_get (D := D) (ci := 4) (v := .ref (a 1)) (C := RX1) (T := TX1) (N := 16) hx hb hts hinX1 hown hK hP 0 rfl rfl 0 (by decide) (hts (.fieldLink RX1 9 "BridgeAuction$Game" "suits" "[I") (by decide +kernel)) (fun _ h9 => h9) rfl dX1_judgeFerry_56 ?_
            refine lv_aload_n hx hb dX1_judgeFerry_59 rfl (lv_at hl 0 rfl) ?_
            refine va_get (D := D) (ci := 4) (v := .ref (a 3)) (C := RX1) (T := TX1) (N := 16) hx hb hts hinX1 hown hK hP 0 rfl rfl 6 (by decide) (hts (.fieldLink RX1 31 "BridgeAuction$Game" "lowers" "[I") (by decide +kernel)) (fun _ h9 => h9) rfl dX1_judgeFerry_60 ?_
            refine lv_iload_n hx hb dX1_judgeFerry_63 rfl (lv_at hl 2 rfl) ?_
            obtain ⟨ehn_5, lhn_5⟩ := nat_of (x := y) (n := 12) (by first | assumption) (by omega)
            refine topN ehn_5 ?_
            refine ialdN (tys := tyA C) hx hb hK hP 3 0 rfl rfl (i := y.toNatClampNeg) (by omega) (by decide) dX1_judgeFerry_64 ?_
            have hb_6 := hlo (y.toNatClampNeg)
            refine ialdN (tys := tyA C) hx hb hK hP 1 0 rfl rfl (i := ((gLo G) y.toNatClampNeg)) (by omega) (by decide) dX1_judgeFerry_65 ?_
            refine lv_iload_n hx hb dX1_judgeFerry_66 rfl (lv_at hl 1 rfl) ?_
            refine lv_icmp_eq (tgt := 85) hx hb dX1_judgeFerry_67 (by decide) (fun c_67 => ?_) (fun c_67 => ?_)
            · have hz := hz.trans (if_pos c_67)
              exact J85  ls hz  (lv_sub hl [] rfl)
            · have hz := hz.trans (if_neg c_67)
              refine lv_aload_n hx hb dX1_judgeFerry_70 rfl (lv_at hl 0 rfl) ?_
              refine va_get (D := D) (ci := 4) (v := .ref (a 1)) (C := RX1) (T := TX1) (N := 16) hx hb hts hinX1 hown hK hP 0 rfl rfl 0 (by decide) (hts (.fieldLink RX1 9 "BridgeAuction$Game" "suits" "[I") (by decide +kernel)) (fun _ h9 => h9) rfl dX1_judgeFerry_71 ?_
              refine lv_aload_n hx hb dX1_judgeFerry_74 rfl (lv_at hl 0 rfl) ?_
              refine va_get (D := D) (ci := 4) (v := .ref (a 4)) (C := RX1) (T := TX1) (N := 16) hx hb hts hinX1 hown hK hP 0 rfl rfl 7 (by decide) (hts (.fieldLink RX1 34 "BridgeAuction$Game" "highers" "[I") (by decide +kernel)) (fun _ h9 => h9) rfl dX1_judgeFerry_75 ?_
              refine lv_iload_n hx hb dX1_judgeFerry_78 rfl (lv_at hl 2 rfl) ?_
              obtain ⟨ehn_7, lhn_7⟩ := nat_of (x := y) (n := 12) (by first | assumption) (by omega)
              refine topN ehn_7 ?_
              refine ialdN (tys := tyA C) hx hb hK hP 4 0 rfl rfl (i := y.toNatClampNeg) (by omega) (by decide) dX1_judgeFerry_79 ?_
              have hb_8 := hhi (y.toNatClampNeg)
              refine ialdN (tys := tyA C) hx hb hK hP 1 0 rfl rfl (i := ((gHi G) y.toNatClampNeg)) (by omega) (by decide) dX1_judgeFerry_80 ?_
              refine lv_iload_n hx hb dX1_judgeFerry_81 rfl (lv_at hl 1 rfl) ?_
              refine lv_icmp_ne (tgt := 89) hx hb dX1_judgeFerry_82 (by decide) (fun c_82 => ?_) (fun c_82 => ?_)
              · have hz := hz.trans (if_neg c_82)
                refine lv_iconst (v := 0) hx hb dX1_judgeFerry_89 (by decide) ?_
                exact J90 (false) ls hz  (lv_sub hl [] rfl)
              · have hz := hz.trans (if_pos c_82)
                exact J85  ls hz  (lv_sub hl [] rfl)
          · have hz := hz.trans (if_neg c_48)
            exact J51  ls hz  (lv_sub hl [] rfl)
      · have hz := hz.trans (ifB_f c_26)
        refine va_gets (v := .ref (ev 5)) (C := "BridgeAuction$Verdict") (n := "NOT_FOUND") (d := "LBridgeAuction$Verdict;") hx hb (hV.1 5 (by decide)).1 hS hown (hts (.fieldLink RX1 165 "BridgeAuction$Verdict" "NOT_FOUND" "LBridgeAuction$Verdict;") (by decide +kernel)) (fun _ h9 => h9) dX1_judgeFerry_29 ?_
        exact ro_retA hx hb hr (congrArg (fun q => ev q) (show _ = 5 from hz)) dX1_judgeFerry_32 hlocks
    · have hz := hz.trans (ifB_f c_13)
      exact J16  ls hz  (lv_sub hl [] rfl)

