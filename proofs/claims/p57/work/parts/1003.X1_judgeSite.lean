def f_X1_judgeSite_j77  (s0_77 : Nat) : Nat := s0_77
def f_X1_judgeSite_j34  : Nat := 2
def f_X1_judgeSite_j14  : Nat := 1
def f_X1_judgeSite (G : GS) (x : Int32) (y : Int32) (w : Int32) : Nat := (if (f_X1_isIsland (x)) = true then (if (f_X1_isIsland (y)) = true then (if x = y then (f_X1_judgeSite_j34) else (if w < 1 then (f_X1_judgeSite_j34) else (if w ≤ 9 then (if (f_X1_hasSiteBetween G ((imin x y)) ((imax x y))) = true then 4 else (if (nI (gS G)) = 12 then (f_X1_judgeSite_j77 (3)) else (f_X1_judgeSite_j77 (0)))) else (f_X1_judgeSite_j34)))) else (f_X1_judgeSite_j14)) else (f_X1_judgeSite_j14))
set_option maxHeartbeats 4000000 in
set_option maxRecDepth 100000 in
theorem c_X1_judgeSite (l : Launch) (D : va_G) (C : Nat → ClassId) (ev : Nat → Nat) (a : Nat → Nat) (G : GS) (x : Int32) (y : Int32) (w : Int32) (hG : GSafe G) : Met l yX1_judgeSite wsX1_judgeSite ({ frames := 1, cells := 0, slots := 0, locals := 23 } : Room) (roPE [.ref (a 0), .int x, .int y, .int w] D C ev (gcells C a G)) (roO (some (.ref (ev (f_X1_judgeSite G x y w))))) 0 0 (fun _ => False) := by
  refine Met.ofW (cc := cX1_judgeSite) (maxL := 4) (ret := (some (.object "BridgeAuction$Verdict"))) (by decide) rfl ?_
  intro p e s m args below meth c s₁ B hml hv
  obtain ⟨rfl, hP, hK, hE, hR, hX⟩ := hv
  have hx := B.exec
  have hb := B.bytes
  have hr := B.returns
  have hts := atoms_spec (ws := wsX1_judgeSite) B.pre
  have hown : s.vm.findClass RX1 = some m.cls := findClass_of_methodNamed B.named
  have hlocks := B.notSynchronized
  have hS : va_S (fun _ => False) s.heap s.heap [] := va_S.rf
  obtain ⟨⟨hV, hB, hMV, hMB, hAL, hEk, hEa, hTX, hXZ⟩, hCS, hSF⟩ := id hX
  obtain ⟨hS12, hP4, hlo, hhi⟩ := id hG
  have hinX1 : ∀ w ∈ u_ws RX1 TX1 16, w ∈ wsX1_judgeSite := by decide +kernel
  have hl := lv_entry ([.ref (a 0), .int x, .int y, .int w]) (n := 4) (Nat.le_of_ble_eq_true rfl)
  rw [lg_entry_eq]
  generalize (lg_sl ([.ref (a 0), .int x, .int y, .int w]) ++ List.replicate (4 - (lg_sl ([.ref (a 0), .int x, .int y, .int w])).length) Slot.unset).toArray = ls at hl ⊢
  have hl : lv_has ls 4 [(0, .ref (a 0)), (1, .int x), (2, .int y), (3, .int w)] := hl
  obtain ⟨z, hz⟩ : ∃ z, z = f_X1_judgeSite G x y w := ⟨_, rfl⟩
  rw [← hz]
  have J77 : ∀ (s0_77 : Nat)  (ls : Array Slot), z = f_X1_judgeSite_j77 s0_77 → lv_has ls 4 [] → W p l e ({ frames := 1, cells := 0, slots := 0, locals := 23 } : Room) s m ([.ref (a 0), .int x, .int y, .int w] : List Value).toArray below meth c s.heap [] 0 0 (MQ below (roO (some (.ref (ev z)))) ([.ref (a 0), .int x, .int y, .int w] : List Value).toArray s 0 0 (fun _ => False)) (F0 m 77 ls [.ref (ev s0_77)]) := by
    intro s0_77 ls hz  hl
    exact ro_retA hx hb hr (congrArg (fun q => ev q) (show _ = s0_77 from hz)) dX1_judgeSite_77 hlocks
  have J34 : ∀  (ls : Array Slot), z = f_X1_judgeSite_j34 → lv_has ls 4 [] → W p l e ({ frames := 1, cells := 0, slots := 0, locals := 23 } : Room) s m ([.ref (a 0), .int x, .int y, .int w] : List Value).toArray below meth c s.heap [] 0 0 (MQ below (roO (some (.ref (ev z)))) ([.ref (a 0), .int x, .int y, .int w] : List Value).toArray s 0 0 (fun _ => False)) (F0 m 34 ls []) := by
    intro  ls hz  hl
    refine va_gets (v := .ref (ev 2)) (C := "BridgeAuction$Verdict") (n := "BAD_ARGUMENT") (d := "LBridgeAuction$Verdict;") hx hb (hV.1 2 (by decide)).1 hS hown (hts (.fieldLink RX1 108 "BridgeAuction$Verdict" "BAD_ARGUMENT" "LBridgeAuction$Verdict;") (by decide +kernel)) (fun _ h9 => h9) dX1_judgeSite_34 ?_
    exact ro_retA hx hb hr (congrArg (fun q => ev q) (show _ = 2 from hz)) dX1_judgeSite_37 hlocks
  have J14 : ∀  (ls : Array Slot), z = f_X1_judgeSite_j14 → lv_has ls 4 [] → W p l e ({ frames := 1, cells := 0, slots := 0, locals := 23 } : Room) s m ([.ref (a 0), .int x, .int y, .int w] : List Value).toArray below meth c s.heap [] 0 0 (MQ below (roO (some (.ref (ev z)))) ([.ref (a 0), .int x, .int y, .int w] : List Value).toArray s 0 0 (fun _ => False)) (F0 m 14 ls []) := by
    intro  ls hz  hl
    refine va_gets (v := .ref (ev 1)) (C := "BridgeAuction$Verdict") (n := "NO_SUCH_INDEX") (d := "LBridgeAuction$Verdict;") hx hb (hV.1 1 (by decide)).1 hS hown (hts (.fieldLink RX1 124 "BridgeAuction$Verdict" "NO_SUCH_INDEX" "LBridgeAuction$Verdict;") (by decide +kernel)) (fun _ h9 => h9) dX1_judgeSite_14 ?_
    exact ro_retA hx hb hr (congrArg (fun q => ev q) (show _ = 1 from hz)) dX1_judgeSite_17 hlocks
  refine lv_iload_n hx hb dX1_judgeSite_0 rfl (lv_at hl 1 rfl) ?_
  refine callRo (va_runS (As := [.int x]) (rest := []) ⟨hx, hb, hml, hown, hts⟩ (c_X1_isIsland l D C (x)) (va_cwS 1 hts gX1_judgeSite_X1_isIsland rfl rfl rfl (by decide +kernel) ⟨Nat.le_of_ble_eq_true rfl, Nat.le_of_ble_eq_true rfl⟩) (roP_s (hP.sub (ws' := ([] : va_W)) [] rfl) hK hE) rfl rfl hl.1 rfl (lv_room (Nat.le_of_ble_eq_true rfl)) dX1_judgeSite_1 ⟨Nat.le_refl _, Nat.le_refl _⟩) ?_
  refine bif_eq (tgt := 14) hx hb dX1_judgeSite_4 (by decide) (fun c_4 => ?_) (fun c_4 => ?_)
  · have hz := hz.trans (ifB_f c_4)
    exact J14  ls hz  (lv_sub hl [] rfl)
  · have hz := hz.trans (ifB_t c_4)
    refine lv_iload_n hx hb dX1_judgeSite_7 rfl (lv_at hl 2 rfl) ?_
    refine callRo (va_runS (As := [.int y]) (rest := []) ⟨hx, hb, hml, hown, hts⟩ (c_X1_isIsland l D C (y)) (va_cwS 1 hts gX1_judgeSite_X1_isIsland rfl rfl rfl (by decide +kernel) ⟨Nat.le_of_ble_eq_true rfl, Nat.le_of_ble_eq_true rfl⟩) (roP_s (hP.sub (ws' := ([] : va_W)) [] rfl) hK hE) rfl rfl hl.1 rfl (lv_room (Nat.le_of_ble_eq_true rfl)) dX1_judgeSite_8 ⟨Nat.le_refl _, Nat.le_refl _⟩) ?_
    refine bif_ne (tgt := 18) hx hb dX1_judgeSite_11 (by decide) (fun c_11 => ?_) (fun c_11 => ?_)
    · have hz := hz.trans (ifB_t c_11)
      refine lv_iload_n hx hb dX1_judgeSite_18 rfl (lv_at hl 1 rfl) ?_
      refine lv_iload_n hx hb dX1_judgeSite_19 rfl (lv_at hl 2 rfl) ?_
      refine lv_icmp_eq (tgt := 34) hx hb dX1_judgeSite_20 (by decide) (fun c_20 => ?_) (fun c_20 => ?_)
      · have hz := hz.trans (if_pos c_20)
        exact J34  ls hz  (lv_sub hl [] rfl)
      · have hz := hz.trans (if_neg c_20)
        refine lv_iload_n hx hb dX1_judgeSite_23 rfl (lv_at hl 3 rfl) ?_
        refine lv_iconst (v := 1) hx hb dX1_judgeSite_24 (by decide) ?_
        refine lv_icmp_lt (tgt := 34) hx hb dX1_judgeSite_25 (by decide) (fun c_25 => ?_) (fun c_25 => ?_)
        · have hz := hz.trans (if_pos c_25)
          exact J34  ls hz  (lv_sub hl [] rfl)
        · have hz := hz.trans (if_neg c_25)
          refine lv_iload_n hx hb dX1_judgeSite_28 rfl (lv_at hl 3 rfl) ?_
          refine lv_bipush (v := 9) hx hb dX1_judgeSite_29 (by decide +kernel) ?_
          refine lv_icmp_le (tgt := 38) hx hb dX1_judgeSite_31 (by decide) (fun c_31 => ?_) (fun c_31 => ?_)
          · have hz := hz.trans (if_pos c_31)
            refine lv_aload_n hx hb dX1_judgeSite_38 rfl (lv_at hl 0 rfl) ?_
            refine lv_iload_n hx hb dX1_judgeSite_39 rfl (lv_at hl 1 rfl) ?_
            refine lv_iload_n hx hb dX1_judgeSite_40 rfl (lv_at hl 2 rfl) ?_
            refine va_mmin hx hb (hml.trans hl.1.symm) hown (hts (.methodLink RX1 127 Lib.Math.min.name) (by decide +kernel)) (hts (.static Lib.Math.min.name) (by decide +kernel)) (hts (.initialized "java/lang/Math") (by decide +kernel)) (hts (.code Lib.Math.min.name Lib.Math.min.code 2 (some .int)) (by decide +kernel)) (Nat.le_of_ble_eq_true rfl) (Nat.le_of_ble_eq_true rfl) (Nat.le_of_ble_eq_true rfl) (Nat.le_of_ble_eq_true rfl) dX1_judgeSite_41 ?_
            refine topI (y := (imin x y)) rfl ?_
            refine lv_iload_n hx hb dX1_judgeSite_44 rfl (lv_at hl 1 rfl) ?_
            refine lv_iload_n hx hb dX1_judgeSite_45 rfl (lv_at hl 2 rfl) ?_
            refine va_mmax hx hb (hml.trans hl.1.symm) hown (hts (.methodLink RX1 133 Lib.Math.max.name) (by decide +kernel)) (hts (.static Lib.Math.max.name) (by decide +kernel)) (hts (.initialized "java/lang/Math") (by decide +kernel)) (hts (.code Lib.Math.max.name Lib.Math.max.code 2 (some .int)) (by decide +kernel)) (Nat.le_of_ble_eq_true rfl) (Nat.le_of_ble_eq_true rfl) (Nat.le_of_ble_eq_true rfl) (Nat.le_of_ble_eq_true rfl) dX1_judgeSite_46 ?_
            refine topI (y := (imax x y)) rfl ?_
            refine callRo (va_runV (As := [.int (imin x y), .int (imax x y)]) (rest := []) ⟨hx, hb, hml, hown, hts⟩ (c_X1_hasSiteBetween l D C a G ((imin x y)) ((imax x y)) hG) (cwV 2 hts gX1_judgeSite_X1_hasSiteBetween rfl rfl rfl (by decide +kernel) ⟨Nat.le_of_ble_eq_true rfl, Nat.le_of_ble_eq_true rfl⟩) (roP_v hP hK hE (va_recv hK hP (ci := 4) (q0 := 0) rfl rfl)) rfl rfl hl.1 rfl (lv_room (Nat.le_of_ble_eq_true rfl)) dX1_judgeSite_49 ⟨Nat.le_refl _, Nat.le_refl _⟩) ?_
            refine bif_eq (tgt := 59) hx hb dX1_judgeSite_52 (by decide) (fun c_52 => ?_) (fun c_52 => ?_)
            · have hz := hz.trans (ifB_f c_52)
              refine lv_aload_n hx hb dX1_judgeSite_59 rfl (lv_at hl 0 rfl) ?_
              refine va_get (D := D) (ci := 4) (v := .int (nI (gS G))) (C := RX1) (T := TX1) (N := 16) hx hb hts hinX1 hown hK hP 0 rfl rfl 5 (by decide) (hts (.fieldLink RX1 28 "BridgeAuction$Game" "sites" "I") (by decide +kernel)) (fun _ h9 => h9) rfl dX1_judgeSite_60 ?_
              refine lv_bipush (v := 12) hx hb dX1_judgeSite_63 (by decide +kernel) ?_
              refine lv_icmp_ne (tgt := 74) hx hb dX1_judgeSite_65 (by decide) (fun c_65 => ?_) (fun c_65 => ?_)
              · have hz := hz.trans (if_neg c_65)
                refine va_gets (v := .ref (ev 0)) (C := "BridgeAuction$Verdict") (n := "FINE") (d := "LBridgeAuction$Verdict;") hx hb (hV.1 0 (by decide)).1 hS hown (hts (.fieldLink RX1 117 "BridgeAuction$Verdict" "FINE" "LBridgeAuction$Verdict;") (by decide +kernel)) (fun _ h9 => h9) dX1_judgeSite_74 ?_
                exact J77 (0) ls hz  (lv_sub hl [] rfl)
              · have hz := hz.trans (if_pos c_65)
                refine va_gets (v := .ref (ev 3)) (C := "BridgeAuction$Verdict") (n := "WRONG_STATE") (d := "LBridgeAuction$Verdict;") hx hb (hV.1 3 (by decide)).1 hS hown (hts (.fieldLink RX1 114 "BridgeAuction$Verdict" "WRONG_STATE" "LBridgeAuction$Verdict;") (by decide +kernel)) (fun _ h9 => h9) dX1_judgeSite_68 ?_
                refine lv_goto (tgt := 77) hx hb dX1_judgeSite_71 (by decide) ?_
                exact J77 (3) ls hz  (lv_sub hl [] rfl)
            · have hz := hz.trans (ifB_t c_52)
              refine va_gets (v := .ref (ev 4)) (C := "BridgeAuction$Verdict") (n := "NOT_ALLOWED") (d := "LBridgeAuction$Verdict;") hx hb (hV.1 4 (by decide)).1 hS hown (hts (.fieldLink RX1 140 "BridgeAuction$Verdict" "NOT_ALLOWED" "LBridgeAuction$Verdict;") (by decide +kernel)) (fun _ h9 => h9) dX1_judgeSite_55 ?_
              exact ro_retA hx hb hr (congrArg (fun q => ev q) (show _ = 4 from hz)) dX1_judgeSite_58 hlocks
          · have hz := hz.trans (if_neg c_31)
            exact J34  ls hz  (lv_sub hl [] rfl)
    · have hz := hz.trans (ifB_f c_11)
      exact J14  ls hz  (lv_sub hl [] rfl)

