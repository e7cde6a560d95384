def f_X1_judgeSettling_j42  (s0_42 : Nat) : Nat := s0_42
def f_X1_judgeSettling (G : GS) (x : Int32) : Nat := (if (f_X1_isSite G (x)) = true then (if (f_X1_hasBridge G (x.toNatClampNeg)) = true then 3 else (if (f_X1_winnerOf G (x.toNatClampNeg)) = (-1) then (f_X1_judgeSettling_j42 (5)) else (f_X1_judgeSettling_j42 (0)))) else 1)
set_option maxHeartbeats 4000000 in
set_option maxRecDepth 100000 in
theorem c_X1_judgeSettling (l : Launch) (D : va_G) (C : Nat → ClassId) (ev : Nat → Nat) (a : Nat → Nat) (G : GS) (x : Int32) (hG : GSafe G) : Met l yX1_judgeSettling wsX1_judgeSettling ({ frames := 3, cells := 0, slots := 0, locals := 67 } : Room) (roPE [.ref (a 0), .int x] D C ev (gcells C a G)) (roO (some (.ref (ev (f_X1_judgeSettling G x))))) 0 0 (fun _ => False) := by
  refine Met.ofW (cc := cX1_judgeSettling) (maxL := 2) (ret := (some (.object "BridgeAuction$Verdict"))) (by decide) rfl ?_
  intro p e s m args below meth c s₁ B hml hv
  obtain ⟨rfl, hP, hK, hE, hR, hX⟩ := hv
  have hx := B.exec
  have hb := B.bytes
  have hr := B.returns
  have hts := atoms_spec (ws := wsX1_judgeSettling) B.pre
  have hown : s.vm.findClass RX1 = some m.cls := findClass_of_methodNamed B.named
  have hlocks := B.notSynchronized
  have hS : va_S (fun _ => False) s.heap s.heap [] := va_S.rf
  obtain ⟨⟨hV, hB, hMV, hMB, hAL, hEk, hEa, hTX, hXZ⟩, hCS, hSF⟩ := id hX
  obtain ⟨hS12, hP4, hlo, hhi⟩ := id hG
  have hl := lv_entry ([.ref (a 0), .int x]) (n := 2) (Nat.le_of_ble_eq_true rfl)
  rw [lg_entry_eq]
  generalize (lg_sl ([.ref (a 0), .int x]) ++ List.replicate (2 - (lg_sl ([.ref (a 0), .int x])).length) Slot.unset).toArray = ls at hl ⊢
  have hl : lv_has ls 2 [(0, .ref (a 0)), (1, .int x)] := hl
  obtain ⟨z, hz⟩ : ∃ z, z = f_X1_judgeSettling G x := ⟨_, rfl⟩
  rw [← hz]
  have J42 : ∀ (s0_42 : Nat)  (ls : Array Slot), z = f_X1_judgeSettling_j42 s0_42 → lv_has ls 2 [] → W p l e ({ frames := 3, cells := 0, slots := 0, locals := 67 } : Room) s m ([.ref (a 0), .int x] : List Value).toArray below meth c s.heap [] 0 0 (MQ below (roO (some (.ref (ev z)))) ([.ref (a 0), .int x] : List Value).toArray s 0 0 (fun _ => False)) (F0 m 42 ls [.ref (ev s0_42)]) := by
    intro s0_42 ls hz  hl
    exact ro_retA hx hb hr (congrArg (fun q => ev q) (show _ = s0_42 from hz)) dX1_judgeSettling_42 hlocks
  refine lv_aload_n hx hb dX1_judgeSettling_0 rfl (lv_at hl 0 rfl) ?_
  refine lv_iload_n hx hb dX1_judgeSettling_1 rfl (lv_at hl 1 rfl) ?_
  refine callRo (va_runV (As := [.int x]) (rest := []) ⟨hx, hb, hml, hown, hts⟩ (c_X1_isSite l D C a G (x) hG) (cwV 1 hts gX1_judgeSettling_X1_isSite rfl rfl rfl (by decide +kernel) ⟨Nat.le_of_ble_eq_true rfl, Nat.le_of_ble_eq_true rfl⟩) (roP_v hP hK hE (va_recv hK hP (ci := 4) (q0 := 0) rfl rfl)) rfl rfl hl.1 rfl (lv_room (Nat.le_of_ble_eq_true rfl)) dX1_judgeSettling_2 ⟨Nat.le_refl _, Nat.le_refl _⟩) ?_
  refine bif_ne (tgt := 12) hx hb dX1_judgeSettling_5 (by decide) (fun c_5 => ?_) (fun c_5 => ?_)
  · have hz := hz.trans (ifB_t c_5)
    have hs := vp_mono (X1_isSite_in hG c_5) hS12
    refine lv_aload_n hx hb dX1_judgeSettling_12 rfl (lv_at hl 0 rfl) ?_
    refine lv_iload_n hx hb dX1_judgeSettling_13 rfl (lv_at hl 1 rfl) ?_
    obtain ⟨ehn_1, lhn_1⟩ := nat_of (x := x) (n := 12) (by first | assumption) (by omega)
    refine topN ehn_1 ?_
    refine callRo (va_runV (As := [.int (nI x.toNatClampNeg)]) (rest := []) ⟨hx, hb, hml, hown, hts⟩ (c_X1_hasBridge l D C a G (x.toNatClampNeg) hG (by omega)) (cwV 1 hts gX1_judgeSettling_X1_hasBridge rfl rfl rfl (by decide +kernel) ⟨Nat.le_of_ble_eq_true rfl, Nat.le_of_ble_eq_true rfl⟩) (roP_v hP hK hE (va_recv hK hP (ci := 4) (q0 := 0) rfl rfl)) rfl rfl hl.1 rfl (lv_room (Nat.le_of_ble_eq_true rfl)) dX1_judgeSettling_14 ⟨Nat.le_refl _, Nat.le_refl _⟩) ?_
    refine bif_eq (tgt := 24) hx hb dX1_judgeSettling_17 (by decide) (fun c_17 => ?_) (fun c_17 => ?_)
    · have hz := hz.trans (ifB_f c_17)
      refine lv_aload_n hx hb dX1_judgeSettling_24 rfl (lv_at hl 0 rfl) ?_
      refine lv_iload_n hx hb dX1_judgeSettling_25 rfl (lv_at hl 1 rfl) ?_
      obtain ⟨ehn_2, lhn_2⟩ := nat_of (x := x) (n := 12) (by first | assumption) (by omega)
      refine topN ehn_2 ?_
      refine callRo (va_runV (As := [.int (nI x.toNatClampNeg)]) (rest := []) ⟨hx, hb, hml, hown, hts⟩ (c_X1_winnerOf l D C a G (x.toNatClampNeg) hG (by omega)) (cwV 1 hts gX1_judgeSettling_X1_winnerOf rfl rfl rfl (by decide +kernel) ⟨Nat.le_of_ble_eq_true rfl, Nat.le_of_ble_eq_true rfl⟩) (roP_v hP hK hE (va_recv hK hP (ci := 4) (q0 := 0) rfl rfl)) rfl rfl hl.1 rfl (lv_room (Nat.le_of_ble_eq_true rfl)) dX1_judgeSettling_26 ⟨Nat.le_refl _, Nat.le_refl _⟩) ?_
      refine lv_iconst (v := (-1)) hx hb dX1_judgeSettling_29 (by decide) ?_
      refine lv_icmp_ne (tgt := 39) hx hb dX1_judgeSettling_30 (by decide) (fun c_30 => ?_) (fun c_30 => ?_)
      · have hz := hz.trans (if_neg c_30)
        refine va_gets (v := .ref (ev 0)) (C := "BridgeAuction$Verdict") (n := "FINE") (d := "LBridgeAuction$Verdict;") hx hb (hV.1 0 (by decide)).1 hS hown (hts (.fieldLink RX1 117 "BridgeAuction$Verdict" "FINE" "LBridgeAuction$Verdict;") (by decide +kernel)) (fun _ h9 => h9) dX1_judgeSettling_39 ?_
        exact J42 (0) ls hz  (lv_sub hl [] rfl)
      · have hz := hz.trans (if_pos c_30)
        refine va_gets (v := .ref (ev 5)) (C := "BridgeAuction$Verdict") (n := "NOT_FOUND") (d := "LBridgeAuction$Verdict;") hx hb (hV.1 5 (by decide)).1 hS hown (hts (.fieldLink RX1 165 "BridgeAuction$Verdict" "NOT_FOUND" "LBridgeAuction$Verdict;") (by decide +kernel)) (fun _ h9 => h9) dX1_judgeSettling_33 ?_
        refine lv_goto (tgt := 42) hx hb dX1_judgeSettling_36 (by decide) ?_
        exact J42 (5) ls hz  (lv_sub hl [] rfl)
    · have hz := hz.trans (ifB_t c_17)
      refine va_gets (v := .ref (ev 3)) (C := "BridgeAuction$Verdict") (n := "WRONG_STATE") (d := "LBridgeAuction$Verdict;") hx hb (hV.1 3 (by decide)).1 hS hown (hts (.fieldLink RX1 114 "BridgeAuction$Verdict" "WRONG_STATE" "LBridgeAuction$Verdict;") (by decide +kernel)) (fun _ h9 => h9) dX1_judgeSettling_20 ?_
      exact ro_retA hx hb hr (congrArg (fun q => ev q) (show _ = 3 from hz)) dX1_judgeSettling_23 hlocks
  · have hz := hz.trans (ifB_f c_5)
    refine va_gets (v := .ref (ev 1)) (C := "BridgeAuction$Verdict") (n := "NO_SUCH_INDEX") (d := "LBridgeAuction$Verdict;") hx hb (hV.1 1 (by decide)).1 hS hown (hts (.fieldLink RX1 124 "BridgeAuction$Verdict" "NO_SUCH_INDEX" "LBridgeAuction$Verdict;") (by decide +kernel)) (fun _ h9 => h9) dX1_judgeSettling_8 ?_
    exact ro_retA hx hb hr (congrArg (fun q => ev q) (show _ = 1 from hz)) dX1_judgeSettling_11 hlocks

