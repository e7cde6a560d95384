def f_X1_judgeSuit_j29  (s0_29 : Nat) : Nat := s0_29
def f_X1_judgeSuit_j20  : Nat := (f_X1_judgeSuit_j29 (2))
def f_X1_judgeSuit (G : GS) (x : Int32) (y : Int32) : Nat := (if (f_X1_isIsland (x)) = true then (if y < 0 then (f_X1_judgeSuit_j20) else (if y < 4 then (f_X1_judgeSuit_j29 (0)) else (f_X1_judgeSuit_j20))) else 1)
set_option maxHeartbeats 4000000 in
set_option maxRecDepth 100000 in
theorem c_X1_judgeSuit (l : Launch) (D : va_G) (C : Nat → ClassId) (ev : Nat → Nat) (a : Nat → Nat) (G : GS) (x : Int32) (y : Int32) (hG : GSafe G) : Met l yX1_judgeSuit wsX1_judgeSuit ({ frames := 1, cells := 0, slots := 0, locals := 20 } : Room) (roPE [.ref (a 0), .int x, .int y] D C ev (gcells C a G)) (roO (some (.ref (ev (f_X1_judgeSuit G x y))))) 0 0 (fun _ => False) := by
  refine Met.ofW (cc := cX1_judgeSuit) (maxL := 3) (ret := (some (.object "BridgeAuction$Verdict"))) (by decide) rfl ?_
  intro p e s m args below meth c s₁ B hml hv
  obtain ⟨rfl, hP, hK, hE, hR, hX⟩ := hv
  have hx := B.exec
  have hb := B.bytes
  have hr := B.returns
  have hts := atoms_spec (ws := wsX1_judgeSuit) B.pre
  have hown : s.vm.findClass RX1 = some m.cls := findClass_of_methodNamed B.named
  have hlocks := B.notSynchronized
  have hS : va_S (fun _ => False) s.heap s.heap [] := va_S.rf
  obtain ⟨⟨hV, hB, hMV, hMB, hAL, hEk, hEa, hTX, hXZ⟩, hCS, hSF⟩ := id hX
  obtain ⟨hS12, hP4, hlo, hhi⟩ := id hG
  have hl := lv_entry ([.ref (a 0), .int x, .int y]) (n := 3) (Nat.le_of_ble_eq_true rfl)
  rw [lg_entry_eq]
  generalize (lg_sl ([.ref (a 0), .int x, .int y]) ++ List.replicate (3 - (lg_sl ([.ref (a 0), .int x, .int y])).length) Slot.unset).toArray = ls at hl ⊢
  have hl : lv_has ls 3 [(0, .ref (a 0)), (1, .int x), (2, .int y)] := hl
  obtain ⟨z, hz⟩ : ∃ z, z = f_X1_judgeSuit G x y := ⟨_, rfl⟩
  rw [← hz]
  have J29 : ∀ (s0_29 : Nat)  (ls : Array Slot), z = f_X1_judgeSuit_j29 s0_29 → lv_has ls 3 [] → W p l e ({ frames := 1, cells := 0, slots := 0, locals := 20 } : Room) s m ([.ref (a 0), .int x, .int y] : List Value).toArray below meth c s.heap [] 0 0 (MQ below (roO (some (.ref (ev z)))) ([.ref (a 0), .int x, .int y] : List Value).toArray s 0 0 (fun _ => False)) (F0 m 29 ls [.ref (ev s0_29)]) := by
    intro s0_29 ls hz  hl
    exact ro_retA hx hb hr (congrArg (fun q => ev q) (show _ = s0_29 from hz)) dX1_judgeSuit_29 hlocks
  have J20 : ∀  (ls : Array Slot), z = f_X1_judgeSuit_j20 → lv_has ls 3 [] → W p l e ({ frames := 1, cells := 0, slots := 0, locals := 20 } : Room) s m ([.ref (a 0), .int x, .int y] : List Value).toArray below meth c s.heap [] 0 0 (MQ below (roO (some (.ref (ev z)))) ([.ref (a 0), .int x, .int y] : List Value).toArray s 0 0 (fun _ => False)) (F0 m 20 ls []) := by
    intro  ls hz  hl
    refine va_gets (v := .ref (ev 2)) (C := "BridgeAuction$Verdict") (n := "BAD_ARGUMENT") (d := "LBridgeAuction$Verdict;") hx hb (hV.1 2 (by decide)).1 hS hown (hts (.fieldLink RX1 108 "BridgeAuction$Verdict" "BAD_ARGUMENT" "LBridgeAuction$Verdict;") (by decide +kernel)) (fun _ h9 => h9) dX1_judgeSuit_20 ?_
    refine lv_goto (tgt := 29) hx hb dX1_judgeSuit_23 (by decide) ?_
    exact J29 (2) ls hz  (lv_sub hl [] rfl)
  refine lv_iload_n hx hb dX1_judgeSuit_0 rfl (lv_at hl 1 rfl) ?_
  refine callRo (va_runS (As := [.int x]) (rest := []) ⟨hx, hb, hml, hown, hts⟩ (c_X1_isIsland l D C (x)) (va_cwS 1 hts gX1_judgeSuit_X1_isIsland rfl rfl rfl (by decide +kernel) ⟨Nat.le_of_ble_eq_true rfl, Nat.le_of_ble_eq_true rfl⟩) (roP_s (hP.sub (ws' := ([] : va_W)) [] rfl) hK hE) rfl rfl hl.1 rfl (lv_room (Nat.le_of_ble_eq_true rfl)) dX1_judgeSuit_1 ⟨Nat.le_refl _, Nat.le_refl _⟩) ?_
  refine bif_ne (tgt := 11) hx hb dX1_judgeSuit_4 (by decide) (fun c_4 => ?_) (fun c_4 => ?_)
  · have hz := hz.trans (ifB_t c_4)
    refine lv_iload_n hx hb dX1_judgeSuit_11 rfl (lv_at hl 2 rfl) ?_
    refine lv_if_lt (tgt := 20) hx hb dX1_judgeSuit_12 (by decide) (fun c_12 => ?_) (fun c_12 => ?_)
    · have hz := hz.trans (if_pos c_12)
      exact J20  ls hz  (lv_sub hl [] rfl)
    · have hz := hz.trans (if_neg c_12)
      refine lv_iload_n hx hb dX1_judgeSuit_15 rfl (lv_at hl 2 rfl) ?_
      refine lv_iconst (v := 4) hx hb dX1_judgeSuit_16 (by decide) ?_
      refine lv_icmp_lt (tgt := 26) hx hb dX1_judgeSuit_17 (by decide) (fun c_17 => ?_) (fun c_17 => ?_)
      · have hz := hz.trans (if_pos c_17)
        refine va_gets (v := .ref (ev 0)) (C := "BridgeAuction$Verdict") (n := "FINE") (d := "LBridgeAuction$Verdict;") hx hb (hV.1 0 (by decide)).1 hS hown (hts (.fieldLink RX1 117 "BridgeAuction$Verdict" "FINE" "LBridgeAuction$Verdict;") (by decide +kernel)) (fun _ h9 => h9) dX1_judgeSuit_26 ?_
        exact J29 (0) ls hz  (lv_sub hl [] rfl)
      · have hz := hz.trans (if_neg c_17)
        exact J20  ls hz  (lv_sub hl [] rfl)
  · have hz := hz.trans (ifB_f c_4)
    refine va_gets (v := .ref (ev 1)) (C := "BridgeAuction$Verdict") (n := "NO_SUCH_INDEX") (d := "LBridgeAuction$Verdict;") hx hb (hV.1 1 (by decide)).1 hS hown (hts (.fieldLink RX1 124 "BridgeAuction$Verdict" "NO_SUCH_INDEX" "LBridgeAuction$Verdict;") (by decide +kernel)) (fun _ h9 => h9) dX1_judgeSuit_7 ?_
    exact ro_retA hx hb hr (congrArg (fun q => ev q) (show _ = 1 from hz)) dX1_judgeSuit_10 hlocks

