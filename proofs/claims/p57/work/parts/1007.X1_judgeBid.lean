theorem X1_judgeBluff_lt (G : GS) (x y w : Int32) : f_X1_judgeBluff G x y w < 6 := by
  simp only [f_X1_judgeBluff, f_X1_judgeBluff_j67, f_X1_judgeBluff_j31, f_X1_judgeBluff_j16]
  repeat' split
  all_goals decide
theorem X1_judgeBluff_0 {G : GS} (hG : GSafe G) {x y w : Int32} (h : f_X1_judgeBluff G x y w = 0) : vp_in x (gP G) ∧ vp_in y (gS G) := by
  simp only [f_X1_judgeBluff, f_X1_judgeBluff_j67, f_X1_judgeBluff_j31, f_X1_judgeBluff_j16] at h
  split at h
  · rename_i c1
    split at h
    · rename_i c2
      exact ⟨X1_isPlayer_in hG c1, X1_isSite_in hG c2⟩
    · exact absurd h (by decide)
  · exact absurd h (by decide)
def f_X1_judgeBid_j49  (s0_49 : Nat) : Nat := s0_49
def f_X1_judgeBid (G : GS) (x : Int32) (y : Int32) (w : Int32) : Nat := (if (f_X1_judgeBluff G (x) (y) (w)) = 0 then (if w ≤ ((f_X1_availableTo G (x.toNatClampNeg)) + (f_X1_reservedBy G (x.toNatClampNeg) (y.toNatClampNeg))) then (f_X1_judgeBid_j49 (0)) else (f_X1_judgeBid_j49 (4))) else (f_X1_judgeBluff G (x) (y) (w)))
set_option maxHeartbeats 4000000 in
set_option maxRecDepth 100000 in
theorem c_X1_judgeBid (l : Launch) (D : va_G) (C : Nat → ClassId) (ev : Nat → Nat) (a : Nat → Nat) (G : GS) (x : Int32) (y : Int32) (w : Int32) (hG : GSafe G) : Met l yX1_judgeBid wsX1_judgeBid ({ frames := 4, cells := 0, slots := 0, locals := 90 } : Room) (roPE [.ref (a 0), .int x, .int y, .int w] D C ev (gcells C a G)) (roO (some (.ref (ev (f_X1_judgeBid G x y w))))) 0 0 (fun _ => False) := by
  refine Met.ofW (cc := cX1_judgeBid) (maxL := 6) (ret := (some (.object "BridgeAuction$Verdict"))) (by decide) rfl ?_
  intro p e s m args below meth c s₁ B hml hv
  obtain ⟨rfl, hP, hK, hE, hR, hX⟩ := hv
  have hx := B.exec
  have hb := B.bytes
  have hr := B.returns
  have hts := atoms_spec (ws := wsX1_judgeBid) B.pre
  have hown : s.vm.findClass RX1 = some m.cls := findClass_of_methodNamed B.named
  have hlocks := B.notSynchronized
  have hS : va_S (fun _ => False) s.heap s.heap [] := va_S.rf
  obtain ⟨⟨hV, hB, hMV, hMB, hAL, hEk, hEa, hTX, hXZ⟩, hCS, hSF⟩ := id hX
  obtain ⟨hS12, hP4, hlo, hhi⟩ := id hG
  have hl := lv_entry ([.ref (a 0), .int x, .int y, .int w]) (n := 6) (Nat.le_of_ble_eq_true rfl)
  rw [lg_entry_eq]
  generalize (lg_sl ([.ref (a 0), .int x, .int y, .int w]) ++ List.replicate (6 - (lg_sl ([.ref (a 0), .int x, .int y, .int w])).length) Slot.unset).toArray = ls at hl ⊢
  have hl : lv_has ls 6 [(0, .ref (a 0)), (1, .int x), (2, .int y), (3, .int w)] := hl
  obtain ⟨z, hz⟩ : ∃ z, z = f_X1_judgeBid G x y w := ⟨_, rfl⟩
  rw [← hz]
  have J49 : ∀ (s0_49 : Nat)  (ls : Array Slot), z = f_X1_judgeBid_j49 s0_49 → lv_has ls 6 [] → W p l e ({ frames := 4, cells := 0, slots := 0, locals := 90 } : Room) s m ([.ref (a 0), .int x, .int y, .int w] : List Value).toArray below meth c s.heap [] 0 0 (MQ below (roO (some (.ref (ev z)))) ([.ref (a 0), .int x, .int y, .int w] : List Value).toArray s 0 0 (fun _ => False)) (F0 m 49 ls [.ref (ev s0_49)]) := by
    intro s0_49 ls hz  hl
    exact ro_retA hx hb hr (congrArg (fun q => ev q) (show _ = s0_49 from hz)) dX1_judgeBid_49 hlocks
  refine lv_aload_n hx hb dX1_judgeBid_0 rfl (lv_at hl 0 rfl) ?_
  refine lv_iload_n hx hb dX1_judgeBid_1 rfl (lv_at hl 1 rfl) ?_
  refine lv_iload_n hx hb dX1_judgeBid_2 rfl (lv_at hl 2 rfl) ?_
  refine lv_iload_n hx hb dX1_judgeBid_3 rfl (lv_at hl 3 rfl) ?_
  refine callRo (va_runV (As := [.int x, .int y, .int w]) (rest := []) ⟨hx, hb, hml, hown, hts⟩ (c_X1_judgeBluff l D C ev a G (x) (y) (w) hG) (cwV 3 hts gX1_judgeBid_X1_judgeBluff rfl rfl rfl (by decide +kernel) ⟨Nat.le_of_ble_eq_true rfl, Nat.le_of_ble_eq_true rfl⟩) (roPE_v hP hK hE hR hX hS (va_recv hK hP (ci := 4) (q0 := 0) rfl rfl)) rfl rfl hl.1 rfl (lv_room (Nat.le_of_ble_eq_true rfl)) dX1_judgeBid_4 ⟨Nat.le_refl _, Nat.le_refl _⟩) ?_
  refine lv_astore (lv' := [(4, .ref (ev (f_X1_judgeBluff G (x) (y) (w)))), (0, .ref (a 0)), (1, .int x), (2, .int y), (3, .int w)]) hx hb dX1_judgeBid_7 hl (by decide) rfl (fun ls hl => ?_)
  refine lv_aload hx hb dX1_judgeBid_9 (lv_at hl 0 rfl) ?_
  refine va_gets (v := .ref (ev 0)) (C := "BridgeAuction$Verdict") (n := "FINE") (d := "LBridgeAuction$Verdict;") hx hb (hV.1 0 (by decide)).1 hS hown (hts (.fieldLink RX1 117 "BridgeAuction$Verdict" "FINE" "LBridgeAuction$Verdict;") (by decide +kernel)) (fun _ h9 => h9) dX1_judgeBid_11 ?_
  refine acmpV_eq (x := (f_X1_judgeBluff G (x) (y) (w))) (y := 0) (tgt := 20) hx hb hV (by exact X1_judgeBluff_lt _ _ _ _) (by decide) dX1_judgeBid_14 (by decide) (fun c_14 => ?_) (fun c_14 => ?_)
  · have hz := hz.trans (if_pos c_14)
    have q := X1_judgeBluff_0 hG c_14
    have hp := vp_mono q.1 hP4
    have hs := vp_mono q.2 hS12
    refine lv_aload_n hx hb dX1_judgeBid_20 rfl (lv_at hl 1 rfl) ?_
    refine lv_iload_n hx hb dX1_judgeBid_21 rfl (lv_at hl 2 rfl) ?_
    obtain ⟨ehn_1, lhn_1⟩ := nat_of (x := x) (n := 4) (by first | assumption) (by omega)
    refine topN ehn_1 ?_
    refine callRo (va_runV (As := [.int (nI x.toNatClampNeg)]) (rest := []) ⟨hx, hb, hml, hown, hts⟩ (c_X1_availableTo l D C a G (x.toNatClampNeg) hG (by omega)) (cwV 1 hts gX1_judgeBid_X1_availableTo rfl rfl rfl (by decide +kernel) ⟨Nat.le_of_ble_eq_true rfl, Nat.le_of_ble_eq_true rfl⟩) (roP_v hP hK hE (va_recv hK hP (ci := 4) (q0 := 0) rfl rfl)) rfl rfl hl.1 rfl (lv_room (Nat.le_of_ble_eq_true rfl)) dX1_judgeBid_22 ⟨Nat.le_refl _, Nat.le_refl _⟩) ?_
    refine lv_aload_n hx hb dX1_judgeBid_25 rfl (lv_at hl 1 rfl) ?_
    refine lv_iload_n hx hb dX1_judgeBid_26 rfl (lv_at hl 2 rfl) ?_
    refine lv_iload_n hx hb dX1_judgeBid_27 rfl (lv_at hl 3 rfl) ?_
    obtain ⟨ehn_2, lhn_2⟩ := nat_of (x := x) (n := 4) (by first | assumption) (by omega)
    refine topN2 ehn_2 ?_
    obtain ⟨ehn_3, lhn_3⟩ := nat_of (x := y) (n := 12) (by first | assumption) (by omega)
    refine topN ehn_3 ?_
    refine callRo (va_runV (As := [.int (nI x.toNatClampNeg), .int (nI y.toNatClampNeg)]) (rest := [.int (f_X1_availableTo G (x.toNatClampNeg))]) ⟨hx, hb, hml, hown, hts⟩ (c_X1_reservedBy l D C a G (x.toNatClampNeg) (y.toNatClampNeg) hG (by omega) (by omega)) (cwV 2 hts gX1_judgeBid_X1_reservedBy rfl rfl rfl (by decide +kernel) ⟨Nat.le_of_ble_eq_true rfl, Nat.le_of_ble_eq_true rfl⟩) (roP_v hP hK hE (va_recv hK hP (ci := 4) (q0 := 0) rfl rfl)) rfl rfl hl.1 rfl (lv_room (Nat.le_of_ble_eq_true rfl)) dX1_judgeBid_28 ⟨Nat.le_refl _, Nat.le_refl _⟩) ?_
    refine lv_iadd hx hb dX1_judgeBid_31 ?_
    refine lv_istore (lv' := [(5, .int ((f_X1_availableTo G (x.toNatClampNeg)) + (f_X1_reservedBy G (x.toNatClampNeg) (y.toNatClampNeg)))), (4, .ref (ev (f_X1_judgeBluff G (x) (y) (w)))), (0, .ref (a 0)), (1, .int x), (2, .int y), (3, .int w)]) hx hb dX1_judgeBid_32 hl (by decide) rfl (fun ls hl => ?_)
    refine lv_iload_n hx hb dX1_judgeBid_34 rfl (lv_at hl 5 rfl) ?_
    refine lv_iload hx hb dX1_judgeBid_35 (lv_at hl 0 rfl) ?_
    refine lv_icmp_le (tgt := 46) hx hb dX1_judgeBid_37 (by decide) (fun c_37 => ?_) (fun c_37 => ?_)
    · have hz := hz.trans (if_pos c_37)
      refine va_gets (v := .ref (ev 0)) (C := "BridgeAuction$Verdict") (n := "FINE") (d := "LBridgeAuction$Verdict;") hx hb (hV.1 0 (by decide)).1 hS hown (hts (.fieldLink RX1 117 "BridgeAuction$Verdict" "FINE" "LBridgeAuction$Verdict;") (by decide +kernel)) (fun _ h9 => h9) dX1_judgeBid_46 ?_
      exact J49 (0) ls hz  (lv_sub hl [] rfl)
    · have hz := hz.trans (if_neg c_37)
      refine va_gets (v := .ref (ev 4)) (C := "BridgeAuction$Verdict") (n := "NOT_ALLOWED") (d := "LBridgeAuction$Verdict;") hx hb (hV.1 4 (by decide)).1 hS hown (hts (.fieldLink RX1 140 "BridgeAuction$Verdict" "NOT_ALLOWED" "LBridgeAuction$Verdict;") (by decide +kernel)) (fun _ h9 => h9) dX1_judgeBid_40 ?_
      refine lv_goto (tgt := 49) hx hb dX1_judgeBid_43 (by decide) ?_
      exact J49 (4) ls hz  (lv_sub hl [] rfl)
  · have hz := hz.trans (if_neg c_14)
    refine lv_aload hx hb dX1_judgeBid_17 (lv_at hl 0 rfl) ?_
    exact ro_retA hx hb hr (congrArg (fun q => ev q) (show _ = (f_X1_judgeBluff G (x) (y) (w)) from hz)) dX1_judgeBid_19 hlocks

