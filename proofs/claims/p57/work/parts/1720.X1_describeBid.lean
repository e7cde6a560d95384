/-! the text of a site -/
def dBid (G : GS) (q k : Nat) (T : TX) : TX := (lt_ (wN (f_X1_amountOf G q k).toNatClampNeg (wC 58 (wN q (wC 32 T)))) (fun T4 => lt_ (if f_X1_hasBluff G q k = true then wC 63 T4 else T4) (fun T5 => if gFer G k = nI q then wC 42 T5 else T5)))
def dBids (G : GS) (k : Nat) : Nat → Nat → TX → TX
  | 0, _, T => T
  | n + 1, j, T => dBids G k n (j + 1) (if f_X1_hasBid G j k = true then dBid G j k T else T)
def dSite (G : GS) (k : Nat) (T : TX) : TX := (lt_ (wN (gLen G k).toNatClampNeg (wC 47 (wN (gHi G k) (wC 45 (wN (gLo G k) T))))) (fun T5 => if f_X1_hasBridge G k = true then wN (gBld G k).toNatClampNeg (wC 61 T5) else dBids G k (gP G) 0 T5))
def DOK (G : GS) (k : Nat) : Prop := vp_in (gLen G k) 10 ∧ (f_X1_hasBridge G k = true → vp_in (gBld G k) 10) ∧ ∀ q, q < 4 → vp_in (f_X1_amountOf G q k) 100
theorem dl_1 {k : Nat} (h : k < 10) : dl k = 1 := if_pos h
set_option maxHeartbeats 4000000 in
set_option maxRecDepth 100000 in
theorem c_X1_describeBid (l : Launch) (D : va_G) (C : Nat → ClassId) (ev : Nat → Nat) (a b : Nat → Nat) (G : GS) (q k : Nat) (T : TX) (O : OS) (hG : GSafe G) (hq : q < 4) (hk12 : k < 12) (hA1 : vp_in (f_X1_amountOf G q k) 100) (hO : OT T O) (hT : T.2 + 7 ≤ 33) (sz : Nat) : Met l yX1_describeBid wsX1_describeBid ({ frames := 6, cells := 6, slots := 204, locals := 135 } : Room) (oP [.ref (a 0), .int (nI q), .int (nI k), .ref (b 0)] D C ev (wj [gcells C a G, ocells C b O]) sz) (eO (fun _ : OS => none) D (OT (dBid G q k T)) (fun O1 => wj [gcells C a G, ocells C b O1]) (va_A (wj [gcells C a G, ocells C b O]) sz)) 6 204 (va_A (wj [gcells C a G, ocells C b O]) sz) := by
  refine Met.ofW (cc := cX1_describeBid) (maxL := 4) (ret := none) (by decide) rfl ?_
  intro p e s m args below meth c s₁ B hml hv
  obtain ⟨⟨rfl, hsz, hP, hK, hD0, hE, hR, hX⟩, hV0⟩ := hv
  have hx := B.exec
  have hb := B.bytes
  have hr := B.returns
  have hts := atoms_spec (ws := wsX1_describeBid) B.pre
  have hown : s.vm.findClass RX1 = some m.cls := findClass_of_methodNamed B.named
  have hlocks := B.notSynchronized
  subst hsz
  have hD := hD0.self (sz := s.heap.size)
  generalize hAe : va_A (wj [gcells C a G, ocells C b O]) s.heap.size = A at hD hX hV0 ⊢
  have hA : ∀ q : Nat, s.heap.size ≤ q → A q := fun q h => by rw [← hAe]; exact Or.inr h
  have hS0 : va_S A s.heap s.heap [] := va_S.rf
  have hP : va_P D vwCl (wj [gcells C a G, ocells C b O]) s.heap := hP
  have hS := hS0
  obtain ⟨⟨hV, hB, hMV, hMB, hAL, hEk, hEa, hTX, hXZ⟩, hCS, hSF⟩ := id hX
  have hinX1 : ∀ w ∈ u_ws RX1 TX1 16, w ∈ wsX1_describeBid := by decide +kernel
  have hq1 := dl_1 (k := q) (by omega)
  have hl := lv_entry ([.ref (a 0), .int (nI q), .int (nI k), .ref (b 0)]) (n := 4) (Nat.le_of_ble_eq_true rfl)
  rw [lg_entry_eq]
  generalize (lg_sl ([.ref (a 0), .int (nI q), .int (nI k), .ref (b 0)]) ++ List.replicate (4 - (lg_sl ([.ref (a 0), .int (nI q), .int (nI k), .ref (b 0)])).length) Slot.unset).toArray = ls at hl ⊢
  have hl : lv_has ls 4 [(0, .ref (a 0)), (1, .int (nI q)), (2, .int (nI k)), (3, .ref (b 0))] := hl
  refine lv_aload_n hx hb dX1_describeBid_0 rfl (lv_at hl 3 rfl) ?_
  refine lv_bipush (v := 32) hx hb dX1_describeBid_1 (by decide) ?_
  have hPc : va_P D vwCl (ocells C b O) _ := wj_P (cs := [ocells C b O]) hP [1] rfl
  have hDc : va_D A (ocells C b O) := wj_D (cs := [ocells C b O]) hD [1] (by decide) rfl
  have hFc : ∀ q, va_A (ocells C b O) (Array.size _) q → A q := wj_F (cs := [ocells C b O]) hD hS hA [1] rfl
  refine callE (va_runV (As := [.int (nI 32)]) (rest := []) ⟨hx, hb, hml, hown, hts⟩ (c_J4_append_cf468 l D C ev b (T) O 32 hO (by first | omega | (simp only [wC, wN]; omega)) (by decide) _) (cwV 1 hts gX1_describeBid_J4_append_cf468 rfl rfl rfl (by decide +kernel) ⟨Nat.le_of_ble_eq_true rfl, Nat.le_of_ble_eq_true rfl⟩) (oP_v hPc hK hE hDc hR hX hV0 hS hFc (va_recv hK hPc (ci := 1) (q0 := 0) rfl rfl)) rfl rfl hl.1 rfl (lv_room (Nat.le_of_ble_eq_true rfl)) dX1_describeBid_3 ⟨by first | exact Nat.le_of_ble_eq_true rfl | omega, by first | exact Nat.le_of_ble_eq_true rfl | omega⟩) hS hFc (fun O1 H1 locs hF1 hPn hDn hk hS => ?_)
  have hPn : va_P D vwCl (ocells C b O1) H1 := hPn
  have hD1 : va_D A (wj [gcells C a G, ocells C b O1]) := jbD (bs := [gcells C a G, ocells C b O]) (cs := [ocells C b O]) (rs := [gcells C a G]) (cs' := [ocells C b O1]) (bs' := [gcells C a G, ocells C b O1]) hP hD (bsP 2 [1, 0] rfl (by decide) rfl) (bsP 2 [1, 0] rfl (by decide) rfl) hFc hDn
  have hP : va_P D vwCl (wj [gcells C a G, ocells C b O1]) H1 := jb (bs := [gcells C a G, ocells C b O]) (cs := [ocells C b O]) (rs := [gcells C a G]) (cs' := [ocells C b O1]) (bs' := [gcells C a G, ocells C b O1]) hP hD (bsP 2 [1, 0] rfl (by decide) rfl) (bsP 2 [1, 0] rfl (by decide) rfl) hk hPn
  have hD := hD1
  have hTO1 : OT (wC 32 (T)) O1 := hF1
  refine lv_iload_n hx hb dX1_describeBid_6 rfl (lv_at hl 1 rfl) ?_
  have hPc : va_P D vwCl (ocells C b O1) _ := wj_P (cs := [ocells C b O1]) hP [1] rfl
  have hDc : va_D A (ocells C b O1) := wj_D (cs := [ocells C b O1]) hD [1] (by decide) rfl
  have hFc : ∀ q, va_A (ocells C b O1) (Array.size _) q → A q := wj_F (cs := [ocells C b O1]) hD hS hA [1] rfl
  refine callE (va_runV (As := [.int (nI (q))]) (rest := []) ⟨hx, hb, hml, hown, hts⟩ (c_J4_append_bf812 l D C ev b (wC 32 (T)) O1 (q) hTO1 (by first | omega | (simp only [wC, wN]; omega)) (by omega) _) (cwV 1 hts gX1_describeBid_J4_append_bf812 rfl rfl rfl (by decide +kernel) ⟨Nat.le_of_ble_eq_true rfl, Nat.le_of_ble_eq_true rfl⟩) (oP_v hPc hK hE hDc hR hX hV0 hS hFc (va_recv hK hPc (ci := 1) (q0 := 0) rfl rfl)) rfl rfl hl.1 rfl (lv_room (Nat.le_of_ble_eq_true rfl)) dX1_describeBid_7 ⟨by first | exact Nat.le_of_ble_eq_true rfl | omega, by first | exact Nat.le_of_ble_eq_true rfl | omega⟩) hS hFc (fun O2 H1 locs hF1 hPn hDn hk hS => ?_)
  have hPn : va_P D vwCl (ocells C b O2) H1 := hPn
  have hD1 : va_D A (wj [gcells C a G, ocells C b O2]) := jbD (bs := [gcells C a G, ocells C b O1]) (cs := [ocells C b O1]) (rs := [gcells C a G]) (cs' := [ocells C b O2]) (bs' := [gcells C a G, ocells C b O2]) hP hD (bsP 2 [1, 0] rfl (by decide) rfl) (bsP 2 [1, 0] rfl (by decide) rfl) hFc hDn
  have hP : va_P D vwCl (wj [gcells C a G, ocells C b O2]) H1 := jb (bs := [gcells C a G, ocells C b O1]) (cs := [ocells C b O1]) (rs := [gcells C a G]) (cs' := [ocells C b O2]) (bs' := [gcells C a G, ocells C b O2]) hP hD (bsP 2 [1, 0] rfl (by decide) rfl) (bsP 2 [1, 0] rfl (by decide) rfl) hk hPn
  have hD := hD1
  have hTO2 : OT (wN (q) (wC 32 (T))) O2 := hF1
  refine lv_bipush (v := 58) hx hb dX1_describeBid_10 (by decide) ?_
  have hPc : va_P D vwCl (ocells C b O2) _ := wj_P (cs := [ocells C b O2]) hP [1] rfl
  have hDc : va_D A (ocells C b O2) := wj_D (cs := [ocells C b O2]) hD [1] (by decide) rfl
  have hFc : ∀ q, va_A (ocells C b O2) (Array.size _) q → A q := wj_F (cs := [ocells C b O2]) hD hS hA [1] rfl
  refine callE (va_runV (As := [.int (nI 58)]) (rest := []) ⟨hx, hb, hml, hown, hts⟩ (c_J4_append_cf468 l D C ev b (wN (q) (wC 32 (T))) O2 58 hTO2 (by first | omega | (simp only [wC, wN]; omega)) (by decide) _) (cwV 1 hts gX1_describeBid_J4_append_cf468 rfl rfl rfl (by decide +kernel) ⟨Nat.le_of_ble_eq_true rfl, Nat.le_of_ble_eq_true rfl⟩) (oP_v hPc hK hE hDc hR hX hV0 hS hFc (va_recv hK hPc (ci := 1) (q0 := 0) rfl rfl)) rfl rfl hl.1 rfl (lv_room (Nat.le_of_ble_eq_true rfl)) dX1_describeBid_12 ⟨by first | exact Nat.le_of_ble_eq_true rfl | omega, by first | exact Nat.le_of_ble_eq_true rfl | omega⟩) hS hFc (fun O3 H1 locs hF1 hPn hDn hk hS => ?_)
  have hPn : va_P D vwCl (ocells C b O3) H1 := hPn
  have hD1 : va_D A (wj [gcells C a G, ocells C b O3]) := jbD (bs := [gcells C a G, ocells C b O2]) (cs := [ocells C b O2]) (rs := [gcells C a G]) (cs' := [ocells C b O3]) (bs' := [gcells C a G, ocells C b O3]) hP hD (bsP 2 [1, 0] rfl (by decide) rfl) (bsP 2 [1, 0] rfl (by decide) rfl) hFc hDn
  have hP : va_P D vwCl (wj [gcells C a G, ocells C b O3]) H1 := jb (bs := [gcells C a G, ocells C b O2]) (cs := [ocells C b O2]) (rs := [gcells C a G]) (cs' := [ocells C b O3]) (bs' := [gcells C a G, ocells C b O3]) hP hD (bsP 2 [1, 0] rfl (by decide) rfl) (bsP 2 [1, 0] rfl (by decide) rfl) hk hPn
  have hD := hD1
  have hTO3 : OT (wC 58 (wN (q) (wC 32 (T)))) O3 := hF1
  refine lv_aload_n hx hb dX1_describeBid_15 rfl (lv_at hl 0 rfl) ?_
  refine lv_iload_n hx hb dX1_describeBid_16 rfl (lv_at hl 1 rfl) ?_
  refine lv_iload_n hx hb dX1_describeBid_17 rfl (lv_at hl 2 rfl) ?_
  have hPg : va_P D vwCl (gcells C a G) _ := wj_P (cs := [gcells C a G]) hP [0] rfl
  refine callRo (va_runV (As := [.int (nI q), .int (nI k)]) (rest := [.ref (b 0)]) ⟨hx, hb, hml, hown, hts⟩ (c_X1_amountOf l D C a G q k hG hq hk12) (cwV 2 hts gX1_describeBid_X1_amountOf rfl rfl rfl (by decide +kernel) ⟨Nat.le_of_ble_eq_true rfl, Nat.le_of_ble_eq_true rfl⟩) (roP_v hPg hK hE (va_recv hK hPg (ci := 4) (q0 := 0) rfl rfl)) rfl rfl hl.1 rfl (lv_room (Nat.le_of_ble_eq_true rfl)) dX1_describeBid_18 ⟨by first | exact Nat.le_refl _ | exact Nat.le_of_ble_eq_true rfl | (show cells + 0 ≤ 31; omega), by first | exact Nat.le_refl _ | exact Nat.le_of_ble_eq_true rfl | (show slots + 0 ≤ 1054; omega)⟩) ?_
  obtain ⟨eA, lA⟩ := nat_of hA1 (by decide)
  have dA := dl_le (f_X1_amountOf G q k).toNatClampNeg
  refine topN eA ?_
  have hPc : va_P D vwCl (ocells C b O3) _ := wj_P (cs := [ocells C b O3]) hP [1] rfl
  have hDc : va_D A (ocells C b O3) := wj_D (cs := [ocells C b O3]) hD [1] (by decide) rfl
  have hFc : ∀ q, va_A (ocells C b O3) (Array.size _) q → A q := wj_F (cs := [ocells C b O3]) hD hS hA [1] rfl
  refine callE (va_runV (As := [.int (nI ((f_X1_amountOf G q k).toNatClampNeg))]) (rest := []) ⟨hx, hb, hml, hown, hts⟩ (c_J4_append_bf812 l D C ev b (wC 58 (wN (q) (wC 32 (T)))) O3 ((f_X1_amountOf G q k).toNatClampNeg) hTO3 (by first | omega | (simp only [wC, wN]; omega)) lA _) (cwV 1 hts gX1_describeBid_J4_append_bf812 rfl rfl rfl (by decide +kernel) ⟨Nat.le_of_ble_eq_true rfl, Nat.le_of_ble_eq_true rfl⟩) (oP_v hPc hK hE hDc hR hX hV0 hS hFc (va_recv hK hPc (ci := 1) (q0 := 0) rfl rfl)) rfl rfl hl.1 rfl (lv_room (Nat.le_of_ble_eq_true rfl)) dX1_describeBid_21 ⟨by first | exact Nat.le_of_ble_eq_true rfl | omega, by first | exact Nat.le_of_ble_eq_true rfl | omega⟩) hS hFc (fun O4 H1 locs hF1 hPn hDn hk hS => ?_)
  have hPn : va_P D vwCl (ocells C b O4) H1 := hPn
  have hD1 : va_D A (wj [gcells C a G, ocells C b O4]) := jbD (bs := [gcells C a G, ocells C b O3]) (cs := [ocells C b O3]) (rs := [gcells C a G]) (cs' := [ocells C b O4]) (bs' := [gcells C a G, ocells C b O4]) hP hD (bsP 2 [1, 0] rfl (by decide) rfl) (bsP 2 [1, 0] rfl (by decide) rfl) hFc hDn
  have hP : va_P D vwCl (wj [gcells C a G, ocells C b O4]) H1 := jb (bs := [gcells C a G, ocells C b O3]) (cs := [ocells C b O3]) (rs := [gcells C a G]) (cs' := [ocells C b O4]) (bs' := [gcells C a G, ocells C b O4]) hP hD (bsP 2 [1, 0] rfl (by decide) rfl) (bsP 2 [1, 0] rfl (by decide) rfl) hk hPn
  have hD := hD1
  have hTO4 : OT (wN ((f_X1_amountOf G q k).toNatClampNeg) (wC 58 (wN (q) (wC 32 (T))))) O4 := hF1
  refine lv_pop hx hb dX1_describeBid_24 rfl ?_
  refine lv_aload_n hx hb dX1_describeBid_25 rfl (lv_at hl 0 rfl) ?_
  refine lv_iload_n hx hb dX1_describeBid_26 rfl (lv_at hl 1 rfl) ?_
  refine lv_iload_n hx hb dX1_describeBid_27 rfl (lv_at hl 2 rfl) ?_
  have hPg : va_P D vwCl (gcells C a G) _ := wj_P (cs := [gcells C a G]) hP [0] rfl
  refine callRo (va_runV (As := [.int (nI q), .int (nI k)]) (rest := []) ⟨hx, hb, hml, hown, hts⟩ (c_X1_hasBluff l D C a G q k hG hq hk12) (cwV 2 hts gX1_describeBid_X1_hasBluff rfl rfl rfl (by decide +kernel) ⟨Nat.le_of_ble_eq_true rfl, Nat.le_of_ble_eq_true rfl⟩) (roP_v hPg hK hE (va_recv hK hPg (ci := 4) (q0 := 0) rfl rfl)) rfl rfl hl.1 rfl (lv_room (Nat.le_of_ble_eq_true rfl)) dX1_describeBid_28 ⟨by first | exact Nat.le_refl _ | exact Nat.le_of_ble_eq_true rfl | (show cells + 0 ≤ 31; omega), by first | exact Nat.le_refl _ | exact Nat.le_of_ble_eq_true rfl | (show slots + 0 ≤ 1054; omega)⟩) ?_
  refine bif_eq (tgt := 41) hx hb dX1_describeBid_31 (by decide) (fun c_31 => ?_) (fun c_31 => ?_)
  · refine lv_aload_n hx hb dX1_describeBid_41 rfl (lv_at hl 0 rfl) ?_
    refine va_get (D := D) (ci := 4) (v := .ref (a 7)) (C := RX1) (T := TX1) (N := 16) hx hb hts hinX1 hown hK hP 0 rfl rfl 10 (by decide) (hts (.fieldLink RX1 43 "BridgeAuction$Game" "ferries" "[I") (by decide +kernel)) (fun _ h9 => h9) rfl dX1_describeBid_42 ?_
    refine lv_iload_n hx hb dX1_describeBid_45 rfl (lv_at hl 2 rfl) ?_
    refine ialdN (tys := tyA C) hx hb hK hP 7 0 rfl rfl (i := k) (by omega) (by decide) dX1_describeBid_46 ?_
    refine lv_iload_n hx hb dX1_describeBid_47 rfl (lv_at hl 1 rfl) ?_
    refine lv_icmp_ne (tgt := 58) hx hb dX1_describeBid_48 (by decide) (fun c_48 => ?_) (fun c_48 => ?_)
    · have hz : dBid G q k T = wN ((f_X1_amountOf G q k).toNatClampNeg) (wC 58 (wN (q) (wC 32 (T)))) := by unfold dBid lt_; dsimp only; rw [ifB_f c_31]; exact if_neg c_48
      exact e_retV O4 rfl hx hb hr (hz ▸ hTO4) hP hD hS (Nat.le_of_ble_eq_true rfl) (Nat.le_of_ble_eq_true rfl) dX1_describeBid_58 hlocks
    · refine lv_aload_n hx hb dX1_describeBid_51 rfl (lv_at hl 3 rfl) ?_
      refine lv_bipush (v := 42) hx hb dX1_describeBid_52 (by decide) ?_
      have hPc : va_P D vwCl (ocells C b O4) _ := wj_P (cs := [ocells C b O4]) hP [1] rfl
      have hDc : va_D A (ocells C b O4) := wj_D (cs := [ocells C b O4]) hD [1] (by decide) rfl
      have hFc : ∀ q, va_A (ocells C b O4) (Array.size _) q → A q := wj_F (cs := [ocells C b O4]) hD hS hA [1] rfl
      refine callE (va_runV (As := [.int (nI 42)]) (rest := []) ⟨hx, hb, hml, hown, hts⟩ (c_J4_append_cf468 l D C ev b (wN ((f_X1_amountOf G q k).toNatClampNeg) (wC 58 (wN (q) (wC 32 (T))))) O4 42 hTO4 (by first | omega | (simp only [wC, wN]; omega)) (by decide) _) (cwV 1 hts gX1_describeBid_J4_append_cf468 rfl rfl rfl (by decide +kernel) ⟨Nat.le_of_ble_eq_true rfl, Nat.le_of_ble_eq_true rfl⟩) (oP_v hPc hK hE hDc hR hX hV0 hS hFc (va_recv hK hPc (ci := 1) (q0 := 0) rfl rfl)) rfl rfl hl.1 rfl (lv_room (Nat.le_of_ble_eq_true rfl)) dX1_describeBid_54 ⟨by first | exact Nat.le_of_ble_eq_true rfl | omega, by first | exact Nat.le_of_ble_eq_true rfl | omega⟩) hS hFc (fun O5 H1 locs hF1 hPn hDn hk hS => ?_)
      have hPn : va_P D vwCl (ocells C b O5) H1 := hPn
      have hD1 : va_D A (wj [gcells C a G, ocells C b O5]) := jbD (bs := [gcells C a G, ocells C b O4]) (cs := [ocells C b O4]) (rs := [gcells C a G]) (cs' := [ocells C b O5]) (bs' := [gcells C a G, ocells C b O5]) hP hD (bsP 2 [1, 0] rfl (by decide) rfl) (bsP 2 [1, 0] rfl (by decide) rfl) hFc hDn
      have hP : va_P D vwCl (wj [gcells C a G, ocells C b O5]) H1 := jb (bs := [gcells C a G, ocells C b O4]) (cs := [ocells C b O4]) (rs := [gcells C a G]) (cs' := [ocells C b O5]) (bs' := [gcells C a G, ocells C b O5]) hP hD (bsP 2 [1, 0] rfl (by decide) rfl) (bsP 2 [1, 0] rfl (by decide) rfl) hk hPn
      have hD := hD1
      have hTO5 : OT (wC 42 (wN ((f_X1_amountOf G q k).toNatClampNeg) (wC 58 (wN (q) (wC 32 (T)))))) O5 := hF1
      refine lv_pop hx hb dX1_describeBid_57 rfl ?_
      have hz : dBid G q k T = wC 42 (wN ((f_X1_amountOf G q k).toNatClampNeg) (wC 58 (wN (q) (wC 32 (T))))) := by unfold dBid lt_; dsimp only; rw [ifB_f c_31]; exact if_pos c_48
      exact e_retV O5 rfl hx hb hr (hz ▸ hTO5) hP hD hS (Nat.le_of_ble_eq_true rfl) (Nat.le_of_ble_eq_true rfl) dX1_describeBid_58 hlocks
  · refine lv_aload_n hx hb dX1_describeBid_34 rfl (lv_at hl 3 rfl) ?_
    refine lv_bipush (v := 63) hx hb dX1_describeBid_35 (by decide) ?_
    have hPc : va_P D vwCl (ocells C b O4) _ := wj_P (cs := [ocells C b O4]) hP [1] rfl
    have hDc : va_D A (ocells C b O4) := wj_D (cs := [ocells C b O4]) hD [1] (by decide) rfl
    have hFc : ∀ q, va_A (ocells C b O4) (Array.size _) q → A q := wj_F (cs := [ocells C b O4]) hD hS hA [1] rfl
    refine callE (va_runV (As := [.int (nI 63)]) (rest := []) ⟨hx, hb, hml, hown, hts⟩ (c_J4_append_cf468 l D C ev b (wN ((f_X1_amountOf G q k).toNatClampNeg) (wC 58 (wN (q) (wC 32 (T))))) O4 63 hTO4 (by first | omega | (simp only [wC, wN]; omega)) (by decide) _) (cwV 1 hts gX1_describeBid_J4_append_cf468 rfl rfl rfl (by decide +kernel) ⟨Nat.le_of_ble_eq_true rfl, Nat.le_of_ble_eq_true rfl⟩) (oP_v hPc hK hE hDc hR hX hV0 hS hFc (va_recv hK hPc (ci := 1) (q0 := 0) rfl rfl)) rfl rfl hl.1 rfl (lv_room (Nat.le_of_ble_eq_true rfl)) dX1_describeBid_37 ⟨by first | exact Nat.le_of_ble_eq_true rfl | omega, by first | exact Nat.le_of_ble_eq_true rfl | omega⟩) hS hFc (fun O5 H1 locs hF1 hPn hDn hk hS => ?_)
    have hPn : va_P D vwCl (ocells C b O5) H1 := hPn
    have hD1 : va_D A (wj [gcells C a G, ocells C b O5]) := jbD (bs := [gcells C a G, ocells C b O4]) (cs := [ocells C b O4]) (rs := [gcells C a G]) (cs' := [ocells C b O5]) (bs' := [gcells C a G, ocells C b O5]) hP hD (bsP 2 [1, 0] rfl (by decide) rfl) (bsP 2 [1, 0] rfl (by decide) rfl) hFc hDn
    have hP : va_P D vwCl (wj [gcells C a G, ocells C b O5]) H1 := jb (bs := [gcells C a G, ocells C b O4]) (cs := [ocells C b O4]) (rs := [gcells C a G]) (cs' := [ocells C b O5]) (bs' := [gcells C a G, ocells C b O5]) hP hD (bsP 2 [1, 0] rfl (by decide) rfl) (bsP 2 [1, 0] rfl (by decide) rfl) hk hPn
    have hD := hD1
    have hTO5 : OT (wC 63 (wN ((f_X1_amountOf G q k).toNatClampNeg) (wC 58 (wN (q) (wC 32 (T)))))) O5 := hF1
    refine lv_pop hx hb dX1_describeBid_40 rfl ?_
    refine lv_aload_n hx hb dX1_describeBid_41 rfl (lv_at hl 0 rfl) ?_
    refine va_get (D := D) (ci := 4) (v := .ref (a 7)) (C := RX1) (T := TX1) (N := 16) hx hb hts hinX1 hown hK hP 0 rfl rfl 10 (by decide) (hts (.fieldLink RX1 43 "BridgeAuction$Game" "ferries" "[I") (by decide +kernel)) (fun _ h9 => h9) rfl dX1_describeBid_42 ?_
    refine lv_iload_n hx hb dX1_describeBid_45 rfl (lv_at hl 2 rfl) ?_
    refine ialdN (tys := tyA C) hx hb hK hP 7 0 rfl rfl (i := k) (by omega) (by decide) dX1_describeBid_46 ?_
    refine lv_iload_n hx hb dX1_describeBid_47 rfl (lv_at hl 1 rfl) ?_
    refine lv_icmp_ne (tgt := 58) hx hb dX1_describeBid_48 (by decide) (fun c_48 => ?_) (fun c_48 => ?_)
    · have hz : dBid G q k T = wC 63 (wN ((f_X1_amountOf G q k).toNatClampNeg) (wC 58 (wN (q) (wC 32 (T))))) := by unfold dBid lt_; dsimp only; rw [if_pos c_31]; exact if_neg c_48
      exact e_retV O5 rfl hx hb hr (hz ▸ hTO5) hP hD hS (Nat.le_of_ble_eq_true rfl) (Nat.le_of_ble_eq_true rfl) dX1_describeBid_58 hlocks
    · refine lv_aload_n hx hb dX1_describeBid_51 rfl (lv_at hl 3 rfl) ?_
      refine lv_bipush (v := 42) hx hb dX1_describeBid_52 (by decide) ?_
      have hPc : va_P D vwCl (ocells C b O5) _ := wj_P (cs := [ocells C b O5]) hP [1] rfl
      have hDc : va_D A (ocells C b O5) := wj_D (cs := [ocells C b O5]) hD [1] (by decide) rfl
      have hFc : ∀ q, va_A (ocells C b O5) (Array.size _) q → A q := wj_F (cs := [ocells C b O5]) hD hS hA [1] rfl
      refine callE (va_runV (As := [.int (nI 42)]) (rest := []) ⟨hx, hb, hml, hown, hts⟩ (c_J4_append_cf468 l D C ev b (wC 63 (wN ((f_X1_amountOf G q k).toNatClampNeg) (wC 58 (wN (q) (wC 32 (T)))))) O5 42 hTO5 (by first | omega | (simp only [wC, wN]; omega)) (by decide) _) (cwV 1 hts gX1_describeBid_J4_append_cf468 rfl rfl rfl (by decide +kernel) ⟨Nat.le_of_ble_eq_true rfl, Nat.le_of_ble_eq_true rfl⟩) (oP_v hPc hK hE hDc hR hX hV0 hS hFc (va_recv hK hPc (ci := 1) (q0 := 0) rfl rfl)) rfl rfl hl.1 rfl (lv_room (Nat.le_of_ble_eq_true rfl)) dX1_describeBid_54 ⟨by first | exact Nat.le_of_ble_eq_true rfl | omega, by first | exact Nat.le_of_ble_eq_true rfl | omega⟩) hS hFc (fun O6 H1 locs hF1 hPn hDn hk hS => ?_)
      have hPn : va_P D vwCl (ocells C b O6) H1 := hPn
      have hD1 : va_D A (wj [gcells C a G, ocells C b O6]) := jbD (bs := [gcells C a G, ocells C b O5]) (cs := [ocells C b O5]) (rs := [gcells C a G]) (cs' := [ocells C b O6]) (bs' := [gcells C a G, ocells C b O6]) hP hD (bsP 2 [1, 0] rfl (by decide) rfl) (bsP 2 [1, 0] rfl (by decide) rfl) hFc hDn
      have hP : va_P D vwCl (wj [gcells C a G, ocells C b O6]) H1 := jb (bs := [gcells C a G, ocells C b O5]) (cs := [ocells C b O5]) (rs := [gcells C a G]) (cs' := [ocells C b O6]) (bs' := [gcells C a G, ocells C b O6]) hP hD (bsP 2 [1, 0] rfl (by decide) rfl) (bsP 2 [1, 0] rfl (by decide) rfl) hk hPn
      have hD := hD1
      have hTO6 : OT (wC 42 (wC 63 (wN ((f_X1_amountOf G q k).toNatClampNeg) (wC 58 (wN (q) (wC 32 (T))))))) O6 := hF1
      refine lv_pop hx hb dX1_describeBid_57 rfl ?_
      have hz : dBid G q k T = wC 42 (wC 63 (wN ((f_X1_amountOf G q k).toNatClampNeg) (wC 58 (wN (q) (wC 32 (T)))))) := by unfold dBid lt_; dsimp only; rw [if_pos c_31]; exact if_pos c_48
      exact e_retV O6 rfl hx hb hr (hz ▸ hTO6) hP hD hS (Nat.le_of_ble_eq_true rfl) (Nat.le_of_ble_eq_true rfl) dX1_describeBid_58 hlocks
theorem dBid_le (G : GS) (q k : Nat) (T : TX) (hq : q < 4) : (dBid G q k T).2 ≤ T.2 + 7 := by
  have h1 := dl_1 (k := q) (by omega)
  have h2 := dl_le (f_X1_amountOf G q k).toNatClampNeg
  unfold dBid lt_
  dsimp only
  split <;> split <;> (simp only [wC, wN]; omega)
