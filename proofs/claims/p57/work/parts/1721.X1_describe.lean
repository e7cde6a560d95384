set_option maxHeartbeats 4000000 in
set_option maxRecDepth 100000 in
theorem c_X1_describe (l : Launch) (D : va_G) (C : Nat → ClassId) (ev : Nat → Nat) (a b : Nat → Nat) (G : GS) (k : Nat) (T : TX) (O : OS) (hG : GSafe G) (hk12 : k < 12) (hd : DOK G k) (hO : OT T O) (hT : T.2 = 0) (sz : Nat) : Met l yX1_describe wsX1_describe ({ frames := 7, cells := 31, slots := 1054, locals := 158 } : Room) (oP [.ref (a 0), .int (nI k), .ref (b 0)] D C ev (wj [gcells C a G, ocells C b O]) sz) (eO (fun _ : OS => none) D (OT (dSite G k T)) (fun O1 => wj [gcells C a G, ocells C b O1]) (va_A (wj [gcells C a G, ocells C b O]) sz)) 31 1054 (va_A (wj [gcells C a G, ocells C b O]) sz) := by
  refine Met.ofW (cc := cX1_describe) (maxL := 4) (ret := none) (by decide) rfl ?_
  intro p e s m args below meth c s₁ B hml hv
  obtain ⟨⟨rfl, hsz, hP, hK, hD0, hE, hR, hX⟩, hV0⟩ := hv
  have hx := B.exec
  have hb := B.bytes
  have hr := B.returns
  have hts := atoms_spec (ws := wsX1_describe) B.pre
  have hown : s.vm.findClass RX1 = some m.cls := findClass_of_methodNamed B.named
  have hlocks := B.notSynchronized
  subst hsz
  have hD := hD0.self (sz := s.heap.size)
  generalize hAe : va_A (wj [gcells C a G, ocells C b O]) s.heap.size = A at hD hX hV0 ⊢
  have hA : ∀ q : Nat, s.heap.size ≤ q → A q := fun q h => by rw [← hAe]; exact Or.inr h
  have hS0 : va_S A s.heap s.heap [] := va_S.rf
  have hP : va_P D vwCl (wj [gcells C a G, ocells C b O]) s.heap := hP
  have hS := hS0
  obtain ⟨⟨hV, hB, hMV, hMB, hAL, hEk, hEa, hTX, hXZ⟩, hCS, hSF⟩ := id hX
  have hinX1 : ∀ w ∈ u_ws RX1 TX1 16, w ∈ wsX1_describe := by decide +kernel
  obtain ⟨hS12, hP4, hlo, hhi⟩ := id hG
  have hl := lv_entry ([.ref (a 0), .int (nI k), .ref (b 0)]) (n := 4) (Nat.le_of_ble_eq_true rfl)
  rw [lg_entry_eq]
  generalize (lg_sl ([.ref (a 0), .int (nI k), .ref (b 0)]) ++ List.replicate (4 - (lg_sl ([.ref (a 0), .int (nI k), .ref (b 0)])).length) Slot.unset).toArray = ls at hl ⊢
  have hl : lv_has ls 4 [(0, .ref (a 0)), (1, .int (nI k)), (2, .ref (b 0))] := hl
  obtain ⟨hL1, hB1, hA1⟩ := hd
  obtain ⟨eL, lL⟩ := nat_of hL1 (by decide)
  have d1 := dl_1 (k := gLo G k) (by have := hlo k; omega)
  have d2 := dl_1 (k := gHi G k) (by have := hhi k; omega)
  have d3 := dl_1 lL
  have hlo9 := hlo k
  have hhi9 := hhi k
  refine lv_aload_n hx hb dX1_describe_0 rfl (lv_at hl 2 rfl) ?_
  refine lv_aload_n hx hb dX1_describe_1 rfl (lv_at hl 0 rfl) ?_
  refine va_get (D := D) (ci := 4) (v := .ref (a 3)) (C := RX1) (T := TX1) (N := 16) hx hb hts hinX1 hown hK hP 0 rfl rfl 6 (by decide) (hts (.fieldLink RX1 31 "BridgeAuction$Game" "lowers" "[I") (by decide +kernel)) (fun _ h9 => h9) rfl dX1_describe_2 ?_
  refine lv_iload_n hx hb dX1_describe_5 rfl (lv_at hl 1 rfl) ?_
  refine ialdN (tys := tyA C) hx hb hK hP 3 0 rfl rfl (i := k) (by omega) (by decide) dX1_describe_6 ?_
  have hPc : va_P D vwCl (ocells C b O) _ := wj_P (cs := [ocells C b O]) hP [1] rfl
  have hDc : va_D A (ocells C b O) := wj_D (cs := [ocells C b O]) hD [1] (by decide) rfl
  have hFc : ∀ q, va_A (ocells C b O) (Array.size _) q → A q := wj_F (cs := [ocells C b O]) hD hS hA [1] rfl
  refine callE (va_runV (As := [.int (nI (gLo G k))]) (rest := []) ⟨hx, hb, hml, hown, hts⟩ (c_J4_append_bf812 l D C ev b (T) O (gLo G k) hO (by first | omega | (simp only [wC, wN]; omega)) (by omega) _) (cwV 1 hts gX1_describe_J4_append_bf812 rfl rfl rfl (by decide +kernel) ⟨Nat.le_of_ble_eq_true rfl, Nat.le_of_ble_eq_true rfl⟩) (oP_v hPc hK hE hDc hR hX hV0 hS hFc (va_recv hK hPc (ci := 1) (q0 := 0) rfl rfl)) rfl rfl hl.1 rfl (lv_room (Nat.le_of_ble_eq_true rfl)) dX1_describe_7 ⟨by first | exact Nat.le_of_ble_eq_true rfl | omega, by first | exact Nat.le_of_ble_eq_true rfl | omega⟩) hS hFc (fun O1 H1 locs hF1 hPn hDn hk hS => ?_)
  have hPn : va_P D vwCl (ocells C b O1) H1 := hPn
  have hD1 : va_D A (wj [gcells C a G, ocells C b O1]) := jbD (bs := [gcells C a G, ocells C b O]) (cs := [ocells C b O]) (rs := [gcells C a G]) (cs' := [ocells C b O1]) (bs' := [gcells C a G, ocells C b O1]) hP hD (bsP 2 [1, 0] rfl (by decide) rfl) (bsP 2 [1, 0] rfl (by decide) rfl) hFc hDn
  have hP : va_P D vwCl (wj [gcells C a G, ocells C b O1]) H1 := jb (bs := [gcells C a G, ocells C b O]) (cs := [ocells C b O]) (rs := [gcells C a G]) (cs' := [ocells C b O1]) (bs' := [gcells C a G, ocells C b O1]) hP hD (bsP 2 [1, 0] rfl (by decide) rfl) (bsP 2 [1, 0] rfl (by decide) rfl) hk hPn
  have hD := hD1
  have hTO1 : OT (wN (gLo G k) (T)) O1 := hF1
  refine lv_bipush (v := 45) hx hb dX1_describe_10 (by decide) ?_
  have hPc : va_P D vwCl (ocells C b O1) _ := wj_P (cs := [ocells C b O1]) hP [1] rfl
  have hDc : va_D A (ocells C b O1) := wj_D (cs := [ocells C b O1]) hD [1] (by decide) rfl
  have hFc : ∀ q, va_A (ocells C b O1) (Array.size _) q → A q := wj_F (cs := [ocells C b O1]) hD hS hA [1] rfl
  refine callE (va_runV (As := [.int (nI 45)]) (rest := []) ⟨hx, hb, hml, hown, hts⟩ (c_J4_append_cf468 l D C ev b (wN (gLo G k) (T)) O1 45 hTO1 (by first | omega | (simp only [wC, wN]; omega)) (by decide) _) (cwV 1 hts gX1_describe_J4_append_cf468 rfl rfl rfl (by decide +kernel) ⟨Nat.le_of_ble_eq_true rfl, Nat.le_of_ble_eq_true rfl⟩) (oP_v hPc hK hE hDc hR hX hV0 hS hFc (va_recv hK hPc (ci := 1) (q0 := 0) rfl rfl)) rfl rfl hl.1 rfl (lv_room (Nat.le_of_ble_eq_true rfl)) dX1_describe_12 ⟨by first | exact Nat.le_of_ble_eq_true rfl | omega, by first | exact Nat.le_of_ble_eq_true rfl | omega⟩) hS hFc (fun O2 H1 locs hF1 hPn hDn hk hS => ?_)
  have hPn : va_P D vwCl (ocells C b O2) H1 := hPn
  have hD1 : va_D A (wj [gcells C a G, ocells C b O2]) := jbD (bs := [gcells C a G, ocells C b O1]) (cs := [ocells C b O1]) (rs := [gcells C a G]) (cs' := [ocells C b O2]) (bs' := [gcells C a G, ocells C b O2]) hP hD (bsP 2 [1, 0] rfl (by decide) rfl) (bsP 2 [1, 0] rfl (by decide) rfl) hFc hDn
  have hP : va_P D vwCl (wj [gcells C a G, ocells C b O2]) H1 := jb (bs := [gcells C a G, ocells C b O1]) (cs := [ocells C b O1]) (rs := [gcells C a G]) (cs' := [ocells C b O2]) (bs' := [gcells C a G, ocells C b O2]) hP hD (bsP 2 [1, 0] rfl (by decide) rfl) (bsP 2 [1, 0] rfl (by decide) rfl) hk hPn
  have hD := hD1
  have hTO2 : OT (wC 45 (wN (gLo G k) (T))) O2 := hF1
  refine lv_aload_n hx hb dX1_describe_15 rfl (lv_at hl 0 rfl) ?_
  refine va_get (D := D) (ci := 4) (v := .ref (a 4)) (C := RX1) (T := TX1) (N := 16) hx hb hts hinX1 hown hK hP 0 rfl rfl 7 (by decide) (hts (.fieldLink RX1 34 "BridgeAuction$Game" "highers" "[I") (by decide +kernel)) (fun _ h9 => h9) rfl dX1_describe_16 ?_
  refine lv_iload_n hx hb dX1_describe_19 rfl (lv_at hl 1 rfl) ?_
  refine ialdN (tys := tyA C) hx hb hK hP 4 0 rfl rfl (i := k) (by omega) (by decide) dX1_describe_20 ?_
  have hPc : va_P D vwCl (ocells C b O2) _ := wj_P (cs := [ocells C b O2]) hP [1] rfl
  have hDc : va_D A (ocells C b O2) := wj_D (cs := [ocells C b O2]) hD [1] (by decide) rfl
  have hFc : ∀ q, va_A (ocells C b O2) (Array.size _) q → A q := wj_F (cs := [ocells C b O2]) hD hS hA [1] rfl
  refine callE (va_runV (As := [.int (nI (gHi G k))]) (rest := []) ⟨hx, hb, hml, hown, hts⟩ (c_J4_append_bf812 l D C ev b (wC 45 (wN (gLo G k) (T))) O2 (gHi G k) hTO2 (by first | omega | (simp only [wC, wN]; omega)) (by omega) _) (cwV 1 hts gX1_describe_J4_append_bf812 rfl rfl rfl (by decide +kernel) ⟨Nat.le_of_ble_eq_true rfl, Nat.le_of_ble_eq_true rfl⟩) (oP_v hPc hK hE hDc hR hX hV0 hS hFc (va_recv hK hPc (ci := 1) (q0 := 0) rfl rfl)) rfl rfl hl.1 rfl (lv_room (Nat.le_of_ble_eq_true rfl)) dX1_describe_21 ⟨by first | exact Nat.le_of_ble_eq_true rfl | omega, by first | exact Nat.le_of_ble_eq_true rfl | omega⟩) hS hFc (fun O3 H1 locs hF1 hPn hDn hk hS => ?_)
  have hPn : va_P D vwCl (ocells C b O3) H1 := hPn
  have hD1 : va_D A (wj [gcells C a G, ocells C b O3]) := jbD (bs := [gcells C a G, ocells C b O2]) (cs := [ocells C b O2]) (rs := [gcells C a G]) (cs' := [ocells C b O3]) (bs' := [gcells C a G, ocells C b O3]) hP hD (bsP 2 [1, 0] rfl (by decide) rfl) (bsP 2 [1, 0] rfl (by decide) rfl) hFc hDn
  have hP : va_P D vwCl (wj [gcells C a G, ocells C b O3]) H1 := jb (bs := [gcells C a G, ocells C b O2]) (cs := [ocells C b O2]) (rs := [gcells C a G]) (cs' := [ocells C b O3]) (bs' := [gcells C a G, ocells C b O3]) hP hD (bsP 2 [1, 0] rfl (by decide) rfl) (bsP 2 [1, 0] rfl (by decide) rfl) hk hPn
  have hD := hD1
  have hTO3 : OT (wN (gHi G k) (wC 45 (wN (gLo G k) (T)))) O3 := hF1
  refine lv_bipush (v := 47) hx hb dX1_describe_24 (by decide) ?_
  have hPc : va_P D vwCl (ocells C b O3) _ := wj_P (cs := [ocells C b O3]) hP [1] rfl
  have hDc : va_D A (ocells C b O3) := wj_D (cs := [ocells C b O3]) hD [1] (by decide) rfl
  have hFc : ∀ q, va_A (ocells C b O3) (Array.size _) q → A q := wj_F (cs := [ocells C b O3]) hD hS hA [1] rfl
  refine callE (va_runV (As := [.int (nI 47)]) (rest := []) ⟨hx, hb, hml, hown, hts⟩ (c_J4_append_cf468 l D C ev b (wN (gHi G k) (wC 45 (wN (gLo G k) (T)))) O3 47 hTO3 (by first | omega | (simp only [wC, wN]; omega)) (by decide) _) (cwV 1 hts gX1_describe_J4_append_cf468 rfl rfl rfl (by decide +kernel) ⟨Nat.le_of_ble_eq_true rfl, Nat.le_of_ble_eq_true rfl⟩) (oP_v hPc hK hE hDc hR hX hV0 hS hFc (va_recv hK hPc (ci := 1) (q0 := 0) rfl rfl)) rfl rfl hl.1 rfl (lv_room (Nat.le_of_ble_eq_true rfl)) dX1_describe_26 ⟨by first | exact Nat.le_of_ble_eq_true rfl | omega, by first | exact Nat.le_of_ble_eq_true rfl | omega⟩) hS hFc (fun O4 H1 locs hF1 hPn hDn hk hS => ?_)
  have hPn : va_P D vwCl (ocells C b O4) H1 := hPn
  have hD1 : va_D A (wj [gcells C a G, ocells C b O4]) := jbD (bs := [gcells C a G, ocells C b O3]) (cs := [ocells C b O3]) (rs := [gcells C a G]) (cs' := [ocells C b O4]) (bs' := [gcells C a G, ocells C b O4]) hP hD (bsP 2 [1, 0] rfl (by decide) rfl) (bsP 2 [1, 0] rfl (by decide) rfl) hFc hDn
  have hP : va_P D vwCl (wj [gcells C a G, ocells C b O4]) H1 := jb (bs := [gcells C a G, ocells C b O3]) (cs := [ocells C b O3]) (rs := [gcells C a G]) (cs' := [ocells C b O4]) (bs' := [gcells C a G, ocells C b O4]) hP hD (bsP 2 [1, 0] rfl (by decide) rfl) (bsP 2 [1, 0] rfl (by decide) rfl) hk hPn
  have hD := hD1
  have hTO4 : OT (wC 47 (wN (gHi G k) (wC 45 (wN (gLo G k) (T))))) O4 := hF1
  refine lv_aload_n hx hb dX1_describe_29 rfl (lv_at hl 0 rfl) ?_
  refine va_get (D := D) (ci := 4) (v := .ref (a 5)) (C := RX1) (T := TX1) (N := 16) hx hb hts hinX1 hown hK hP 0 rfl rfl 8 (by decide) (hts (.fieldLink RX1 37 "BridgeAuction$Game" "lengths" "[I") (by decide +kernel)) (fun _ h9 => h9) rfl dX1_describe_30 ?_
  refine lv_iload_n hx hb dX1_describe_33 rfl (lv_at hl 1 rfl) ?_
  refine ialdN (tys := tyA C) hx hb hK hP 5 0 rfl rfl (i := k) (by omega) (by decide) dX1_describe_34 ?_
  refine topN eL ?_
  have hPc : va_P D vwCl (ocells C b O4) _ := wj_P (cs := [ocells C b O4]) hP [1] rfl
  have hDc : va_D A (ocells C b O4) := wj_D (cs := [ocells C b O4]) hD [1] (by decide) rfl
  have hFc : ∀ q, va_A (ocells C b O4) (Array.size _) q → A q := wj_F (cs := [ocells C b O4]) hD hS hA [1] rfl
  refine callE (va_runV (As := [.int (nI ((gLen G k).toNatClampNeg))]) (rest := []) ⟨hx, hb, hml, hown, hts⟩ (c_J4_append_bf812 l D C ev b (wC 47 (wN (gHi G k) (wC 45 (wN (gLo G k) (T))))) O4 ((gLen G k).toNatClampNeg) hTO4 (by first | omega | (simp only [wC, wN]; omega)) (by omega) _) (cwV 1 hts gX1_describe_J4_append_bf812 rfl rfl rfl (by decide +kernel) ⟨Nat.le_of_ble_eq_true rfl, Nat.le_of_ble_eq_true rfl⟩) (oP_v hPc hK hE hDc hR hX hV0 hS hFc (va_recv hK hPc (ci := 1) (q0 := 0) rfl rfl)) rfl rfl hl.1 rfl (lv_room (Nat.le_of_ble_eq_true rfl)) dX1_describe_35 ⟨by first | exact Nat.le_of_ble_eq_true rfl | omega, by first | exact Nat.le_of_ble_eq_true rfl | omega⟩) hS hFc (fun O5 H1 locs hF1 hPn hDn hk hS => ?_)
  have hPn : va_P D vwCl (ocells C b O5) H1 := hPn
  have hD1 : va_D A (wj [gcells C a G, ocells C b O5]) := jbD (bs := [gcells C a G, ocells C b O4]) (cs := [ocells C b O4]) (rs := [gcells C a G]) (cs' := [ocells C b O5]) (bs' := [gcells C a G, ocells C b O5]) hP hD (bsP 2 [1, 0] rfl (by decide) rfl) (bsP 2 [1, 0] rfl (by decide) rfl) hFc hDn
  have hP : va_P D vwCl (wj [gcells C a G, ocells C b O5]) H1 := jb (bs := [gcells C a G, ocells C b O4]) (cs := [ocells C b O4]) (rs := [gcells C a G]) (cs' := [ocells C b O5]) (bs' := [gcells C a G, ocells C b O5]) hP hD (bsP 2 [1, 0] rfl (by decide) rfl) (bsP 2 [1, 0] rfl (by decide) rfl) hk hPn
  have hD := hD1
  have hTO5 : OT (wN ((gLen G k).toNatClampNeg) (wC 47 (wN (gHi G k) (wC 45 (wN (gLo G k) (T)))))) O5 := hF1
  refine lv_pop hx hb dX1_describe_38 rfl ?_
  refine lv_aload_n hx hb dX1_describe_39 rfl (lv_at hl 0 rfl) ?_
  refine lv_iload_n hx hb dX1_describe_40 rfl (lv_at hl 1 rfl) ?_
  have hPg : va_P D vwCl (gcells C a G) _ := wj_P (cs := [gcells C a G]) hP [0] rfl
  refine callRo (va_runV (As := [.int (nI k)]) (rest := []) ⟨hx, hb, hml, hown, hts⟩ (c_X1_hasBridge l D C a G k hG hk12) (cwV 1 hts gX1_describe_X1_hasBridge rfl rfl rfl (by decide +kernel) ⟨Nat.le_of_ble_eq_true rfl, Nat.le_of_ble_eq_true rfl⟩) (roP_v hPg hK hE (va_recv hK hPg (ci := 4) (q0 := 0) rfl rfl)) rfl rfl hl.1 rfl (lv_room (Nat.le_of_ble_eq_true rfl)) dX1_describe_41 ⟨by first | exact Nat.le_refl _ | exact Nat.le_of_ble_eq_true rfl | (show cells + 0 ≤ 31; omega), by first | exact Nat.le_refl _ | exact Nat.le_of_ble_eq_true rfl | (show slots + 0 ≤ 1054; omega)⟩) ?_
  refine bif_eq (tgt := 64) hx hb dX1_describe_44 (by decide) (fun c_44 => ?_) (fun c_44 => ?_)
  · refine lv_iconst (v := 0) hx hb dX1_describe_64 (by decide) ?_
    refine lv_istore_n (lv' := [(3, .int 0), (0, .ref (a 0)), (1, .int (nI k)), (2, .ref (b 0))]) hx hb dX1_describe_65 rfl hl (by decide) rfl (fun ls hl => ?_)
    have hz : dSite G k T = dBids G k (gP G) 0 (wN ((gLen G k).toNatClampNeg) (wC 47 (wN (gHi G k) (wC 45 (wN (gLo G k) (T)))))) := by unfold dSite lt_; dsimp only; rw [ifB_f c_44]
    have loop : ∀ (n j : Nat) (T9 : TX) (O9 : OS) (H : Heap) (locs : List Loc) (ls : Array Slot) (cells slots : Nat), j + n = gP G → dBids G k n j T9 = dSite G k T → OT T9 O9 → T9.2 ≤ 5 + 7 * j → va_P D vwCl (wj [gcells C a G, ocells C b O9]) H → va_D A (wj [gcells C a G, ocells C b O9]) → va_S A s.heap H locs → lv_has ls 4 [(3, .int (nI j)), (0, .ref (a 0)), (1, .int (nI k)), (2, .ref (b 0))] → cells ≤ 7 + 6 * j → slots ≤ 34 * (7 + 6 * j) → W p l e (headSpec wsX1_describe ({ frames := 7, cells := 31, slots := 1054, locals := 158 } : Room)).room s m #[Value.ref (a 0), Value.int (nI k), Value.ref (b 0)] below meth c H locs cells slots (MQ below (eO (fun _ : OS => none) D (OT (dSite G k T)) (fun O1 => wj [gcells C a G, ocells C b O1]) A) #[Value.ref (a 0), Value.int (nI k), Value.ref (b 0)] s 31 1054 A) (F0 m 66 ls []) := by
      intro n
      induction n with
      | zero =>
        intro j T9 O9 H locs ls cells slots hj hdz hO9 hT9 hP hD hS hl hc9 hs9
        refine lv_iload_n hx hb dX1_describe_66 rfl (lv_at hl 0 rfl) ?_
        refine lv_aload_n hx hb dX1_describe_67 rfl (lv_at hl 1 rfl) ?_
        refine va_get (D := D) (ci := 4) (v := .int (nI (gP G))) (C := RX1) (T := TX1) (N := 16) hx hb hts hinX1 hown hK hP 0 rfl rfl 2 (by decide) (hts (.fieldLink RX1 19 "BridgeAuction$Game" "players" "I") (by decide +kernel)) (fun _ h9 => h9) rfl dX1_describe_68 ?_
        refine lv_icmp_ge (tgt := 96) hx hb dX1_describe_71 (by decide) (fun _ => ?_) (fun c_71 => absurd (by rw [show j = gP G by omega]; exact Int32.le_refl _) c_71)
        exact e_retV O9 rfl hx hb hr (hdz ▸ hO9) hP hD hS (by omega) (by omega) dX1_describe_96 hlocks
      | succ n ih =>
        intro j T9 O9 H locs ls cells slots hj hdz hO9 hT9 hP hD hS hl hc9 hs9
        refine lv_iload_n hx hb dX1_describe_66 rfl (lv_at hl 0 rfl) ?_
        refine lv_aload_n hx hb dX1_describe_67 rfl (lv_at hl 1 rfl) ?_
        refine va_get (D := D) (ci := 4) (v := .int (nI (gP G))) (C := RX1) (T := TX1) (N := 16) hx hb hts hinX1 hown hK hP 0 rfl rfl 2 (by decide) (hts (.fieldLink RX1 19 "BridgeAuction$Game" "players" "I") (by decide +kernel)) (fun _ h9 => h9) rfl dX1_describe_68 ?_
        refine lv_icmp_ge (tgt := 96) hx hb dX1_describe_71 (by decide) (fun c_71 => absurd c_71 (nI_ge (by omega) (by omega))) (fun _ => ?_)
        refine lv_aload_n hx hb dX1_describe_74 rfl (lv_at hl 1 rfl) ?_
        refine lv_iload_n hx hb dX1_describe_75 rfl (lv_at hl 0 rfl) ?_
        refine lv_iload_n hx hb dX1_describe_76 rfl (lv_at hl 2 rfl) ?_
        have hPg : va_P D vwCl (gcells C a G) _ := wj_P (cs := [gcells C a G]) hP [0] rfl
        refine callRo (va_runV (As := [.int (nI j), .int (nI k)]) (rest := []) ⟨hx, hb, hml, hown, hts⟩ (c_X1_hasBid l D C a G j k hG (by omega) hk12) (cwV 2 hts gX1_describe_X1_hasBid rfl rfl rfl (by decide +kernel) ⟨Nat.le_of_ble_eq_true rfl, Nat.le_of_ble_eq_true rfl⟩) (roP_v hPg hK hE (va_recv hK hPg (ci := 4) (q0 := 0) rfl rfl)) rfl rfl hl.1 rfl (lv_room (Nat.le_of_ble_eq_true rfl)) dX1_describe_77 ⟨by first | exact Nat.le_refl _ | exact Nat.le_of_ble_eq_true rfl | (show cells + 0 ≤ 31; omega), by first | exact Nat.le_refl _ | exact Nat.le_of_ble_eq_true rfl | (show slots + 0 ≤ 1054; omega)⟩) ?_
        refine bif_eq (tgt := 90) hx hb dX1_describe_80 (by decide) (fun c_80 => ?_) (fun c_80 => ?_)
        · refine lv_iinc (v := (nI (j + 1))) (lv' := [(3, .int (nI (j + 1))), (0, .ref (a 0)), (1, .int (nI k)), (2, .ref (b 0))]) hx hb dX1_describe_90 hl (k := 0) rfl (by exact nI_1 _) (by decide) rfl (fun ls hl => ?_)
          refine lv_goto (tgt := 66) hx hb dX1_describe_93 (by decide) ?_
          exact ih (j + 1) T9 O9 _ _ _ _ _ (by omega) (by rw [← hdz]; show _ = dBids G k n (j + 1) (if f_X1_hasBid G j k = true then dBid G j k T9 else T9); rw [ifB_f c_80]) hO9 (by omega) hP hD hS hl (by omega) (by omega)
        · refine lv_aload_n hx hb dX1_describe_83 rfl (lv_at hl 1 rfl) ?_
          refine lv_iload_n hx hb dX1_describe_84 rfl (lv_at hl 0 rfl) ?_
          refine lv_iload_n hx hb dX1_describe_85 rfl (lv_at hl 2 rfl) ?_
          refine lv_aload_n hx hb dX1_describe_86 rfl (lv_at hl 3 rfl) ?_
          have hFc : ∀ q, va_A (wj [gcells C a G, ocells C b O9]) (Array.size _) q → A q := wj_F (cs := [gcells C a G, ocells C b O9]) hD hS hA [0, 1] rfl
          refine callE (va_runV (As := [.int (nI j), .int (nI k), .ref (b 0)]) (rest := []) ⟨hx, hb, hml, hown, hts⟩ (c_X1_describeBid l D C ev a b G j k T9 O9 hG (by omega) hk12 (hA1 j (by omega)) hO9 (by omega) _) (cwV 3 hts gX1_describe_X1_describeBid rfl rfl rfl (by decide +kernel) ⟨Nat.le_of_ble_eq_true rfl, Nat.le_of_ble_eq_true rfl⟩) (oP_v hP hK hE hD hR hX hV0 hS hFc (va_recv hK hP (ci := 4) (q0 := 0) rfl rfl)) rfl rfl hl.1 rfl (lv_room (Nat.le_of_ble_eq_true rfl)) dX1_describe_87 ⟨by show cells + 6 ≤ 31; omega, by show slots + 204 ≤ 1054; omega⟩) hS hFc (fun O8 H1 locs hF1 hPn hDn hk9 hS => ?_)
          have hP : va_P D vwCl (wj [gcells C a G, ocells C b O8]) H1 := hPn
          have hD : va_D A (wj [gcells C a G, ocells C b O8]) := hDn.weaken (fun _ x _ h => hFc x.1 h)
          refine lv_iinc (v := (nI (j + 1))) (lv' := [(3, .int (nI (j + 1))), (0, .ref (a 0)), (1, .int (nI k)), (2, .ref (b 0))]) hx hb dX1_describe_90 hl (k := 0) rfl (by exact nI_1 _) (by decide) rfl (fun ls hl => ?_)
          refine lv_goto (tgt := 66) hx hb dX1_describe_93 (by decide) ?_
          exact ih (j + 1) (dBid G j k T9) O8 _ _ _ _ _ (by omega) (by rw [← hdz]; show _ = dBids G k n (j + 1) (if f_X1_hasBid G j k = true then dBid G j k T9 else T9); rw [if_pos c_80]) hF1 (by have := dBid_le G j k T9 (by omega); omega) hP hD hS hl (by omega) (by omega)
    exact loop (gP G) 0 (wN ((gLen G k).toNatClampNeg) (wC 47 (wN (gHi G k) (wC 45 (wN (gLo G k) (T)))))) O5 _ _ _ _ _ (Nat.zero_add _) hz.symm hTO5 (by first | omega | (simp only [wC, wN]; omega)) hP hD hS hl (by first | exact Nat.le_of_ble_eq_true rfl | omega) (by first | exact Nat.le_of_ble_eq_true rfl | omega)
  · refine lv_aload_n hx hb dX1_describe_47 rfl (lv_at hl 2 rfl) ?_
    refine lv_bipush (v := 61) hx hb dX1_describe_48 (by decide) ?_
    have hPc : va_P D vwCl (ocells C b O5) _ := wj_P (cs := [ocells C b O5]) hP [1] rfl
    have hDc : va_D A (ocells C b O5) := wj_D (cs := [ocells C b O5]) hD [1] (by decide) rfl
    have hFc : ∀ q, va_A (ocells C b O5) (Array.size _) q → A q := wj_F (cs := [ocells C b O5]) hD hS hA [1] rfl
    refine callE (va_runV (As := [.int (nI 61)]) (rest := []) ⟨hx, hb, hml, hown, hts⟩ (c_J4_append_cf468 l D C ev b (wN ((gLen G k).toNatClampNeg) (wC 47 (wN (gHi G k) (wC 45 (wN (gLo G k) (T)))))) O5 61 hTO5 (by first | omega | (simp only [wC, wN]; omega)) (by decide) _) (cwV 1 hts gX1_describe_J4_append_cf468 rfl rfl rfl (by decide +kernel) ⟨Nat.le_of_ble_eq_true rfl, Nat.le_of_ble_eq_true rfl⟩) (oP_v hPc hK hE hDc hR hX hV0 hS hFc (va_recv hK hPc (ci := 1) (q0 := 0) rfl rfl)) rfl rfl hl.1 rfl (lv_room (Nat.le_of_ble_eq_true rfl)) dX1_describe_50 ⟨by first | exact Nat.le_of_ble_eq_true rfl | omega, by first | exact Nat.le_of_ble_eq_true rfl | omega⟩) hS hFc (fun O6 H1 locs hF1 hPn hDn hk hS => ?_)
    have hPn : va_P D vwCl (ocells C b O6) H1 := hPn
    have hD1 : va_D A (wj [gcells C a G, ocells C b O6]) := jbD (bs := [gcells C a G, ocells C b O5]) (cs := [ocells C b O5]) (rs := [gcells C a G]) (cs' := [ocells C b O6]) (bs' := [gcells C a G, ocells C b O6]) hP hD (bsP 2 [1, 0] rfl (by decide) rfl) (bsP 2 [1, 0] rfl (by decide) rfl) hFc hDn
    have hP : va_P D vwCl (wj [gcells C a G, ocells C b O6]) H1 := jb (bs := [gcells C a G, ocells C b O5]) (cs := [ocells C b O5]) (rs := [gcells C a G]) (cs' := [ocells C b O6]) (bs' := [gcells C a G, ocells C b O6]) hP hD (bsP 2 [1, 0] rfl (by decide) rfl) (bsP 2 [1, 0] rfl (by decide) rfl) hk hPn
    have hD := hD1
    have hTO6 : OT (wC 61 (wN ((gLen G k).toNatClampNeg) (wC 47 (wN (gHi G k) (wC 45 (wN (gLo G k) (T))))))) O6 := hF1
    obtain ⟨eB, lB⟩ := nat_of (hB1 c_44) (by decide)
    have d4 := dl_1 lB
    refine lv_aload_n hx hb dX1_describe_53 rfl (lv_at hl 0 rfl) ?_
    refine va_get (D := D) (ci := 4) (v := .ref (a 6)) (C := RX1) (T := TX1) (N := 16) hx hb hts hinX1 hown hK hP 0 rfl rfl 9 (by decide) (hts (.fieldLink RX1 40 "BridgeAuction$Game" "builders" "[I") (by decide +kernel)) (fun _ h9 => h9) rfl dX1_describe_54 ?_
    refine lv_iload_n hx hb dX1_describe_57 rfl (lv_at hl 1 rfl) ?_
    refine ialdN (tys := tyA C) hx hb hK hP 6 0 rfl rfl (i := k) (by omega) (by decide) dX1_describe_58 ?_
    refine topN eB ?_
    have hPc : va_P D vwCl (ocells C b O6) _ := wj_P (cs := [ocells C b O6]) hP [1] rfl
    have hDc : va_D A (ocells C b O6) := wj_D (cs := [ocells C b O6]) hD [1] (by decide) rfl
    have hFc : ∀ q, va_A (ocells C b O6) (Array.size _) q → A q := wj_F (cs := [ocells C b O6]) hD hS hA [1] rfl
    refine callE (va_runV (As := [.int (nI ((gBld G k).toNatClampNeg))]) (rest := []) ⟨hx, hb, hml, hown, hts⟩ (c_J4_append_bf812 l D C ev b (wC 61 (wN ((gLen G k).toNatClampNeg) (wC 47 (wN (gHi G k) (wC 45 (wN (gLo G k) (T))))))) O6 ((gBld G k).toNatClampNeg) hTO6 (by first | omega | (simp only [wC, wN]; omega)) (by omega) _) (cwV 1 hts gX1_describe_J4_append_bf812 rfl rfl rfl (by decide +kernel) ⟨Nat.le_of_ble_eq_true rfl, Nat.le_of_ble_eq_true rfl⟩) (oP_v hPc hK hE hDc hR hX hV0 hS hFc (va_recv hK hPc (ci := 1) (q0 := 0) rfl rfl)) rfl rfl hl.1 rfl (lv_room (Nat.le_of_ble_eq_true rfl)) dX1_describe_59 ⟨by first | exact Nat.le_of_ble_eq_true rfl | omega, by first | exact Nat.le_of_ble_eq_true rfl | omega⟩) hS hFc (fun O7 H1 locs hF1 hPn hDn hk hS => ?_)
    have hPn : va_P D vwCl (ocells C b O7) H1 := hPn
    have hD1 : va_D A (wj [gcells C a G, ocells C b O7]) := jbD (bs := [gcells C a G, ocells C b O6]) (cs := [ocells C b O6]) (rs := [gcells C a G]) (cs' := [ocells C b O7]) (bs' := [gcells C a G, ocells C b O7]) hP hD (bsP 2 [1, 0] rfl (by decide) rfl) (bsP 2 [1, 0] rfl (by decide) rfl) hFc hDn
    have hP : va_P D vwCl (wj [gcells C a G, ocells C b O7]) H1 := jb (bs := [gcells C a G, ocells C b O6]) (cs := [ocells C b O6]) (rs := [gcells C a G]) (cs' := [ocells C b O7]) (bs' := [gcells C a G, ocells C b O7]) hP hD (bsP 2 [1, 0] rfl (by decide) rfl) (bsP 2 [1, 0] rfl (by decide) rfl) hk hPn
    have hD := hD1
    have hTO7 : OT (wN ((gBld G k).toNatClampNeg) (wC 61 (wN ((gLen G k).toNatClampNeg) (wC 47 (wN (gHi G k) (wC 45 (wN (gLo G k) (T)))))))) O7 := hF1
    refine lv_pop hx hb dX1_describe_62 rfl ?_
    have hz : dSite G k T = wN ((gBld G k).toNatClampNeg) (wC 61 (wN ((gLen G k).toNatClampNeg) (wC 47 (wN (gHi G k) (wC 45 (wN (gLo G k) (T))))))) := by unfold dSite lt_; dsimp only; rw [if_pos c_44]
    exact e_retV O7 rfl hx hb hr (hz ▸ hTO7) hP hD hS (Nat.le_of_ble_eq_true rfl) (Nat.le_of_ble_eq_true rfl) dX1_describe_63 hlocks
