def f_X7_renderSite (Q : QS) (G : GS) (T : TX) (x : Int32) : Nat × TX := if f_X7_requireSite Q G x = 0 then (0, dSite G x.toNatClampNeg (T.1, 0)) else (f_X7_requireSite Q G x, T)
set_option maxHeartbeats 4000000 in
set_option maxRecDepth 100000 in
theorem c_X7_renderSite (l : Launch) (D : va_G) (C : Nat → ClassId) (ev : Nat → Nat) (u : Nat → Nat) (Q : QS) (G : GS) (T : TX) (O : OS) (x : Int32) (hG : GSafe G) (hd : ∀ k, k < gS G → DOK G k) (hO : OT T O) (sz : Nat) (hl9 : l.stackTraces = false) : vx_Met l yX7_renderSite wsX7_renderSite ({ frames := 8, cells := 33, slots := 1094, locals := 181 } : Room) (xoP [.ref (u 0), .int x] D C ev (wj [acells C u Q, gcells C (uA u) G, ocells C (uO u) O]) sz) (xE ((f_X7_renderSite Q G T x).1) (fun _ : OS => some (.int (nI (f_X7_renderSite Q G T x).2.2))) D (OT (f_X7_renderSite Q G T x).2) (fun O1 => wj [acells C u Q, gcells C (uA u) G, ocells C (uO u) O1]) (va_A (wj [acells C u Q, gcells C (uA u) G, ocells C (uO u) O]) sz)) (xC ((f_X7_renderSite Q G T x).1) D (wj [acells C u Q, gcells C (uA u) G, ocells C (uO u) O]) (va_A (wj [acells C u Q, gcells C (uA u) G, ocells C (uO u) O]) sz)) 33 1094 (va_A (wj [acells C u Q, gcells C (uA u) G, ocells C (uO u) O]) sz) := by
  refine vx_ofW (cc := cX7_renderSite) (maxL := 2) (ret := (some .int)) (by decide) rfl ?_
  intro p e s m args below meth c s₁ B hml htab hv
  obtain ⟨⟨rfl, hsz, hP, hK, hD0, hE, hR, hX, hT9, hV9⟩, hV0⟩ := hv
  have hx := B.exec
  have hb := B.bytes
  have hr := B.returns
  have hts := atoms_spec (ws := wsX7_renderSite) B.pre
  have hown : s.vm.findClass RX7 = some m.cls := findClass_of_methodNamed B.named
  have hlocks := B.notSynchronized
  subst hsz
  have hD := hD0.self (sz := s.heap.size)
  generalize hAe : va_A (wj [acells C u Q, gcells C (uA u) G, ocells C (uO u) O]) s.heap.size = A at hD hX hV0 hV9 ⊢
  have hA : ∀ q : Nat, s.heap.size ≤ q → A q := fun q h => by rw [← hAe]; exact Or.inr h
  have hS0 : va_S A s.heap s.heap [] := va_S.rf
  have hP : va_P D vwCl (wj [acells C u Q, gcells C (uA u) G, ocells C (uO u) O]) s.heap := hP
  have hS := hS0
  obtain ⟨⟨hV, hB, hMV, hMB, hAL, hEk, hEa, hTX, hXZ⟩, hCS, hSF⟩ := id hX
  have hinX7 : ∀ w ∈ u_ws RX7 TX7 10, w ∈ wsX7_renderSite := by decide +kernel
  obtain ⟨hS12, hP4, hlo, hhi⟩ := id hG
  have hl := lv_entry ([.ref (u 0), .int x]) (n := 2) (Nat.le_of_ble_eq_true rfl)
  rw [lg_entry_eq]
  generalize (lg_sl ([.ref (u 0), .int x]) ++ List.replicate (2 - (lg_sl ([.ref (u 0), .int x])).length) Slot.unset).toArray = ls at hl ⊢
  have hl : lv_has ls 2 [(0, .ref (u 0)), (1, .int x)] := hl
  refine lv_aload_n hx hb dX7_renderSite_0 rfl (lv_at hl 0 rfl) ?_
  refine lv_iload_n hx hb dX7_renderSite_1 rfl (lv_at hl 1 rfl) ?_
  have hPc : va_P D vwCl (wj [acells C u Q, gcells C (uA u) G]) _ := wj_P (cs := [acells C u Q, gcells C (uA u) G]) hP [0, 1] rfl
  have hDc : va_D A (wj [acells C u Q, gcells C (uA u) G]) := wj_D (cs := [acells C u Q, gcells C (uA u) G]) hD [0, 1] (by decide) rfl
  have hFc : ∀ q, va_A (wj [acells C u Q, gcells C (uA u) G]) (Array.size _) q → A q := wj_F (cs := [acells C u Q, gcells C (uA u) G]) hD hS hA [0, 1] rfl
  refine callX (vx_runV (As := [.int x]) (rest := []) ⟨hx, hb, hml, hown, hts⟩ (c_X7_requireSite l D C ev u Q G (x) _ hG hl9) (cwV 1 hts gX7_renderSite_X7_requireSite rfl rfl rfl (by decide +kernel) ⟨Nat.le_of_ble_eq_true rfl, Nat.le_of_ble_eq_true rfl⟩) (xP_v hPc hK hE hDc hR hX hT9 hV9 hS hFc (va_recv hK hPc (ci := 8) (q0 := 0) rfl rfl)) rfl rfl hl.1 rfl (lv_room (Nat.le_of_ble_eq_true rfl)) dX7_renderSite_2 ⟨Nat.le_of_ble_eq_true rfl, Nat.le_of_ble_eq_true rfl⟩) hS hFc (fun hc0 hc7 ce q9 H1 locs hPn hk hS hcell hcv hcl => ?_) (fun hc0 H1 locs hPn hk hS => ?_)
  · have hP : va_P D vwCl (wj [acells C u Q, gcells C (uA u) G, ocells C (uO u) O]) H1 := jb (bs := [acells C u Q, gcells C (uA u) G, ocells C (uO u) O]) (cs := [acells C u Q, gcells C (uA u) G]) (rs := [ocells C (uO u) O]) (cs' := [acells C u Q, gcells C (uA u) G]) (bs' := [acells C u Q, gcells C (uA u) G, ocells C (uO u) O]) hP hD (bsP 3 [0, 1, 2] rfl (by decide) rfl) (bsP 3 [0, 1, 2] rfl (by decide) rfl) hk hPn
    have ez : (f_X7_renderSite Q G T x).1 = f_X7_requireSite Q G x := by unfold f_X7_renderSite; rw [if_neg (Nat.ne_of_gt hc0)]
    exact x_out htab hlocks hcell hcv hcl hP hS hc0 hc7 ez (Nat.le_of_ble_eq_true rfl) (Nat.le_of_ble_eq_true rfl)
  · have hP : va_P D vwCl (wj [acells C u Q, gcells C (uA u) G, ocells C (uO u) O]) H1 := jb (bs := [acells C u Q, gcells C (uA u) G, ocells C (uO u) O]) (cs := [acells C u Q, gcells C (uA u) G]) (rs := [ocells C (uO u) O]) (cs' := [acells C u Q, gcells C (uA u) G]) (bs' := [acells C u Q, gcells C (uA u) G, ocells C (uO u) O]) hP hD (bsP 3 [0, 1, 2] rfl (by decide) rfl) (bsP 3 [0, 1, 2] rfl (by decide) rfl) hk hPn
    have hsx := X7_site (Q := Q) hG hc0
    obtain ⟨ex, lx⟩ := nat_of hsx (by omega)
    refine lv_aload_n hx hb dX7_renderSite_5 rfl (lv_at hl 0 rfl) ?_
    refine va_get (D := D) (ci := 8) (v := .ref (uO u 0)) (C := RX7) (T := TX7) (N := 10) hx hb hts hinX7 hown hK hP 0 rfl rfl 6 (by decide) (hts (.fieldLink RX7 46 "BridgeAuction" "output" "Ljava/lang/StringBuilder;") (by decide +kernel)) (fun _ h9 => h9) rfl dX7_renderSite_6 ?_
    refine lv_iconst (v := 0) hx hb dX7_renderSite_9 (by decide) ?_
    have hPc : va_P D vwCl (ocells C (uO u) O) _ := wj_P (cs := [ocells C (uO u) O]) hP [2] rfl
    have hDc : va_D A (ocells C (uO u) O) := wj_D (cs := [ocells C (uO u) O]) hD [2] (by decide) rfl
    have hFc : ∀ q, va_A (ocells C (uO u) O) (Array.size _) q → A q := wj_F (cs := [ocells C (uO u) O]) hD hS hA [2] rfl
    refine callE (va_runV (As := [.int 0]) (rest := []) ⟨hx, hb, hml, hown, hts⟩ (c_J4_setLength_d00df l D C ev (uO u) T O hO _) (cwV 1 hts gX7_renderSite_J4_setLength_d00df rfl rfl rfl (by decide +kernel) ⟨Nat.le_of_ble_eq_true rfl, Nat.le_of_ble_eq_true rfl⟩) (oP_v hPc hK hE hDc hR hX hV0 hS hFc (va_recv hK hPc (ci := 1) (q0 := 0) rfl rfl)) rfl rfl hl.1 rfl (lv_room (Nat.le_of_ble_eq_true rfl)) dX7_renderSite_10 ⟨by first | exact Nat.le_of_ble_eq_true rfl | omega, by first | exact Nat.le_of_ble_eq_true rfl | omega⟩) hS hFc (fun O1 H1 locs hF1 hPn hDn hk hS => ?_)
    have hPn : va_P D vwCl (ocells C (uO u) O1) H1 := hPn
    have hD1 : va_D A (wj [acells C u Q, gcells C (uA u) G, ocells C (uO u) O1]) := jbD (bs := [acells C u Q, gcells C (uA u) G, ocells C (uO u) O]) (cs := [ocells C (uO u) O]) (rs := [acells C u Q, gcells C (uA u) G]) (cs' := [ocells C (uO u) O1]) (bs' := [acells C u Q, gcells C (uA u) G, ocells C (uO u) O1]) hP hD (bsP 3 [2, 0, 1] rfl (by decide) rfl) (bsP 3 [1, 2, 0] rfl (by decide) rfl) hFc hDn
    have hP : va_P D vwCl (wj [acells C u Q, gcells C (uA u) G, ocells C (uO u) O1]) H1 := jb (bs := [acells C u Q, gcells C (uA u) G, ocells C (uO u) O]) (cs := [ocells C (uO u) O]) (rs := [acells C u Q, gcells C (uA u) G]) (cs' := [ocells C (uO u) O1]) (bs' := [acells C u Q, gcells C (uA u) G, ocells C (uO u) O1]) hP hD (bsP 3 [2, 0, 1] rfl (by decide) rfl) (bsP 3 [1, 2, 0] rfl (by decide) rfl) hk hPn
    have hD := hD1
    refine lv_aload_n hx hb dX7_renderSite_13 rfl (lv_at hl 0 rfl) ?_
    refine va_get (D := D) (ci := 8) (v := .ref (uA u 0)) (C := RX7) (T := TX7) (N := 10) hx hb hts hinX7 hown hK hP 0 rfl rfl 0 (by decide) (hts (.fieldLink RX7 10 "BridgeAuction" "game" "LBridgeAuction$Game;") (by decide +kernel)) (fun _ h9 => h9) rfl dX7_renderSite_14 ?_
    refine lv_iload_n hx hb dX7_renderSite_17 rfl (lv_at hl 1 rfl) ?_
    refine topN ex ?_
    refine lv_aload_n hx hb dX7_renderSite_18 rfl (lv_at hl 0 rfl) ?_
    refine va_get (D := D) (ci := 8) (v := .ref (uO u 0)) (C := RX7) (T := TX7) (N := 10) hx hb hts hinX7 hown hK hP 0 rfl rfl 6 (by decide) (hts (.fieldLink RX7 46 "BridgeAuction" "output" "Ljava/lang/StringBuilder;") (by decide +kernel)) (fun _ h9 => h9) rfl dX7_renderSite_19 ?_
    have hPc : va_P D vwCl (wj [gcells C (uA u) G, ocells C (uO u) O1]) _ := wj_P (cs := [gcells C (uA u) G, ocells C (uO u) O1]) hP [1, 2] rfl
    have hDc : va_D A (wj [gcells C (uA u) G, ocells C (uO u) O1]) := wj_D (cs := [gcells C (uA u) G, ocells C (uO u) O1]) hD [1, 2] (by decide) rfl
    have hFc : ∀ q, va_A (wj [gcells C (uA u) G, ocells C (uO u) O1]) (Array.size _) q → A q := wj_F (cs := [gcells C (uA u) G, ocells C (uO u) O1]) hD hS hA [1, 2] rfl
    have hO1 : OT (T.1, 0) O1 := hF1
    refine callE (va_runV (As := [.int (nI x.toNatClampNeg), .ref (uO u 0)]) (rest := []) ⟨hx, hb, hml, hown, hts⟩ (c_X1_describe l D C ev (uA u) (uO u) G x.toNatClampNeg (T.1, 0) O1 hG (by omega) (hd _ (by omega)) hO1 rfl _) (cwV 2 hts gX7_renderSite_X1_describe rfl rfl rfl (by decide +kernel) ⟨Nat.le_of_ble_eq_true rfl, Nat.le_of_ble_eq_true rfl⟩) (oP_v hPc hK hE hDc hR hX hV0 hS hFc (va_recv hK hPc (ci := 4) (q0 := 0) rfl rfl)) rfl rfl hl.1 rfl (lv_room (Nat.le_of_ble_eq_true rfl)) dX7_renderSite_22 ⟨Nat.le_of_ble_eq_true rfl, Nat.le_of_ble_eq_true rfl⟩) hS hFc (fun O2 H1 locs hF1 hPn hDn hk hS => ?_)
    have hD1 : va_D A (wj [acells C u Q, gcells C (uA u) G, ocells C (uO u) O2]) := jbD (bs := [acells C u Q, gcells C (uA u) G, ocells C (uO u) O1]) (cs := [gcells C (uA u) G, ocells C (uO u) O1]) (rs := [acells C u Q]) (cs' := [gcells C (uA u) G, ocells C (uO u) O2]) (bs' := [acells C u Q, gcells C (uA u) G, ocells C (uO u) O2]) hP hD (bsP 3 [1, 2, 0] rfl (by decide) rfl) (bsP 3 [2, 0, 1] rfl (by decide) rfl) hFc hDn
    have hP : va_P D vwCl (wj [acells C u Q, gcells C (uA u) G, ocells C (uO u) O2]) H1 := jb (bs := [acells C u Q, gcells C (uA u) G, ocells C (uO u) O1]) (cs := [gcells C (uA u) G, ocells C (uO u) O1]) (rs := [acells C u Q]) (cs' := [gcells C (uA u) G, ocells C (uO u) O2]) (bs' := [acells C u Q, gcells C (uA u) G, ocells C (uO u) O2]) hP hD (bsP 3 [1, 2, 0] rfl (by decide) rfl) (bsP 3 [2, 0, 1] rfl (by decide) rfl) hk hPn
    have hD := hD1
    have hO2 : OT (dSite G x.toNatClampNeg (T.1, 0)) O2 := hF1
    refine lv_aload_n hx hb dX7_renderSite_25 rfl (lv_at hl 0 rfl) ?_
    refine va_get (D := D) (ci := 8) (v := .ref (uO u 0)) (C := RX7) (T := TX7) (N := 10) hx hb hts hinX7 hown hK hP 0 rfl rfl 6 (by decide) (hts (.fieldLink RX7 46 "BridgeAuction" "output" "Ljava/lang/StringBuilder;") (by decide +kernel)) (fun _ h9 => h9) rfl dX7_renderSite_26 ?_
    have hPc : va_P D vwCl (ocells C (uO u) O2) _ := wj_P (cs := [ocells C (uO u) O2]) hP [2] rfl
    refine callRo (va_runV (As := []) (rest := []) ⟨hx, hb, hml, hown, hts⟩ (c_J4_length_8abf5 l D C ev (uO u) O2) (cwV 0 hts gX7_renderSite_J4_length_8abf5 rfl rfl rfl (by decide +kernel) ⟨Nat.le_of_ble_eq_true rfl, Nat.le_of_ble_eq_true rfl⟩) (roPE_v hPc hK hE hR hX hS (va_recv hK hPc (ci := 1) (q0 := 0) rfl rfl)) rfl rfl hl.1 rfl (lv_room (Nat.le_of_ble_eq_true rfl)) dX7_renderSite_29 ⟨by first | exact Nat.le_refl _ | exact Nat.le_of_ble_eq_true rfl | (show cells + 0 ≤ 31; omega), by first | exact Nat.le_refl _ | exact Nat.le_of_ble_eq_true rfl | (show slots + 0 ≤ 1054; omega)⟩) ?_
    have ez : f_X7_renderSite Q G T x = (0, dSite G x.toNatClampNeg (T.1, 0)) := by unfold f_X7_renderSite; exact if_pos hc0
    rw [ez]
    exact x_retE O2 (by rw [hO2.1]) hx hb hr rfl hO2 hP hD hS (Nat.le_of_ble_eq_true rfl) (Nat.le_of_ble_eq_true rfl) dX7_renderSite_32 hlocks
