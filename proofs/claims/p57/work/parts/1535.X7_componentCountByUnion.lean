def f_X7_componentCountByUnion (Q : QS) (G : GS) (Rr : GR) : Nat × Int32 × GR := (lt_ (f_X2_countByJoining Rr G) (fun y8 => (0, y8.1, y8.2)))
set_option maxHeartbeats 4000000 in
set_option maxRecDepth 100000 in
theorem c_X7_componentCountByUnion (l : Launch) (D : va_G) (C : Nat → ClassId) (ev : Nat → Nat) (u : Nat → Nat) (Q : QS) (G : GS) (Rr : GR) (sz : Nat) (hG : GSafe G) (hRr : RSafe Rr) (hl9 : l.stackTraces = false) : vx_Met l yX7_componentCountByUnion wsX7_componentCountByUnion ({ frames := 3, cells := 0, slots := 0, locals := 70 } : Room) (xP [.ref (u 0)] D C ev (wj [acells C u Q, gcells C (uA u) G, grcells C (uG u) Rr]) sz) (xO ((f_X7_componentCountByUnion Q G Rr).1) (some (.int ((f_X7_componentCountByUnion Q G Rr).2.1))) D (wj [acells C u Q, gcells C (uA u) G, grcells C (uG u) ((f_X7_componentCountByUnion Q G Rr).2.2)]) (va_A (wj [acells C u Q, gcells C (uA u) G, grcells C (uG u) Rr]) sz)) (xC ((f_X7_componentCountByUnion Q G Rr).1) D (wj [acells C u Q, gcells C (uA u) G, grcells C (uG u) ((f_X7_componentCountByUnion Q G Rr).2.2)]) (va_A (wj [acells C u Q, gcells C (uA u) G, grcells C (uG u) Rr]) sz)) 0 0 (va_A (wj [acells C u Q, gcells C (uA u) G, grcells C (uG u) Rr]) sz) := by
  refine vx_ofW (cc := cX7_componentCountByUnion) (maxL := 1) (ret := (some .int)) (by decide) rfl ?_
  intro p e s m args below meth c s₁ B hml htab hv
  obtain ⟨rfl, hsz, hP, hK, hD0, hE, hR, hX, hT9, hV9⟩ := hv
  have hx := B.exec
  have hb := B.bytes
  have hr := B.returns
  have hts := atoms_spec (ws := wsX7_componentCountByUnion) B.pre
  have hown : s.vm.findClass RX7 = some m.cls := findClass_of_methodNamed B.named
  have hlocks := B.notSynchronized
  subst hsz
  have hD := hD0.self (sz := s.heap.size)
  generalize hAe : va_A (wj [acells C u Q, gcells C (uA u) G, grcells C (uG u) Rr]) s.heap.size = A at hD hX hV9 ⊢
  have hA : ∀ q : Nat, s.heap.size ≤ q → A q := fun q h => by rw [← hAe]; exact Or.inr h
  have hS0 : va_S A s.heap s.heap [] := va_S.rf
  have hP : va_P D vwCl (wj [acells C u Q, gcells C (uA u) G, grcells C (uG u) Rr]) s.heap := hP
  have hS := hS0
  obtain ⟨⟨hV, hB, hMV, hMB, hAL, hEk, hEa, hTX, hXZ⟩, hCS, hSF⟩ := id hX
  obtain ⟨hS12, hP4, hlo, hhi⟩ := id hG
  obtain hpar := id hRr
  have hinX7 : ∀ w ∈ u_ws RX7 TX7 10, w ∈ wsX7_componentCountByUnion := by decide +kernel
  have hl := lv_entry ([.ref (u 0)]) (n := 1) (Nat.le_of_ble_eq_true rfl)
  rw [lg_entry_eq]
  generalize (lg_sl ([.ref (u 0)]) ++ List.replicate (1 - (lg_sl ([.ref (u 0)])).length) Slot.unset).toArray = ls at hl ⊢
  have hl : lv_has ls 1 [(0, .ref (u 0))] := hl
  obtain ⟨z, hz⟩ : ∃ z, z = f_X7_componentCountByUnion Q G Rr := ⟨_, rfl⟩
  rw [← hz]
  refine lv_aload_n hx hb dX7_componentCountByUnion_0 rfl (lv_at hl 0 rfl) ?_
  refine va_get (D := D) (ci := 8) (v := .ref ((uG u) 0)) (C := RX7) (T := TX7) (N := 10) hx hb hts hinX7 hown hK hP 0 rfl rfl 3 (by decide) (hts (.fieldLink RX7 25 "BridgeAuction" "graph" "LBridgeAuction$Graph;") (by decide +kernel)) (fun _ h9 => h9) rfl dX7_componentCountByUnion_1 ?_
  refine lv_aload_n hx hb dX7_componentCountByUnion_4 rfl (lv_at hl 0 rfl) ?_
  refine va_get (D := D) (ci := 8) (v := .ref ((uA u) 0)) (C := RX7) (T := TX7) (N := 10) hx hb hts hinX7 hown hK hP 0 rfl rfl 0 (by decide) (hts (.fieldLink RX7 10 "BridgeAuction" "game" "LBridgeAuction$Game;") (by decide +kernel)) (fun _ h9 => h9) rfl dX7_componentCountByUnion_5 ?_
  have hPc : va_P D vwCl (grcells C (uG u) Rr ++ gcells C (uA u) G) _ := wj_P (cs := [grcells C (uG u) Rr, gcells C (uA u) G]) hP [2, 1] rfl
  have hDc : va_D A (grcells C (uG u) Rr ++ gcells C (uA u) G) := wj_D (cs := [grcells C (uG u) Rr, gcells C (uA u) G]) hD [2, 1] (by decide) rfl
  have hFc : ∀ q, va_A (grcells C (uG u) Rr ++ gcells C (uA u) G) (Array.size _) q → A q := wj_F (cs := [grcells C (uG u) Rr, gcells C (uA u) G]) hD hS hA [2, 1] rfl
  refine callRw (va_runV (As := [.ref ((uA u) 0)]) (rest := []) ⟨hx, hb, hml, hown, hts⟩ (c_X2_countByJoining l D C (uG u) Rr (uA u) G _ hRr hG) (cwV 1 hts gX7_componentCountByUnion_X2_countByJoining rfl rfl rfl (by decide +kernel) ⟨Nat.le_of_ble_eq_true rfl, Nat.le_of_ble_eq_true rfl⟩) (rwP_v hPc hK hE hDc (va_recv hK hPc (ci := 5) (q0 := 0) rfl rfl)) rfl rfl hl.1 rfl (lv_room (Nat.le_of_ble_eq_true rfl)) dX7_componentCountByUnion_8 ⟨Nat.le_of_ble_eq_true rfl, Nat.le_of_ble_eq_true rfl⟩) hS hFc (fun H1 locs hPn hk hS => ?_)
  generalize hy8 : (f_X2_countByJoining Rr G) = y8 at hPn ⊢
  have hz := lt_eq hz hy8.symm
  have hP : va_P D vwCl (wj [acells C u Q, gcells C (uA u) G, grcells C (uG u) y8.2]) H1 := jb (bs := [acells C u Q, gcells C (uA u) G, grcells C (uG u) Rr]) (cs := [grcells C (uG u) Rr, gcells C (uA u) G]) (rs := [acells C u Q]) (cs' := [grcells C (uG u) y8.2, gcells C (uA u) G]) (bs' := [acells C u Q, gcells C (uA u) G, grcells C (uG u) y8.2]) hP hD (bsP 3 [2, 1, 0] rfl (by decide) rfl) (bsP 3 [2, 1, 0] rfl (by decide) rfl) hk hPn
  have hD : va_D A (wj [acells C u Q, gcells C (uA u) G, grcells C (uG u) y8.2]) := adr_D hD rfl
  generalize H1 = H at hP hS ⊢
  have hz : z = (0, y8.1, y8.2) := hz
  rw [hz]
  exact x_ret hx hb hr hP hS rfl rfl (Nat.le_of_ble_eq_true rfl) (Nat.le_of_ble_eq_true rfl) dX7_componentCountByUnion_11 hlocks

