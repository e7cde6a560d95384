def f_X7_cheapestFreeSite (Q : QS) (G : GS) : Nat × Int32 := (lt_ (f_X7_requireFound ((f_X1_cheapestWithoutBridge G))) (fun y9 => (if y9 = 0 then (0, (f_X1_cheapestWithoutBridge G)) else (y9, 0))))
set_option maxHeartbeats 4000000 in
set_option maxRecDepth 100000 in
theorem c_X7_cheapestFreeSite (l : Launch) (D : va_G) (C : Nat → ClassId) (ev : Nat → Nat) (u : Nat → Nat) (Q : QS) (G : GS) (sz : Nat) (hG : GSafe G) (hl9 : l.stackTraces = false) : vx_Met l yX7_cheapestFreeSite wsX7_cheapestFreeSite ({ frames := 7, cells := 1, slots := 6, locals := 102 } : Room) (xP [.ref (u 0)] D C ev (wj [acells C u Q, gcells C (uA u) G]) sz) (xO ((f_X7_cheapestFreeSite Q G).1) (some (.int ((f_X7_cheapestFreeSite Q G).2))) D (wj [acells C u Q, gcells C (uA u) G]) (va_A (wj [acells C u Q, gcells C (uA u) G]) sz)) (xC ((f_X7_cheapestFreeSite Q G).1) D (wj [acells C u Q, gcells C (uA u) G]) (va_A (wj [acells C u Q, gcells C (uA u) G]) sz)) 1 6 (va_A (wj [acells C u Q, gcells C (uA u) G]) sz) := by
  refine vx_ofW (cc := cX7_cheapestFreeSite) (maxL := 2) (ret := (some .int)) (by decide) rfl ?_
  intro p e s m args below meth c s₁ B hml htab hv
  obtain ⟨rfl, hsz, hP, hK, hD0, hE, hR, hX, hT9, hV9⟩ := hv
  have hx := B.exec
  have hb := B.bytes
  have hr := B.returns
  have hts := atoms_spec (ws := wsX7_cheapestFreeSite) B.pre
  have hown : s.vm.findClass RX7 = some m.cls := findClass_of_methodNamed B.named
  have hlocks := B.notSynchronized
  subst hsz
  have hD := hD0.self (sz := s.heap.size)
  generalize hAe : va_A (wj [acells C u Q, gcells C (uA u) G]) s.heap.size = A at hD hX hV9 ⊢
  have hA : ∀ q : Nat, s.heap.size ≤ q → A q := fun q h => by rw [← hAe]; exact Or.inr h
  have hS0 : va_S A s.heap s.heap [] := va_S.rf
  have hP : va_P D vwCl (wj [acells C u Q, gcells C (uA u) G]) s.heap := hP
  have hS := hS0
  obtain ⟨⟨hV, hB, hMV, hMB, hAL, hEk, hEa, hTX, hXZ⟩, hCS, hSF⟩ := id hX
  obtain ⟨hS12, hP4, hlo, hhi⟩ := id hG
  have hinX7 : ∀ w ∈ u_ws RX7 TX7 10, w ∈ wsX7_cheapestFreeSite := by decide +kernel
  have hl := lv_entry ([.ref (u 0)]) (n := 2) (Nat.le_of_ble_eq_true rfl)
  rw [lg_entry_eq]
  generalize (lg_sl ([.ref (u 0)]) ++ List.replicate (2 - (lg_sl ([.ref (u 0)])).length) Slot.unset).toArray = ls at hl ⊢
  have hl : lv_has ls 2 [(0, .ref (u 0))] := hl
  obtain ⟨z, hz⟩ : ∃ z, z = f_X7_cheapestFreeSite Q G := ⟨_, rfl⟩
  rw [← hz]
  refine lv_aload_n hx hb dX7_cheapestFreeSite_0 rfl (lv_at hl 0 rfl) ?_
  refine va_get (D := D) (ci := 8) (v := .ref ((uA u) 0)) (C := RX7) (T := TX7) (N := 10) hx hb hts hinX7 hown hK hP 0 rfl rfl 0 (by decide) (hts (.fieldLink RX7 10 "BridgeAuction" "game" "LBridgeAuction$Game;") (by decide +kernel)) (fun _ h9 => h9) rfl dX7_cheapestFreeSite_1 ?_
  refine callRo (va_runV (As := []) (rest := []) ⟨hx, hb, hml, hown, hts⟩ (c_X1_cheapestWithoutBridge l D C (uA u) G hG) (cwV 0 hts gX7_cheapestFreeSite_X1_cheapestWithoutBridge rfl rfl rfl (by decide +kernel) ⟨Nat.le_of_ble_eq_true rfl, Nat.le_of_ble_eq_true rfl⟩) (roP_v (wj_P (cs := [gcells C (uA u) G]) hP [1] rfl) hK hE (va_recv hK (wj_P (cs := [gcells C (uA u) G]) hP [1] rfl) (ci := 4) (q0 := 0) rfl rfl)) rfl rfl hl.1 rfl (lv_room (Nat.le_of_ble_eq_true rfl)) dX7_cheapestFreeSite_4 ⟨Nat.le_of_ble_eq_true rfl, Nat.le_of_ble_eq_true rfl⟩) ?_
  refine lv_istore_n (lv' := [(1, .int (f_X1_cheapestWithoutBridge G)), (0, .ref (u 0))]) hx hb dX7_cheapestFreeSite_7 rfl hl (by decide) rfl (fun ls hl => ?_)
  refine lv_iload_n hx hb dX7_cheapestFreeSite_8 rfl (lv_at hl 0 rfl) ?_
  have hPc : va_P D vwCl ([] : va_W) _ := wj_P (cs := []) hP [] rfl
  have hDc : va_D A ([] : va_W) := wj_D (cs := []) hD [] (by decide) rfl
  have hFc : ∀ q, va_A ([] : va_W) (Array.size _) q → A q := wj_F (cs := []) hD hS hA [] rfl
  refine callX (vx_runS (As := [.int (f_X1_cheapestWithoutBridge G)]) (rest := []) ⟨hx, hb, hml, hown, hts⟩ (c_X7_requireFound l D C ev ((f_X1_cheapestWithoutBridge G)) _ (by first | assumption | omega)) (va_cwS 1 hts gX7_cheapestFreeSite_X7_requireFound rfl rfl rfl (by decide +kernel) ⟨Nat.le_of_ble_eq_true rfl, Nat.le_of_ble_eq_true rfl⟩) (xP_s hPc hK hE hDc hR hX hT9 hV9 hS hFc) rfl rfl hl.1 rfl (lv_room (Nat.le_of_ble_eq_true rfl)) dX7_cheapestFreeSite_9 ⟨Nat.le_of_ble_eq_true rfl, Nat.le_of_ble_eq_true rfl⟩) hS hFc (fun hc0 hc7 ce q9 H1 locs hPn hk hS hcell hcv hcl => ?_) (fun hc0 H1 locs hPn hk hS => ?_)
  · obtain ⟨y9, hy9⟩ : ∃ y_, y_ = (f_X7_requireFound ((f_X1_cheapestWithoutBridge G))) := ⟨_, rfl⟩
    have hPn : va_P D vwCl ([] : va_W) H1 := hPn
    have hc0 : 0 < y9 := by rw [hy9]; exact hc0
    have hc7 : y9 < 7 := by rw [hy9]; exact hc7
    have hcl : s.vm.findClass (xN y9) = some ce.cls := by rw [hy9]; exact hcl
    have hz := (lt_eq hz hy9).trans (if_neg (Nat.ne_of_gt hc0))
    have hP : va_P D vwCl (wj [acells C u Q, gcells C (uA u) G]) H1 := jb (bs := [acells C u Q, gcells C (uA u) G]) (cs := []) (rs := [acells C u Q, gcells C (uA u) G]) (cs' := []) (bs' := [acells C u Q, gcells C (uA u) G]) hP hD (bsP 2 [0, 1] rfl (by decide) rfl) (bsP 2 [0, 1] rfl (by decide) rfl) hk hPn
    have hD : va_D A (wj [acells C u Q, gcells C (uA u) G]) := adr_D hD rfl
    have hz : z = (y9, 0) := hz
    rw [hz]
    exact x_out htab hlocks hcell hcv hcl hP hS hc0 hc7 rfl (Nat.le_of_ble_eq_true rfl) (Nat.le_of_ble_eq_true rfl)
  · obtain ⟨y9, hy9⟩ : ∃ y_, y_ = (f_X7_requireFound ((f_X1_cheapestWithoutBridge G))) := ⟨_, rfl⟩
    have hPn : va_P D vwCl ([] : va_W) H1 := hPn
    have hc0 : y9 = 0 := by rw [hy9]; exact hc0
    have hz := (lt_eq hz hy9).trans (if_pos hc0)
    have hP : va_P D vwCl (wj [acells C u Q, gcells C (uA u) G]) H1 := jb (bs := [acells C u Q, gcells C (uA u) G]) (cs := []) (rs := [acells C u Q, gcells C (uA u) G]) (cs' := []) (bs' := [acells C u Q, gcells C (uA u) G]) hP hD (bsP 2 [0, 1] rfl (by decide) rfl) (bsP 2 [0, 1] rfl (by decide) rfl) hk hPn
    have hD : va_D A (wj [acells C u Q, gcells C (uA u) G]) := adr_D hD rfl
    generalize H1 = H at hP hS ⊢
    refine lv_iload_n hx hb dX7_cheapestFreeSite_12 rfl (lv_at hl 0 rfl) ?_
    have hz : z = (0, (f_X1_cheapestWithoutBridge G)) := hz
    rw [hz]
    exact x_ret hx hb hr hP hS rfl rfl (Nat.le_of_ble_eq_true rfl) (Nat.le_of_ble_eq_true rfl) dX7_cheapestFreeSite_13 hlocks

