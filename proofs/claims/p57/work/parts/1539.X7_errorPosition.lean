def f_X7_errorPosition (Q : QS) : Nat × Int32 := (lt_ (f_X7_requireFound ((qEr Q))) (fun y4 => (if y4 = 0 then (0, (qEr Q)) else (y4, 0))))
set_option maxHeartbeats 4000000 in
set_option maxRecDepth 100000 in
theorem c_X7_errorPosition (l : Launch) (D : va_G) (C : Nat → ClassId) (ev : Nat → Nat) (u : Nat → Nat) (Q : QS) (sz : Nat) (hl9 : l.stackTraces = false) : vx_Met l yX7_errorPosition wsX7_errorPosition ({ frames := 7, cells := 1, slots := 6, locals := 102 } : Room) (xP [.ref (u 0)] D C ev (wj [acells C u Q]) sz) (xO ((f_X7_errorPosition Q).1) (some (.int ((f_X7_errorPosition Q).2))) D (wj [acells C u Q]) (va_A (wj [acells C u Q]) sz)) (xC ((f_X7_errorPosition Q).1) D (wj [acells C u Q]) (va_A (wj [acells C u Q]) sz)) 1 6 (va_A (wj [acells C u Q]) sz) := by
  refine vx_ofW (cc := cX7_errorPosition) (maxL := 1) (ret := (some .int)) (by decide) rfl ?_
  intro p e s m args below meth c s₁ B hml htab hv
  obtain ⟨rfl, hsz, hP, hK, hD0, hE, hR, hX, hT9, hV9⟩ := hv
  have hx := B.exec
  have hb := B.bytes
  have hr := B.returns
  have hts := atoms_spec (ws := wsX7_errorPosition) B.pre
  have hown : s.vm.findClass RX7 = some m.cls := findClass_of_methodNamed B.named
  have hlocks := B.notSynchronized
  subst hsz
  have hD := hD0.self (sz := s.heap.size)
  generalize hAe : va_A (wj [acells C u Q]) s.heap.size = A at hD hX hV9 ⊢
  have hA : ∀ q : Nat, s.heap.size ≤ q → A q := fun q h => by rw [← hAe]; exact Or.inr h
  have hS0 : va_S A s.heap s.heap [] := va_S.rf
  have hP : va_P D vwCl (wj [acells C u Q]) s.heap := hP
  have hS := hS0
  obtain ⟨⟨hV, hB, hMV, hMB, hAL, hEk, hEa, hTX, hXZ⟩, hCS, hSF⟩ := id hX
  have hinX7 : ∀ w ∈ u_ws RX7 TX7 10, w ∈ wsX7_errorPosition := by decide +kernel
  have hl := lv_entry ([.ref (u 0)]) (n := 1) (Nat.le_of_ble_eq_true rfl)
  rw [lg_entry_eq]
  generalize (lg_sl ([.ref (u 0)]) ++ List.replicate (1 - (lg_sl ([.ref (u 0)])).length) Slot.unset).toArray = ls at hl ⊢
  have hl : lv_has ls 1 [(0, .ref (u 0))] := hl
  obtain ⟨z, hz⟩ : ∃ z, z = f_X7_errorPosition Q := ⟨_, rfl⟩
  rw [← hz]
  refine lv_aload_n hx hb dX7_errorPosition_0 rfl (lv_at hl 0 rfl) ?_
  refine va_get (D := D) (ci := 8) (v := .int (qEr Q)) (C := RX7) (T := TX7) (N := 10) hx hb hts hinX7 hown hK hP 0 rfl rfl 8 (by decide) (hts (.fieldLink RX7 54 "BridgeAuction" "errorPosition" "I") (by decide +kernel)) (fun _ h9 => h9) rfl dX7_errorPosition_1 ?_
  have hPc : va_P D vwCl ([] : va_W) _ := wj_P (cs := []) hP [] rfl
  have hDc : va_D A ([] : va_W) := wj_D (cs := []) hD [] (by decide) rfl
  have hFc : ∀ q, va_A ([] : va_W) (Array.size _) q → A q := wj_F (cs := []) hD hS hA [] rfl
  refine callX (vx_runS (As := [.int (qEr Q)]) (rest := []) ⟨hx, hb, hml, hown, hts⟩ (c_X7_requireFound l D C ev ((qEr Q)) _ (by first | assumption | omega)) (va_cwS 1 hts gX7_errorPosition_X7_requireFound rfl rfl rfl (by decide +kernel) ⟨Nat.le_of_ble_eq_true rfl, Nat.le_of_ble_eq_true rfl⟩) (xP_s hPc hK hE hDc hR hX hT9 hV9 hS hFc) rfl rfl hl.1 rfl (lv_room (Nat.le_of_ble_eq_true rfl)) dX7_errorPosition_4 ⟨Nat.le_of_ble_eq_true rfl, Nat.le_of_ble_eq_true rfl⟩) hS hFc (fun hc0 hc7 ce q9 H1 locs hPn hk hS hcell hcv hcl => ?_) (fun hc0 H1 locs hPn hk hS => ?_)
  · obtain ⟨y4, hy4⟩ : ∃ y_, y_ = (f_X7_requireFound ((qEr Q))) := ⟨_, rfl⟩
    have hPn : va_P D vwCl ([] : va_W) H1 := hPn
    have hc0 : 0 < y4 := by rw [hy4]; exact hc0
    have hc7 : y4 < 7 := by rw [hy4]; exact hc7
    have hcl : s.vm.findClass (xN y4) = some ce.cls := by rw [hy4]; exact hcl
    have hz := (lt_eq hz hy4).trans (if_neg (Nat.ne_of_gt hc0))
    have hP : va_P D vwCl (wj [acells C u Q]) H1 := jb (bs := [acells C u Q]) (cs := []) (rs := [acells C u Q]) (cs' := []) (bs' := [acells C u Q]) hP hD (bsP 1 [0] rfl (by decide) rfl) (bsP 1 [0] rfl (by decide) rfl) hk hPn
    have hD : va_D A (wj [acells C u Q]) := adr_D hD rfl
    have hz : z = (y4, 0) := hz
    rw [hz]
    exact x_out htab hlocks hcell hcv hcl hP hS hc0 hc7 rfl (Nat.le_of_ble_eq_true rfl) (Nat.le_of_ble_eq_true rfl)
  · obtain ⟨y4, hy4⟩ : ∃ y_, y_ = (f_X7_requireFound ((qEr Q))) := ⟨_, rfl⟩
    have hPn : va_P D vwCl ([] : va_W) H1 := hPn
    have hc0 : y4 = 0 := by rw [hy4]; exact hc0
    have hz := (lt_eq hz hy4).trans (if_pos hc0)
    have hP : va_P D vwCl (wj [acells C u Q]) H1 := jb (bs := [acells C u Q]) (cs := []) (rs := [acells C u Q]) (cs' := []) (bs' := [acells C u Q]) hP hD (bsP 1 [0] rfl (by decide) rfl) (bsP 1 [0] rfl (by decide) rfl) hk hPn
    have hD : va_D A (wj [acells C u Q]) := adr_D hD rfl
    generalize H1 = H at hP hS ⊢
    refine lv_aload_n hx hb dX7_errorPosition_7 rfl (lv_at hl 0 rfl) ?_
    refine va_get (D := D) (ci := 8) (v := .int (qEr Q)) (C := RX7) (T := TX7) (N := 10) hx hb hts hinX7 hown hK hP 0 rfl rfl 8 (by decide) (hts (.fieldLink RX7 54 "BridgeAuction" "errorPosition" "I") (by decide +kernel)) (fun _ h9 => h9) rfl dX7_errorPosition_8 ?_
    have hz : z = (0, (qEr Q)) := hz
    rw [hz]
    exact x_ret hx hb hr hP hS rfl rfl (Nat.le_of_ble_eq_true rfl) (Nat.le_of_ble_eq_true rfl) dX7_errorPosition_11 hlocks

