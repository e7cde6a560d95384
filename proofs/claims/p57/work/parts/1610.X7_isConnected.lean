def f_X7_isConnected (Q : QS) (G : GS) (Rr : GR) (x : Int32) (y : Int32) : Nat × Bool := (lt_ (f_X7_requireIsland (x)) (fun y1 => (if y1 = 0 then (lt_ (f_X7_requireIsland (y)) (fun y5 => (if y5 = 0 then (0, (f_X2_reaches Rr G (x) (y))) else (y5, false)))) else (y1, false))))
set_option maxHeartbeats 4000000 in
set_option maxRecDepth 100000 in
theorem c_X7_isConnected (l : Launch) (D : va_G) (C : Nat → ClassId) (ev : Nat → Nat) (u : Nat → Nat) (Q : QS) (G : GS) (Rr : GR) (x : Int32) (y : Int32) (sz : Nat) (hG : GSafe G) (hl9 : l.stackTraces = false) : vx_Met l yX7_isConnected wsX7_isConnected ({ frames := 11, cells := 2, slots := 12, locals := 265 } : Room) (xP [.ref (u 0), .int x, .int y] D C ev (wj [acells C u Q, gcells C (uA u) G, grcells C (uG u) Rr]) sz) (xO ((f_X7_isConnected Q G Rr x y).1) (some (.int (bI ((f_X7_isConnected Q G Rr x y).2)))) D (wj [acells C u Q, gcells C (uA u) G, grcells C (uG u) Rr]) (va_A (wj [acells C u Q, gcells C (uA u) G, grcells C (uG u) Rr]) sz)) (xC ((f_X7_isConnected Q G Rr x y).1) D (wj [acells C u Q, gcells C (uA u) G, grcells C (uG u) Rr]) (va_A (wj [acells C u Q, gcells C (uA u) G, grcells C (uG u) Rr]) sz)) 2 12 (va_A (wj [acells C u Q, gcells C (uA u) G, grcells C (uG u) Rr]) sz) := by
  refine vx_ofW (cc := cX7_isConnected) (maxL := 3) (ret := (some .boolean)) (by decide) rfl ?_
  intro p e s m args below meth c s₁ B hml htab hv
  obtain ⟨rfl, hsz, hP, hK, hD0, hE, hR, hX, hT9, hV9⟩ := hv
  have hx := B.exec
  have hb := B.bytes
  have hr := B.returns
  have hts := atoms_spec (ws := wsX7_isConnected) B.pre
  have hown : s.vm.findClass RX7 = some m.cls := findClass_of_methodNamed B.named
  have hlocks := B.notSynchronized
  subst hsz
  have hD := hD0.self (sz := s.heap.size)
  generalize hAe : va_A (wj [acells C u Q, gcells C (uA u) G, grcells C (uG u) Rr]) s.heap.size = A at hD hX hV9 ⊢
  have hA : ∀ q : Nat, s.heap.size ≤ q → A q := fun q h => by rw [← hAe]; exact Or.inr h
  have hS0 : va_S A s.heap s.heap [] := va_S.rf
  have hP : va_P D vwCl (wj [acells C u Q, gcells C (uA u) G, grcells C (uG u) Rr]) s.heap := hP
  have hS := hS0
  obtain ⟨⟨hV, hB, hMV, hMB, hAL, hEk, hEa, hTX, hXZ⟩, hCS, hSF⟩ := id hX
  obtain ⟨hS12, hP4, hlo, hhi⟩ := id hG
  have hinX7 : ∀ w ∈ u_ws RX7 TX7 10, w ∈ wsX7_isConnected := by decide +kernel
  have hl := lv_entry ([.ref (u 0), .int x, .int y]) (n := 3) (Nat.le_of_ble_eq_true rfl)
  rw [lg_entry_eq]
  generalize (lg_sl ([.ref (u 0), .int x, .int y]) ++ List.replicate (3 - (lg_sl ([.ref (u 0), .int x, .int y])).length) Slot.unset).toArray = ls at hl ⊢
  have hl : lv_has ls 3 [(0, .ref (u 0)), (1, .int x), (2, .int y)] := hl
  obtain ⟨z, hz⟩ : ∃ z, z = f_X7_isConnected Q G Rr x y := ⟨_, rfl⟩
  rw [← hz]
  refine lv_iload_n hx hb dX7_isConnected_0 rfl (lv_at hl 1 rfl) ?_
  have hPc : va_P D vwCl ([] : va_W) _ := wj_P (cs := []) hP [] rfl
  have hDc : va_D A ([] : va_W) := wj_D (cs := []) hD [] (by decide) rfl
  have hFc : ∀ q, va_A ([] : va_W) (Array.size _) q → A q := wj_F (cs := []) hD hS hA [] rfl
  refine callX (vx_runS (As := [.int x]) (rest := []) ⟨hx, hb, hml, hown, hts⟩ (c_X7_requireIsland l D C ev (x) _ (by first | assumption | omega)) (va_cwS 1 hts gX7_isConnected_X7_requireIsland rfl rfl rfl (by decide +kernel) ⟨Nat.le_of_ble_eq_true rfl, Nat.le_of_ble_eq_true rfl⟩) (xP_s hPc hK hE hDc hR hX hT9 hV9 hS hFc) rfl rfl hl.1 rfl (lv_room (Nat.le_of_ble_eq_true rfl)) dX7_isConnected_1 ⟨Nat.le_of_ble_eq_true rfl, Nat.le_of_ble_eq_true rfl⟩) hS hFc (fun hc0 hc7 ce q9 H1 locs hPn hk hS hcell hcv hcl => ?_) (fun hc0 H1 locs hPn hk hS => ?_)
  · obtain ⟨y1, hy1⟩ : ∃ y_, y_ = (f_X7_requireIsland (x)) := ⟨_, rfl⟩
    have hPn : va_P D vwCl ([] : va_W) H1 := hPn
    have hc0 : 0 < y1 := by rw [hy1]; exact hc0
    have hc7 : y1 < 7 := by rw [hy1]; exact hc7
    have hcl : s.vm.findClass (xN y1) = some ce.cls := by rw [hy1]; exact hcl
    have hz := (lt_eq hz hy1).trans (if_neg (Nat.ne_of_gt hc0))
    have hP : va_P D vwCl (wj [acells C u Q, gcells C (uA u) G, grcells C (uG u) Rr]) H1 := jb (bs := [acells C u Q, gcells C (uA u) G, grcells C (uG u) Rr]) (cs := []) (rs := [acells C u Q, gcells C (uA u) G, grcells C (uG u) Rr]) (cs' := []) (bs' := [acells C u Q, gcells C (uA u) G, grcells C (uG u) Rr]) hP hD (bsP 3 [0, 1, 2] rfl (by decide) rfl) (bsP 3 [0, 1, 2] rfl (by decide) rfl) hk hPn
    have hD : va_D A (wj [acells C u Q, gcells C (uA u) G, grcells C (uG u) Rr]) := adr_D hD rfl
    have hz : z = (y1, false) := hz
    rw [hz]
    exact x_out htab hlocks hcell hcv hcl hP hS hc0 hc7 rfl (Nat.le_of_ble_eq_true rfl) (Nat.le_of_ble_eq_true rfl)
  · obtain ⟨y1, hy1⟩ : ∃ y_, y_ = (f_X7_requireIsland (x)) := ⟨_, rfl⟩
    have hPn : va_P D vwCl ([] : va_W) H1 := hPn
    have hc0 : y1 = 0 := by rw [hy1]; exact hc0
    have hz := (lt_eq hz hy1).trans (if_pos hc0)
    have hP : va_P D vwCl (wj [acells C u Q, gcells C (uA u) G, grcells C (uG u) Rr]) H1 := jb (bs := [acells C u Q, gcells C (uA u) G, grcells C (uG u) Rr]) (cs := []) (rs := [acells C u Q, gcells C (uA u) G, grcells C (uG u) Rr]) (cs' := []) (bs' := [acells C u Q, gcells C (uA u) G, grcells C (uG u) Rr]) hP hD (bsP 3 [0, 1, 2] rfl (by decide) rfl) (bsP 3 [0, 1, 2] rfl (by decide) rfl) hk hPn
    have hD : va_D A (wj [acells C u Q, gcells C (uA u) G, grcells C (uG u) Rr]) := adr_D hD rfl
    generalize H1 = H at hP hS ⊢
    have hix := X7_island (x := x) (by rw [← hy1]; exact hc0)
    have ex := (nat_of hix (by decide)).1
    have lx := (nat_of hix (by decide)).2
    refine lv_iload_n hx hb dX7_isConnected_4 rfl (lv_at hl 2 rfl) ?_
    have hPc : va_P D vwCl ([] : va_W) _ := wj_P (cs := []) hP [] rfl
    have hDc : va_D A ([] : va_W) := wj_D (cs := []) hD [] (by decide) rfl
    have hFc : ∀ q, va_A ([] : va_W) (Array.size _) q → A q := wj_F (cs := []) hD hS hA [] rfl
    refine callX (vx_runS (As := [.int y]) (rest := []) ⟨hx, hb, hml, hown, hts⟩ (c_X7_requireIsland l D C ev (y) _ (by first | assumption | omega)) (va_cwS 1 hts gX7_isConnected_X7_requireIsland rfl rfl rfl (by decide +kernel) ⟨Nat.le_of_ble_eq_true rfl, Nat.le_of_ble_eq_true rfl⟩) (xP_s hPc hK hE hDc hR hX hT9 hV9 hS hFc) rfl rfl hl.1 rfl (lv_room (Nat.le_of_ble_eq_true rfl)) dX7_isConnected_5 ⟨Nat.le_of_ble_eq_true rfl, Nat.le_of_ble_eq_true rfl⟩) hS hFc (fun hc0 hc7 ce q9 H1 locs hPn hk hS hcell hcv hcl => ?_) (fun hc0 H1 locs hPn hk hS => ?_)
    · obtain ⟨y5, hy5⟩ : ∃ y_, y_ = (f_X7_requireIsland (y)) := ⟨_, rfl⟩
      have hPn : va_P D vwCl ([] : va_W) H1 := hPn
      have hc0 : 0 < y5 := by rw [hy5]; exact hc0
      have hc7 : y5 < 7 := by rw [hy5]; exact hc7
      have hcl : s.vm.findClass (xN y5) = some ce.cls := by rw [hy5]; exact hcl
      have hz := (lt_eq hz hy5).trans (if_neg (Nat.ne_of_gt hc0))
      have hP : va_P D vwCl (wj [acells C u Q, gcells C (uA u) G, grcells C (uG u) Rr]) H1 := jb (bs := [acells C u Q, gcells C (uA u) G, grcells C (uG u) Rr]) (cs := []) (rs := [acells C u Q, gcells C (uA u) G, grcells C (uG u) Rr]) (cs' := []) (bs' := [acells C u Q, gcells C (uA u) G, grcells C (uG u) Rr]) hP hD (bsP 3 [0, 1, 2] rfl (by decide) rfl) (bsP 3 [0, 1, 2] rfl (by decide) rfl) hk hPn
      have hD : va_D A (wj [acells C u Q, gcells C (uA u) G, grcells C (uG u) Rr]) := adr_D hD rfl
      have hz : z = (y5, false) := hz
      rw [hz]
      exact x_out htab hlocks hcell hcv hcl hP hS hc0 hc7 rfl (Nat.le_of_ble_eq_true rfl) (Nat.le_of_ble_eq_true rfl)
    · obtain ⟨y5, hy5⟩ : ∃ y_, y_ = (f_X7_requireIsland (y)) := ⟨_, rfl⟩
      have hPn : va_P D vwCl ([] : va_W) H1 := hPn
      have hc0 : y5 = 0 := by rw [hy5]; exact hc0
      have hz := (lt_eq hz hy5).trans (if_pos hc0)
      have hP : va_P D vwCl (wj [acells C u Q, gcells C (uA u) G, grcells C (uG u) Rr]) H1 := jb (bs := [acells C u Q, gcells C (uA u) G, grcells C (uG u) Rr]) (cs := []) (rs := [acells C u Q, gcells C (uA u) G, grcells C (uG u) Rr]) (cs' := []) (bs' := [acells C u Q, gcells C (uA u) G, grcells C (uG u) Rr]) hP hD (bsP 3 [0, 1, 2] rfl (by decide) rfl) (bsP 3 [0, 1, 2] rfl (by decide) rfl) hk hPn
      have hD : va_D A (wj [acells C u Q, gcells C (uA u) G, grcells C (uG u) Rr]) := adr_D hD rfl
      generalize H1 = H at hP hS ⊢
      have hiy := X7_island (x := y) (by rw [← hy5]; exact hc0)
      have ey := (nat_of hiy (by decide)).1
      have ly := (nat_of hiy (by decide)).2
      refine lv_aload_n hx hb dX7_isConnected_8 rfl (lv_at hl 0 rfl) ?_
      refine va_get (D := D) (ci := 8) (v := .ref ((uA u) 0)) (C := RX7) (T := TX7) (N := 10) hx hb hts hinX7 hown hK hP 0 rfl rfl 0 (by decide) (hts (.fieldLink RX7 10 "BridgeAuction" "game" "LBridgeAuction$Game;") (by decide +kernel)) (fun _ h9 => h9) rfl dX7_isConnected_9 ?_
      refine lv_iload_n hx hb dX7_isConnected_12 rfl (lv_at hl 1 rfl) ?_
      refine lv_iload_n hx hb dX7_isConnected_13 rfl (lv_at hl 2 rfl) ?_
      refine callRo (va_runS (As := [.ref ((uA u) 0), .int x, .int y]) (rest := []) ⟨hx, hb, hml, hown, hts⟩ (c_X2_reaches l D C (uG u) Rr (uA u) G (x) (y) hG (by exact hix)) (va_cwS 3 hts gX7_isConnected_X2_reaches rfl rfl rfl (by decide +kernel) ⟨Nat.le_of_ble_eq_true rfl, Nat.le_of_ble_eq_true rfl⟩) (roP_s (wj_P (cs := [grcells C (uG u) Rr, gcells C (uA u) G]) hP [2, 1] rfl) hK hE) rfl rfl hl.1 rfl (lv_room (Nat.le_of_ble_eq_true rfl)) dX7_isConnected_14 ⟨Nat.le_of_ble_eq_true rfl, Nat.le_of_ble_eq_true rfl⟩) ?_
      have hz : z = (0, (f_X2_reaches Rr G (x) (y))) := hz
      rw [hz]
      exact x_retB hx hb hr hP hS rfl rfl (Nat.le_of_ble_eq_true rfl) (Nat.le_of_ble_eq_true rfl) dX7_isConnected_17 hlocks

