def f_X7_distanceByRelaxation (Q : QS) (G : GS) (Rr : GR) (x : Int32) (y : Int32) : Nat × Int32 × GR := (lt_ (f_X7_requireIsland (x)) (fun y1 => (if y1 = 0 then (lt_ (f_X7_requireIsland (y)) (fun y5 => (if y5 = 0 then (lt_ (f_X2_relaxFrom Rr G (x.toNatClampNeg)) (fun y17 => (lt_ (f_X7_requireNear (((rRlx y17) y.toNatClampNeg))) (fun y29 => (if y29.1 = 0 then (0, y29.2, y17) else (y29.1, 0, y17)))))) else (y5, 0, Rr)))) else (y1, 0, Rr))))
set_option maxHeartbeats 4000000 in
set_option maxRecDepth 100000 in
theorem c_X7_distanceByRelaxation (l : Launch) (D : va_G) (C : Nat → ClassId) (ev : Nat → Nat) (u : Nat → Nat) (Q : QS) (G : GS) (Rr : GR) (x : Int32) (y : Int32) (sz : Nat) (hG : GSafe G) (hl9 : l.stackTraces = false) : vx_Met l yX7_distanceByRelaxation wsX7_distanceByRelaxation ({ frames := 7, cells := 3, slots := 18, locals := 102 } : Room) (xP [.ref (u 0), .int x, .int y] D C ev (wj [acells C u Q, gcells C (uA u) G, grcells C (uG u) Rr]) sz) (xO ((f_X7_distanceByRelaxation Q G Rr x y).1) (some (.int ((f_X7_distanceByRelaxation Q G Rr x y).2.1))) D (wj [acells C u Q, gcells C (uA u) G, grcells C (uG u) ((f_X7_distanceByRelaxation Q G Rr x y).2.2)]) (va_A (wj [acells C u Q, gcells C (uA u) G, grcells C (uG u) Rr]) sz)) (xC ((f_X7_distanceByRelaxation Q G Rr x y).1) D (wj [acells C u Q, gcells C (uA u) G, grcells C (uG u) ((f_X7_distanceByRelaxation Q G Rr x y).2.2)]) (va_A (wj [acells C u Q, gcells C (uA u) G, grcells C (uG u) Rr]) sz)) 3 18 (va_A (wj [acells C u Q, gcells C (uA u) G, grcells C (uG u) Rr]) sz) := by
  refine vx_ofW (cc := cX7_distanceByRelaxation) (maxL := 3) (ret := (some .int)) (by decide) rfl ?_
  intro p e s m args below meth c s₁ B hml htab hv
  obtain ⟨rfl, hsz, hP, hK, hD0, hE, hR, hX, hT9, hV9⟩ := hv
  have hx := B.exec
  have hb := B.bytes
  have hr := B.returns
  have hts := atoms_spec (ws := wsX7_distanceByRelaxation) B.pre
  have hown : s.vm.findClass RX7 = some m.cls := findClass_of_methodNamed B.named
  have hlocks := B.notSynchronized
  subst hsz
  have hD := hD0.self (sz := s.heap.size)
  generalize hAe : va_A (wj [acells C u Q, gcells C (uA u) G, grcells C (uG u) Rr]) s.heap.size = A at hD hX hV9 ⊢
  have hA : ∀ q : Nat, s.heap.size ≤ q → A q := fun q h => by rw [← hAe]; exact Or.inr h
  have hS0 : va_S A s.heap s.heap [] := va_S.rf
  have hP : va_P D vwCl (wj [acells C u Q, gcells C (uA u) G, grcells C (uG u) Rr]) s.heap := hP
  have hS := hS0
  obtain ⟨⟨hV, hB, hMV, hMB, hAL, hEk, hEa, hTX, hXZ⟩, hCS, hSF⟩ := id hX
  obtain ⟨hS12, hP4, hlo, hhi⟩ := id hG
  have hinX2 : ∀ w ∈ u_ws RX2 TX2 3, w ∈ wsX7_distanceByRelaxation := by decide +kernel
  have hinX7 : ∀ w ∈ u_ws RX7 TX7 10, w ∈ wsX7_distanceByRelaxation := by decide +kernel
  have hl := lv_entry ([.ref (u 0), .int x, .int y]) (n := 3) (Nat.le_of_ble_eq_true rfl)
  rw [lg_entry_eq]
  generalize (lg_sl ([.ref (u 0), .int x, .int y]) ++ List.replicate (3 - (lg_sl ([.ref (u 0), .int x, .int y])).length) Slot.unset).toArray = ls at hl ⊢
  have hl : lv_has ls 3 [(0, .ref (u 0)), (1, .int x), (2, .int y)] := hl
  obtain ⟨z, hz⟩ : ∃ z, z = f_X7_distanceByRelaxation Q G Rr x y := ⟨_, rfl⟩
  rw [← hz]
  refine lv_iload_n hx hb dX7_distanceByRelaxation_0 rfl (lv_at hl 1 rfl) ?_
  have hPc : va_P D vwCl ([] : va_W) _ := wj_P (cs := []) hP [] rfl
  have hDc : va_D A ([] : va_W) := wj_D (cs := []) hD [] (by decide) rfl
  have hFc : ∀ q, va_A ([] : va_W) (Array.size _) q → A q := wj_F (cs := []) hD hS hA [] rfl
  refine callX (vx_runS (As := [.int x]) (rest := []) ⟨hx, hb, hml, hown, hts⟩ (c_X7_requireIsland l D C ev (x) _ (by first | assumption | omega)) (va_cwS 1 hts gX7_distanceByRelaxation_X7_requireIsland rfl rfl rfl (by decide +kernel) ⟨Nat.le_of_ble_eq_true rfl, Nat.le_of_ble_eq_true rfl⟩) (xP_s hPc hK hE hDc hR hX hT9 hV9 hS hFc) rfl rfl hl.1 rfl (lv_room (Nat.le_of_ble_eq_true rfl)) dX7_distanceByRelaxation_1 ⟨Nat.le_of_ble_eq_true rfl, Nat.le_of_ble_eq_true rfl⟩) hS hFc (fun hc0 hc7 ce q9 H1 locs hPn hk hS hcell hcv hcl => ?_) (fun hc0 H1 locs hPn hk hS => ?_)
  · obtain ⟨y1, hy1⟩ : ∃ y_, y_ = (f_X7_requireIsland (x)) := ⟨_, rfl⟩
    have hPn : va_P D vwCl ([] : va_W) H1 := hPn
    have hc0 : 0 < y1 := by rw [hy1]; exact hc0
    have hc7 : y1 < 7 := by rw [hy1]; exact hc7
    have hcl : s.vm.findClass (xN y1) = some ce.cls := by rw [hy1]; exact hcl
    have hz := (lt_eq hz hy1).trans (if_neg (Nat.ne_of_gt hc0))
    have hP : va_P D vwCl (wj [acells C u Q, gcells C (uA u) G, grcells C (uG u) Rr]) H1 := jb (bs := [acells C u Q, gcells C (uA u) G, grcells C (uG u) Rr]) (cs := []) (rs := [acells C u Q, gcells C (uA u) G, grcells C (uG u) Rr]) (cs' := []) (bs' := [acells C u Q, gcells C (uA u) G, grcells C (uG u) Rr]) hP hD (bsP 3 [0, 1, 2] rfl (by decide) rfl) (bsP 3 [0, 1, 2] rfl (by decide) rfl) hk hPn
    have hD : va_D A (wj [acells C u Q, gcells C (uA u) G, grcells C (uG u) Rr]) := adr_D hD rfl
    have hz : z = (y1, 0, Rr) := hz
    rw [hz]
    exact x_out htab hlocks hcell hcv hcl hP hS hc0 hc7 rfl (Nat.le_of_ble_eq_true rfl) (Nat.le_of_ble_eq_true rfl)
  · obtain ⟨y1, hy1⟩ : ∃ y_, y_ = (f_X7_requireIsland (x)) := ⟨_, rfl⟩
    have hPn : va_P D vwCl ([] : va_W) H1 := hPn
    have hc0 : y1 = 0 := by rw [hy1]; exact hc0
    have hz := (lt_eq hz hy1).trans (if_pos hc0)
    have hP : va_P D vwCl (wj [acells C u Q, gcells C (uA u) G, grcells C (uG u) Rr]) H1 := jb (bs := [acells C u Q, gcells C (uA u) G, grcells C (uG u) Rr]) (cs := []) (rs := [acells C u Q, gcells C (uA u) G, grcells C (uG u) Rr]) (cs' := []) (bs' := [acells C u Q, gcells C (uA u) G, grcells C (uG u) Rr]) hP hD (bsP 3 [0, 1, 2] rfl (by decide) rfl) (bsP 3 [0, 1, 2] rfl (by decide) rfl) hk hPn
    have hD : va_D A (wj [acells C u Q, gcells C (uA u) G, grcells C (uG u) Rr]) := adr_D hD rfl
    generalize H1 = H at hP hS ⊢
    have hix := X7_island (x := x) (by rw [← hy1]; exact hc0)
    have ex := (nat_of hix (by decide)).1
    have lx := (nat_of hix (by decide)).2
    refine lv_iload_n hx hb dX7_distanceByRelaxation_4 rfl (lv_at hl 2 rfl) ?_
    have hPc : va_P D vwCl ([] : va_W) _ := wj_P (cs := []) hP [] rfl
    have hDc : va_D A ([] : va_W) := wj_D (cs := []) hD [] (by decide) rfl
    have hFc : ∀ q, va_A ([] : va_W) (Array.size _) q → A q := wj_F (cs := []) hD hS hA [] rfl
    refine callX (vx_runS (As := [.int y]) (rest := []) ⟨hx, hb, hml, hown, hts⟩ (c_X7_requireIsland l D C ev (y) _ (by first | assumption | omega)) (va_cwS 1 hts gX7_distanceByRelaxation_X7_requireIsland rfl rfl rfl (by decide +kernel) ⟨Nat.le_of_ble_eq_true rfl, Nat.le_of_ble_eq_true rfl⟩) (xP_s hPc hK hE hDc hR hX hT9 hV9 hS hFc) rfl rfl hl.1 rfl (lv_room (Nat.le_of_ble_eq_true rfl)) dX7_distanceByRelaxation_5 ⟨Nat.le_of_ble_eq_true rfl, Nat.le_of_ble_eq_true rfl⟩) hS hFc (fun hc0 hc7 ce q9 H1 locs hPn hk hS hcell hcv hcl => ?_) (fun hc0 H1 locs hPn hk hS => ?_)
    · obtain ⟨y5, hy5⟩ : ∃ y_, y_ = (f_X7_requireIsland (y)) := ⟨_, rfl⟩
      have hPn : va_P D vwCl ([] : va_W) H1 := hPn
      have hc0 : 0 < y5 := by rw [hy5]; exact hc0
      have hc7 : y5 < 7 := by rw [hy5]; exact hc7
      have hcl : s.vm.findClass (xN y5) = some ce.cls := by rw [hy5]; exact hcl
      have hz := (lt_eq hz hy5).trans (if_neg (Nat.ne_of_gt hc0))
      have hP : va_P D vwCl (wj [acells C u Q, gcells C (uA u) G, grcells C (uG u) Rr]) H1 := jb (bs := [acells C u Q, gcells C (uA u) G, grcells C (uG u) Rr]) (cs := []) (rs := [acells C u Q, gcells C (uA u) G, grcells C (uG u) Rr]) (cs' := []) (bs' := [acells C u Q, gcells C (uA u) G, grcells C (uG u) Rr]) hP hD (bsP 3 [0, 1, 2] rfl (by decide) rfl) (bsP 3 [0, 1, 2] rfl (by decide) rfl) hk hPn
      have hD : va_D A (wj [acells C u Q, gcells C (uA u) G, grcells C (uG u) Rr]) := adr_D hD rfl
      have hz : z = (y5, 0, Rr) := hz
      rw [hz]
      exact x_out htab hlocks hcell hcv hcl hP hS hc0 hc7 rfl (Nat.le_of_ble_eq_true rfl) (Nat.le_of_ble_eq_true rfl)
    · obtain ⟨y5, hy5⟩ : ∃ y_, y_ = (f_X7_requireIsland (y)) := ⟨_, rfl⟩
      have hPn : va_P D vwCl ([] : va_W) H1 := hPn
      have hc0 : y5 = 0 := by rw [hy5]; exact hc0
      have hz := (lt_eq hz hy5).trans (if_pos hc0)
      have hP : va_P D vwCl (wj [acells C u Q, gcells C (uA u) G, grcells C (uG u) Rr]) H1 := jb (bs := [acells C u Q, gcells C (uA u) G, grcells C (uG u) Rr]) (cs := []) (rs := [acells C u Q, gcells C (uA u) G, grcells C (uG u) Rr]) (cs' := []) (bs' := [acells C u Q, gcells C (uA u) G, grcells C (uG u) Rr]) hP hD (bsP 3 [0, 1, 2] rfl (by decide) rfl) (bsP 3 [0, 1, 2] rfl (by decide) rfl) hk hPn
      have hD : va_D A (wj [acells C u Q, gcells C (uA u) G, grcells C (uG u) Rr]) := adr_D hD rfl
      generalize H1 = H at hP hS ⊢
      have hiy := X7_island (x := y) (by rw [← hy5]; exact hc0)
      have ey := (nat_of hiy (by decide)).1
      have ly := (nat_of hiy (by decide)).2
      refine lv_aload_n hx hb dX7_distanceByRelaxation_8 rfl (lv_at hl 0 rfl) ?_
      refine va_get (D := D) (ci := 8) (v := .ref ((uG u) 0)) (C := RX7) (T := TX7) (N := 10) hx hb hts hinX7 hown hK hP 0 rfl rfl 3 (by decide) (hts (.fieldLink RX7 25 "BridgeAuction" "graph" "LBridgeAuction$Graph;") (by decide +kernel)) (fun _ h9 => h9) rfl dX7_distanceByRelaxation_9 ?_
      refine lv_aload_n hx hb dX7_distanceByRelaxation_12 rfl (lv_at hl 0 rfl) ?_
      refine va_get (D := D) (ci := 8) (v := .ref ((uA u) 0)) (C := RX7) (T := TX7) (N := 10) hx hb hts hinX7 hown hK hP 0 rfl rfl 0 (by decide) (hts (.fieldLink RX7 10 "BridgeAuction" "game" "LBridgeAuction$Game;") (by decide +kernel)) (fun _ h9 => h9) rfl dX7_distanceByRelaxation_13 ?_
      refine lv_iload_n hx hb dX7_distanceByRelaxation_16 rfl (lv_at hl 1 rfl) ?_
      obtain ⟨ehn_1, lhn_1⟩ := nat_of (x := x) (n := 8) (by first | assumption) (by omega)
      refine topN ehn_1 ?_
      have hPc : va_P D vwCl (grcells C (uG u) Rr ++ gcells C (uA u) G) _ := wj_P (cs := [grcells C (uG u) Rr, gcells C (uA u) G]) hP [2, 1] rfl
      have hDc : va_D A (grcells C (uG u) Rr ++ gcells C (uA u) G) := wj_D (cs := [grcells C (uG u) Rr, gcells C (uA u) G]) hD [2, 1] (by decide) rfl
      have hFc : ∀ q, va_A (grcells C (uG u) Rr ++ gcells C (uA u) G) (Array.size _) q → A q := wj_F (cs := [grcells C (uG u) Rr, gcells C (uA u) G]) hD hS hA [2, 1] rfl
      refine callRw (va_runV (As := [.ref ((uA u) 0), .int (nI x.toNatClampNeg)]) (rest := []) ⟨hx, hb, hml, hown, hts⟩ (c_X2_relaxFrom l D C (uG u) Rr (uA u) G (x.toNatClampNeg) _ hG (by omega)) (cwV 2 hts gX7_distanceByRelaxation_X2_relaxFrom rfl rfl rfl (by decide +kernel) ⟨Nat.le_of_ble_eq_true rfl, Nat.le_of_ble_eq_true rfl⟩) (rwP_v hPc hK hE hDc (va_recv hK hPc (ci := 5) (q0 := 0) rfl rfl)) rfl rfl hl.1 rfl (lv_room (Nat.le_of_ble_eq_true rfl)) dX7_distanceByRelaxation_17 ⟨Nat.le_of_ble_eq_true rfl, Nat.le_of_ble_eq_true rfl⟩) hS hFc (fun H1 locs hPn hk hS => ?_)
      generalize hy17 : (f_X2_relaxFrom Rr G (x.toNatClampNeg)) = y17 at hPn ⊢
      have hz := lt_eq hz hy17.symm
      have hP : va_P D vwCl (wj [acells C u Q, gcells C (uA u) G, grcells C (uG u) y17]) H1 := jb (bs := [acells C u Q, gcells C (uA u) G, grcells C (uG u) Rr]) (cs := [grcells C (uG u) Rr, gcells C (uA u) G]) (rs := [acells C u Q]) (cs' := [grcells C (uG u) y17, gcells C (uA u) G]) (bs' := [acells C u Q, gcells C (uA u) G, grcells C (uG u) y17]) hP hD (bsP 3 [2, 1, 0] rfl (by decide) rfl) (bsP 3 [2, 1, 0] rfl (by decide) rfl) hk hPn
      have hD : va_D A (wj [acells C u Q, gcells C (uA u) G, grcells C (uG u) y17]) := adr_D hD rfl
      generalize H1 = H at hP hS ⊢
      refine lv_aload_n hx hb dX7_distanceByRelaxation_20 rfl (lv_at hl 0 rfl) ?_
      refine va_get (D := D) (ci := 8) (v := .ref ((uG u) 0)) (C := RX7) (T := TX7) (N := 10) hx hb hts hinX7 hown hK hP 0 rfl rfl 3 (by decide) (hts (.fieldLink RX7 25 "BridgeAuction" "graph" "LBridgeAuction$Graph;") (by decide +kernel)) (fun _ h9 => h9) rfl dX7_distanceByRelaxation_21 ?_
      refine va_getN (D := D) (ci := 5) (v := .ref ((uG u) 2)) (C := RX2) (T := TX2) (N := 3) hx hb hts hinX2 hown hK hP 10 rfl rfl 1 (by decide) (hE.use 18 rfl) (fun _ h9 => h9) rfl dX7_distanceByRelaxation_24 ?_
      refine lv_iload_n hx hb dX7_distanceByRelaxation_27 rfl (lv_at hl 2 rfl) ?_
      obtain ⟨ehn_2, lhn_2⟩ := nat_of (x := y) (n := 8) (by first | assumption) (by omega)
      refine topN ehn_2 ?_
      refine ialdN (tys := tyA C) hx hb hK hP 12 0 rfl rfl (i := y.toNatClampNeg) (by omega) (by decide) dX7_distanceByRelaxation_28 ?_
      have hPc : va_P D vwCl ([] : va_W) _ := wj_P (cs := []) hP [] rfl
      have hDc : va_D A ([] : va_W) := wj_D (cs := []) hD [] (by decide) rfl
      have hFc : ∀ q, va_A ([] : va_W) (Array.size _) q → A q := wj_F (cs := []) hD hS hA [] rfl
      refine callX (vx_runS (As := [.int ((rRlx y17) y.toNatClampNeg)]) (rest := []) ⟨hx, hb, hml, hown, hts⟩ (c_X7_requireNear l D C ev (((rRlx y17) y.toNatClampNeg)) _ (by first | assumption | omega)) (va_cwS 1 hts gX7_distanceByRelaxation_X7_requireNear rfl rfl rfl (by decide +kernel) ⟨Nat.le_of_ble_eq_true rfl, Nat.le_of_ble_eq_true rfl⟩) (xP_s hPc hK hE hDc hR hX hT9 hV9 hS hFc) rfl rfl hl.1 rfl (lv_room (Nat.le_of_ble_eq_true rfl)) dX7_distanceByRelaxation_29 ⟨Nat.le_of_ble_eq_true rfl, Nat.le_of_ble_eq_true rfl⟩) hS hFc (fun hc0 hc7 ce q9 H1 locs hPn hk hS hcell hcv hcl => ?_) (fun hc0 H1 locs hPn hk hS => ?_)
      · obtain ⟨y29, hy29⟩ : ∃ y_, y_ = (f_X7_requireNear (((rRlx y17) y.toNatClampNeg))) := ⟨_, rfl⟩
        have hPn : va_P D vwCl ([] : va_W) H1 := hPn
        have hc0 : 0 < y29.1 := by rw [hy29]; exact hc0
        have hc7 : y29.1 < 7 := by rw [hy29]; exact hc7
        have hcl : s.vm.findClass (xN y29.1) = some ce.cls := by rw [hy29]; exact hcl
        have hz := (lt_eq hz hy29).trans (if_neg (Nat.ne_of_gt hc0))
        have hP : va_P D vwCl (wj [acells C u Q, gcells C (uA u) G, grcells C (uG u) y17]) H1 := jb (bs := [acells C u Q, gcells C (uA u) G, grcells C (uG u) y17]) (cs := []) (rs := [acells C u Q, gcells C (uA u) G, grcells C (uG u) y17]) (cs' := []) (bs' := [acells C u Q, gcells C (uA u) G, grcells C (uG u) y17]) hP hD (bsP 3 [0, 1, 2] rfl (by decide) rfl) (bsP 3 [0, 1, 2] rfl (by decide) rfl) hk hPn
        have hD : va_D A (wj [acells C u Q, gcells C (uA u) G, grcells C (uG u) y17]) := adr_D hD rfl
        have hz : z = (y29.1, 0, y17) := hz
        rw [hz]
        exact x_out htab hlocks hcell hcv hcl hP hS hc0 hc7 rfl (Nat.le_of_ble_eq_true rfl) (Nat.le_of_ble_eq_true rfl)
      · obtain ⟨y29, hy29⟩ : ∃ y_, y_ = (f_X7_requireNear (((rRlx y17) y.toNatClampNeg))) := ⟨_, rfl⟩
        have hPn : va_P D vwCl ([] : va_W) H1 := hPn
        have hc0 : y29.1 = 0 := by rw [hy29]; exact hc0
        have hz := (lt_eq hz hy29).trans (if_pos hc0)
        refine topI (y := y29.2) (congrArg (fun q_ => q_.2) hy29).symm ?_
        have hP : va_P D vwCl (wj [acells C u Q, gcells C (uA u) G, grcells C (uG u) y17]) H1 := jb (bs := [acells C u Q, gcells C (uA u) G, grcells C (uG u) y17]) (cs := []) (rs := [acells C u Q, gcells C (uA u) G, grcells C (uG u) y17]) (cs' := []) (bs' := [acells C u Q, gcells C (uA u) G, grcells C (uG u) y17]) hP hD (bsP 3 [0, 1, 2] rfl (by decide) rfl) (bsP 3 [0, 1, 2] rfl (by decide) rfl) hk hPn
        have hD : va_D A (wj [acells C u Q, gcells C (uA u) G, grcells C (uG u) y17]) := adr_D hD rfl
        generalize H1 = H at hP hS ⊢
        have hz : z = (0, y29.2, y17) := hz
        rw [hz]
        exact x_ret hx hb hr hP hS rfl rfl (Nat.le_of_ble_eq_true rfl) (Nat.le_of_ble_eq_true rfl) dX7_distanceByRelaxation_32 hlocks

