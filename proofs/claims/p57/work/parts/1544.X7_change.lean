def f_X7_change (Q : QS) (G : GS) (S : HS) (n : Nat) (x : Int32) (y : Int32) (w : Int32) : Nat × Int32 × GS × HS := (lt_ (f_X7_refuseUnlessFine ((f_X1_judge G (n) (x) (y) (w)))) (fun y12 => (if y12 = 0 then (lt_ (f_X3_push S G) (fun y23 => (lt_ (f_X1_play G (n) (x) (y) (w)) (fun y35 => (0, y35.1, y35.2, y23))))) else (y12, 0, G, S))))
set_option maxHeartbeats 4000000 in
set_option maxRecDepth 100000 in
theorem c_X7_change (l : Launch) (D : va_G) (C : Nat → ClassId) (ev : Nat → Nat) (u : Nat → Nat) (Q : QS) (G : GS) (S : HS) (n : Nat) (x : Int32) (y : Int32) (w : Int32) (sz : Nat) (hG : GSafe G) (h_n : n < 9) (hN : hNx S < 8) (hC : hCt S ≤ 8) (hF : FerOK G) (hl9 : l.stackTraces = false) : vx_Met l yX7_change wsX7_change ({ frames := 7, cells := 1, slots := 6, locals := 139 } : Room) (xP [.ref (u 0), .ref (ev (10 + n)), .int x, .int y, .int w] D C ev (wj [acells C u Q, gcells C (uA u) G, hcells C (uH u) S]) sz) (xO ((f_X7_change Q G S n x y w).1) (some (.int ((f_X7_change Q G S n x y w).2.1))) D (wj [acells C u Q, gcells C (uA u) ((f_X7_change Q G S n x y w).2.2.1), hcells C (uH u) ((f_X7_change Q G S n x y w).2.2.2)]) (va_A (wj [acells C u Q, gcells C (uA u) G, hcells C (uH u) S]) sz)) (xC ((f_X7_change Q G S n x y w).1) D (wj [acells C u Q, gcells C (uA u) ((f_X7_change Q G S n x y w).2.2.1), hcells C (uH u) ((f_X7_change Q G S n x y w).2.2.2)]) (va_A (wj [acells C u Q, gcells C (uA u) G, hcells C (uH u) S]) sz)) 1 6 (va_A (wj [acells C u Q, gcells C (uA u) G, hcells C (uH u) S]) sz) := by
  refine vx_ofW (cc := cX7_change) (maxL := 5) (ret := (some .int)) (by decide) rfl ?_
  intro p e s m args below meth c s₁ B hml htab hv
  obtain ⟨rfl, hsz, hP, hK, hD0, hE, hR, hX, hT9, hV9⟩ := hv
  have hx := B.exec
  have hb := B.bytes
  have hr := B.returns
  have hts := atoms_spec (ws := wsX7_change) B.pre
  have hown : s.vm.findClass RX7 = some m.cls := findClass_of_methodNamed B.named
  have hlocks := B.notSynchronized
  subst hsz
  have hD := hD0.self (sz := s.heap.size)
  generalize hAe : va_A (wj [acells C u Q, gcells C (uA u) G, hcells C (uH u) S]) s.heap.size = A at hD hX hV9 ⊢
  have hA : ∀ q : Nat, s.heap.size ≤ q → A q := fun q h => by rw [← hAe]; exact Or.inr h
  have hS0 : va_S A s.heap s.heap [] := va_S.rf
  have hP : va_P D vwCl (wj [acells C u Q, gcells C (uA u) G, hcells C (uH u) S]) s.heap := hP
  have hS := hS0
  obtain ⟨⟨hV, hB, hMV, hMB, hAL, hEk, hEa, hTX, hXZ⟩, hCS, hSF⟩ := id hX
  obtain ⟨hS12, hP4, hlo, hhi⟩ := id hG
  have hinX7 : ∀ w ∈ u_ws RX7 TX7 10, w ∈ wsX7_change := by decide +kernel
  have hl := lv_entry ([.ref (u 0), .ref (ev (10 + n)), .int x, .int y, .int w]) (n := 5) (Nat.le_of_ble_eq_true rfl)
  rw [lg_entry_eq]
  generalize (lg_sl ([.ref (u 0), .ref (ev (10 + n)), .int x, .int y, .int w]) ++ List.replicate (5 - (lg_sl ([.ref (u 0), .ref (ev (10 + n)), .int x, .int y, .int w])).length) Slot.unset).toArray = ls at hl ⊢
  have hl : lv_has ls 5 [(0, .ref (u 0)), (1, .ref (ev (10 + n))), (2, .int x), (3, .int y), (4, .int w)] := hl
  obtain ⟨z, hz⟩ : ∃ z, z = f_X7_change Q G S n x y w := ⟨_, rfl⟩
  rw [← hz]
  refine lv_aload_n hx hb dX7_change_0 rfl (lv_at hl 0 rfl) ?_
  refine va_get (D := D) (ci := 8) (v := .ref ((uA u) 0)) (C := RX7) (T := TX7) (N := 10) hx hb hts hinX7 hown hK hP 0 rfl rfl 0 (by decide) (hts (.fieldLink RX7 10 "BridgeAuction" "game" "LBridgeAuction$Game;") (by decide +kernel)) (fun _ h9 => h9) rfl dX7_change_1 ?_
  refine lv_aload_n hx hb dX7_change_4 rfl (lv_at hl 1 rfl) ?_
  refine lv_iload_n hx hb dX7_change_5 rfl (lv_at hl 2 rfl) ?_
  refine lv_iload_n hx hb dX7_change_6 rfl (lv_at hl 3 rfl) ?_
  refine lv_iload hx hb dX7_change_7 (lv_at hl 4 rfl) ?_
  refine callRo (va_runV (As := [.ref (ev (10 + n)), .int x, .int y, .int w]) (rest := []) ⟨hx, hb, hml, hown, hts⟩ (c_X1_judge l D C ev (uA u) G (n) (x) (y) (w) hG (by omega)) (cwV 4 hts gX7_change_X1_judge rfl rfl rfl (by decide +kernel) ⟨Nat.le_of_ble_eq_true rfl, Nat.le_of_ble_eq_true rfl⟩) (roPE_v (wj_P (cs := [gcells C (uA u) G]) hP [1] rfl) hK hE hR hX hS (va_recv hK (wj_P (cs := [gcells C (uA u) G]) hP [1] rfl) (ci := 4) (q0 := 0) rfl rfl)) rfl rfl hl.1 rfl (lv_room (Nat.le_of_ble_eq_true rfl)) dX7_change_9 ⟨Nat.le_of_ble_eq_true rfl, Nat.le_of_ble_eq_true rfl⟩) ?_
  have hPc : va_P D vwCl ([] : va_W) _ := wj_P (cs := []) hP [] rfl
  have hDc : va_D A ([] : va_W) := wj_D (cs := []) hD [] (by decide) rfl
  have hFc : ∀ q, va_A ([] : va_W) (Array.size _) q → A q := wj_F (cs := []) hD hS hA [] rfl
  refine callX (vx_runS (As := [.ref (ev (f_X1_judge G (n) (x) (y) (w)))]) (rest := []) ⟨hx, hb, hml, hown, hts⟩ (c_X7_refuseUnlessFine l D C ev ((f_X1_judge G (n) (x) (y) (w))) _ (by exact X1_judge_lt _ _ _ _ _) (by first | assumption | omega)) (va_cwS 1 hts gX7_change_X7_refuseUnlessFine rfl rfl rfl (by decide +kernel) ⟨Nat.le_of_ble_eq_true rfl, Nat.le_of_ble_eq_true rfl⟩) (xP_s hPc hK hE hDc hR hX hT9 hV9 hS hFc) rfl rfl hl.1 rfl (lv_room (Nat.le_of_ble_eq_true rfl)) dX7_change_12 ⟨Nat.le_of_ble_eq_true rfl, Nat.le_of_ble_eq_true rfl⟩) hS hFc (fun hc0 hc7 ce q9 H1 locs hPn hk hS hcell hcv hcl => ?_) (fun hc0 H1 locs hPn hk hS => ?_)
  · obtain ⟨y12, hy12⟩ : ∃ y_, y_ = (f_X7_refuseUnlessFine ((f_X1_judge G (n) (x) (y) (w)))) := ⟨_, rfl⟩
    have hPn : va_P D vwCl ([] : va_W) H1 := hPn
    have hc0 : 0 < y12 := by rw [hy12]; exact hc0
    have hc7 : y12 < 7 := by rw [hy12]; exact hc7
    have hcl : s.vm.findClass (xN y12) = some ce.cls := by rw [hy12]; exact hcl
    have hz := (lt_eq hz hy12).trans (if_neg (Nat.ne_of_gt hc0))
    have hP : va_P D vwCl (wj [acells C u Q, gcells C (uA u) G, hcells C (uH u) S]) H1 := jb (bs := [acells C u Q, gcells C (uA u) G, hcells C (uH u) S]) (cs := []) (rs := [acells C u Q, gcells C (uA u) G, hcells C (uH u) S]) (cs' := []) (bs' := [acells C u Q, gcells C (uA u) G, hcells C (uH u) S]) hP hD (bsP 3 [0, 1, 2] rfl (by decide) rfl) (bsP 3 [0, 1, 2] rfl (by decide) rfl) hk hPn
    have hD : va_D A (wj [acells C u Q, gcells C (uA u) G, hcells C (uH u) S]) := adr_D hD rfl
    have hz : z = (y12, 0, G, S) := hz
    rw [hz]
    exact x_out htab hlocks hcell hcv hcl hP hS hc0 hc7 rfl (Nat.le_of_ble_eq_true rfl) (Nat.le_of_ble_eq_true rfl)
  · obtain ⟨y12, hy12⟩ : ∃ y_, y_ = (f_X7_refuseUnlessFine ((f_X1_judge G (n) (x) (y) (w)))) := ⟨_, rfl⟩
    have hPn : va_P D vwCl ([] : va_W) H1 := hPn
    have hc0 : y12 = 0 := by rw [hy12]; exact hc0
    have hz := (lt_eq hz hy12).trans (if_pos hc0)
    have hP : va_P D vwCl (wj [acells C u Q, gcells C (uA u) G, hcells C (uH u) S]) H1 := jb (bs := [acells C u Q, gcells C (uA u) G, hcells C (uH u) S]) (cs := []) (rs := [acells C u Q, gcells C (uA u) G, hcells C (uH u) S]) (cs' := []) (bs' := [acells C u Q, gcells C (uA u) G, hcells C (uH u) S]) hP hD (bsP 3 [0, 1, 2] rfl (by decide) rfl) (bsP 3 [0, 1, 2] rfl (by decide) rfl) hk hPn
    have hD : va_D A (wj [acells C u Q, gcells C (uA u) G, hcells C (uH u) S]) := adr_D hD rfl
    generalize H1 = H at hP hS ⊢
    have hj := X7_fine (X1_judge_lt G n x y w) (by rw [← hy12]; exact hc0)
    refine lv_aload_n hx hb dX7_change_15 rfl (lv_at hl 0 rfl) ?_
    refine va_get (D := D) (ci := 8) (v := .ref ((uH u) 0)) (C := RX7) (T := TX7) (N := 10) hx hb hts hinX7 hown hK hP 0 rfl rfl 4 (by decide) (hts (.fieldLink RX7 32 "BridgeAuction" "history" "LBridgeAuction$History;") (by decide +kernel)) (fun _ h9 => h9) rfl dX7_change_16 ?_
    refine lv_aload_n hx hb dX7_change_19 rfl (lv_at hl 0 rfl) ?_
    refine va_get (D := D) (ci := 8) (v := .ref ((uA u) 0)) (C := RX7) (T := TX7) (N := 10) hx hb hts hinX7 hown hK hP 0 rfl rfl 0 (by decide) (hts (.fieldLink RX7 10 "BridgeAuction" "game" "LBridgeAuction$Game;") (by decide +kernel)) (fun _ h9 => h9) rfl dX7_change_20 ?_
    have hPc : va_P D vwCl (hcells C (uH u) S ++ gcells C (uA u) G) _ := wj_P (cs := [hcells C (uH u) S, gcells C (uA u) G]) hP [2, 1] rfl
    have hDc : va_D A (hcells C (uH u) S ++ gcells C (uA u) G) := wj_D (cs := [hcells C (uH u) S, gcells C (uA u) G]) hD [2, 1] (by decide) rfl
    have hFc : ∀ q, va_A (hcells C (uH u) S ++ gcells C (uA u) G) (Array.size _) q → A q := wj_F (cs := [hcells C (uH u) S, gcells C (uA u) G]) hD hS hA [2, 1] rfl
    refine callRw (va_runV (As := [.ref ((uA u) 0)]) (rest := []) ⟨hx, hb, hml, hown, hts⟩ (c_X3_push l D C (uH u) S (uA u) G _ (by show (hNx S) < 8; first | assumption | omega) (by show (hCt S) ≤ 8; first | assumption | omega)) (cwV 1 hts gX7_change_X3_push rfl rfl rfl (by decide +kernel) ⟨Nat.le_of_ble_eq_true rfl, Nat.le_of_ble_eq_true rfl⟩) (rwP_v hPc hK hE hDc (va_recv hK hPc (ci := 6) (q0 := 0) rfl rfl)) rfl rfl hl.1 rfl (lv_room (Nat.le_of_ble_eq_true rfl)) dX7_change_23 ⟨Nat.le_of_ble_eq_true rfl, Nat.le_of_ble_eq_true rfl⟩) hS hFc (fun H1 locs hPn hk hS => ?_)
    generalize hy23 : (f_X3_push S G) = y23 at hPn ⊢
    have hz := lt_eq hz hy23.symm
    have hP : va_P D vwCl (wj [acells C u Q, gcells C (uA u) G, hcells C (uH u) y23]) H1 := jb (bs := [acells C u Q, gcells C (uA u) G, hcells C (uH u) S]) (cs := [hcells C (uH u) S, gcells C (uA u) G]) (rs := [acells C u Q]) (cs' := [hcells C (uH u) y23, gcells C (uA u) G]) (bs' := [acells C u Q, gcells C (uA u) G, hcells C (uH u) y23]) hP hD (bsP 3 [2, 1, 0] rfl (by decide) rfl) (bsP 3 [2, 1, 0] rfl (by decide) rfl) hk hPn
    have hD : va_D A (wj [acells C u Q, gcells C (uA u) G, hcells C (uH u) y23]) := adr_D hD rfl
    generalize H1 = H at hP hS ⊢
    refine lv_aload_n hx hb dX7_change_26 rfl (lv_at hl 0 rfl) ?_
    refine va_get (D := D) (ci := 8) (v := .ref ((uA u) 0)) (C := RX7) (T := TX7) (N := 10) hx hb hts hinX7 hown hK hP 0 rfl rfl 0 (by decide) (hts (.fieldLink RX7 10 "BridgeAuction" "game" "LBridgeAuction$Game;") (by decide +kernel)) (fun _ h9 => h9) rfl dX7_change_27 ?_
    refine lv_aload_n hx hb dX7_change_30 rfl (lv_at hl 1 rfl) ?_
    refine lv_iload_n hx hb dX7_change_31 rfl (lv_at hl 2 rfl) ?_
    refine lv_iload_n hx hb dX7_change_32 rfl (lv_at hl 3 rfl) ?_
    refine lv_iload hx hb dX7_change_33 (lv_at hl 4 rfl) ?_
    have hPc : va_P D vwCl (gcells C (uA u) G) _ := wj_P (cs := [gcells C (uA u) G]) hP [1] rfl
    have hDc : va_D A (gcells C (uA u) G) := wj_D (cs := [gcells C (uA u) G]) hD [1] (by decide) rfl
    have hFc : ∀ q, va_A (gcells C (uA u) G) (Array.size _) q → A q := wj_F (cs := [gcells C (uA u) G]) hD hS hA [1] rfl
    refine callRw (va_runV (As := [.ref (ev (10 + n)), .int x, .int y, .int w]) (rest := []) ⟨hx, hb, hml, hown, hts⟩ (c_X1_play l D C ev (uA u) G (n) (x) (y) (w) _ hG (by omega) (by first | assumption | omega) (by exact hj)) (cwV 4 hts gX7_change_X1_play rfl rfl rfl (by decide +kernel) ⟨Nat.le_of_ble_eq_true rfl, Nat.le_of_ble_eq_true rfl⟩) (rwPE_v hPc hK hE hDc hR hX hS hFc (va_recv hK hPc (ci := 4) (q0 := 0) rfl rfl)) rfl rfl hl.1 rfl (lv_room (Nat.le_of_ble_eq_true rfl)) dX7_change_35 ⟨Nat.le_of_ble_eq_true rfl, Nat.le_of_ble_eq_true rfl⟩) hS hFc (fun H1 locs hPn hk hS => ?_)
    generalize hy35 : (f_X1_play G (n) (x) (y) (w)) = y35 at hPn ⊢
    have hz := lt_eq hz hy35.symm
    have hP : va_P D vwCl (wj [acells C u Q, gcells C (uA u) y35.2, hcells C (uH u) y23]) H1 := jb (bs := [acells C u Q, gcells C (uA u) G, hcells C (uH u) y23]) (cs := [gcells C (uA u) G]) (rs := [acells C u Q, hcells C (uH u) y23]) (cs' := [gcells C (uA u) y35.2]) (bs' := [acells C u Q, gcells C (uA u) y35.2, hcells C (uH u) y23]) hP hD (bsP 3 [1, 0, 2] rfl (by decide) rfl) (bsP 3 [1, 0, 2] rfl (by decide) rfl) hk hPn
    have hD : va_D A (wj [acells C u Q, gcells C (uA u) y35.2, hcells C (uH u) y23]) := adr_D hD rfl
    generalize H1 = H at hP hS ⊢
    have hz : z = (0, y35.1, y35.2, y23) := hz
    rw [hz]
    exact x_ret hx hb hr hP hS rfl rfl (Nat.le_of_ble_eq_true rfl) (Nat.le_of_ble_eq_true rfl) dX7_change_38 hlocks

