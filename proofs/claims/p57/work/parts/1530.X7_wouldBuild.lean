theorem X7_fine {n : Nat} (hn : n < 6) (h : f_X7_refuseUnlessFine n = 0) : n = 0 := by
  rcases (by omega : n = 0 ∨ n = 1 ∨ n = 2 ∨ n = 3 ∨ n = 4 ∨ n = 5) with r | r | r | r | r | r <;> subst r
  · rfl
  all_goals exact absurd h (by decide +kernel)
def f_X7_wouldBuild (Q : QS) (G : GS) (x : Int32) : Nat × Bool := (lt_ (f_X7_refuseUnlessFine ((f_X1_judge G (8) (x) (0) (0)))) (fun y13 => (if y13 = 0 then (0, (f_X1_buildsWith G (((f_X1_winnerOf G (x.toNatClampNeg))).toNatClampNeg) (x.toNatClampNeg))) else (y13, false))))
set_option maxHeartbeats 4000000 in
set_option maxRecDepth 100000 in
theorem c_X7_wouldBuild (l : Launch) (D : va_G) (C : Nat → ClassId) (ev : Nat → Nat) (u : Nat → Nat) (Q : QS) (G : GS) (x : Int32) (sz : Nat) (hG : GSafe G) (hF : FerOK G) (hl9 : l.stackTraces = false) : vx_Met l yX7_wouldBuild wsX7_wouldBuild ({ frames := 7, cells := 1, slots := 6, locals := 139 } : Room) (xP [.ref (u 0), .int x] D C ev (wj [acells C u Q, gcells C (uA u) G]) sz) (xO ((f_X7_wouldBuild Q G x).1) (some (.int (bI ((f_X7_wouldBuild Q G x).2)))) D (wj [acells C u Q, gcells C (uA u) G]) (va_A (wj [acells C u Q, gcells C (uA u) G]) sz)) (xC ((f_X7_wouldBuild Q G x).1) D (wj [acells C u Q, gcells C (uA u) G]) (va_A (wj [acells C u Q, gcells C (uA u) G]) sz)) 1 6 (va_A (wj [acells C u Q, gcells C (uA u) G]) sz) := by
  refine vx_ofW (cc := cX7_wouldBuild) (maxL := 2) (ret := (some .boolean)) (by decide) rfl ?_
  intro p e s m args below meth c s₁ B hml htab hv
  obtain ⟨rfl, hsz, hP, hK, hD0, hE, hR, hX, hT9, hV9⟩ := hv
  have hx := B.exec
  have hb := B.bytes
  have hr := B.returns
  have hts := atoms_spec (ws := wsX7_wouldBuild) B.pre
  have hown : s.vm.findClass RX7 = some m.cls := findClass_of_methodNamed B.named
  have hlocks := B.notSynchronized
  subst hsz
  have hD := hD0.self (sz := s.heap.size)
  generalize hAe : va_A (wj [acells C u Q, gcells C (uA u) G]) s.heap.size = A at hD hX hV9 ⊢
  have hA : ∀ q : Nat, s.heap.size ≤ q → A q := fun q h => by rw [← hAe]; exact Or.inr h
  have hS0 : va_S A s.heap s.heap [] := va_S.rf
  have hP : va_P D vwCl (wj [acells C u Q, gcells C (uA u) G]) s.heap := hP
  have hS := hS0
  obtain ⟨⟨hV, hB, hMV, hMB, hAL, hEk, hEa, hTX, hXZ⟩, hCS, hSF⟩ := id hX
  obtain ⟨hS12, hP4, hlo, hhi⟩ := id hG
  have hinX7 : ∀ w ∈ u_ws RX7 TX7 10, w ∈ wsX7_wouldBuild := by decide +kernel
  have hl := lv_entry ([.ref (u 0), .int x]) (n := 2) (Nat.le_of_ble_eq_true rfl)
  rw [lg_entry_eq]
  generalize (lg_sl ([.ref (u 0), .int x]) ++ List.replicate (2 - (lg_sl ([.ref (u 0), .int x])).length) Slot.unset).toArray = ls at hl ⊢
  have hl : lv_has ls 2 [(0, .ref (u 0)), (1, .int x)] := hl
  obtain ⟨z, hz⟩ : ∃ z, z = f_X7_wouldBuild Q G x := ⟨_, rfl⟩
  rw [← hz]
  refine lv_aload_n hx hb dX7_wouldBuild_0 rfl (lv_at hl 0 rfl) ?_
  refine va_get (D := D) (ci := 8) (v := .ref ((uA u) 0)) (C := RX7) (T := TX7) (N := 10) hx hb hts hinX7 hown hK hP 0 rfl rfl 0 (by decide) (hts (.fieldLink RX7 10 "BridgeAuction" "game" "LBridgeAuction$Game;") (by decide +kernel)) (fun _ h9 => h9) rfl dX7_wouldBuild_1 ?_
  refine va_gets (v := .ref (ev (10 + 8))) (C := "BridgeAuction$Verb") (n := "SETTLE") (d := "LBridgeAuction$Verb;") hx hb (hB.1 8 (by decide)).1 hS hown (hts (.fieldLink RX7 92 "BridgeAuction$Verb" "SETTLE" "LBridgeAuction$Verb;") (by decide +kernel)) (fun _ h9 => h9) dX7_wouldBuild_4 ?_
  refine lv_iload_n hx hb dX7_wouldBuild_7 rfl (lv_at hl 1 rfl) ?_
  refine lv_iconst (v := 0) hx hb dX7_wouldBuild_8 (by decide) ?_
  refine lv_iconst (v := 0) hx hb dX7_wouldBuild_9 (by decide) ?_
  refine callRo (va_runV (As := [.ref (ev (10 + 8)), .int x, .int 0, .int 0]) (rest := []) ⟨hx, hb, hml, hown, hts⟩ (c_X1_judge l D C ev (uA u) G (8) (x) (0) (0) hG (by omega)) (cwV 4 hts gX7_wouldBuild_X1_judge rfl rfl rfl (by decide +kernel) ⟨Nat.le_of_ble_eq_true rfl, Nat.le_of_ble_eq_true rfl⟩) (roPE_v (wj_P (cs := [gcells C (uA u) G]) hP [1] rfl) hK hE hR hX hS (va_recv hK (wj_P (cs := [gcells C (uA u) G]) hP [1] rfl) (ci := 4) (q0 := 0) rfl rfl)) rfl rfl hl.1 rfl (lv_room (Nat.le_of_ble_eq_true rfl)) dX7_wouldBuild_10 ⟨Nat.le_of_ble_eq_true rfl, Nat.le_of_ble_eq_true rfl⟩) ?_
  have hPc : va_P D vwCl ([] : va_W) _ := wj_P (cs := []) hP [] rfl
  have hDc : va_D A ([] : va_W) := wj_D (cs := []) hD [] (by decide) rfl
  have hFc : ∀ q, va_A ([] : va_W) (Array.size _) q → A q := wj_F (cs := []) hD hS hA [] rfl
  refine callX (vx_runS (As := [.ref (ev (f_X1_judge G (8) (x) (0) (0)))]) (rest := []) ⟨hx, hb, hml, hown, hts⟩ (c_X7_refuseUnlessFine l D C ev ((f_X1_judge G (8) (x) (0) (0))) _ (by exact X1_judge_lt _ _ _ _ _) (by first | assumption | omega)) (va_cwS 1 hts gX7_wouldBuild_X7_refuseUnlessFine rfl rfl rfl (by decide +kernel) ⟨Nat.le_of_ble_eq_true rfl, Nat.le_of_ble_eq_true rfl⟩) (xP_s hPc hK hE hDc hR hX hT9 hV9 hS hFc) rfl rfl hl.1 rfl (lv_room (Nat.le_of_ble_eq_true rfl)) dX7_wouldBuild_13 ⟨Nat.le_of_ble_eq_true rfl, Nat.le_of_ble_eq_true rfl⟩) hS hFc (fun hc0 hc7 ce q9 H1 locs hPn hk hS hcell hcv hcl => ?_) (fun hc0 H1 locs hPn hk hS => ?_)
  · obtain ⟨y13, hy13⟩ : ∃ y_, y_ = (f_X7_refuseUnlessFine ((f_X1_judge G (8) (x) (0) (0)))) := ⟨_, rfl⟩
    have hPn : va_P D vwCl ([] : va_W) H1 := hPn
    have hc0 : 0 < y13 := by rw [hy13]; exact hc0
    have hc7 : y13 < 7 := by rw [hy13]; exact hc7
    have hcl : s.vm.findClass (xN y13) = some ce.cls := by rw [hy13]; exact hcl
    have hz := (lt_eq hz hy13).trans (if_neg (Nat.ne_of_gt hc0))
    have hP : va_P D vwCl (wj [acells C u Q, gcells C (uA u) G]) H1 := jb (bs := [acells C u Q, gcells C (uA u) G]) (cs := []) (rs := [acells C u Q, gcells C (uA u) G]) (cs' := []) (bs' := [acells C u Q, gcells C (uA u) G]) hP hD (bsP 2 [0, 1] rfl (by decide) rfl) (bsP 2 [0, 1] rfl (by decide) rfl) hk hPn
    have hD : va_D A (wj [acells C u Q, gcells C (uA u) G]) := adr_D hD rfl
    have hz : z = (y13, false) := hz
    rw [hz]
    exact x_out htab hlocks hcell hcv hcl hP hS hc0 hc7 rfl (Nat.le_of_ble_eq_true rfl) (Nat.le_of_ble_eq_true rfl)
  · obtain ⟨y13, hy13⟩ : ∃ y_, y_ = (f_X7_refuseUnlessFine ((f_X1_judge G (8) (x) (0) (0)))) := ⟨_, rfl⟩
    have hPn : va_P D vwCl ([] : va_W) H1 := hPn
    have hc0 : y13 = 0 := by rw [hy13]; exact hc0
    have hz := (lt_eq hz hy13).trans (if_pos hc0)
    have hP : va_P D vwCl (wj [acells C u Q, gcells C (uA u) G]) H1 := jb (bs := [acells C u Q, gcells C (uA u) G]) (cs := []) (rs := [acells C u Q, gcells C (uA u) G]) (cs' := []) (bs' := [acells C u Q, gcells C (uA u) G]) hP hD (bsP 2 [0, 1] rfl (by decide) rfl) (bsP 2 [0, 1] rfl (by decide) rfl) hk hPn
    have hD : va_D A (wj [acells C u Q, gcells C (uA u) G]) := adr_D hD rfl
    generalize H1 = H at hP hS ⊢
    have q := X1_judgeSettling_0 hG hF ((X1_judge_9 (G := G) (n := 8) (x := x) (y := 0) (w := 0) rfl).symm.trans (X7_fine (X1_judge_lt _ _ _ _ _) (by rw [← hy13]; exact hc0)))
    have hsx := vp_mono q.1 hS12
    have hw := q.2
    have ex := (nat_of hsx (by decide)).1
    have lx := (nat_of hsx (by decide)).2
    refine lv_aload_n hx hb dX7_wouldBuild_16 rfl (lv_at hl 0 rfl) ?_
    refine va_get (D := D) (ci := 8) (v := .ref ((uA u) 0)) (C := RX7) (T := TX7) (N := 10) hx hb hts hinX7 hown hK hP 0 rfl rfl 0 (by decide) (hts (.fieldLink RX7 10 "BridgeAuction" "game" "LBridgeAuction$Game;") (by decide +kernel)) (fun _ h9 => h9) rfl dX7_wouldBuild_17 ?_
    refine lv_aload_n hx hb dX7_wouldBuild_20 rfl (lv_at hl 0 rfl) ?_
    refine va_get (D := D) (ci := 8) (v := .ref ((uA u) 0)) (C := RX7) (T := TX7) (N := 10) hx hb hts hinX7 hown hK hP 0 rfl rfl 0 (by decide) (hts (.fieldLink RX7 10 "BridgeAuction" "game" "LBridgeAuction$Game;") (by decide +kernel)) (fun _ h9 => h9) rfl dX7_wouldBuild_21 ?_
    refine lv_iload_n hx hb dX7_wouldBuild_24 rfl (lv_at hl 1 rfl) ?_
    obtain ⟨ehn_1, lhn_1⟩ := nat_of (x := x) (n := 12) (by first | assumption) (by omega)
    refine topN ehn_1 ?_
    refine callRo (va_runV (As := [.int (nI x.toNatClampNeg)]) (rest := [.ref ((uA u) 0)]) ⟨hx, hb, hml, hown, hts⟩ (c_X1_winnerOf l D C (uA u) G (x.toNatClampNeg) hG (by omega)) (cwV 1 hts gX7_wouldBuild_X1_winnerOf rfl rfl rfl (by decide +kernel) ⟨Nat.le_of_ble_eq_true rfl, Nat.le_of_ble_eq_true rfl⟩) (roP_v (wj_P (cs := [gcells C (uA u) G]) hP [1] rfl) hK hE (va_recv hK (wj_P (cs := [gcells C (uA u) G]) hP [1] rfl) (ci := 4) (q0 := 0) rfl rfl)) rfl rfl hl.1 rfl (lv_room (Nat.le_of_ble_eq_true rfl)) dX7_wouldBuild_25 ⟨Nat.le_of_ble_eq_true rfl, Nat.le_of_ble_eq_true rfl⟩) ?_
    refine lv_iload_n hx hb dX7_wouldBuild_28 rfl (lv_at hl 1 rfl) ?_
    obtain ⟨ehn_2, lhn_2⟩ := nat_of (x := (f_X1_winnerOf G (x.toNatClampNeg))) (n := 4) (by first | assumption | exact hw) (by omega)
    refine topN2 ehn_2 ?_
    obtain ⟨ehn_3, lhn_3⟩ := nat_of (x := x) (n := 12) (by first | assumption | exact hw) (by omega)
    refine topN ehn_3 ?_
    refine callRo (va_runV (As := [.int (nI ((f_X1_winnerOf G (x.toNatClampNeg))).toNatClampNeg), .int (nI x.toNatClampNeg)]) (rest := []) ⟨hx, hb, hml, hown, hts⟩ (c_X1_buildsWith l D C (uA u) G (((f_X1_winnerOf G (x.toNatClampNeg))).toNatClampNeg) (x.toNatClampNeg) hG (by omega) (by omega)) (cwV 2 hts gX7_wouldBuild_X1_buildsWith rfl rfl rfl (by decide +kernel) ⟨Nat.le_of_ble_eq_true rfl, Nat.le_of_ble_eq_true rfl⟩) (roP_v (wj_P (cs := [gcells C (uA u) G]) hP [1] rfl) hK hE (va_recv hK (wj_P (cs := [gcells C (uA u) G]) hP [1] rfl) (ci := 4) (q0 := 0) rfl rfl)) rfl rfl hl.1 rfl (lv_room (Nat.le_of_ble_eq_true rfl)) dX7_wouldBuild_29 ⟨Nat.le_of_ble_eq_true rfl, Nat.le_of_ble_eq_true rfl⟩) ?_
    have hz : z = (0, (f_X1_buildsWith G (((f_X1_winnerOf G (x.toNatClampNeg))).toNatClampNeg) (x.toNatClampNeg))) := hz
    rw [hz]
    exact x_retB hx hb hr hP hS rfl rfl (Nat.le_of_ble_eq_true rfl) (Nat.le_of_ble_eq_true rfl) dX7_wouldBuild_32 hlocks

