def f_X7_addPlayer (Q : QS) (G : GS) (S : HS) (x : Int32) : Nat × Int32 × GS × HS := (lt_ (f_X7_change Q G S (0) (x) (0) (0)) (fun y7 => (if y7.1 = 0 then (0, y7.2.1, y7.2.2.1, y7.2.2.2) else (y7.1, 0, y7.2.2.1, y7.2.2.2))))
set_option maxHeartbeats 4000000 in
set_option maxRecDepth 100000 in
theorem c_X7_addPlayer (l : Launch) (D : va_G) (C : Nat → ClassId) (ev : Nat → Nat) (u : Nat → Nat) (Q : QS) (G : GS) (S : HS) (x : Int32) (sz : Nat) (hG : GSafe G) (hN : hNx S < 8) (hC : hCt S ≤ 8) (hF : FerOK G) (hl9 : l.stackTraces = false) : vx_Met l yX7_addPlayer wsX7_addPlayer ({ frames := 8, cells := 1, slots := 6, locals := 163 } : Room) (xP [.ref (u 0), .int x] D C ev (wj [acells C u Q, gcells C (uA u) G, hcells C (uH u) S]) sz) (xO ((f_X7_addPlayer Q G S x).1) (some (.int ((f_X7_addPlayer Q G S x).2.1))) D (wj [acells C u Q, gcells C (uA u) ((f_X7_addPlayer Q G S x).2.2.1), hcells C (uH u) ((f_X7_addPlayer Q G S x).2.2.2)]) (va_A (wj [acells C u Q, gcells C (uA u) G, hcells C (uH u) S]) sz)) (xC ((f_X7_addPlayer Q G S x).1) D (wj [acells C u Q, gcells C (uA u) ((f_X7_addPlayer Q G S x).2.2.1), hcells C (uH u) ((f_X7_addPlayer Q G S x).2.2.2)]) (va_A (wj [acells C u Q, gcells C (uA u) G, hcells C (uH u) S]) sz)) 1 6 (va_A (wj [acells C u Q, gcells C (uA u) G, hcells C (uH u) S]) sz) := by
  refine vx_ofW (cc := cX7_addPlayer) (maxL := 2) (ret := (some .int)) (by decide) rfl ?_
  intro p e s m args below meth c s₁ B hml htab hv
  obtain ⟨rfl, hsz, hP, hK, hD0, hE, hR, hX, hT9, hV9⟩ := hv
  have hx := B.exec
  have hb := B.bytes
  have hr := B.returns
  have hts := atoms_spec (ws := wsX7_addPlayer) B.pre
  have hown : s.vm.findClass RX7 = some m.cls := findClass_of_methodNamed B.named
  have hlocks := B.notSynchronized
  subst hsz
  have hD := hD0.self (sz := s.heap.size)
  generalize hAe : va_A (wj [acells C u Q, gcells C (uA u) G, hcells C (uH u) S]) s.heap.size = A at hD hX hV9 ⊢
  have hA : ∀ q : Nat, s.heap.size ≤ q → A q := fun q h => by rw [← hAe]; exact Or.inr h
  have hS0 : va_S A s.heap s.heap [] := va_S.rf
  have hP : va_P D vwCl (wj [acells C u Q, gcells C (uA u) G, hcells C (uH u) S]) s.heap := hP
  have hS := hS0
  obtain ⟨⟨hV, hB, hMV, hMB, hAL, hEk, hEa, hTX, hXZ⟩, hCS, hSF⟩ := id hX
  obtain ⟨hS12, hP4, hlo, hhi⟩ := id hG
  have hl := lv_entry ([.ref (u 0), .int x]) (n := 2) (Nat.le_of_ble_eq_true rfl)
  rw [lg_entry_eq]
  generalize (lg_sl ([.ref (u 0), .int x]) ++ List.replicate (2 - (lg_sl ([.ref (u 0), .int x])).length) Slot.unset).toArray = ls at hl ⊢
  have hl : lv_has ls 2 [(0, .ref (u 0)), (1, .int x)] := hl
  obtain ⟨z, hz⟩ : ∃ z, z = f_X7_addPlayer Q G S x := ⟨_, rfl⟩
  rw [← hz]
  refine lv_aload_n hx hb dX7_addPlayer_0 rfl (lv_at hl 0 rfl) ?_
  refine va_gets (v := .ref (ev (10 + 0))) (C := "BridgeAuction$Verb") (n := "PLAYER") (d := "LBridgeAuction$Verb;") hx hb (hB.1 0 (by decide)).1 hS hown (hts (.fieldLink RX7 61 "BridgeAuction$Verb" "PLAYER" "LBridgeAuction$Verb;") (by decide +kernel)) (fun _ h9 => h9) dX7_addPlayer_1 ?_
  refine lv_iload_n hx hb dX7_addPlayer_4 rfl (lv_at hl 1 rfl) ?_
  refine lv_iconst (v := 0) hx hb dX7_addPlayer_5 (by decide) ?_
  refine lv_iconst (v := 0) hx hb dX7_addPlayer_6 (by decide) ?_
  have hPc : va_P D vwCl (wj [acells C u Q, gcells C (uA u) G, hcells C (uH u) S]) _ := wj_P (cs := [acells C u Q, gcells C (uA u) G, hcells C (uH u) S]) hP [0, 1, 2] rfl
  have hDc : va_D A (wj [acells C u Q, gcells C (uA u) G, hcells C (uH u) S]) := wj_D (cs := [acells C u Q, gcells C (uA u) G, hcells C (uH u) S]) hD [0, 1, 2] (by decide) rfl
  have hFc : ∀ q, va_A (wj [acells C u Q, gcells C (uA u) G, hcells C (uH u) S]) (Array.size _) q → A q := wj_F (cs := [acells C u Q, gcells C (uA u) G, hcells C (uH u) S]) hD hS hA [0, 1, 2] rfl
  refine callX (vx_runV (As := [.ref (ev (10 + 0)), .int x, .int 0, .int 0]) (rest := []) ⟨hx, hb, hml, hown, hts⟩ (c_X7_change l D C ev u Q G S (0) (x) (0) (0) _ hG (by omega) (by show (hNx S) < 8; first | assumption | omega) (by show (hCt S) ≤ 8; first | assumption | omega) (by first | assumption | omega) (by first | assumption | omega)) (cwV 4 hts gX7_addPlayer_X7_change rfl rfl rfl (by decide +kernel) ⟨Nat.le_of_ble_eq_true rfl, Nat.le_of_ble_eq_true rfl⟩) (xP_v hPc hK hE hDc hR hX hT9 hV9 hS hFc (va_recv hK hPc (ci := 8) (q0 := 0) rfl rfl)) rfl rfl hl.1 rfl (lv_room (Nat.le_of_ble_eq_true rfl)) dX7_addPlayer_7 ⟨Nat.le_of_ble_eq_true rfl, Nat.le_of_ble_eq_true rfl⟩) hS hFc (fun hc0 hc7 ce q9 H1 locs hPn hk hS hcell hcv hcl => ?_) (fun hc0 H1 locs hPn hk hS => ?_)
  · obtain ⟨y7, hy7⟩ : ∃ y_, y_ = (f_X7_change Q G S (0) (x) (0) (0)) := ⟨_, rfl⟩
    have hPn : va_P D vwCl (wj [acells C u Q, gcells C (uA u) y7.2.2.1, hcells C (uH u) y7.2.2.2]) H1 := by rw [hy7]; exact hPn
    have hc0 : 0 < y7.1 := by rw [hy7]; exact hc0
    have hc7 : y7.1 < 7 := by rw [hy7]; exact hc7
    have hcl : s.vm.findClass (xN y7.1) = some ce.cls := by rw [hy7]; exact hcl
    have hz := (lt_eq hz hy7).trans (if_neg (Nat.ne_of_gt hc0))
    have hP : va_P D vwCl (wj [acells C u Q, gcells C (uA u) y7.2.2.1, hcells C (uH u) y7.2.2.2]) H1 := jb (bs := [acells C u Q, gcells C (uA u) G, hcells C (uH u) S]) (cs := [acells C u Q, gcells C (uA u) G, hcells C (uH u) S]) (rs := []) (cs' := [acells C u Q, gcells C (uA u) y7.2.2.1, hcells C (uH u) y7.2.2.2]) (bs' := [acells C u Q, gcells C (uA u) y7.2.2.1, hcells C (uH u) y7.2.2.2]) hP hD (bsP 3 [0, 1, 2] rfl (by decide) rfl) (bsP 3 [0, 1, 2] rfl (by decide) rfl) hk hPn
    have hD : va_D A (wj [acells C u Q, gcells C (uA u) y7.2.2.1, hcells C (uH u) y7.2.2.2]) := adr_D hD rfl
    have hz : z = (y7.1, 0, y7.2.2.1, y7.2.2.2) := hz
    rw [hz]
    exact x_out htab hlocks hcell hcv hcl hP hS hc0 hc7 rfl (Nat.le_of_ble_eq_true rfl) (Nat.le_of_ble_eq_true rfl)
  · obtain ⟨y7, hy7⟩ : ∃ y_, y_ = (f_X7_change Q G S (0) (x) (0) (0)) := ⟨_, rfl⟩
    have hPn : va_P D vwCl (wj [acells C u Q, gcells C (uA u) y7.2.2.1, hcells C (uH u) y7.2.2.2]) H1 := by rw [hy7]; exact hPn
    have hc0 : y7.1 = 0 := by rw [hy7]; exact hc0
    have hz := (lt_eq hz hy7).trans (if_pos hc0)
    refine topI (y := y7.2.1) (congrArg (fun q_ => q_.2.1) hy7).symm ?_
    have hP : va_P D vwCl (wj [acells C u Q, gcells C (uA u) y7.2.2.1, hcells C (uH u) y7.2.2.2]) H1 := jb (bs := [acells C u Q, gcells C (uA u) G, hcells C (uH u) S]) (cs := [acells C u Q, gcells C (uA u) G, hcells C (uH u) S]) (rs := []) (cs' := [acells C u Q, gcells C (uA u) y7.2.2.1, hcells C (uH u) y7.2.2.2]) (bs' := [acells C u Q, gcells C (uA u) y7.2.2.1, hcells C (uH u) y7.2.2.2]) hP hD (bsP 3 [0, 1, 2] rfl (by decide) rfl) (bsP 3 [0, 1, 2] rfl (by decide) rfl) hk hPn
    have hD : va_D A (wj [acells C u Q, gcells C (uA u) y7.2.2.1, hcells C (uH u) y7.2.2.2]) := adr_D hD rfl
    generalize H1 = H at hP hS ⊢
    have hz : z = (0, y7.2.1, y7.2.2.1, y7.2.2.2) := hz
    rw [hz]
    exact x_ret hx hb hr hP hS rfl rfl (Nat.le_of_ble_eq_true rfl) (Nat.le_of_ble_eq_true rfl) dX7_addPlayer_10 hlocks

