theorem X7_island {x : Int32} (h : f_X7_requireIsland x = 0) : vp_in x 8 := by
  unfold f_X7_requireIsland at h
  split at h
  · exact X1_isIsland_in (by assumption)
  · exact absurd h (by decide)
theorem X7_player {Q : QS} {G : GS} (hG : GSafe G) {x : Int32} (h : f_X7_requirePlayer Q G x = 0) : vp_in x (gP G) := by
  unfold f_X7_requirePlayer at h
  split at h
  · exact X1_isPlayer_in hG (by assumption)
  · exact absurd h (by decide)
theorem X7_site {Q : QS} {G : GS} (hG : GSafe G) {x : Int32} (h : f_X7_requireSite Q G x = 0) : vp_in x (gS G) := by
  unfold f_X7_requireSite at h
  split at h
  · exact X1_isSite_in hG (by assumption)
  · exact absurd h (by decide)
def f_X7_suit (Q : QS) (G : GS) (x : Int32) : Nat × Int32 := (lt_ (f_X7_requireIsland (x)) (fun y1 => (if y1 = 0 then (0, ((gSuit G) x.toNatClampNeg)) else (y1, 0))))
set_option maxHeartbeats 4000000 in
set_option maxRecDepth 100000 in
theorem c_X7_suit (l : Launch) (D : va_G) (C : Nat → ClassId) (ev : Nat → Nat) (u : Nat → Nat) (Q : QS) (G : GS) (x : Int32) (sz : Nat) (hG : GSafe G) (hl9 : l.stackTraces = false) : vx_Met l yX7_suit wsX7_suit ({ frames := 7, cells := 1, slots := 6, locals := 102 } : Room) (xP [.ref (u 0), .int x] D C ev (wj [acells C u Q, gcells C (uA u) G]) sz) (xO ((f_X7_suit Q G x).1) (some (.int ((f_X7_suit Q G x).2))) D (wj [acells C u Q, gcells C (uA u) G]) (va_A (wj [acells C u Q, gcells C (uA u) G]) sz)) (xC ((f_X7_suit Q G x).1) D (wj [acells C u Q, gcells C (uA u) G]) (va_A (wj [acells C u Q, gcells C (uA u) G]) sz)) 1 6 (va_A (wj [acells C u Q, gcells C (uA u) G]) sz) := by
  refine vx_ofW (cc := cX7_suit) (maxL := 2) (ret := (some .int)) (by decide) rfl ?_
  intro p e s m args below meth c s₁ B hml htab hv
  obtain ⟨rfl, hsz, hP, hK, hD0, hE, hR, hX, hT9, hV9⟩ := hv
  have hx := B.exec
  have hb := B.bytes
  have hr := B.returns
  have hts := atoms_spec (ws := wsX7_suit) B.pre
  have hown : s.vm.findClass RX7 = some m.cls := findClass_of_methodNamed B.named
  have hlocks := B.notSynchronized
  subst hsz
  have hD := hD0.self (sz := s.heap.size)
  generalize hAe : va_A (wj [acells C u Q, gcells C (uA u) G]) s.heap.size = A at hD hX hV9 ⊢
  have hA : ∀ q : Nat, s.heap.size ≤ q → A q := fun q h => by rw [← hAe]; exact Or.inr h
  have hS0 : va_S A s.heap s.heap [] := va_S.rf
  have hP : va_P D vwCl (wj [acells C u Q, gcells C (uA u) G]) s.heap := hP
  have hS := hS0
  obtain ⟨⟨hV, hB, hMV, hMB, hAL, hEk, hEa, hTX, hXZ⟩, hCS, hSF⟩ := id hX
  obtain ⟨hS12, hP4, hlo, hhi⟩ := id hG
  have hinX1 : ∀ w ∈ u_ws RX1 TX1 16, w ∈ wsX7_suit := by decide +kernel
  have hinX7 : ∀ w ∈ u_ws RX7 TX7 10, w ∈ wsX7_suit := by decide +kernel
  have hl := lv_entry ([.ref (u 0), .int x]) (n := 2) (Nat.le_of_ble_eq_true rfl)
  rw [lg_entry_eq]
  generalize (lg_sl ([.ref (u 0), .int x]) ++ List.replicate (2 - (lg_sl ([.ref (u 0), .int x])).length) Slot.unset).toArray = ls at hl ⊢
  have hl : lv_has ls 2 [(0, .ref (u 0)), (1, .int x)] := hl
  obtain ⟨z, hz⟩ : ∃ z, z = f_X7_suit Q G x := ⟨_, rfl⟩
  rw [← hz]
  refine lv_iload_n hx hb dX7_suit_0 rfl (lv_at hl 1 rfl) ?_
  have hPc : va_P D vwCl ([] : va_W) _ := wj_P (cs := []) hP [] rfl
  have hDc : va_D A ([] : va_W) := wj_D (cs := []) hD [] (by decide) rfl
  have hFc : ∀ q, va_A ([] : va_W) (Array.size _) q → A q := wj_F (cs := []) hD hS hA [] rfl
  refine callX (vx_runS (As := [.int x]) (rest := []) ⟨hx, hb, hml, hown, hts⟩ (c_X7_requireIsland l D C ev (x) _ (by first | assumption | omega)) (va_cwS 1 hts gX7_suit_X7_requireIsland rfl rfl rfl (by decide +kernel) ⟨Nat.le_of_ble_eq_true rfl, Nat.le_of_ble_eq_true rfl⟩) (xP_s hPc hK hE hDc hR hX hT9 hV9 hS hFc) rfl rfl hl.1 rfl (lv_room (Nat.le_of_ble_eq_true rfl)) dX7_suit_1 ⟨Nat.le_of_ble_eq_true rfl, Nat.le_of_ble_eq_true rfl⟩) hS hFc (fun hc0 hc7 ce q9 H1 locs hPn hk hS hcell hcv hcl => ?_) (fun hc0 H1 locs hPn hk hS => ?_)
  · obtain ⟨y1, hy1⟩ : ∃ y_, y_ = (f_X7_requireIsland (x)) := ⟨_, rfl⟩
    have hPn : va_P D vwCl ([] : va_W) H1 := hPn
    have hc0 : 0 < y1 := by rw [hy1]; exact hc0
    have hc7 : y1 < 7 := by rw [hy1]; exact hc7
    have hcl : s.vm.findClass (xN y1) = some ce.cls := by rw [hy1]; exact hcl
    have hz := (lt_eq hz hy1).trans (if_neg (Nat.ne_of_gt hc0))
    have hP : va_P D vwCl (wj [acells C u Q, gcells C (uA u) G]) H1 := jb (bs := [acells C u Q, gcells C (uA u) G]) (cs := []) (rs := [acells C u Q, gcells C (uA u) G]) (cs' := []) (bs' := [acells C u Q, gcells C (uA u) G]) hP hD (bsP 2 [0, 1] rfl (by decide) rfl) (bsP 2 [0, 1] rfl (by decide) rfl) hk hPn
    have hD : va_D A (wj [acells C u Q, gcells C (uA u) G]) := adr_D hD rfl
    have hz : z = (y1, 0) := hz
    rw [hz]
    exact x_out htab hlocks hcell hcv hcl hP hS hc0 hc7 rfl (Nat.le_of_ble_eq_true rfl) (Nat.le_of_ble_eq_true rfl)
  · obtain ⟨y1, hy1⟩ : ∃ y_, y_ = (f_X7_requireIsland (x)) := ⟨_, rfl⟩
    have hPn : va_P D vwCl ([] : va_W) H1 := hPn
    have hc0 : y1 = 0 := by rw [hy1]; exact hc0
    have hz := (lt_eq hz hy1).trans (if_pos hc0)
    have hP : va_P D vwCl (wj [acells C u Q, gcells C (uA u) G]) H1 := jb (bs := [acells C u Q, gcells C (uA u) G]) (cs := []) (rs := [acells C u Q, gcells C (uA u) G]) (cs' := []) (bs' := [acells C u Q, gcells C (uA u) G]) hP hD (bsP 2 [0, 1] rfl (by decide) rfl) (bsP 2 [0, 1] rfl (by decide) rfl) hk hPn
    have hD : va_D A (wj [acells C u Q, gcells C (uA u) G]) := adr_D hD rfl
    generalize H1 = H at hP hS ⊢
    have hix := X7_island (x := x) (by rw [← hy1]; exact hc0)
    have ex := (nat_of hix (by decide)).1
    have lx := (nat_of hix (by decide)).2
    refine lv_aload_n hx hb dX7_suit_4 rfl (lv_at hl 0 rfl) ?_
    refine va_get (D := D) (ci := 8) (v := .ref ((uA u) 0)) (C := RX7) (T := TX7) (N := 10) hx hb hts hinX7 hown hK hP 0 rfl rfl 0 (by decide) (hts (.fieldLink RX7 10 "BridgeAuction" "game" "LBridgeAuction$Game;") (by decide +kernel)) (fun _ h9 => h9) rfl dX7_suit_5 ?_
    refine va_getN (D := D) (ci := 4) (v := .ref ((uA u) 1)) (C := RX1) (T := TX1) (N := 16) hx hb hts hinX1 hown hK hP 1 rfl rfl 0 (by decide) (hE.use 0 rfl) (fun _ h9 => h9) rfl dX7_suit_8 ?_
    refine lv_iload_n hx hb dX7_suit_11 rfl (lv_at hl 1 rfl) ?_
    obtain ⟨ehn_1, lhn_1⟩ := nat_of (x := x) (n := 8) (by first | assumption) (by omega)
    refine topN ehn_1 ?_
    refine ialdN (tys := tyA C) hx hb hK hP 2 0 rfl rfl (i := x.toNatClampNeg) (by omega) (by decide) dX7_suit_12 ?_
    have hz : z = (0, ((gSuit G) x.toNatClampNeg)) := hz
    rw [hz]
    exact x_ret hx hb hr hP hS rfl rfl (Nat.le_of_ble_eq_true rfl) (Nat.le_of_ble_eq_true rfl) dX7_suit_13 hlocks

