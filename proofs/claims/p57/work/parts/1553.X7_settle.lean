def f_X7_settle_j19  (s0_19 : Bool) (G_19 : GS) (S_19 : HS) : Nat × Bool × GS × HS := (0, s0_19, G_19, S_19)
def f_X7_settle (Q : QS) (G : GS) (S : HS) (x : Int32) : Nat × Bool × GS × HS := (lt_ (f_X7_change Q G S (8) (x) (0) (0)) (fun y7 => (if y7.1 = 0 then (if y7.2.1 = 1 then (f_X7_settle_j19 (true) (y7.2.2.1) (y7.2.2.2)) else (f_X7_settle_j19 (false) (y7.2.2.1) (y7.2.2.2))) else (y7.1, false, y7.2.2.1, y7.2.2.2))))
set_option maxHeartbeats 4000000 in
set_option maxRecDepth 100000 in
theorem c_X7_settle (l : Launch) (D : va_G) (C : Nat → ClassId) (ev : Nat → Nat) (u : Nat → Nat) (Q : QS) (G : GS) (S : HS) (x : Int32) (sz : Nat) (hG : GSafe G) (hN : hNx S < 8) (hC : hCt S ≤ 8) (hF : FerOK G) (hl9 : l.stackTraces = false) : vx_Met l yX7_settle wsX7_settle ({ frames := 8, cells := 1, slots := 6, locals := 163 } : Room) (xP [.ref (u 0), .int x] D C ev (wj [acells C u Q, gcells C (uA u) G, hcells C (uH u) S]) sz) (xO ((f_X7_settle Q G S x).1) (some (.int (bI ((f_X7_settle Q G S x).2.1)))) D (wj [acells C u Q, gcells C (uA u) ((f_X7_settle Q G S x).2.2.1), hcells C (uH u) ((f_X7_settle Q G S x).2.2.2)]) (va_A (wj [acells C u Q, gcells C (uA u) G, hcells C (uH u) S]) sz)) (xC ((f_X7_settle Q G S x).1) D (wj [acells C u Q, gcells C (uA u) ((f_X7_settle Q G S x).2.2.1), hcells C (uH u) ((f_X7_settle Q G S x).2.2.2)]) (va_A (wj [acells C u Q, gcells C (uA u) G, hcells C (uH u) S]) sz)) 1 6 (va_A (wj [acells C u Q, gcells C (uA u) G, hcells C (uH u) S]) sz) := by
  refine vx_ofW (cc := cX7_settle) (maxL := 2) (ret := (some .boolean)) (by decide) rfl ?_
  intro p e s m args below meth c s₁ B hml htab hv
  obtain ⟨rfl, hsz, hP, hK, hD0, hE, hR, hX, hT9, hV9⟩ := hv
  have hx := B.exec
  have hb := B.bytes
  have hr := B.returns
  have hts := atoms_spec (ws := wsX7_settle) B.pre
  have hown : s.vm.findClass RX7 = some m.cls := findClass_of_methodNamed B.named
  have hlocks := B.notSynchronized
  subst hsz
  have hD := hD0.self (sz := s.heap.size)
  generalize hAe : va_A (wj [acells C u Q, gcells C (uA u) G, hcells C (uH u) S]) s.heap.size = A at hD hX hV9 ⊢
  have hA : ∀ q : Nat, s.heap.size ≤ q → A q := fun q h => by rw [← hAe]; exact Or.inr h
  have hS0 : va_S A s.heap s.heap [] := va_S.rf
  have hP : va_P D vwCl (wj [acells C u Q, gcells C (uA u) G, hcells C (uH u) S]) s.heap := hP
  have hS := hS0
  obtain ⟨⟨hV, hB, hMV, hMB, hAL, hEk, hEa, hTX, hXZ⟩, hCS, hSF⟩ := id hX
  obtain ⟨hS12, hP4, hlo, hhi⟩ := id hG
  have hl := lv_entry ([.ref (u 0), .int x]) (n := 2) (Nat.le_of_ble_eq_true rfl)
  rw [lg_entry_eq]
  generalize (lg_sl ([.ref (u 0), .int x]) ++ List.replicate (2 - (lg_sl ([.ref (u 0), .int x])).length) Slot.unset).toArray = ls at hl ⊢
  have hl : lv_has ls 2 [(0, .ref (u 0)), (1, .int x)] := hl
  obtain ⟨z, hz⟩ : ∃ z, z = f_X7_settle Q G S x := ⟨_, rfl⟩
  rw [← hz]
  have J19 : ∀ (s0_19 : Bool) (G_19 : GS) (S_19 : HS)  (H : Heap) (locs : List Loc) (ls : Array Slot), z = f_X7_settle_j19 s0_19 G_19 S_19 → va_P D vwCl (wj [acells C u Q, gcells C (uA u) G_19, hcells C (uH u) S_19]) H → va_D A (wj [acells C u Q, gcells C (uA u) G_19, hcells C (uH u) S_19]) → va_S A s.heap H locs → lv_has ls 2 [] → W p l e ({ frames := 8, cells := 1, slots := 6, locals := 163 } : Room) s m ([.ref (u 0), .int x] : List Value).toArray below meth c H locs 1 6 (vx_MQ below (xO z.1 (some (.int (bI z.2.1))) D (wj [acells C u Q, gcells C (uA u) z.2.2.1, hcells C (uH u) z.2.2.2]) A) (xC z.1 D (wj [acells C u Q, gcells C (uA u) z.2.2.1, hcells C (uH u) z.2.2.2]) A) ([.ref (u 0), .int x] : List Value).toArray s 1 6 A) (F0 m 19 ls [.int (bI s0_19)]) := by
    intro s0_19 G_19 S_19 H locs ls hz  hP hD hS hl
    have hz : z = (0, s0_19, G_19, S_19) := hz
    rw [hz]
    exact x_retB hx hb hr hP hS rfl rfl (Nat.le_of_ble_eq_true rfl) (Nat.le_of_ble_eq_true rfl) dX7_settle_19 hlocks
  refine lv_aload_n hx hb dX7_settle_0 rfl (lv_at hl 0 rfl) ?_
  refine va_gets (v := .ref (ev (10 + 8))) (C := "BridgeAuction$Verb") (n := "SETTLE") (d := "LBridgeAuction$Verb;") hx hb (hB.1 8 (by decide)).1 hS hown (hts (.fieldLink RX7 92 "BridgeAuction$Verb" "SETTLE" "LBridgeAuction$Verb;") (by decide +kernel)) (fun _ h9 => h9) dX7_settle_1 ?_
  refine lv_iload_n hx hb dX7_settle_4 rfl (lv_at hl 1 rfl) ?_
  refine lv_iconst (v := 0) hx hb dX7_settle_5 (by decide) ?_
  refine lv_iconst (v := 0) hx hb dX7_settle_6 (by decide) ?_
  have hPc : va_P D vwCl (wj [acells C u Q, gcells C (uA u) G, hcells C (uH u) S]) _ := wj_P (cs := [acells C u Q, gcells C (uA u) G, hcells C (uH u) S]) hP [0, 1, 2] rfl
  have hDc : va_D A (wj [acells C u Q, gcells C (uA u) G, hcells C (uH u) S]) := wj_D (cs := [acells C u Q, gcells C (uA u) G, hcells C (uH u) S]) hD [0, 1, 2] (by decide) rfl
  have hFc : ∀ q, va_A (wj [acells C u Q, gcells C (uA u) G, hcells C (uH u) S]) (Array.size _) q → A q := wj_F (cs := [acells C u Q, gcells C (uA u) G, hcells C (uH u) S]) hD hS hA [0, 1, 2] rfl
  refine callX (vx_runV (As := [.ref (ev (10 + 8)), .int x, .int 0, .int 0]) (rest := []) ⟨hx, hb, hml, hown, hts⟩ (c_X7_change l D C ev u Q G S (8) (x) (0) (0) _ hG (by omega) (by show (hNx S) < 8; first | assumption | omega) (by show (hCt S) ≤ 8; first | assumption | omega) (by first | assumption | omega) (by first | assumption | omega)) (cwV 4 hts gX7_settle_X7_change rfl rfl rfl (by decide +kernel) ⟨Nat.le_of_ble_eq_true rfl, Nat.le_of_ble_eq_true rfl⟩) (xP_v hPc hK hE hDc hR hX hT9 hV9 hS hFc (va_recv hK hPc (ci := 8) (q0 := 0) rfl rfl)) rfl rfl hl.1 rfl (lv_room (Nat.le_of_ble_eq_true rfl)) dX7_settle_7 ⟨Nat.le_of_ble_eq_true rfl, Nat.le_of_ble_eq_true rfl⟩) hS hFc (fun hc0 hc7 ce q9 H1 locs hPn hk hS hcell hcv hcl => ?_) (fun hc0 H1 locs hPn hk hS => ?_)
  · obtain ⟨y7, hy7⟩ : ∃ y_, y_ = (f_X7_change Q G S (8) (x) (0) (0)) := ⟨_, rfl⟩
    have hPn : va_P D vwCl (wj [acells C u Q, gcells C (uA u) y7.2.2.1, hcells C (uH u) y7.2.2.2]) H1 := by rw [hy7]; exact hPn
    have hc0 : 0 < y7.1 := by rw [hy7]; exact hc0
    have hc7 : y7.1 < 7 := by rw [hy7]; exact hc7
    have hcl : s.vm.findClass (xN y7.1) = some ce.cls := by rw [hy7]; exact hcl
    have hz := (lt_eq hz hy7).trans (if_neg (Nat.ne_of_gt hc0))
    have hP : va_P D vwCl (wj [acells C u Q, gcells C (uA u) y7.2.2.1, hcells C (uH u) y7.2.2.2]) H1 := jb (bs := [acells C u Q, gcells C (uA u) G, hcells C (uH u) S]) (cs := [acells C u Q, gcells C (uA u) G, hcells C (uH u) S]) (rs := []) (cs' := [acells C u Q, gcells C (uA u) y7.2.2.1, hcells C (uH u) y7.2.2.2]) (bs' := [acells C u Q, gcells C (uA u) y7.2.2.1, hcells C (uH u) y7.2.2.2]) hP hD (bsP 3 [0, 1, 2] rfl (by decide) rfl) (bsP 3 [0, 1, 2] rfl (by decide) rfl) hk hPn
    have hD : va_D A (wj [acells C u Q, gcells C (uA u) y7.2.2.1, hcells C (uH u) y7.2.2.2]) := adr_D hD rfl
    have hz : z = (y7.1, false, y7.2.2.1, y7.2.2.2) := hz
    rw [hz]
    exact x_out htab hlocks hcell hcv hcl hP hS hc0 hc7 rfl (Nat.le_of_ble_eq_true rfl) (Nat.le_of_ble_eq_true rfl)
  · obtain ⟨y7, hy7⟩ : ∃ y_, y_ = (f_X7_change Q G S (8) (x) (0) (0)) := ⟨_, rfl⟩
    have hPn : va_P D vwCl (wj [acells C u Q, gcells C (uA u) y7.2.2.1, hcells C (uH u) y7.2.2.2]) H1 := by rw [hy7]; exact hPn
    have hc0 : y7.1 = 0 := by rw [hy7]; exact hc0
    have hz := (lt_eq hz hy7).trans (if_pos hc0)
    refine topI (y := y7.2.1) (congrArg (fun q_ => q_.2.1) hy7).symm ?_
    have hP : va_P D vwCl (wj [acells C u Q, gcells C (uA u) y7.2.2.1, hcells C (uH u) y7.2.2.2]) H1 := jb (bs := [acells C u Q, gcells C (uA u) G, hcells C (uH u) S]) (cs := [acells C u Q, gcells C (uA u) G, hcells C (uH u) S]) (rs := []) (cs' := [acells C u Q, gcells C (uA u) y7.2.2.1, hcells C (uH u) y7.2.2.2]) (bs' := [acells C u Q, gcells C (uA u) y7.2.2.1, hcells C (uH u) y7.2.2.2]) hP hD (bsP 3 [0, 1, 2] rfl (by decide) rfl) (bsP 3 [0, 1, 2] rfl (by decide) rfl) hk hPn
    have hD : va_D A (wj [acells C u Q, gcells C (uA u) y7.2.2.1, hcells C (uH u) y7.2.2.2]) := adr_D hD rfl
    generalize H1 = H at hP hS ⊢
    refine lv_iconst (v := 1) hx hb dX7_settle_10 (by decide) ?_
    refine lv_icmp_ne (tgt := 18) hx hb dX7_settle_11 (by decide) (fun c_11 => ?_) (fun c_11 => ?_)
    · have hz := hz.trans (if_neg c_11)
      refine lv_iconst (v := 0) hx hb dX7_settle_18 (by decide) ?_
      exact J19 (false) (y7.2.2.1) (y7.2.2.2) _ _ ls hz  hP hD hS (lv_sub hl [] rfl)
    · have hz := hz.trans (if_pos c_11)
      refine lv_iconst (v := 1) hx hb dX7_settle_14 (by decide) ?_
      refine lv_goto (tgt := 19) hx hb dX7_settle_15 (by decide) ?_
      exact J19 (true) (y7.2.2.1) (y7.2.2.2) _ _ ls hz  hP hD hS (lv_sub hl [] rfl)

