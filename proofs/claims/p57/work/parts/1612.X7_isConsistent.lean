def f_X7_isConsistent_j81  (s0_81 : Bool) (Rr_81 : GR) : Bool × GR := (s0_81, Rr_81)
def f_X7_isConsistent_j80  (Rr_80 : GR) : Bool × GR := (f_X7_isConsistent_j81 (false) (Rr_80))
def f_X7_isConsistent (Q : QS) (G : GS) (Rr : GR) : Bool × GR := (lt_ (f_X2_distancesAgree Rr G) (fun y8 => (if y8.1 = true then (lt_ (f_X2_countByJoining y8.2 G) (fun y29 => (if (f_X2_countBySearch y8.2 G) = y29.1 then (lt_ (f_X2_kruskalLength y29.2 G) (fun y43 => (if y43.1 = (f_X2_primLength y43.2 G) then (if (f_X1_isEveryPlayerSolvent G) = true then (if (f_X1_isMoneyKept G) = true then (f_X7_isConsistent_j81 (true) (y43.2)) else (f_X7_isConsistent_j80 (y43.2))) else (f_X7_isConsistent_j80 (y43.2))) else (f_X7_isConsistent_j80 (y43.2))))) else (f_X7_isConsistent_j80 (y29.2))))) else (f_X7_isConsistent_j80 (y8.2)))))
set_option maxHeartbeats 4000000 in
set_option maxRecDepth 100000 in
theorem c_X7_isConsistent (l : Launch) (D : va_G) (C : Nat → ClassId) (u : Nat → Nat) (Q : QS) (G : GS) (Rr : GR) (sz : Nat) (hG : GSafe G) (hRr : RSafe Rr) : Met l yX7_isConsistent wsX7_isConsistent ({ frames := 11, cells := 0, slots := 0, locals := 266 } : Room) (rwP [.ref (u 0)] D C (acells C u Q ++ gcells C (uA u) G ++ grcells C (uG u) Rr) sz) (rwO (some (.int (bI ((f_X7_isConsistent Q G Rr).1)))) D (acells C u Q ++ gcells C (uA u) G ++ grcells C (uG u) ((f_X7_isConsistent Q G Rr).2)) (va_A (acells C u Q ++ gcells C (uA u) G ++ grcells C (uG u) Rr) sz)) 0 0 (va_A (acells C u Q ++ gcells C (uA u) G ++ grcells C (uG u) Rr) sz) := by
  refine Met.ofW (cc := cX7_isConsistent) (maxL := 1) (ret := (some .boolean)) (by decide) rfl ?_
  intro p e s m args below meth c s₁ B hml hv
  obtain ⟨rfl, hsz, hP, hK, hD0, hE⟩ := hv
  have hx := B.exec
  have hb := B.bytes
  have hr := B.returns
  have hts := atoms_spec (ws := wsX7_isConsistent) B.pre
  have hown : s.vm.findClass RX7 = some m.cls := findClass_of_methodNamed B.named
  have hlocks := B.notSynchronized
  subst hsz
  have hD := hD0.self (sz := s.heap.size)
  generalize hAe : va_A (acells C u Q ++ gcells C (uA u) G ++ grcells C (uG u) Rr) s.heap.size = A at hD ⊢
  have hA : ∀ q : Nat, s.heap.size ≤ q → A q := fun q h => by rw [← hAe]; exact Or.inr h
  have hS0 : va_S A s.heap s.heap [] := va_S.rf
  have hP : va_P D vwCl (acells C u Q ++ gcells C (uA u) G ++ grcells C (uG u) Rr) s.heap := hP
  have hS := hS0
  obtain ⟨hS12, hP4, hlo, hhi⟩ := id hG
  obtain hpar := id hRr
  have hinX7 : ∀ w ∈ u_ws RX7 TX7 10, w ∈ wsX7_isConsistent := by decide +kernel
  have hl := lv_entry ([.ref (u 0)]) (n := 1) (Nat.le_of_ble_eq_true rfl)
  rw [lg_entry_eq]
  generalize (lg_sl ([.ref (u 0)]) ++ List.replicate (1 - (lg_sl ([.ref (u 0)])).length) Slot.unset).toArray = ls at hl ⊢
  have hl : lv_has ls 1 [(0, .ref (u 0))] := hl
  obtain ⟨z, hz⟩ : ∃ z, z = f_X7_isConsistent Q G Rr := ⟨_, rfl⟩
  rw [← hz]
  have J81 : ∀ (s0_81 : Bool) (Rr_81 : GR)  (H : Heap) (locs : List Loc) (ls : Array Slot), z = f_X7_isConsistent_j81 s0_81 Rr_81 → va_P D vwCl (acells C u Q ++ gcells C (uA u) G ++ grcells C (uG u) Rr_81) H → va_D A (acells C u Q ++ gcells C (uA u) G ++ grcells C (uG u) Rr_81) → va_S A s.heap H locs → lv_has ls 1 [] → W p l e ({ frames := 11, cells := 0, slots := 0, locals := 266 } : Room) s m ([.ref (u 0)] : List Value).toArray below meth c H locs 0 0 (MQ below (rwO (some (.int (bI z.1))) D (acells C u Q ++ gcells C (uA u) G ++ grcells C (uG u) z.2) A) ([.ref (u 0)] : List Value).toArray s 0 0 A) (F0 m 81 ls [.int (bI s0_81)]) := by
    intro s0_81 Rr_81 H locs ls hz  hP hD hS hl
    have hz : z = (s0_81, Rr_81) := hz
    rw [hz]
    exact rw_retB hx hb hr hP hS rfl dX7_isConsistent_81 hlocks
  have J80 : ∀ (Rr_80 : GR)  (H : Heap) (locs : List Loc) (ls : Array Slot), z = f_X7_isConsistent_j80 Rr_80 → va_P D vwCl (acells C u Q ++ gcells C (uA u) G ++ grcells C (uG u) Rr_80) H → va_D A (acells C u Q ++ gcells C (uA u) G ++ grcells C (uG u) Rr_80) → va_S A s.heap H locs → lv_has ls 1 [] → W p l e ({ frames := 11, cells := 0, slots := 0, locals := 266 } : Room) s m ([.ref (u 0)] : List Value).toArray below meth c H locs 0 0 (MQ below (rwO (some (.int (bI z.1))) D (acells C u Q ++ gcells C (uA u) G ++ grcells C (uG u) z.2) A) ([.ref (u 0)] : List Value).toArray s 0 0 A) (F0 m 80 ls []) := by
    intro Rr_80 H locs ls hz  hP hD hS hl
    refine lv_iconst (v := 0) hx hb dX7_isConsistent_80 (by decide) ?_
    exact J81 (false) (Rr_80) _ _ ls hz  hP hD hS (lv_sub hl [] rfl)
  refine lv_aload_n hx hb dX7_isConsistent_0 rfl (lv_at hl 0 rfl) ?_
  refine va_get (D := D) (ci := 8) (v := .ref ((uG u) 0)) (C := RX7) (T := TX7) (N := 10) hx hb hts hinX7 hown hK hP 0 rfl rfl 3 (by decide) (hts (.fieldLink RX7 25 "BridgeAuction" "graph" "LBridgeAuction$Graph;") (by decide +kernel)) (fun _ h9 => h9) rfl dX7_isConsistent_1 ?_
  refine lv_aload_n hx hb dX7_isConsistent_4 rfl (lv_at hl 0 rfl) ?_
  refine va_get (D := D) (ci := 8) (v := .ref ((uA u) 0)) (C := RX7) (T := TX7) (N := 10) hx hb hts hinX7 hown hK hP 0 rfl rfl 0 (by decide) (hts (.fieldLink RX7 10 "BridgeAuction" "game" "LBridgeAuction$Game;") (by decide +kernel)) (fun _ h9 => h9) rfl dX7_isConsistent_5 ?_
  have hPc := hP.sub (ws' := (grcells C (uG u) Rr ++ gcells C (uA u) G)) [10, 11, 12, 13, 1, 2, 3, 4, 5, 6, 7, 8, 9] rfl
  have hDc := hD.sub (ws' := (grcells C (uG u) Rr ++ gcells C (uA u) G)) [10, 11, 12, 13, 1, 2, 3, 4, 5, 6, 7, 8, 9] (by decide) rfl
  have hFc := va_free (wc := (grcells C (uG u) Rr ++ gcells C (uA u) G)) hD hS hA [10, 11, 12, 13, 1, 2, 3, 4, 5, 6, 7, 8, 9] rfl
  refine callRw (va_runV (As := [.ref ((uA u) 0)]) (rest := []) ⟨hx, hb, hml, hown, hts⟩ (c_X2_distancesAgree l D C (uG u) Rr (uA u) G _ hG) (cwV 1 hts gX7_isConsistent_X2_distancesAgree rfl rfl rfl (by decide +kernel) ⟨Nat.le_of_ble_eq_true rfl, Nat.le_of_ble_eq_true rfl⟩) (rwP_v hPc hK hE hDc (va_recv hK hPc (ci := 5) (q0 := 0) rfl rfl)) rfl rfl hl.1 rfl (lv_room (Nat.le_of_ble_eq_true rfl)) dX7_isConsistent_8 ⟨Nat.le_refl _, Nat.le_refl _⟩) hS hFc (fun H1 locs hPn hk hS => ?_)
  generalize hy8 : (f_X2_distancesAgree Rr G) = y8 at hPn ⊢
  have hz := lt_eq hz hy8.symm
  have hP : va_P D vwCl (acells C u Q ++ gcells C (uA u) G ++ grcells C (uG u) y8.2) H1 := rwJoin (wr := (acells C u Q)) (ws' := (acells C u Q ++ gcells C (uA u) G ++ grcells C (uG u) y8.2)) hP hD [10, 11, 12, 13, 1, 2, 3, 4, 5, 6, 7, 8, 9] [0] rfl rfl (by decide) (by decide) (by decide) hk hFc hPn rfl [0, 5, 6, 7, 8, 9, 10, 11, 12, 13, 1, 2, 3, 4] rfl
  have hD : va_D A (acells C u Q ++ gcells C (uA u) G ++ grcells C (uG u) y8.2) := adr_D hD rfl
  generalize H1 = H at hP hS ⊢
  have r8 : RSafe y8.2 := by rw [← hy8]; intro k; rw [rPar_agree]; exact hRr k
  refine bif_eq (tgt := 80) hx hb dX7_isConsistent_11 (by decide) (fun c_11 => ?_) (fun c_11 => ?_)
  · have hz := hz.trans (ifB_f c_11)
    exact J80 (y8.2) _ _ ls hz  hP hD hS (lv_sub hl [] rfl)
  · have hz := hz.trans (ifB_t c_11)
    refine lv_aload_n hx hb dX7_isConsistent_14 rfl (lv_at hl 0 rfl) ?_
    refine va_get (D := D) (ci := 8) (v := .ref ((uA u) 0)) (C := RX7) (T := TX7) (N := 10) hx hb hts hinX7 hown hK hP 0 rfl rfl 0 (by decide) (hts (.fieldLink RX7 10 "BridgeAuction" "game" "LBridgeAuction$Game;") (by decide +kernel)) (fun _ h9 => h9) rfl dX7_isConsistent_15 ?_
    refine callRo (va_runS (As := [.ref ((uA u) 0)]) (rest := []) ⟨hx, hb, hml, hown, hts⟩ (c_X2_countBySearch l D C (uG u) y8.2 (uA u) G hG) (va_cwS 1 hts gX7_isConsistent_X2_countBySearch rfl rfl rfl (by decide +kernel) ⟨Nat.le_of_ble_eq_true rfl, Nat.le_of_ble_eq_true rfl⟩) (roP_s (hP.sub (ws' := (grcells C (uG u) y8.2 ++ gcells C (uA u) G)) [10, 11, 12, 13, 1, 2, 3, 4, 5, 6, 7, 8, 9] rfl) hK hE) rfl rfl hl.1 rfl (lv_room (Nat.le_of_ble_eq_true rfl)) dX7_isConsistent_18 ⟨Nat.le_refl _, Nat.le_refl _⟩) ?_
    refine lv_aload_n hx hb dX7_isConsistent_21 rfl (lv_at hl 0 rfl) ?_
    refine va_get (D := D) (ci := 8) (v := .ref ((uG u) 0)) (C := RX7) (T := TX7) (N := 10) hx hb hts hinX7 hown hK hP 0 rfl rfl 3 (by decide) (hts (.fieldLink RX7 25 "BridgeAuction" "graph" "LBridgeAuction$Graph;") (by decide +kernel)) (fun _ h9 => h9) rfl dX7_isConsistent_22 ?_
    refine lv_aload_n hx hb dX7_isConsistent_25 rfl (lv_at hl 0 rfl) ?_
    refine va_get (D := D) (ci := 8) (v := .ref ((uA u) 0)) (C := RX7) (T := TX7) (N := 10) hx hb hts hinX7 hown hK hP 0 rfl rfl 0 (by decide) (hts (.fieldLink RX7 10 "BridgeAuction" "game" "LBridgeAuction$Game;") (by decide +kernel)) (fun _ h9 => h9) rfl dX7_isConsistent_26 ?_
    have hPc := hP.sub (ws' := (grcells C (uG u) y8.2 ++ gcells C (uA u) G)) [10, 11, 12, 13, 1, 2, 3, 4, 5, 6, 7, 8, 9] rfl
    have hDc := hD.sub (ws' := (grcells C (uG u) y8.2 ++ gcells C (uA u) G)) [10, 11, 12, 13, 1, 2, 3, 4, 5, 6, 7, 8, 9] (by decide) rfl
    have hFc := va_free (wc := (grcells C (uG u) y8.2 ++ gcells C (uA u) G)) hD hS hA [10, 11, 12, 13, 1, 2, 3, 4, 5, 6, 7, 8, 9] rfl
    refine callRw (va_runV (As := [.ref ((uA u) 0)]) (rest := [.int (f_X2_countBySearch y8.2 G)]) ⟨hx, hb, hml, hown, hts⟩ (c_X2_countByJoining l D C (uG u) y8.2 (uA u) G _ r8 hG) (cwV 1 hts gX7_isConsistent_X2_countByJoining rfl rfl rfl (by decide +kernel) ⟨Nat.le_of_ble_eq_true rfl, Nat.le_of_ble_eq_true rfl⟩) (rwP_v hPc hK hE hDc (va_recv hK hPc (ci := 5) (q0 := 0) rfl rfl)) rfl rfl hl.1 rfl (lv_room (Nat.le_of_ble_eq_true rfl)) dX7_isConsistent_29 ⟨Nat.le_refl _, Nat.le_refl _⟩) hS hFc (fun H1 locs hPn hk hS => ?_)
    generalize hy29 : (f_X2_countByJoining y8.2 G) = y29 at hPn ⊢
    have hz := lt_eq hz hy29.symm
    have hP : va_P D vwCl (acells C u Q ++ gcells C (uA u) G ++ grcells C (uG u) y29.2) H1 := rwJoin (wr := (acells C u Q)) (ws' := (acells C u Q ++ gcells C (uA u) G ++ grcells C (uG u) y29.2)) hP hD [10, 11, 12, 13, 1, 2, 3, 4, 5, 6, 7, 8, 9] [0] rfl rfl (by decide) (by decide) (by decide) hk hFc hPn rfl [0, 5, 6, 7, 8, 9, 10, 11, 12, 13, 1, 2, 3, 4] rfl
    have hD : va_D A (acells C u Q ++ gcells C (uA u) G ++ grcells C (uG u) y29.2) := adr_D hD rfl
    generalize H1 = H at hP hS ⊢
    have r29 : RSafe y29.2 := by rw [← hy29]; exact joining_safe r8 hG
    refine lv_icmp_ne (tgt := 80) hx hb dX7_isConsistent_32 (by decide) (fun c_32 => ?_) (fun c_32 => ?_)
    · have hz := hz.trans (if_neg c_32)
      exact J80 (y29.2) _ _ ls hz  hP hD hS (lv_sub hl [] rfl)
    · have hz := hz.trans (if_pos c_32)
      refine lv_aload_n hx hb dX7_isConsistent_35 rfl (lv_at hl 0 rfl) ?_
      refine va_get (D := D) (ci := 8) (v := .ref ((uG u) 0)) (C := RX7) (T := TX7) (N := 10) hx hb hts hinX7 hown hK hP 0 rfl rfl 3 (by decide) (hts (.fieldLink RX7 25 "BridgeAuction" "graph" "LBridgeAuction$Graph;") (by decide +kernel)) (fun _ h9 => h9) rfl dX7_isConsistent_36 ?_
      refine lv_aload_n hx hb dX7_isConsistent_39 rfl (lv_at hl 0 rfl) ?_
      refine va_get (D := D) (ci := 8) (v := .ref ((uA u) 0)) (C := RX7) (T := TX7) (N := 10) hx hb hts hinX7 hown hK hP 0 rfl rfl 0 (by decide) (hts (.fieldLink RX7 10 "BridgeAuction" "game" "LBridgeAuction$Game;") (by decide +kernel)) (fun _ h9 => h9) rfl dX7_isConsistent_40 ?_
      have hPc := hP.sub (ws' := (grcells C (uG u) y29.2 ++ gcells C (uA u) G)) [10, 11, 12, 13, 1, 2, 3, 4, 5, 6, 7, 8, 9] rfl
      have hDc := hD.sub (ws' := (grcells C (uG u) y29.2 ++ gcells C (uA u) G)) [10, 11, 12, 13, 1, 2, 3, 4, 5, 6, 7, 8, 9] (by decide) rfl
      have hFc := va_free (wc := (grcells C (uG u) y29.2 ++ gcells C (uA u) G)) hD hS hA [10, 11, 12, 13, 1, 2, 3, 4, 5, 6, 7, 8, 9] rfl
      refine callRw (va_runV (As := [.ref ((uA u) 0)]) (rest := []) ⟨hx, hb, hml, hown, hts⟩ (c_X2_kruskalLength l D C (uG u) y29.2 (uA u) G _ r29 hG) (cwV 1 hts gX7_isConsistent_X2_kruskalLength rfl rfl rfl (by decide +kernel) ⟨Nat.le_of_ble_eq_true rfl, Nat.le_of_ble_eq_true rfl⟩) (rwP_v hPc hK hE hDc (va_recv hK hPc (ci := 5) (q0 := 0) rfl rfl)) rfl rfl hl.1 rfl (lv_room (Nat.le_of_ble_eq_true rfl)) dX7_isConsistent_43 ⟨Nat.le_refl _, Nat.le_refl _⟩) hS hFc (fun H1 locs hPn hk hS => ?_)
      generalize hy43 : (f_X2_kruskalLength y29.2 G) = y43 at hPn ⊢
      have hz := lt_eq hz hy43.symm
      have hP : va_P D vwCl (acells C u Q ++ gcells C (uA u) G ++ grcells C (uG u) y43.2) H1 := rwJoin (wr := (acells C u Q)) (ws' := (acells C u Q ++ gcells C (uA u) G ++ grcells C (uG u) y43.2)) hP hD [10, 11, 12, 13, 1, 2, 3, 4, 5, 6, 7, 8, 9] [0] rfl rfl (by decide) (by decide) (by decide) hk hFc hPn rfl [0, 5, 6, 7, 8, 9, 10, 11, 12, 13, 1, 2, 3, 4] rfl
      have hD : va_D A (acells C u Q ++ gcells C (uA u) G ++ grcells C (uG u) y43.2) := adr_D hD rfl
      generalize H1 = H at hP hS ⊢
      refine lv_aload_n hx hb dX7_isConsistent_46 rfl (lv_at hl 0 rfl) ?_
      refine va_get (D := D) (ci := 8) (v := .ref ((uA u) 0)) (C := RX7) (T := TX7) (N := 10) hx hb hts hinX7 hown hK hP 0 rfl rfl 0 (by decide) (hts (.fieldLink RX7 10 "BridgeAuction" "game" "LBridgeAuction$Game;") (by decide +kernel)) (fun _ h9 => h9) rfl dX7_isConsistent_47 ?_
      refine callRo (va_runS (As := [.ref ((uA u) 0)]) (rest := [.int y43.1]) ⟨hx, hb, hml, hown, hts⟩ (c_X2_primLength l D C (uG u) y43.2 (uA u) G hG) (va_cwS 1 hts gX7_isConsistent_X2_primLength rfl rfl rfl (by decide +kernel) ⟨Nat.le_of_ble_eq_true rfl, Nat.le_of_ble_eq_true rfl⟩) (roP_s (hP.sub (ws' := (grcells C (uG u) y43.2 ++ gcells C (uA u) G)) [10, 11, 12, 13, 1, 2, 3, 4, 5, 6, 7, 8, 9] rfl) hK hE) rfl rfl hl.1 rfl (lv_room (Nat.le_of_ble_eq_true rfl)) dX7_isConsistent_50 ⟨Nat.le_refl _, Nat.le_refl _⟩) ?_
      refine lv_icmp_ne (tgt := 80) hx hb dX7_isConsistent_53 (by decide) (fun c_53 => ?_) (fun c_53 => ?_)
      · have hz := hz.trans (if_neg c_53)
        exact J80 (y43.2) _ _ ls hz  hP hD hS (lv_sub hl [] rfl)
      · have hz := hz.trans (if_pos c_53)
        refine lv_aload_n hx hb dX7_isConsistent_56 rfl (lv_at hl 0 rfl) ?_
        refine va_get (D := D) (ci := 8) (v := .ref ((uA u) 0)) (C := RX7) (T := TX7) (N := 10) hx hb hts hinX7 hown hK hP 0 rfl rfl 0 (by decide) (hts (.fieldLink RX7 10 "BridgeAuction" "game" "LBridgeAuction$Game;") (by decide +kernel)) (fun _ h9 => h9) rfl dX7_isConsistent_57 ?_
        refine callRo (va_runV (As := []) (rest := []) ⟨hx, hb, hml, hown, hts⟩ (c_X1_isEveryPlayerSolvent l D C (uA u) G hG) (cwV 0 hts gX7_isConsistent_X1_isEveryPlayerSolvent rfl rfl rfl (by decide +kernel) ⟨Nat.le_of_ble_eq_true rfl, Nat.le_of_ble_eq_true rfl⟩) (roP_v (hP.sub (ws' := (gcells C (uA u) G)) [1, 2, 3, 4, 5, 6, 7, 8, 9] rfl) hK hE (va_recv hK (hP.sub (ws' := (gcells C (uA u) G)) [1, 2, 3, 4, 5, 6, 7, 8, 9] rfl) (ci := 4) (q0 := 0) rfl rfl)) rfl rfl hl.1 rfl (lv_room (Nat.le_of_ble_eq_true rfl)) dX7_isConsistent_60 ⟨Nat.le_refl _, Nat.le_refl _⟩) ?_
        refine bif_eq (tgt := 80) hx hb dX7_isConsistent_63 (by decide) (fun c_63 => ?_) (fun c_63 => ?_)
        · have hz := hz.trans (ifB_f c_63)
          exact J80 (y43.2) _ _ ls hz  hP hD hS (lv_sub hl [] rfl)
        · have hz := hz.trans (ifB_t c_63)
          refine lv_aload_n hx hb dX7_isConsistent_66 rfl (lv_at hl 0 rfl) ?_
          refine va_get (D := D) (ci := 8) (v := .ref ((uA u) 0)) (C := RX7) (T := TX7) (N := 10) hx hb hts hinX7 hown hK hP 0 rfl rfl 0 (by decide) (hts (.fieldLink RX7 10 "BridgeAuction" "game" "LBridgeAuction$Game;") (by decide +kernel)) (fun _ h9 => h9) rfl dX7_isConsistent_67 ?_
          refine callRo (va_runV (As := []) (rest := []) ⟨hx, hb, hml, hown, hts⟩ (c_X1_isMoneyKept l D C (uA u) G hG) (cwV 0 hts gX7_isConsistent_X1_isMoneyKept rfl rfl rfl (by decide +kernel) ⟨Nat.le_of_ble_eq_true rfl, Nat.le_of_ble_eq_true rfl⟩) (roP_v (hP.sub (ws' := (gcells C (uA u) G)) [1, 2, 3, 4, 5, 6, 7, 8, 9] rfl) hK hE (va_recv hK (hP.sub (ws' := (gcells C (uA u) G)) [1, 2, 3, 4, 5, 6, 7, 8, 9] rfl) (ci := 4) (q0 := 0) rfl rfl)) rfl rfl hl.1 rfl (lv_room (Nat.le_of_ble_eq_true rfl)) dX7_isConsistent_70 ⟨Nat.le_refl _, Nat.le_refl _⟩) ?_
          refine bif_eq (tgt := 80) hx hb dX7_isConsistent_73 (by decide) (fun c_73 => ?_) (fun c_73 => ?_)
          · have hz := hz.trans (ifB_f c_73)
            exact J80 (y43.2) _ _ ls hz  hP hD hS (lv_sub hl [] rfl)
          · have hz := hz.trans (ifB_t c_73)
            refine lv_iconst (v := 1) hx hb dX7_isConsistent_76 (by decide) ?_
            refine lv_goto (tgt := 81) hx hb dX7_isConsistent_77 (by decide) ?_
            exact J81 (true) (y43.2) _ _ ls hz  hP hD hS (lv_sub hl [] rfl)

