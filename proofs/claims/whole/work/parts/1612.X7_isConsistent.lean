def f_X7_isConsistent_j69  (s0_69 : Bool) (Rr_69 : GR) : Bool × GR := (s0_69, Rr_69)
def f_X7_isConsistent_j68  (Rr_68 : GR) : Bool × GR := (f_X7_isConsistent_j69 (false) (Rr_68))
def f_X7_isConsistent (Q : QS) (G : GS) (Rr : GR) : Bool × GR := (lt_ (f_X2_distancesAgree Rr G) (fun y4 => (if y4.1 = true then (lt_ (f_X2_countByJoining y4.2 G) (fun y21 => (if (f_X2_countBySearch y4.2 G) = y21.1 then (lt_ (f_X2_kruskalLength y21.2 G) (fun y31 => (if y31.1 = (f_X2_primLength y31.2 G) then (if (f_X1_isEveryPlayerSolvent G) = true then (if (f_X1_isMoneyKept G) = true then (f_X7_isConsistent_j69 (true) (y31.2)) else (f_X7_isConsistent_j68 (y31.2))) else (f_X7_isConsistent_j68 (y31.2))) else (f_X7_isConsistent_j68 (y31.2))))) else (f_X7_isConsistent_j68 (y21.2))))) else (f_X7_isConsistent_j68 (y4.2)))))
set_option maxHeartbeats 4000000 in
set_option maxRecDepth 100000 in
theorem c_X7_isConsistent (l : Launch) (D : va_G) (C : Nat → ClassId) (u : Nat → Nat) (Q : QS) (G : GS) (Rr : GR) (sz : Nat) (hG : GSafe G) (hRr : RSafe Rr) : Met l yX7_isConsistent wsX7_isConsistent ({ frames := 11, cells := 0, slots := 0, locals := 266 } : Room) (rwP [.ref (u 0)] D C (acells C u Q ++ gcells C (uA u) G ++ grcells C (uG u) ((uA u) 0) Rr) sz) (rwO (some (.int (bI ((f_X7_isConsistent Q G Rr).1)))) D (acells C u Q ++ gcells C (uA u) G ++ grcells C (uG u) ((uA u) 0) ((f_X7_isConsistent Q G Rr).2)) (va_A (acells C u Q ++ gcells C (uA u) G ++ grcells C (uG u) ((uA u) 0) Rr) sz)) 0 0 (va_A (acells C u Q ++ gcells C (uA u) G ++ grcells C (uG u) ((uA u) 0) Rr) sz) := by
  refine Met.ofW (cc := cX7_isConsistent) (maxL := 1) (ret := (some .boolean)) (by decide) rfl ?_
  intro p e s m args below meth c s₁ B hml hv
  obtain ⟨rfl, hsz, hP, hK, hD0, hE⟩ := hv
  have hx := B.exec
  have hb := B.bytes
  have hr := B.returns
  have hts := atoms_spec (ws := wsX7_isConsistent) B.pre
  have hown : s.vm.findClass RX7 = some m.cls := findClass_of_methodNamed B.named
  have hlocks := B.notSynchronized
  subst hsz
  have hD := hD0.self (sz := s.heap.size)
  generalize hAe : va_A (acells C u Q ++ gcells C (uA u) G ++ grcells C (uG u) ((uA u) 0) Rr) s.heap.size = A at hD ⊢
  have hA : ∀ q : Nat, s.heap.size ≤ q → A q := fun q h => by rw [← hAe]; exact Or.inr h
  have hS0 : va_S A s.heap s.heap [] := va_S.rf
  have hP : va_P D vwCl (acells C u Q ++ gcells C (uA u) G ++ grcells C (uG u) ((uA u) 0) Rr) s.heap := hP
  have hS := hS0
  obtain ⟨hS12, hP4, hlo, hhi⟩ := id hG
  obtain hpar := id hRr
  have hinX7 : ∀ w ∈ u_ws RX7 TX7 10, w ∈ wsX7_isConsistent := by decide +kernel
  have hl := lv_entry ([.ref (u 0)]) (n := 1) (Nat.le_of_ble_eq_true rfl)
  rw [lg_entry_eq]
  generalize (lg_sl ([.ref (u 0)]) ++ List.replicate (1 - (lg_sl ([.ref (u 0)])).length) Slot.unset).toArray = ls at hl ⊢
  have hl : lv_has ls 1 [(0, .ref (u 0))] := hl
  obtain ⟨z, hz⟩ : ∃ z, z = f_X7_isConsistent Q G Rr := ⟨_, rfl⟩
  rw [← hz]
  have J69 : ∀ (s0_69 : Bool) (Rr_69 : GR)  (H : Heap) (locs : List Loc) (ls : Array Slot), z = f_X7_isConsistent_j69 s0_69 Rr_69 → va_P D vwCl (acells C u Q ++ gcells C (uA u) G ++ grcells C (uG u) ((uA u) 0) Rr_69) H → va_D A (acells C u Q ++ gcells C (uA u) G ++ grcells C (uG u) ((uA u) 0) Rr_69) → va_S A s.heap H locs → lv_has ls 1 [] → W p l e ({ frames := 11, cells := 0, slots := 0, locals := 266 } : Room) s m ([.ref (u 0)] : List Value).toArray below meth c H locs 0 0 (MQ below (rwO (some (.int (bI z.1))) D (acells C u Q ++ gcells C (uA u) G ++ grcells C (uG u) ((uA u) 0) z.2) A) ([.ref (u 0)] : List Value).toArray s 0 0 A) (F0 m 69 ls [.int (bI s0_69)]) := by
    intro s0_69 Rr_69 H locs ls hz  hP hD hS hl
    have hz : z = (s0_69, Rr_69) := hz
    rw [hz]
    exact rw_retB hx hb hr hP hS rfl dX7_isConsistent_69 hlocks
  have J68 : ∀ (Rr_68 : GR)  (H : Heap) (locs : List Loc) (ls : Array Slot), z = f_X7_isConsistent_j68 Rr_68 → va_P D vwCl (acells C u Q ++ gcells C (uA u) G ++ grcells C (uG u) ((uA u) 0) Rr_68) H → va_D A (acells C u Q ++ gcells C (uA u) G ++ grcells C (uG u) ((uA u) 0) Rr_68) → va_S A s.heap H locs → lv_has ls 1 [] → W p l e ({ frames := 11, cells := 0, slots := 0, locals := 266 } : Room) s m ([.ref (u 0)] : List Value).toArray below meth c H locs 0 0 (MQ below (rwO (some (.int (bI z.1))) D (acells C u Q ++ gcells C (uA u) G ++ grcells C (uG u) ((uA u) 0) z.2) A) ([.ref (u 0)] : List Value).toArray s 0 0 A) (F0 m 68 ls []) := by
    intro Rr_68 H locs ls hz  hP hD hS hl
    refine lv_iconst (v := 0) hx hb dX7_isConsistent_68 (by decide) ?_
    exact J69 (false) (Rr_68) _ _ ls hz  hP hD hS (lv_sub hl [] rfl)
  refine lv_aload_n hx hb dX7_isConsistent_0 rfl (lv_at hl 0 rfl) ?_
  refine va_get (D := D) (ci := 8) (v := .ref ((uG u) 0)) (C := RX7) (T := TX7) (N := 10) hx hb hts hinX7 hown hK hP 0 rfl rfl 3 (by decide) (hts (.fieldLink RX7 27 "BridgeAuction" "graph" "LBridgeAuction$Graph;") (by decide +kernel)) (fun _ h9 => h9) rfl dX7_isConsistent_1 ?_
  have hPc := hP.sub (ws' := (grcells C (uG u) ((uA u) 0) Rr ++ gcells C (uA u) G)) [10, 11, 12, 13, 1, 2, 3, 4, 5, 6, 7, 8, 9] rfl
  have hDc := hD.sub (ws' := (grcells C (uG u) ((uA u) 0) Rr ++ gcells C (uA u) G)) [10, 11, 12, 13, 1, 2, 3, 4, 5, 6, 7, 8, 9] (by decide) rfl
  have hFc := va_free (wc := (grcells C (uG u) ((uA u) 0) Rr ++ gcells C (uA u) G)) hD hS hA [10, 11, 12, 13, 1, 2, 3, 4, 5, 6, 7, 8, 9] rfl
  refine callRw (va_runV (As := []) (rest := []) ⟨hx, hb, hml, hown, hts⟩ (c_X2_distancesAgree l D C (uG u) Rr (uA u) G _ hG) (cwV 0 hts gX7_isConsistent_X2_distancesAgree rfl rfl rfl (by decide +kernel) ⟨Nat.le_of_ble_eq_true rfl, Nat.le_of_ble_eq_true rfl⟩) (rwP_v hPc hK hE hDc (va_recv hK hPc (ci := 5) (q0 := 0) rfl rfl)) rfl rfl hl.1 rfl (lv_room (Nat.le_of_ble_eq_true rfl)) dX7_isConsistent_4 ⟨Nat.le_refl _, Nat.le_refl _⟩) hS hFc (fun H1 locs hPn hk hS => ?_)
  generalize hy4 : (f_X2_distancesAgree Rr G) = y4 at hPn ⊢
  have hz := lt_eq hz hy4.symm
  have hP : va_P D vwCl (acells C u Q ++ gcells C (uA u) G ++ grcells C (uG u) ((uA u) 0) y4.2) H1 := rwJoin (wr := (acells C u Q)) (ws' := (acells C u Q ++ gcells C (uA u) G ++ grcells C (uG u) ((uA u) 0) y4.2)) hP hD [10, 11, 12, 13, 1, 2, 3, 4, 5, 6, 7, 8, 9] [0] rfl rfl (by decide) (by decide) (by decide) hk hFc hPn rfl [0, 5, 6, 7, 8, 9, 10, 11, 12, 13, 1, 2, 3, 4] rfl
  have hD : va_D A (acells C u Q ++ gcells C (uA u) G ++ grcells C (uG u) ((uA u) 0) y4.2) := adr_D hD rfl
  generalize H1 = H at hP hS ⊢
  have r4 : RSafe y4.2 := by rw [← hy4]; intro k; rw [rPar_agree]; exact hRr k
  refine bif_eq (tgt := 68) hx hb dX7_isConsistent_7 (by decide) (fun c_7 => ?_) (fun c_7 => ?_)
  · have hz := hz.trans (ifB_f c_7)
    exact J68 (y4.2) _ _ ls hz  hP hD hS (lv_sub hl [] rfl)
  · have hz := hz.trans (ifB_t c_7)
    refine lv_aload_n hx hb dX7_isConsistent_10 rfl (lv_at hl 0 rfl) ?_
    refine va_get (D := D) (ci := 8) (v := .ref ((uG u) 0)) (C := RX7) (T := TX7) (N := 10) hx hb hts hinX7 hown hK hP 0 rfl rfl 3 (by decide) (hts (.fieldLink RX7 27 "BridgeAuction" "graph" "LBridgeAuction$Graph;") (by decide +kernel)) (fun _ h9 => h9) rfl dX7_isConsistent_11 ?_
    refine callRo (va_runV (As := []) (rest := []) ⟨hx, hb, hml, hown, hts⟩ (c_X2_countBySearch l D C (uG u) y4.2 (uA u) G hG) (cwV 0 hts gX7_isConsistent_X2_countBySearch rfl rfl rfl (by decide +kernel) ⟨Nat.le_of_ble_eq_true rfl, Nat.le_of_ble_eq_true rfl⟩) (roP_v (hP.sub (ws' := (grcells C (uG u) ((uA u) 0) y4.2 ++ gcells C (uA u) G)) [10, 11, 12, 13, 1, 2, 3, 4, 5, 6, 7, 8, 9] rfl) hK hE (va_recv hK (hP.sub (ws' := (grcells C (uG u) ((uA u) 0) y4.2 ++ gcells C (uA u) G)) [10, 11, 12, 13, 1, 2, 3, 4, 5, 6, 7, 8, 9] rfl) (ci := 5) (q0 := 0) rfl rfl)) rfl rfl hl.1 rfl (lv_room (Nat.le_of_ble_eq_true rfl)) dX7_isConsistent_14 ⟨Nat.le_refl _, Nat.le_refl _⟩) ?_
    refine lv_aload_n hx hb dX7_isConsistent_17 rfl (lv_at hl 0 rfl) ?_
    refine va_get (D := D) (ci := 8) (v := .ref ((uG u) 0)) (C := RX7) (T := TX7) (N := 10) hx hb hts hinX7 hown hK hP 0 rfl rfl 3 (by decide) (hts (.fieldLink RX7 27 "BridgeAuction" "graph" "LBridgeAuction$Graph;") (by decide +kernel)) (fun _ h9 => h9) rfl dX7_isConsistent_18 ?_
    have hPc := hP.sub (ws' := (grcells C (uG u) ((uA u) 0) y4.2 ++ gcells C (uA u) G)) [10, 11, 12, 13, 1, 2, 3, 4, 5, 6, 7, 8, 9] rfl
    have hDc := hD.sub (ws' := (grcells C (uG u) ((uA u) 0) y4.2 ++ gcells C (uA u) G)) [10, 11, 12, 13, 1, 2, 3, 4, 5, 6, 7, 8, 9] (by decide) rfl
    have hFc := va_free (wc := (grcells C (uG u) ((uA u) 0) y4.2 ++ gcells C (uA u) G)) hD hS hA [10, 11, 12, 13, 1, 2, 3, 4, 5, 6, 7, 8, 9] rfl
    refine callRw (va_runV (As := []) (rest := [.int (f_X2_countBySearch y4.2 G)]) ⟨hx, hb, hml, hown, hts⟩ (c_X2_countByJoining l D C (uG u) y4.2 (uA u) G _ r4 hG) (cwV 0 hts gX7_isConsistent_X2_countByJoining rfl rfl rfl (by decide +kernel) ⟨Nat.le_of_ble_eq_true rfl, Nat.le_of_ble_eq_true rfl⟩) (rwP_v hPc hK hE hDc (va_recv hK hPc (ci := 5) (q0 := 0) rfl rfl)) rfl rfl hl.1 rfl (lv_room (Nat.le_of_ble_eq_true rfl)) dX7_isConsistent_21 ⟨Nat.le_refl _, Nat.le_refl _⟩) hS hFc (fun H1 locs hPn hk hS => ?_)
    generalize hy21 : (f_X2_countByJoining y4.2 G) = y21 at hPn ⊢
    have hz := lt_eq hz hy21.symm
    have hP : va_P D vwCl (acells C u Q ++ gcells C (uA u) G ++ grcells C (uG u) ((uA u) 0) y21.2) H1 := rwJoin (wr := (acells C u Q)) (ws' := (acells C u Q ++ gcells C (uA u) G ++ grcells C (uG u) ((uA u) 0) y21.2)) hP hD [10, 11, 12, 13, 1, 2, 3, 4, 5, 6, 7, 8, 9] [0] rfl rfl (by decide) (by decide) (by decide) hk hFc hPn rfl [0, 5, 6, 7, 8, 9, 10, 11, 12, 13, 1, 2, 3, 4] rfl
    have hD : va_D A (acells C u Q ++ gcells C (uA u) G ++ grcells C (uG u) ((uA u) 0) y21.2) := adr_D hD rfl
    generalize H1 = H at hP hS ⊢
    have r21 : RSafe y21.2 := by rw [← hy21]; exact joining_safe r4 hG
    refine lv_icmp_ne (tgt := 68) hx hb dX7_isConsistent_24 (by decide) (fun c_24 => ?_) (fun c_24 => ?_)
    · have hz := hz.trans (if_neg c_24)
      exact J68 (y21.2) _ _ ls hz  hP hD hS (lv_sub hl [] rfl)
    · have hz := hz.trans (if_pos c_24)
      refine lv_aload_n hx hb dX7_isConsistent_27 rfl (lv_at hl 0 rfl) ?_
      refine va_get (D := D) (ci := 8) (v := .ref ((uG u) 0)) (C := RX7) (T := TX7) (N := 10) hx hb hts hinX7 hown hK hP 0 rfl rfl 3 (by decide) (hts (.fieldLink RX7 27 "BridgeAuction" "graph" "LBridgeAuction$Graph;") (by decide +kernel)) (fun _ h9 => h9) rfl dX7_isConsistent_28 ?_
      have hPc := hP.sub (ws' := (grcells C (uG u) ((uA u) 0) y21.2 ++ gcells C (uA u) G)) [10, 11, 12, 13, 1, 2, 3, 4, 5, 6, 7, 8, 9] rfl
      have hDc := hD.sub (ws' := (grcells C (uG u) ((uA u) 0) y21.2 ++ gcells C (uA u) G)) [10, 11, 12, 13, 1, 2, 3, 4, 5, 6, 7, 8, 9] (by decide) rfl
      have hFc := va_free (wc := (grcells C (uG u) ((uA u) 0) y21.2 ++ gcells C (uA u) G)) hD hS hA [10, 11, 12, 13, 1, 2, 3, 4, 5, 6, 7, 8, 9] rfl
      refine callRw (va_runV (As := []) (rest := []) ⟨hx, hb, hml, hown, hts⟩ (c_X2_kruskalLength l D C (uG u) y21.2 (uA u) G _ r21 hG) (cwV 0 hts gX7_isConsistent_X2_kruskalLength rfl rfl rfl (by decide +kernel) ⟨Nat.le_of_ble_eq_true rfl, Nat.le_of_ble_eq_true rfl⟩) (rwP_v hPc hK hE hDc (va_recv hK hPc (ci := 5) (q0 := 0) rfl rfl)) rfl rfl hl.1 rfl (lv_room (Nat.le_of_ble_eq_true rfl)) dX7_isConsistent_31 ⟨Nat.le_refl _, Nat.le_refl _⟩) hS hFc (fun H1 locs hPn hk hS => ?_)
      generalize hy31 : (f_X2_kruskalLength y21.2 G) = y31 at hPn ⊢
      have hz := lt_eq hz hy31.symm
      have hP : va_P D vwCl (acells C u Q ++ gcells C (uA u) G ++ grcells C (uG u) ((uA u) 0) y31.2) H1 := rwJoin (wr := (acells C u Q)) (ws' := (acells C u Q ++ gcells C (uA u) G ++ grcells C (uG u) ((uA u) 0) y31.2)) hP hD [10, 11, 12, 13, 1, 2, 3, 4, 5, 6, 7, 8, 9] [0] rfl rfl (by decide) (by decide) (by decide) hk hFc hPn rfl [0, 5, 6, 7, 8, 9, 10, 11, 12, 13, 1, 2, 3, 4] rfl
      have hD : va_D A (acells C u Q ++ gcells C (uA u) G ++ grcells C (uG u) ((uA u) 0) y31.2) := adr_D hD rfl
      generalize H1 = H at hP hS ⊢
      refine lv_aload_n hx hb dX7_isConsistent_34 rfl (lv_at hl 0 rfl) ?_
      refine va_get (D := D) (ci := 8) (v := .ref ((uG u) 0)) (C := RX7) (T := TX7) (N := 10) hx hb hts hinX7 hown hK hP 0 rfl rfl 3 (by decide) (hts (.fieldLink RX7 27 "BridgeAuction" "graph" "LBridgeAuction$Graph;") (by decide +kernel)) (fun _ h9 => h9) rfl dX7_isConsistent_35 ?_
      refine callRo (va_runV (As := []) (rest := [.int y31.1]) ⟨hx, hb, hml, hown, hts⟩ (c_X2_primLength l D C (uG u) y31.2 (uA u) G hG) (cwV 0 hts gX7_isConsistent_X2_primLength rfl rfl rfl (by decide +kernel) ⟨Nat.le_of_ble_eq_true rfl, Nat.le_of_ble_eq_true rfl⟩) (roP_v (hP.sub (ws' := (grcells C (uG u) ((uA u) 0) y31.2 ++ gcells C (uA u) G)) [10, 11, 12, 13, 1, 2, 3, 4, 5, 6, 7, 8, 9] rfl) hK hE (va_recv hK (hP.sub (ws' := (grcells C (uG u) ((uA u) 0) y31.2 ++ gcells C (uA u) G)) [10, 11, 12, 13, 1, 2, 3, 4, 5, 6, 7, 8, 9] rfl) (ci := 5) (q0 := 0) rfl rfl)) rfl rfl hl.1 rfl (lv_room (Nat.le_of_ble_eq_true rfl)) dX7_isConsistent_38 ⟨Nat.le_refl _, Nat.le_refl _⟩) ?_
      refine lv_icmp_ne (tgt := 68) hx hb dX7_isConsistent_41 (by decide) (fun c_41 => ?_) (fun c_41 => ?_)
      · have hz := hz.trans (if_neg c_41)
        exact J68 (y31.2) _ _ ls hz  hP hD hS (lv_sub hl [] rfl)
      · have hz := hz.trans (if_pos c_41)
        refine lv_aload_n hx hb dX7_isConsistent_44 rfl (lv_at hl 0 rfl) ?_
        refine va_get (D := D) (ci := 8) (v := .ref ((uA u) 0)) (C := RX7) (T := TX7) (N := 10) hx hb hts hinX7 hown hK hP 0 rfl rfl 0 (by decide) (hts (.fieldLink RX7 10 "BridgeAuction" "game" "LBridgeAuction$Game;") (by decide +kernel)) (fun _ h9 => h9) rfl dX7_isConsistent_45 ?_
        refine callRo (va_runV (As := []) (rest := []) ⟨hx, hb, hml, hown, hts⟩ (c_X1_isEveryPlayerSolvent l D C (uA u) G hG) (cwV 0 hts gX7_isConsistent_X1_isEveryPlayerSolvent rfl rfl rfl (by decide +kernel) ⟨Nat.le_of_ble_eq_true rfl, Nat.le_of_ble_eq_true rfl⟩) (roP_v (hP.sub (ws' := (gcells C (uA u) G)) [1, 2, 3, 4, 5, 6, 7, 8, 9] rfl) hK hE (va_recv hK (hP.sub (ws' := (gcells C (uA u) G)) [1, 2, 3, 4, 5, 6, 7, 8, 9] rfl) (ci := 4) (q0 := 0) rfl rfl)) rfl rfl hl.1 rfl (lv_room (Nat.le_of_ble_eq_true rfl)) dX7_isConsistent_48 ⟨Nat.le_refl _, Nat.le_refl _⟩) ?_
        refine bif_eq (tgt := 68) hx hb dX7_isConsistent_51 (by decide) (fun c_51 => ?_) (fun c_51 => ?_)
        · have hz := hz.trans (ifB_f c_51)
          exact J68 (y31.2) _ _ ls hz  hP hD hS (lv_sub hl [] rfl)
        · have hz := hz.trans (ifB_t c_51)
          refine lv_aload_n hx hb dX7_isConsistent_54 rfl (lv_at hl 0 rfl) ?_
          refine va_get (D := D) (ci := 8) (v := .ref ((uA u) 0)) (C := RX7) (T := TX7) (N := 10) hx hb hts hinX7 hown hK hP 0 rfl rfl 0 (by decide) (hts (.fieldLink RX7 10 "BridgeAuction" "game" "LBridgeAuction$Game;") (by decide +kernel)) (fun _ h9 => h9) rfl dX7_isConsistent_55 ?_
          refine callRo (va_runV (As := []) (rest := []) ⟨hx, hb, hml, hown, hts⟩ (c_X1_isMoneyKept l D C (uA u) G hG) (cwV 0 hts gX7_isConsistent_X1_isMoneyKept rfl rfl rfl (by decide +kernel) ⟨Nat.le_of_ble_eq_true rfl, Nat.le_of_ble_eq_true rfl⟩) (roP_v (hP.sub (ws' := (gcells C (uA u) G)) [1, 2, 3, 4, 5, 6, 7, 8, 9] rfl) hK hE (va_recv hK (hP.sub (ws' := (gcells C (uA u) G)) [1, 2, 3, 4, 5, 6, 7, 8, 9] rfl) (ci := 4) (q0 := 0) rfl rfl)) rfl rfl hl.1 rfl (lv_room (Nat.le_of_ble_eq_true rfl)) dX7_isConsistent_58 ⟨Nat.le_refl _, Nat.le_refl _⟩) ?_
          refine bif_eq (tgt := 68) hx hb dX7_isConsistent_61 (by decide) (fun c_61 => ?_) (fun c_61 => ?_)
          · have hz := hz.trans (ifB_f c_61)
            exact J68 (y31.2) _ _ ls hz  hP hD hS (lv_sub hl [] rfl)
          · have hz := hz.trans (ifB_t c_61)
            refine lv_iconst (v := 1) hx hb dX7_isConsistent_64 (by decide) ?_
            refine lv_goto (tgt := 69) hx hb dX7_isConsistent_65 (by decide) ?_
            exact J69 (true) (y31.2) _ _ ls hz  hP hD hS (lv_sub hl [] rfl)

