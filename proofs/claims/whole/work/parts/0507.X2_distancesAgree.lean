def f_X2_distancesAgree_l20b  (k20 : Nat) (Rr_20 : GR) : Sum (Sum (Bool × GR) (GR)) (GR) := (if ((rNear Rr_20) k20) = ((rRlx Rr_20) k20) then (Sum.inr Rr_20) else (Sum.inl (Sum.inl (false, Rr_20))))
def f_X2_distancesAgree_l20x  (Rr_20 : GR) : Sum (Bool × GR) (GR) := (Sum.inr Rr_20)
def f_X2_distancesAgree_l20s  (k20 : Nat) (q_ : GR) : Sum (Sum (Bool × GR) (GR)) (GR) := f_X2_distancesAgree_l20b  k20 (q_)
def f_X2_distancesAgree_l20e  (q_ : GR) : Sum (Bool × GR) (GR) := f_X2_distancesAgree_l20x  (q_)
def f_X2_distancesAgree_l20  (n20 k20 : Nat) (Rr_20 : GR) : Sum (Bool × GR) (GR) := lpF (f_X2_distancesAgree_l20s ) (f_X2_distancesAgree_l20e ) n20 k20 Rr_20
def f_X2_distancesAgree_l2b (G : GS) (k2 : Nat) (Rr_2 : GR) : Sum (Bool × GR) (GR) := (lt_ (f_X2_searchNearest Rr_2 G (k2)) (fun y10 => (lt_ (f_X2_relaxFrom y10 G (k2)) (fun y15 => (f_X2_distancesAgree_l20 (8) 0 (y15))))))
def f_X2_distancesAgree_l2x (G : GS) (Rr_2 : GR) : Bool × GR := (true, Rr_2)
def f_X2_distancesAgree_l2s (G : GS) (k2 : Nat) (q_ : GR) : Sum (Bool × GR) (GR) := f_X2_distancesAgree_l2b G k2 (q_)
def f_X2_distancesAgree_l2e (G : GS) (q_ : GR) : Bool × GR := f_X2_distancesAgree_l2x G (q_)
def f_X2_distancesAgree_l2 (G : GS) (n2 k2 : Nat) (Rr_2 : GR) : Bool × GR := lpF (f_X2_distancesAgree_l2s G) (f_X2_distancesAgree_l2e G) n2 k2 Rr_2
def f_X2_distancesAgree (Rr : GR) (G : GS) : Bool × GR := (f_X2_distancesAgree_l2 G (8) 0 (Rr))
set_option maxHeartbeats 4000000 in
set_option maxRecDepth 100000 in
theorem c_X2_distancesAgree (l : Launch) (D : va_G) (C : Nat → ClassId) (g : Nat → Nat) (Rr : GR) (a : Nat → Nat) (G : GS) (sz : Nat) (hG : GSafe G) : Met l yX2_distancesAgree wsX2_distancesAgree ({ frames := 4, cells := 0, slots := 0, locals := 90 } : Room) (rwP [.ref (g 0)] D C (grcells C g (a 0) Rr ++ gcells C a G) sz) (rwO (some (.int (bI ((f_X2_distancesAgree Rr G).1)))) D (grcells C g (a 0) ((f_X2_distancesAgree Rr G).2) ++ gcells C a G) (va_A (grcells C g (a 0) Rr ++ gcells C a G) sz)) 0 0 (va_A (grcells C g (a 0) Rr ++ gcells C a G) sz) := by
  refine Met.ofW (cc := cX2_distancesAgree) (maxL := 3) (ret := (some .boolean)) (by decide) rfl ?_
  intro p e s m args below meth c s₁ B hml hv
  obtain ⟨rfl, hsz, hP, hK, hD0, hE⟩ := hv
  have hx := B.exec
  have hb := B.bytes
  have hr := B.returns
  have hts := atoms_spec (ws := wsX2_distancesAgree) B.pre
  have hown : s.vm.findClass RX2 = some m.cls := findClass_of_methodNamed B.named
  have hlocks := B.notSynchronized
  subst hsz
  have hD := hD0.self (sz := s.heap.size)
  generalize hAe : va_A (grcells C g (a 0) Rr ++ gcells C a G) s.heap.size = A at hD ⊢
  have hA : ∀ q : Nat, s.heap.size ≤ q → A q := fun q h => by rw [← hAe]; exact Or.inr h
  have hS0 : va_S A s.heap s.heap [] := va_S.rf
  have hP : va_P D vwCl (grcells C g (a 0) Rr ++ gcells C a G) s.heap := hP
  have hS := hS0
  obtain ⟨hS12, hP4, hlo, hhi⟩ := id hG
  have hinX2 : ∀ w ∈ u_ws RX2 TX2 4, w ∈ wsX2_distancesAgree := by decide +kernel
  have hl := lv_entry ([.ref (g 0)]) (n := 3) (Nat.le_of_ble_eq_true rfl)
  rw [lg_entry_eq]
  generalize (lg_sl ([.ref (g 0)]) ++ List.replicate (3 - (lg_sl ([.ref (g 0)])).length) Slot.unset).toArray = ls at hl ⊢
  have hl : lv_has ls 3 [(0, .ref (g 0))] := hl
  obtain ⟨z, hz⟩ : ∃ z, z = f_X2_distancesAgree Rr G := ⟨_, rfl⟩
  rw [← hz]
  have J2 : ∀ (n2 k2 : Nat) (Rr_2 : GR) (H : Heap) (locs : List Loc) (ls : Array Slot), k2 + n2 = 8 → z = f_X2_distancesAgree_l2 G n2 k2 Rr_2 → va_P D vwCl (grcells C g (a 0) Rr_2 ++ gcells C a G) H → va_D A (grcells C g (a 0) Rr_2 ++ gcells C a G) → va_S A s.heap H locs → lv_has ls 3 [(0, .ref (g 0)), (1, .int (nI k2))] → W p l e ({ frames := 4, cells := 0, slots := 0, locals := 90 } : Room) s m ([.ref (g 0)] : List Value).toArray below meth c H locs 0 0 (MQ below (rwO (some (.int (bI z.1))) D (grcells C g (a 0) z.2 ++ gcells C a G) A) ([.ref (g 0)] : List Value).toArray s 0 0 A) (F0 m 2 ls []) := by
    intro n2
    induction n2 with
    | zero =>
      intro k2 Rr_2 H locs ls hk2 hz  hP hD hS hl
      have hz : z = f_X2_distancesAgree_l2x G Rr_2 := hz
      refine lv_iload_n hx hb dX2_distancesAgree_2 rfl (lv_at hl 1 rfl) ?_
      refine lv_bipush (v := 8) hx hb dX2_distancesAgree_3 (by decide +kernel) ?_
      refine lv_icmp_ge (tgt := 55) hx hb dX2_distancesAgree_5 (by decide) (fun c_5 => ?_) (fun c_5 => absurd (by have e : (8 : Int32) = nI 8 := (by decide +kernel); rw [e]; exact nI_le (by omega) (by omega)) c_5)
      refine lv_iconst (v := 1) hx hb dX2_distancesAgree_55 (by decide) ?_
      have hz : z = (true, Rr_2) := hz
      rw [hz]
      exact rw_retB hx hb hr hP hS rfl dX2_distancesAgree_56 hlocks
    | succ n2 ih2 =>
      intro k2 Rr_2 H locs ls hk2 hz2  hP hD hS hl
      obtain ⟨z2, hz⟩ : ∃ zz_, zz_ = f_X2_distancesAgree_l2b G k2 Rr_2 := ⟨_, rfl⟩
      have hq2 : z = sE id (fun q_ => lpF (f_X2_distancesAgree_l2s G) (f_X2_distancesAgree_l2e G) n2 (k2 + 1) q_) z2 := by rw [hz2, hz]; rfl
      have J20 : ∀ (n20 k20 : Nat) (Rr_20 : GR) (H : Heap) (locs : List Loc) (ls : Array Slot), k20 + n20 = 8 → z2 = f_X2_distancesAgree_l20  n20 k20 Rr_20 → va_P D vwCl (grcells C g (a 0) Rr_20 ++ gcells C a G) H → va_D A (grcells C g (a 0) Rr_20 ++ gcells C a G) → va_S A s.heap H locs → lv_has ls 3 [(0, .ref (g 0)), (1, .int (nI k2)), (2, .int (nI k20))] → W p l e ({ frames := 4, cells := 0, slots := 0, locals := 90 } : Room) s m ([.ref (g 0)] : List Value).toArray below meth c H locs 0 0 (MQ below (rwO (some (.int (bI z.1))) D (grcells C g (a 0) z.2 ++ gcells C a G) A) ([.ref (g 0)] : List Value).toArray s 0 0 A) (F0 m 20 ls []) := by
        intro n20
        induction n20 with
        | zero =>
          intro k20 Rr_20 H locs ls hk20 hz  hP hD hS hl
          have hz : z2 = f_X2_distancesAgree_l20x  Rr_20 := hz
          refine lv_iload_n hx hb dX2_distancesAgree_20 rfl (lv_at hl 2 rfl) ?_
          refine lv_bipush (v := 8) hx hb dX2_distancesAgree_21 (by decide +kernel) ?_
          refine lv_icmp_ge (tgt := 49) hx hb dX2_distancesAgree_23 (by decide) (fun c_23 => ?_) (fun c_23 => absurd (by have e : (8 : Int32) = nI 8 := (by decide +kernel); rw [e]; exact nI_le (by omega) (by omega)) c_23)
          refine lv_iinc (v := (nI (k2 + 1))) (lv' := [(1, .int (nI (k2 + 1))), (0, .ref (g 0)), (2, .int (nI k20))]) hx hb dX2_distancesAgree_49 hl (k := 1) rfl (by exact nI_1 _) (by decide) rfl (fun ls hl => ?_)
          refine lv_goto (tgt := 2) hx hb dX2_distancesAgree_52 (by decide) ?_
          exact ih2 (k2 + 1) (Rr_20) _ _ ls (by omega) (by rw [hq2, hz]; rfl)  hP hD hS (lv_sub hl [1, 0] rfl)
        | succ n20 ih20 =>
          intro k20 Rr_20 H locs ls hk20 hz20  hP hD hS hl
          obtain ⟨z20, hz⟩ : ∃ zz_, zz_ = f_X2_distancesAgree_l20b  k20 Rr_20 := ⟨_, rfl⟩
          have hq20 : z2 = sE id (fun q_ => lpF (f_X2_distancesAgree_l20s ) (f_X2_distancesAgree_l20e ) n20 (k20 + 1) q_) z20 := by rw [hz20, hz]; rfl
          refine lv_iload_n hx hb dX2_distancesAgree_20 rfl (lv_at hl 2 rfl) ?_
          refine lv_bipush (v := 8) hx hb dX2_distancesAgree_21 (by decide +kernel) ?_
          refine lv_icmp_ge (tgt := 49) hx hb dX2_distancesAgree_23 (by decide) (fun c_23 => absurd c_23 (by have e : (8 : Int32) = nI 8 := (by decide +kernel); rw [e]; exact nI_ge (by omega) (by omega))) (fun c_23 => ?_)
          refine lv_aload_n hx hb dX2_distancesAgree_26 rfl (lv_at hl 0 rfl) ?_
          refine va_get (D := D) (ci := 5) (v := .ref (g 1)) (C := RX2) (T := TX2) (N := 4) hx hb hts hinX2 hown hK hP 0 rfl rfl 1 (by decide) (hts (.fieldLink RX2 9 "BridgeAuction$Graph" "nearest" "[I") (by decide +kernel)) (fun _ h9 => h9) rfl dX2_distancesAgree_27 ?_
          refine lv_iload_n hx hb dX2_distancesAgree_30 rfl (lv_at hl 2 rfl) ?_
          refine ialdN (tys := tyA C) hx hb hK hP 1 0 rfl rfl (i := k20) (by omega) (by decide) dX2_distancesAgree_31 ?_
          refine lv_aload_n hx hb dX2_distancesAgree_32 rfl (lv_at hl 0 rfl) ?_
          refine va_get (D := D) (ci := 5) (v := .ref (g 2)) (C := RX2) (T := TX2) (N := 4) hx hb hts hinX2 hown hK hP 0 rfl rfl 2 (by decide) (hts (.fieldLink RX2 15 "BridgeAuction$Graph" "relaxed" "[I") (by decide +kernel)) (fun _ h9 => h9) rfl dX2_distancesAgree_33 ?_
          refine lv_iload_n hx hb dX2_distancesAgree_36 rfl (lv_at hl 2 rfl) ?_
          refine ialdN (tys := tyA C) hx hb hK hP 2 0 rfl rfl (i := k20) (by omega) (by decide) dX2_distancesAgree_37 ?_
          refine lv_icmp_eq (tgt := 43) hx hb dX2_distancesAgree_38 (by decide) (fun c_38 => ?_) (fun c_38 => ?_)
          · have hz := hz.trans (if_pos c_38)
            refine lv_iinc (v := (nI (k20 + 1))) (lv' := [(2, .int (nI (k20 + 1))), (0, .ref (g 0)), (1, .int (nI k2))]) hx hb dX2_distancesAgree_43 hl (k := 2) rfl (by exact nI_1 _) (by decide) rfl (fun ls hl => ?_)
            refine lv_goto (tgt := 20) hx hb dX2_distancesAgree_46 (by decide) ?_
            exact ih20 (k20 + 1) (Rr_20) _ _ ls (by omega) (by rw [hq20, hz]; rfl)  hP hD hS (lv_sub hl [1, 2, 0] rfl)
          · have hz := hz.trans (if_neg c_38)
            refine lv_iconst (v := 0) hx hb dX2_distancesAgree_41 (by decide) ?_
            have hz := up1 hq20 hz
            have hz := up1 hq2 hz
            have hz : z = (false, Rr_20) := hz
            rw [hz]
            exact rw_retB hx hb hr hP hS rfl dX2_distancesAgree_42 hlocks
      refine lv_iload_n hx hb dX2_distancesAgree_2 rfl (lv_at hl 1 rfl) ?_
      refine lv_bipush (v := 8) hx hb dX2_distancesAgree_3 (by decide +kernel) ?_
      refine lv_icmp_ge (tgt := 55) hx hb dX2_distancesAgree_5 (by decide) (fun c_5 => absurd c_5 (by have e : (8 : Int32) = nI 8 := (by decide +kernel); rw [e]; exact nI_ge (by omega) (by omega))) (fun c_5 => ?_)
      refine lv_aload_n hx hb dX2_distancesAgree_8 rfl (lv_at hl 0 rfl) ?_
      refine lv_iload_n hx hb dX2_distancesAgree_9 rfl (lv_at hl 1 rfl) ?_
      have hFc := va_free (wc := (grcells C g (a 0) Rr_2 ++ gcells C a G)) hD hS hA [0, 1, 2, 3, 4, 5, 6, 7, 8, 9, 10, 11, 12] rfl
      refine callRw (va_runV (As := [.int (nI k2)]) (rest := []) ⟨hx, hb, hml, hown, hts⟩ (c_X2_searchNearest l D C g Rr_2 a G (k2) _ hG (by omega)) (cwV 1 hts gX2_distancesAgree_X2_searchNearest rfl rfl rfl (by decide +kernel) ⟨Nat.le_of_ble_eq_true rfl, Nat.le_of_ble_eq_true rfl⟩) (rwP_v hP hK hE hD (va_recv hK hP (ci := 5) (q0 := 0) rfl rfl)) rfl rfl hl.1 rfl (lv_room (Nat.le_of_ble_eq_true rfl)) dX2_distancesAgree_10 ⟨Nat.le_refl _, Nat.le_refl _⟩) hS hFc (fun H1 locs hPn hk hS => ?_)
      generalize hy10 : (f_X2_searchNearest Rr_2 G (k2)) = y10 at hPn ⊢
      have hz := lt_eq hz hy10.symm
      have hP : va_P D vwCl (grcells C g (a 0) y10 ++ gcells C a G) H1 := hPn
      have hD : va_D A (grcells C g (a 0) y10 ++ gcells C a G) := adr_D hD rfl
      generalize H1 = H at hP hS ⊢
      refine lv_aload_n hx hb dX2_distancesAgree_13 rfl (lv_at hl 0 rfl) ?_
      refine lv_iload_n hx hb dX2_distancesAgree_14 rfl (lv_at hl 1 rfl) ?_
      have hFc := va_free (wc := (grcells C g (a 0) y10 ++ gcells C a G)) hD hS hA [0, 1, 2, 3, 4, 5, 6, 7, 8, 9, 10, 11, 12] rfl
      refine callRw (va_runV (As := [.int (nI k2)]) (rest := []) ⟨hx, hb, hml, hown, hts⟩ (c_X2_relaxFrom l D C g y10 a G (k2) _ hG (by omega)) (cwV 1 hts gX2_distancesAgree_X2_relaxFrom rfl rfl rfl (by decide +kernel) ⟨Nat.le_of_ble_eq_true rfl, Nat.le_of_ble_eq_true rfl⟩) (rwP_v hP hK hE hD (va_recv hK hP (ci := 5) (q0 := 0) rfl rfl)) rfl rfl hl.1 rfl (lv_room (Nat.le_of_ble_eq_true rfl)) dX2_distancesAgree_15 ⟨Nat.le_refl _, Nat.le_refl _⟩) hS hFc (fun H1 locs hPn hk hS => ?_)
      generalize hy15 : (f_X2_relaxFrom y10 G (k2)) = y15 at hPn ⊢
      have hz := lt_eq hz hy15.symm
      have hP : va_P D vwCl (grcells C g (a 0) y15 ++ gcells C a G) H1 := hPn
      have hD : va_D A (grcells C g (a 0) y15 ++ gcells C a G) := adr_D hD rfl
      generalize H1 = H at hP hS ⊢
      refine lv_iconst (v := 0) hx hb dX2_distancesAgree_18 (by decide) ?_
      refine lv_istore_n (lv' := [(2, .int 0), (0, .ref (g 0)), (1, .int (nI k2))]) hx hb dX2_distancesAgree_19 rfl hl (by decide) rfl (fun ls hl => ?_)
      exact J20 (8) 0 (y15) _ _ ls (by omega) hz  hP hD hS (lv_sub hl [1, 2, 0] rfl)
  refine lv_iconst (v := 0) hx hb dX2_distancesAgree_0 (by decide) ?_
  refine lv_istore_n (lv' := [(1, .int 0), (0, .ref (g 0))]) hx hb dX2_distancesAgree_1 rfl hl (by decide) rfl (fun ls hl => ?_)
  exact J2 (8) 0 (Rr) _ _ ls (by omega) hz  hP hD hS (lv_sub hl [1, 0] rfl)

