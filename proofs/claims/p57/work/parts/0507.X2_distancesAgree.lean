def f_X2_distancesAgree_l22b  (k22 : Nat) (Rr_22 : GR) : Sum (Sum (Bool × GR) (GR)) (GR) := (if ((rNear Rr_22) k22) = ((rRlx Rr_22) k22) then (Sum.inr Rr_22) else (Sum.inl (Sum.inl (false, Rr_22))))
def f_X2_distancesAgree_l22x  (Rr_22 : GR) : Sum (Bool × GR) (GR) := (Sum.inr Rr_22)
def f_X2_distancesAgree_l22s  (k22 : Nat) (q_ : GR) : Sum (Sum (Bool × GR) (GR)) (GR) := f_X2_distancesAgree_l22b  k22 (q_)
def f_X2_distancesAgree_l22e  (q_ : GR) : Sum (Bool × GR) (GR) := f_X2_distancesAgree_l22x  (q_)
def f_X2_distancesAgree_l22  (n22 k22 : Nat) (Rr_22 : GR) : Sum (Bool × GR) (GR) := lpF (f_X2_distancesAgree_l22s ) (f_X2_distancesAgree_l22e ) n22 k22 Rr_22
def f_X2_distancesAgree_l2b (G : GS) (k2 : Nat) (Rr_2 : GR) : Sum (Bool × GR) (GR) := (lt_ (f_X2_searchNearest Rr_2 G (k2)) (fun y11 => (lt_ (f_X2_relaxFrom y11 G (k2)) (fun y17 => (f_X2_distancesAgree_l22 (8) 0 (y17))))))
def f_X2_distancesAgree_l2x (G : GS) (Rr_2 : GR) : Bool × GR := (true, Rr_2)
def f_X2_distancesAgree_l2s (G : GS) (k2 : Nat) (q_ : GR) : Sum (Bool × GR) (GR) := f_X2_distancesAgree_l2b G k2 (q_)
def f_X2_distancesAgree_l2e (G : GS) (q_ : GR) : Bool × GR := f_X2_distancesAgree_l2x G (q_)
def f_X2_distancesAgree_l2 (G : GS) (n2 k2 : Nat) (Rr_2 : GR) : Bool × GR := lpF (f_X2_distancesAgree_l2s G) (f_X2_distancesAgree_l2e G) n2 k2 Rr_2
def f_X2_distancesAgree (Rr : GR) (G : GS) : Bool × GR := (f_X2_distancesAgree_l2 G (8) 0 (Rr))
set_option maxHeartbeats 4000000 in
set_option maxRecDepth 100000 in
theorem c_X2_distancesAgree (l : Launch) (D : va_G) (C : Nat → ClassId) (g : Nat → Nat) (Rr : GR) (a : Nat → Nat) (G : GS) (sz : Nat) (hG : GSafe G) : Met l yX2_distancesAgree wsX2_distancesAgree ({ frames := 4, cells := 0, slots := 0, locals := 92 } : Room) (rwP [.ref (g 0), .ref (a 0)] D C (grcells C g Rr ++ gcells C a G) sz) (rwO (some (.int (bI ((f_X2_distancesAgree Rr G).1)))) D (grcells C g ((f_X2_distancesAgree Rr G).2) ++ gcells C a G) (va_A (grcells C g Rr ++ gcells C a G) sz)) 0 0 (va_A (grcells C g Rr ++ gcells C a G) sz) := by
  refine Met.ofW (cc := cX2_distancesAgree) (maxL := 4) (ret := (some .boolean)) (by decide) rfl ?_
  intro p e s m args below meth c s₁ B hml hv
  obtain ⟨rfl, hsz, hP, hK, hD0, hE⟩ := hv
  have hx := B.exec
  have hb := B.bytes
  have hr := B.returns
  have hts := atoms_spec (ws := wsX2_distancesAgree) B.pre
  have hown : s.vm.findClass RX2 = some m.cls := findClass_of_methodNamed B.named
  have hlocks := B.notSynchronized
  subst hsz
  have hD := hD0.self (sz := s.heap.size)
  generalize hAe : va_A (grcells C g Rr ++ gcells C a G) s.heap.size = A at hD ⊢
  have hA : ∀ q : Nat, s.heap.size ≤ q → A q := fun q h => by rw [← hAe]; exact Or.inr h
  have hS0 : va_S A s.heap s.heap [] := va_S.rf
  have hP : va_P D vwCl (grcells C g Rr ++ gcells C a G) s.heap := hP
  have hS := hS0
  obtain ⟨hS12, hP4, hlo, hhi⟩ := id hG
  have hinX2 : ∀ w ∈ u_ws RX2 TX2 3, w ∈ wsX2_distancesAgree := by decide +kernel
  have hl := lv_entry ([.ref (g 0), .ref (a 0)]) (n := 4) (Nat.le_of_ble_eq_true rfl)
  rw [lg_entry_eq]
  generalize (lg_sl ([.ref (g 0), .ref (a 0)]) ++ List.replicate (4 - (lg_sl ([.ref (g 0), .ref (a 0)])).length) Slot.unset).toArray = ls at hl ⊢
  have hl : lv_has ls 4 [(0, .ref (g 0)), (1, .ref (a 0))] := hl
  obtain ⟨z, hz⟩ : ∃ z, z = f_X2_distancesAgree Rr G := ⟨_, rfl⟩
  rw [← hz]
  have J2 : ∀ (n2 k2 : Nat) (Rr_2 : GR) (H : Heap) (locs : List Loc) (ls : Array Slot), k2 + n2 = 8 → z = f_X2_distancesAgree_l2 G n2 k2 Rr_2 → va_P D vwCl (grcells C g Rr_2 ++ gcells C a G) H → va_D A (grcells C g Rr_2 ++ gcells C a G) → va_S A s.heap H locs → lv_has ls 4 [(0, .ref (g 0)), (1, .ref (a 0)), (2, .int (nI k2))] → W p l e ({ frames := 4, cells := 0, slots := 0, locals := 92 } : Room) s m ([.ref (g 0), .ref (a 0)] : List Value).toArray below meth c H locs 0 0 (MQ below (rwO (some (.int (bI z.1))) D (grcells C g z.2 ++ gcells C a G) A) ([.ref (g 0), .ref (a 0)] : List Value).toArray s 0 0 A) (F0 m 2 ls []) := by
    intro n2
    induction n2 with
    | zero =>
      intro k2 Rr_2 H locs ls hk2 hz  hP hD hS hl
      have hz : z = f_X2_distancesAgree_l2x G Rr_2 := hz
      refine lv_iload_n hx hb dX2_distancesAgree_2 rfl (lv_at hl 2 rfl) ?_
      refine lv_bipush (v := 8) hx hb dX2_distancesAgree_3 (by decide +kernel) ?_
      refine lv_icmp_ge (tgt := 57) hx hb dX2_distancesAgree_5 (by decide) (fun c_5 => ?_) (fun c_5 => absurd (by have e : (8 : Int32) = nI 8 := (by decide +kernel); rw [e]; exact nI_le (by omega) (by omega)) c_5)
      refine lv_iconst (v := 1) hx hb dX2_distancesAgree_57 (by decide) ?_
      have hz : z = (true, Rr_2) := hz
      rw [hz]
      exact rw_retB hx hb hr hP hS rfl dX2_distancesAgree_58 hlocks
    | succ n2 ih2 =>
      intro k2 Rr_2 H locs ls hk2 hz2  hP hD hS hl
      obtain ⟨z2, hz⟩ : ∃ zz_, zz_ = f_X2_distancesAgree_l2b G k2 Rr_2 := ⟨_, rfl⟩
      have hq2 : z = sE id (fun q_ => lpF (f_X2_distancesAgree_l2s G) (f_X2_distancesAgree_l2e G) n2 (k2 + 1) q_) z2 := by rw [hz2, hz]; rfl
      have J22 : ∀ (n22 k22 : Nat) (Rr_22 : GR) (H : Heap) (locs : List Loc) (ls : Array Slot), k22 + n22 = 8 → z2 = f_X2_distancesAgree_l22  n22 k22 Rr_22 → va_P D vwCl (grcells C g Rr_22 ++ gcells C a G) H → va_D A (grcells C g Rr_22 ++ gcells C a G) → va_S A s.heap H locs → lv_has ls 4 [(0, .ref (g 0)), (1, .ref (a 0)), (2, .int (nI k2)), (3, .int (nI k22))] → W p l e ({ frames := 4, cells := 0, slots := 0, locals := 92 } : Room) s m ([.ref (g 0), .ref (a 0)] : List Value).toArray below meth c H locs 0 0 (MQ below (rwO (some (.int (bI z.1))) D (grcells C g z.2 ++ gcells C a G) A) ([.ref (g 0), .ref (a 0)] : List Value).toArray s 0 0 A) (F0 m 22 ls []) := by
        intro n22
        induction n22 with
        | zero =>
          intro k22 Rr_22 H locs ls hk22 hz  hP hD hS hl
          have hz : z2 = f_X2_distancesAgree_l22x  Rr_22 := hz
          refine lv_iload_n hx hb dX2_distancesAgree_22 rfl (lv_at hl 3 rfl) ?_
          refine lv_bipush (v := 8) hx hb dX2_distancesAgree_23 (by decide +kernel) ?_
          refine lv_icmp_ge (tgt := 51) hx hb dX2_distancesAgree_25 (by decide) (fun c_25 => ?_) (fun c_25 => absurd (by have e : (8 : Int32) = nI 8 := (by decide +kernel); rw [e]; exact nI_le (by omega) (by omega)) c_25)
          refine lv_iinc (v := (nI (k2 + 1))) (lv' := [(2, .int (nI (k2 + 1))), (0, .ref (g 0)), (1, .ref (a 0)), (3, .int (nI k22))]) hx hb dX2_distancesAgree_51 hl (k := 2) rfl (by exact nI_1 _) (by decide) rfl (fun ls hl => ?_)
          refine lv_goto (tgt := 2) hx hb dX2_distancesAgree_54 (by decide) ?_
          exact ih2 (k2 + 1) (Rr_22) _ _ ls (by omega) (by rw [hq2, hz]; rfl)  hP hD hS (lv_sub hl [1, 2, 0] rfl)
        | succ n22 ih22 =>
          intro k22 Rr_22 H locs ls hk22 hz22  hP hD hS hl
          obtain ⟨z22, hz⟩ : ∃ zz_, zz_ = f_X2_distancesAgree_l22b  k22 Rr_22 := ⟨_, rfl⟩
          have hq22 : z2 = sE id (fun q_ => lpF (f_X2_distancesAgree_l22s ) (f_X2_distancesAgree_l22e ) n22 (k22 + 1) q_) z22 := by rw [hz22, hz]; rfl
          refine lv_iload_n hx hb dX2_distancesAgree_22 rfl (lv_at hl 3 rfl) ?_
          refine lv_bipush (v := 8) hx hb dX2_distancesAgree_23 (by decide +kernel) ?_
          refine lv_icmp_ge (tgt := 51) hx hb dX2_distancesAgree_25 (by decide) (fun c_25 => absurd c_25 (by have e : (8 : Int32) = nI 8 := (by decide +kernel); rw [e]; exact nI_ge (by omega) (by omega))) (fun c_25 => ?_)
          refine lv_aload_n hx hb dX2_distancesAgree_28 rfl (lv_at hl 0 rfl) ?_
          refine va_get (D := D) (ci := 5) (v := .ref (g 1)) (C := RX2) (T := TX2) (N := 3) hx hb hts hinX2 hown hK hP 0 rfl rfl 0 (by decide) (hts (.fieldLink RX2 9 "BridgeAuction$Graph" "nearest" "[I") (by decide +kernel)) (fun _ h9 => h9) rfl dX2_distancesAgree_29 ?_
          refine lv_iload_n hx hb dX2_distancesAgree_32 rfl (lv_at hl 3 rfl) ?_
          refine ialdN (tys := tyA C) hx hb hK hP 1 0 rfl rfl (i := k22) (by omega) (by decide) dX2_distancesAgree_33 ?_
          refine lv_aload_n hx hb dX2_distancesAgree_34 rfl (lv_at hl 0 rfl) ?_
          refine va_get (D := D) (ci := 5) (v := .ref (g 2)) (C := RX2) (T := TX2) (N := 3) hx hb hts hinX2 hown hK hP 0 rfl rfl 1 (by decide) (hts (.fieldLink RX2 15 "BridgeAuction$Graph" "relaxed" "[I") (by decide +kernel)) (fun _ h9 => h9) rfl dX2_distancesAgree_35 ?_
          refine lv_iload_n hx hb dX2_distancesAgree_38 rfl (lv_at hl 3 rfl) ?_
          refine ialdN (tys := tyA C) hx hb hK hP 2 0 rfl rfl (i := k22) (by omega) (by decide) dX2_distancesAgree_39 ?_
          refine lv_icmp_eq (tgt := 45) hx hb dX2_distancesAgree_40 (by decide) (fun c_40 => ?_) (fun c_40 => ?_)
          · have hz := hz.trans (if_pos c_40)
            refine lv_iinc (v := (nI (k22 + 1))) (lv' := [(3, .int (nI (k22 + 1))), (0, .ref (g 0)), (1, .ref (a 0)), (2, .int (nI k2))]) hx hb dX2_distancesAgree_45 hl (k := 3) rfl (by exact nI_1 _) (by decide) rfl (fun ls hl => ?_)
            refine lv_goto (tgt := 22) hx hb dX2_distancesAgree_48 (by decide) ?_
            exact ih22 (k22 + 1) (Rr_22) _ _ ls (by omega) (by rw [hq22, hz]; rfl)  hP hD hS (lv_sub hl [1, 2, 3, 0] rfl)
          · have hz := hz.trans (if_neg c_40)
            refine lv_iconst (v := 0) hx hb dX2_distancesAgree_43 (by decide) ?_
            have hz := up1 hq22 hz
            have hz := up1 hq2 hz
            have hz : z = (false, Rr_22) := hz
            rw [hz]
            exact rw_retB hx hb hr hP hS rfl dX2_distancesAgree_44 hlocks
      refine lv_iload_n hx hb dX2_distancesAgree_2 rfl (lv_at hl 2 rfl) ?_
      refine lv_bipush (v := 8) hx hb dX2_distancesAgree_3 (by decide +kernel) ?_
      refine lv_icmp_ge (tgt := 57) hx hb dX2_distancesAgree_5 (by decide) (fun c_5 => absurd c_5 (by have e : (8 : Int32) = nI 8 := (by decide +kernel); rw [e]; exact nI_ge (by omega) (by omega))) (fun c_5 => ?_)
      refine lv_aload_n hx hb dX2_distancesAgree_8 rfl (lv_at hl 0 rfl) ?_
      refine lv_aload_n hx hb dX2_distancesAgree_9 rfl (lv_at hl 1 rfl) ?_
      refine lv_iload_n hx hb dX2_distancesAgree_10 rfl (lv_at hl 2 rfl) ?_
      have hFc := va_free (wc := (grcells C g Rr_2 ++ gcells C a G)) hD hS hA [0, 1, 2, 3, 4, 5, 6, 7, 8, 9, 10, 11, 12] rfl
      refine callRw (va_runV (As := [.ref (a 0), .int (nI k2)]) (rest := []) ⟨hx, hb, hml, hown, hts⟩ (c_X2_searchNearest l D C g Rr_2 a G (k2) _ hG (by omega)) (cwV 2 hts gX2_distancesAgree_X2_searchNearest rfl rfl rfl (by decide +kernel) ⟨Nat.le_of_ble_eq_true rfl, Nat.le_of_ble_eq_true rfl⟩) (rwP_v hP hK hE hD (va_recv hK hP (ci := 5) (q0 := 0) rfl rfl)) rfl rfl hl.1 rfl (lv_room (Nat.le_of_ble_eq_true rfl)) dX2_distancesAgree_11 ⟨Nat.le_refl _, Nat.le_refl _⟩) hS hFc (fun H1 locs hPn hk hS => ?_)
      generalize hy11 : (f_X2_searchNearest Rr_2 G (k2)) = y11 at hPn ⊢
      have hz := lt_eq hz hy11.symm
      have hP : va_P D vwCl (grcells C g y11 ++ gcells C a G) H1 := hPn
      have hD : va_D A (grcells C g y11 ++ gcells C a G) := adr_D hD rfl
      generalize H1 = H at hP hS ⊢
      refine lv_aload_n hx hb dX2_distancesAgree_14 rfl (lv_at hl 0 rfl) ?_
      refine lv_aload_n hx hb dX2_distancesAgree_15 rfl (lv_at hl 1 rfl) ?_
      refine lv_iload_n hx hb dX2_distancesAgree_16 rfl (lv_at hl 2 rfl) ?_
      have hFc := va_free (wc := (grcells C g y11 ++ gcells C a G)) hD hS hA [0, 1, 2, 3, 4, 5, 6, 7, 8, 9, 10, 11, 12] rfl
      refine callRw (va_runV (As := [.ref (a 0), .int (nI k2)]) (rest := []) ⟨hx, hb, hml, hown, hts⟩ (c_X2_relaxFrom l D C g y11 a G (k2) _ hG (by omega)) (cwV 2 hts gX2_distancesAgree_X2_relaxFrom rfl rfl rfl (by decide +kernel) ⟨Nat.le_of_ble_eq_true rfl, Nat.le_of_ble_eq_true rfl⟩) (rwP_v hP hK hE hD (va_recv hK hP (ci := 5) (q0 := 0) rfl rfl)) rfl rfl hl.1 rfl (lv_room (Nat.le_of_ble_eq_true rfl)) dX2_distancesAgree_17 ⟨Nat.le_refl _, Nat.le_refl _⟩) hS hFc (fun H1 locs hPn hk hS => ?_)
      generalize hy17 : (f_X2_relaxFrom y11 G (k2)) = y17 at hPn ⊢
      have hz := lt_eq hz hy17.symm
      have hP : va_P D vwCl (grcells C g y17 ++ gcells C a G) H1 := hPn
      have hD : va_D A (grcells C g y17 ++ gcells C a G) := adr_D hD rfl
      generalize H1 = H at hP hS ⊢
      refine lv_iconst (v := 0) hx hb dX2_distancesAgree_20 (by decide) ?_
      refine lv_istore_n (lv' := [(3, .int 0), (0, .ref (g 0)), (1, .ref (a 0)), (2, .int (nI k2))]) hx hb dX2_distancesAgree_21 rfl hl (by decide) rfl (fun ls hl => ?_)
      exact J22 (8) 0 (y17) _ _ ls (by omega) hz  hP hD hS (lv_sub hl [1, 2, 3, 0] rfl)
  refine lv_iconst (v := 0) hx hb dX2_distancesAgree_0 (by decide) ?_
  refine lv_istore_n (lv' := [(2, .int 0), (0, .ref (g 0)), (1, .ref (a 0))]) hx hb dX2_distancesAgree_1 rfl hl (by decide) rfl (fun ls hl => ?_)
  exact J2 (8) 0 (Rr) _ _ ls (by omega) hz  hP hD hS (lv_sub hl [1, 2, 0] rfl)

