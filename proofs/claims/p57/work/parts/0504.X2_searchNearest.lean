theorem nearestOpen_in {R : GR} {x : Int32} (h : ¬ f_X2_nearestOpen R x = -1) : vp_in (f_X2_nearestOpen R x) 8 := by
  have key : f_X2_nearestOpen R x = -1 ∨ vp_in (f_X2_nearestOpen R x) 8 := by
    refine lpF_invN (step := f_X2_nearestOpen_l9s R x) (ex := f_X2_nearestOpen_l9e R x) 8 (fun (k : Nat) (s : Int32 × Int32) => (s.1 = -1 ∨ vp_in s.1 8)) (fun r => r = -1 ∨ vp_in r 8) ?_ ?_ ?_ 8 0 _ rfl (Or.inl rfl)
    · intro k s r hk hI hs
      simp only [f_X2_nearestOpen_l9s, f_X2_nearestOpen_l9b, f_X2_nearestOpen_j47] at hs
      repeat' split at hs
      all_goals cases hs
    · intro k s s' hk hI hs
      simp only [f_X2_nearestOpen_l9s, f_X2_nearestOpen_l9b, f_X2_nearestOpen_j47] at hs
      repeat' split at hs
      all_goals (cases hs; first | exact hI | exact Or.inr (vp_in_nI hk (by decide)))
    · intro s hI; exact hI
  exact key.resolve_left h
def f_X2_searchNearest_l22b (G : GS) (k22 : Nat) (v3_22 : Int32) (Rr_22 : GR) : Sum (GR) (Int32 × GR) := (if (f_X2_nearestOpen Rr_22 (v3_22)) = (-1) then (Sum.inl Rr_22) else (lt_ (f_X2_lookFurther Rr_22 G (((f_X2_nearestOpen Rr_22 (v3_22))).toNatClampNeg)) (fun y54 => (Sum.inr ((v3_22 ||| (1 <<< ((f_X2_nearestOpen Rr_22 (v3_22)) &&& 31))), y54)))))
def f_X2_searchNearest_l22x (G : GS) (v3_22 : Int32) (Rr_22 : GR) : GR := Rr_22
def f_X2_searchNearest_l22s (G : GS) (k22 : Nat) (q_ : Int32 × GR) : Sum (GR) (Int32 × GR) := f_X2_searchNearest_l22b G k22 (q_.1) (q_.2)
def f_X2_searchNearest_l22e (G : GS) (q_ : Int32 × GR) : GR := f_X2_searchNearest_l22x G (q_.1) (q_.2)
def f_X2_searchNearest_l22 (G : GS) (n22 k22 : Nat) (v3_22 : Int32) (Rr_22 : GR) : GR := lpF (f_X2_searchNearest_l22s G) (f_X2_searchNearest_l22e G) n22 k22 (v3_22, Rr_22)
def f_X2_searchNearest (Rr : GR) (G : GS) (i : Nat) : GR := (lt_ (f_J7_fill_53178 (rNear Rr) (1000)) (fun y7 => (f_X2_searchNearest_l22 G (8) 0 (0) ((mkR (upd y7 i 0) (rRlx Rr) (rPar Rr))))))
set_option maxHeartbeats 4000000 in
set_option maxRecDepth 100000 in
theorem c_X2_searchNearest (l : Launch) (D : va_G) (C : Nat → ClassId) (g : Nat → Nat) (Rr : GR) (a : Nat → Nat) (G : GS) (i : Nat) (sz : Nat) (hG : GSafe G) (h_i : i < 8) : Met l yX2_searchNearest wsX2_searchNearest ({ frames := 3, cells := 0, slots := 0, locals := 67 } : Room) (rwP [.ref (g 0), .ref (a 0), .int (nI i)] D C (grcells C g Rr ++ gcells C a G) sz) (rwO none D (grcells C g ((f_X2_searchNearest Rr G i)) ++ gcells C a G) (va_A (grcells C g Rr ++ gcells C a G) sz)) 0 0 (va_A (grcells C g Rr ++ gcells C a G) sz) := by
  refine Met.ofW (cc := cX2_searchNearest) (maxL := 6) (ret := none) (by decide) rfl ?_
  intro p e s m args below meth c s₁ B hml hv
  obtain ⟨rfl, hsz, hP, hK, hD0, hE⟩ := hv
  have hx := B.exec
  have hb := B.bytes
  have hr := B.returns
  have hts := atoms_spec (ws := wsX2_searchNearest) B.pre
  have hown : s.vm.findClass RX2 = some m.cls := findClass_of_methodNamed B.named
  have hlocks := B.notSynchronized
  subst hsz
  have hD := hD0.self (sz := s.heap.size)
  generalize hAe : va_A (grcells C g Rr ++ gcells C a G) s.heap.size = A at hD ⊢
  have hA : ∀ q : Nat, s.heap.size ≤ q → A q := fun q h => by rw [← hAe]; exact Or.inr h
  have hS0 : va_S A s.heap s.heap [] := va_S.rf
  have hP : va_P D vwCl (grcells C g Rr ++ gcells C a G) s.heap := hP
  have hS := hS0
  obtain ⟨hS12, hP4, hlo, hhi⟩ := id hG
  have hinX2 : ∀ w ∈ u_ws RX2 TX2 3, w ∈ wsX2_searchNearest := by decide +kernel
  have hl := lv_entry ([.ref (g 0), .ref (a 0), .int (nI i)]) (n := 6) (Nat.le_of_ble_eq_true rfl)
  rw [lg_entry_eq]
  generalize (lg_sl ([.ref (g 0), .ref (a 0), .int (nI i)]) ++ List.replicate (6 - (lg_sl ([.ref (g 0), .ref (a 0), .int (nI i)])).length) Slot.unset).toArray = ls at hl ⊢
  have hl : lv_has ls 6 [(0, .ref (g 0)), (1, .ref (a 0)), (2, .int (nI i))] := hl
  obtain ⟨z, hz⟩ : ∃ z, z = f_X2_searchNearest Rr G i := ⟨_, rfl⟩
  rw [← hz]
  have J22 : ∀ (n22 k22 : Nat) (v3_22 : Int32) (Rr_22 : GR) (H : Heap) (locs : List Loc) (ls : Array Slot), k22 + n22 = 8 → z = f_X2_searchNearest_l22 G n22 k22 v3_22 Rr_22 → va_P D vwCl (grcells C g Rr_22 ++ gcells C a G) H → va_D A (grcells C g Rr_22 ++ gcells C a G) → va_S A s.heap H locs → lv_has ls 6 [(0, .ref (g 0)), (1, .ref (a 0)), (3, .int v3_22), (4, .int (nI k22))] → W p l e ({ frames := 3, cells := 0, slots := 0, locals := 67 } : Room) s m ([.ref (g 0), .ref (a 0), .int (nI i)] : List Value).toArray below meth c H locs 0 0 (MQ below (rwO none D (grcells C g z ++ gcells C a G) A) ([.ref (g 0), .ref (a 0), .int (nI i)] : List Value).toArray s 0 0 A) (F0 m 22 ls []) := by
    intro n22
    induction n22 with
    | zero =>
      intro k22 v3_22 Rr_22 H locs ls hk22 hz  hP hD hS hl
      have hz : z = f_X2_searchNearest_l22x G v3_22 Rr_22 := hz
      refine lv_iload hx hb dX2_searchNearest_22 (lv_at hl 3 rfl) ?_
      refine lv_bipush (v := 8) hx hb dX2_searchNearest_24 (by decide +kernel) ?_
      refine lv_icmp_ge (tgt := 63) hx hb dX2_searchNearest_26 (by decide) (fun c_26 => ?_) (fun c_26 => absurd (by have e : (8 : Int32) = nI 8 := (by decide +kernel); rw [e]; exact nI_le (by omega) (by omega)) c_26)
      have hz : z = Rr_22 := hz
      rw [hz]
      exact rw_retV hx hb hr hP hS dX2_searchNearest_63 hlocks
    | succ n22 ih22 =>
      intro k22 v3_22 Rr_22 H locs ls hk22 hz22  hP hD hS hl
      obtain ⟨z22, hz⟩ : ∃ zz_, zz_ = f_X2_searchNearest_l22b G k22 v3_22 Rr_22 := ⟨_, rfl⟩
      have hq22 : z = sE id (fun q_ => lpF (f_X2_searchNearest_l22s G) (f_X2_searchNearest_l22e G) n22 (k22 + 1) q_) z22 := by rw [hz22, hz]; rfl
      refine lv_iload hx hb dX2_searchNearest_22 (lv_at hl 3 rfl) ?_
      refine lv_bipush (v := 8) hx hb dX2_searchNearest_24 (by decide +kernel) ?_
      refine lv_icmp_ge (tgt := 63) hx hb dX2_searchNearest_26 (by decide) (fun c_26 => absurd c_26 (by have e : (8 : Int32) = nI 8 := (by decide +kernel); rw [e]; exact nI_ge (by omega) (by omega))) (fun c_26 => ?_)
      refine lv_aload_n hx hb dX2_searchNearest_29 rfl (lv_at hl 0 rfl) ?_
      refine lv_iload_n hx hb dX2_searchNearest_30 rfl (lv_at hl 2 rfl) ?_
      refine callRo (va_runV (As := [.int v3_22]) (rest := []) ⟨hx, hb, hml, hown, hts⟩ (c_X2_nearestOpen l D C g Rr_22 (v3_22)) (cwV 1 hts gX2_searchNearest_X2_nearestOpen rfl rfl rfl (by decide +kernel) ⟨Nat.le_of_ble_eq_true rfl, Nat.le_of_ble_eq_true rfl⟩) (roP_v (hP.sub (ws' := (grcells C g Rr_22)) [0, 1, 2, 3] rfl) hK hE (va_recv hK (hP.sub (ws' := (grcells C g Rr_22)) [0, 1, 2, 3] rfl) (ci := 5) (q0 := 0) rfl rfl)) rfl rfl hl.1 rfl (lv_room (Nat.le_of_ble_eq_true rfl)) dX2_searchNearest_31 ⟨Nat.le_refl _, Nat.le_refl _⟩) ?_
      refine lv_istore (lv' := [(5, .int (f_X2_nearestOpen Rr_22 (v3_22))), (0, .ref (g 0)), (1, .ref (a 0)), (3, .int v3_22), (4, .int (nI k22))]) hx hb dX2_searchNearest_34 hl (by decide) rfl (fun ls hl => ?_)
      refine lv_iload hx hb dX2_searchNearest_36 (lv_at hl 0 rfl) ?_
      refine lv_iconst (v := (-1)) hx hb dX2_searchNearest_38 (by decide) ?_
      refine lv_icmp_ne (tgt := 43) hx hb dX2_searchNearest_39 (by decide) (fun c_39 => ?_) (fun c_39 => ?_)
      · have hz := hz.trans (if_neg c_39)
        refine lv_iload_n hx hb dX2_searchNearest_43 rfl (lv_at hl 3 rfl) ?_
        refine lv_iconst (v := 1) hx hb dX2_searchNearest_44 (by decide) ?_
        refine lv_iload hx hb dX2_searchNearest_45 (lv_at hl 0 rfl) ?_
        refine lv_ishl hx hb dX2_searchNearest_47 ?_
        refine lv_ior hx hb dX2_searchNearest_48 ?_
        refine lv_istore_n (lv' := [(3, .int (v3_22 ||| (1 <<< ((f_X2_nearestOpen Rr_22 (v3_22)) &&& 31)))), (5, .int (f_X2_nearestOpen Rr_22 (v3_22))), (0, .ref (g 0)), (1, .ref (a 0)), (4, .int (nI k22))]) hx hb dX2_searchNearest_49 rfl hl (by decide) rfl (fun ls hl => ?_)
        refine lv_aload_n hx hb dX2_searchNearest_50 rfl (lv_at hl 2 rfl) ?_
        refine lv_aload_n hx hb dX2_searchNearest_51 rfl (lv_at hl 3 rfl) ?_
        refine lv_iload hx hb dX2_searchNearest_52 (lv_at hl 1 rfl) ?_
        obtain ⟨ehn_1, lhn_1⟩ := nat_of (x := (f_X2_nearestOpen Rr_22 (v3_22))) (n := 8) (by exact nearestOpen_in c_39) (by omega)
        refine topN ehn_1 ?_
        have hFc := va_free (wc := (grcells C g Rr_22 ++ gcells C a G)) hD hS hA [0, 1, 2, 3, 4, 5, 6, 7, 8, 9, 10, 11, 12] rfl
        refine callRw (va_runV (As := [.ref (a 0), .int (nI ((f_X2_nearestOpen Rr_22 (v3_22))).toNatClampNeg)]) (rest := []) ⟨hx, hb, hml, hown, hts⟩ (c_X2_lookFurther l D C g Rr_22 a G (((f_X2_nearestOpen Rr_22 (v3_22))).toNatClampNeg) _ hG (by omega)) (cwV 2 hts gX2_searchNearest_X2_lookFurther rfl rfl rfl (by decide +kernel) ⟨Nat.le_of_ble_eq_true rfl, Nat.le_of_ble_eq_true rfl⟩) (rwP_v hP hK hE hD (va_recv hK hP (ci := 5) (q0 := 0) rfl rfl)) rfl rfl hl.1 rfl (lv_room (Nat.le_of_ble_eq_true rfl)) dX2_searchNearest_54 ⟨Nat.le_refl _, Nat.le_refl _⟩) hS hFc (fun H1 locs hPn hk hS => ?_)
        generalize hy54 : (f_X2_lookFurther Rr_22 G (((f_X2_nearestOpen Rr_22 (v3_22))).toNatClampNeg)) = y54 at hPn ⊢
        have hz := lt_eq hz hy54.symm
        have hP : va_P D vwCl (grcells C g y54 ++ gcells C a G) H1 := hPn
        have hD : va_D A (grcells C g y54 ++ gcells C a G) := adr_D hD rfl
        generalize H1 = H at hP hS ⊢
        refine lv_iinc (v := (nI (k22 + 1))) (lv' := [(4, .int (nI (k22 + 1))), (3, .int (v3_22 ||| (1 <<< ((f_X2_nearestOpen Rr_22 (v3_22)) &&& 31)))), (5, .int (f_X2_nearestOpen Rr_22 (v3_22))), (0, .ref (g 0)), (1, .ref (a 0))]) hx hb dX2_searchNearest_57 hl (k := 4) rfl (by exact nI_1 _) (by decide) rfl (fun ls hl => ?_)
        refine lv_goto (tgt := 22) hx hb dX2_searchNearest_60 (by decide) ?_
        exact ih22 (k22 + 1) ((v3_22 ||| (1 <<< ((f_X2_nearestOpen Rr_22 (v3_22)) &&& 31)))) (y54) _ _ ls (by omega) (by rw [hq22, hz]; rfl)  hP hD hS (lv_sub hl [3, 4, 1, 0] rfl)
      · have hz := hz.trans (if_pos c_39)
        have hz := up1 hq22 hz
        have hz : z = Rr_22 := hz
        rw [hz]
        exact rw_retV hx hb hr hP hS dX2_searchNearest_42 hlocks
  refine lv_aload_n hx hb dX2_searchNearest_0 rfl (lv_at hl 0 rfl) ?_
  refine va_get (D := D) (ci := 5) (v := .ref (g 1)) (C := RX2) (T := TX2) (N := 3) hx hb hts hinX2 hown hK hP 0 rfl rfl 0 (by decide) (hts (.fieldLink RX2 9 "BridgeAuction$Graph" "nearest" "[I") (by decide +kernel)) (fun _ h9 => h9) rfl dX2_searchNearest_1 ?_
  refine lv_sipush (v := 1000) hx hb dX2_searchNearest_4 (by decide +kernel) ?_
  have hPc := hP.sub (ws' := ([((g 1), .inl (C 0, 8, .inl (rNear Rr)))])) [1] rfl
  have hDc := hD.sub (ws' := ([((g 1), .inl (C 0, 8, .inl (rNear Rr)))])) [1] (by decide) rfl
  have hFc := va_free (wc := ([((g 1), .inl (C 0, 8, .inl (rNear Rr)))])) hD hS hA [1] rfl
  refine callRw (va_runS (As := [.ref (g 1), .int 1000]) (rest := []) ⟨hx, hb, hml, hown, hts⟩ (c_J7_fill_53178 l D C (g 1) (rNear Rr) (1000) _) (va_cwS 2 hts gX2_searchNearest_J7_fill_53178 rfl rfl rfl (by decide +kernel) ⟨Nat.le_of_ble_eq_true rfl, Nat.le_of_ble_eq_true rfl⟩) (rwP_s hPc hK hE hDc) rfl rfl hl.1 rfl (lv_room (Nat.le_of_ble_eq_true rfl)) dX2_searchNearest_7 ⟨Nat.le_refl _, Nat.le_refl _⟩) hS hFc (fun H1 locs hPn hk hS => ?_)
  obtain ⟨y7, hy7⟩ : ∃ y_, y_ = (f_J7_fill_53178 (rNear Rr) (1000)) := ⟨_, rfl⟩
  have hPn : va_P D vwCl ([((g 1), .inl (C 0, 8, .inl y7))]) H1 := by rw [hy7]; exact hPn
  have hz := lt_eq hz hy7
  have hP : va_P D vwCl (grcells C g (mkR y7 (rRlx Rr) (rPar Rr)) ++ gcells C a G) H1 := rwJoin (wr := ([(g 0, .inr (5, [.ref (g 1), .ref (g 2), .ref (g 3)])), (g 2, .inl (C 0, 8, .inl (rRlx Rr))), (g 3, .inl (C 0, 8, .inl (fun j => nI ((rPar Rr) j))))] ++ gcells C a G)) (ws' := (grcells C g (mkR y7 (rRlx Rr) (rPar Rr)) ++ gcells C a G)) hP hD [1] [0, 2, 3, 4, 5, 6, 7, 8, 9, 10, 11, 12] rfl rfl (by decide) (by decide) (by decide) hk hFc hPn rfl [0, 12, 1, 2, 3, 4, 5, 6, 7, 8, 9, 10, 11] rfl
  have hD : va_D A (grcells C g (mkR y7 (rRlx Rr) (rPar Rr)) ++ gcells C a G) := adr_D hD rfl
  generalize H1 = H at hP hS ⊢
  refine lv_aload_n hx hb dX2_searchNearest_10 rfl (lv_at hl 0 rfl) ?_
  refine va_get (D := D) (ci := 5) (v := .ref (g 1)) (C := RX2) (T := TX2) (N := 3) hx hb hts hinX2 hown hK hP 0 rfl rfl 0 (by decide) (hts (.fieldLink RX2 9 "BridgeAuction$Graph" "nearest" "[I") (by decide +kernel)) (fun _ h9 => h9) rfl dX2_searchNearest_11 ?_
  refine lv_iload_n hx hb dX2_searchNearest_14 rfl (lv_at hl 2 rfl) ?_
  refine lv_iconst (v := 0) hx hb dX2_searchNearest_15 (by decide) ?_
  refine iastN (tys := tyA C) hx hb hK hP hD hS 1 0 rfl rfl (i := i) (by omega) (by decide) dX2_searchNearest_16 (fun H locs hP hD hS => ?_)
  have hP : va_P D vwCl (grcells C g (mkR (upd y7 i 0) (rRlx Rr) (rPar Rr)) ++ gcells C a G) H := hP
  have hD : va_D A (grcells C g (mkR (upd y7 i 0) (rRlx Rr) (rPar Rr)) ++ gcells C a G) := hD
  refine lv_iconst (v := 0) hx hb dX2_searchNearest_17 (by decide) ?_
  refine lv_istore_n (lv' := [(3, .int 0), (0, .ref (g 0)), (1, .ref (a 0)), (2, .int (nI i))]) hx hb dX2_searchNearest_18 rfl hl (by decide) rfl (fun ls hl => ?_)
  refine lv_iconst (v := 0) hx hb dX2_searchNearest_19 (by decide) ?_
  refine lv_istore (lv' := [(4, .int 0), (3, .int 0), (0, .ref (g 0)), (1, .ref (a 0)), (2, .int (nI i))]) hx hb dX2_searchNearest_20 hl (by decide) rfl (fun ls hl => ?_)
  exact J22 (8) 0 (0) ((mkR (upd y7 i 0) (rRlx Rr) (rPar Rr))) _ _ ls (by omega) hz  hP hD hS (lv_sub hl [2, 3, 1, 0] rfl)

