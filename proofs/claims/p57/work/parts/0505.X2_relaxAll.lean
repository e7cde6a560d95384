def f_X2_relaxAll_j92  (rlx0_92 : (Nat → Int32)) : Sum (GR) ((Nat → Int32)) := (Sum.inr rlx0_92)
def f_X2_relaxAll_l2b (Rr : GR) (G : GS) (k2 : Nat) (rlx0_2 : (Nat → Int32)) : Sum (GR) ((Nat → Int32)) := (if (f_X1_hasBridge G (k2)) = true then (f_X2_relaxAll_j92 ((upd (upd rlx0_2 ((gHi G) k2) (imin (rlx0_2 ((gHi G) k2)) ((rlx0_2 ((gLo G) k2)) + ((gLen G) k2)))) ((gLo G) k2) (imin ((upd rlx0_2 ((gHi G) k2) (imin (rlx0_2 ((gHi G) k2)) ((rlx0_2 ((gLo G) k2)) + ((gLen G) k2)))) ((gLo G) k2)) (((upd rlx0_2 ((gHi G) k2) (imin (rlx0_2 ((gHi G) k2)) ((rlx0_2 ((gLo G) k2)) + ((gLen G) k2)))) ((gHi G) k2)) + ((gLen G) k2)))))) else (f_X2_relaxAll_j92 (rlx0_2)))
def f_X2_relaxAll_l2x (Rr : GR) (G : GS) (rlx0_2 : (Nat → Int32)) : GR := (mkR (rNear Rr) rlx0_2 (rPar Rr))
def f_X2_relaxAll_l2s (Rr : GR) (G : GS) (k2 : Nat) (q_ : (Nat → Int32)) : Sum (GR) ((Nat → Int32)) := f_X2_relaxAll_l2b Rr G k2 (q_)
def f_X2_relaxAll_l2e (Rr : GR) (G : GS) (q_ : (Nat → Int32)) : GR := f_X2_relaxAll_l2x Rr G (q_)
def f_X2_relaxAll_l2 (Rr : GR) (G : GS) (n2 k2 : Nat) (rlx0_2 : (Nat → Int32)) : GR := lpF (f_X2_relaxAll_l2s Rr G) (f_X2_relaxAll_l2e Rr G) n2 k2 rlx0_2
def f_X2_relaxAll (Rr : GR) (G : GS) : GR := (f_X2_relaxAll_l2 Rr G (gS G) 0 ((rRlx Rr)))
set_option maxHeartbeats 4000000 in
set_option maxRecDepth 100000 in
theorem c_X2_relaxAll (l : Launch) (D : va_G) (C : Nat → ClassId) (g : Nat → Nat) (Rr : GR) (a : Nat → Nat) (G : GS) (sz : Nat) (hG : GSafe G) : Met l yX2_relaxAll wsX2_relaxAll ({ frames := 1, cells := 0, slots := 0, locals := 21 } : Room) (rwP [.ref (g 0), .ref (a 0)] D C (grcells C g Rr ++ gcells C a G) sz) (rwO none D (grcells C g ((f_X2_relaxAll Rr G)) ++ gcells C a G) (va_A (grcells C g Rr ++ gcells C a G) sz)) 0 0 (va_A (grcells C g Rr ++ gcells C a G) sz) := by
  refine Met.ofW (cc := cX2_relaxAll) (maxL := 5) (ret := none) (by decide) rfl ?_
  intro p e s m args below meth c s₁ B hml hv
  obtain ⟨rfl, hsz, hP, hK, hD0, hE⟩ := hv
  have hx := B.exec
  have hb := B.bytes
  have hr := B.returns
  have hts := atoms_spec (ws := wsX2_relaxAll) B.pre
  have hown : s.vm.findClass RX2 = some m.cls := findClass_of_methodNamed B.named
  have hlocks := B.notSynchronized
  subst hsz
  have hD := hD0.self (sz := s.heap.size)
  generalize hAe : va_A (grcells C g Rr ++ gcells C a G) s.heap.size = A at hD ⊢
  have hA : ∀ q : Nat, s.heap.size ≤ q → A q := fun q h => by rw [← hAe]; exact Or.inr h
  have hS0 : va_S A s.heap s.heap [] := va_S.rf
  have hP : va_P D vwCl (grcells C g Rr ++ gcells C a G) s.heap := hP
  have hS := hS0
  obtain ⟨hS12, hP4, hlo, hhi⟩ := id hG
  have hinX1 : ∀ w ∈ u_ws RX1 TX1 16, w ∈ wsX2_relaxAll := by decide +kernel
  have hinX2 : ∀ w ∈ u_ws RX2 TX2 3, w ∈ wsX2_relaxAll := by decide +kernel
  have hl := lv_entry ([.ref (g 0), .ref (a 0)]) (n := 5) (Nat.le_of_ble_eq_true rfl)
  rw [lg_entry_eq]
  generalize (lg_sl ([.ref (g 0), .ref (a 0)]) ++ List.replicate (5 - (lg_sl ([.ref (g 0), .ref (a 0)])).length) Slot.unset).toArray = ls at hl ⊢
  have hl : lv_has ls 5 [(0, .ref (g 0)), (1, .ref (a 0))] := hl
  obtain ⟨z, hz⟩ : ∃ z, z = f_X2_relaxAll Rr G := ⟨_, rfl⟩
  rw [← hz]
  have J2 : ∀ (n2 k2 : Nat) (rlx0_2 : (Nat → Int32)) (H : Heap) (locs : List Loc) (ls : Array Slot), k2 + n2 = gS G → z = f_X2_relaxAll_l2 Rr G n2 k2 rlx0_2 → va_P D vwCl (grcells C g (mkR (rNear Rr) rlx0_2 (rPar Rr)) ++ gcells C a G) H → va_D A (grcells C g (mkR (rNear Rr) rlx0_2 (rPar Rr)) ++ gcells C a G) → va_S A s.heap H locs → lv_has ls 5 [(0, .ref (g 0)), (1, .ref (a 0)), (2, .int (nI k2))] → W p l e ({ frames := 1, cells := 0, slots := 0, locals := 21 } : Room) s m ([.ref (g 0), .ref (a 0)] : List Value).toArray below meth c H locs 0 0 (MQ below (rwO none D (grcells C g z ++ gcells C a G) A) ([.ref (g 0), .ref (a 0)] : List Value).toArray s 0 0 A) (F0 m 2 ls []) := by
    intro n2
    induction n2 with
    | zero =>
      intro k2 rlx0_2 H locs ls hk2 hz  hP hD hS hl
      have hz : z = f_X2_relaxAll_l2x Rr G rlx0_2 := hz
      refine lv_iload_n hx hb dX2_relaxAll_2 rfl (lv_at hl 2 rfl) ?_
      refine lv_aload_n hx hb dX2_relaxAll_3 rfl (lv_at hl 1 rfl) ?_
      refine va_getN (D := D) (ci := 4) (v := .int (nI (gS G))) (C := RX1) (T := TX1) (N := 16) hx hb hts hinX1 hown hK hP 4 rfl rfl 5 (by decide) (hE.use 4 rfl) (fun _ h9 => h9) rfl dX2_relaxAll_4 ?_
      refine lv_icmp_ge (tgt := 98) hx hb dX2_relaxAll_7 (by decide) (fun c_7 => ?_) (fun c_7 => absurd (nI_le (by omega) (by omega)) c_7)
      have hz : z = (mkR (rNear Rr) rlx0_2 (rPar Rr)) := hz
      rw [hz]
      exact rw_retV hx hb hr hP hS dX2_relaxAll_98 hlocks
    | succ n2 ih2 =>
      intro k2 rlx0_2 H locs ls hk2 hz2  hP hD hS hl
      obtain ⟨z2, hz⟩ : ∃ zz_, zz_ = f_X2_relaxAll_l2b Rr G k2 rlx0_2 := ⟨_, rfl⟩
      have hq2 : z = sE id (fun q_ => lpF (f_X2_relaxAll_l2s Rr G) (f_X2_relaxAll_l2e Rr G) n2 (k2 + 1) q_) z2 := by rw [hz2, hz]; rfl
      have J92 : ∀ (rlx0_92 : (Nat → Int32))  (H : Heap) (locs : List Loc) (ls : Array Slot), z2 = f_X2_relaxAll_j92 rlx0_92 → va_P D vwCl (grcells C g (mkR (rNear Rr) rlx0_92 (rPar Rr)) ++ gcells C a G) H → va_D A (grcells C g (mkR (rNear Rr) rlx0_92 (rPar Rr)) ++ gcells C a G) → va_S A s.heap H locs → lv_has ls 5 [(0, .ref (g 0)), (1, .ref (a 0)), (2, .int (nI k2))] → W p l e ({ frames := 1, cells := 0, slots := 0, locals := 21 } : Room) s m ([.ref (g 0), .ref (a 0)] : List Value).toArray below meth c H locs 0 0 (MQ below (rwO none D (grcells C g z ++ gcells C a G) A) ([.ref (g 0), .ref (a 0)] : List Value).toArray s 0 0 A) (F0 m 92 ls []) := by
        intro rlx0_92 H locs ls hz  hP hD hS hl
        refine lv_iinc (v := (nI (k2 + 1))) (lv' := [(2, .int (nI (k2 + 1))), (0, .ref (g 0)), (1, .ref (a 0))]) hx hb dX2_relaxAll_92 hl (k := 2) rfl (by exact nI_1 _) (by decide) rfl (fun ls hl => ?_)
        refine lv_goto (tgt := 2) hx hb dX2_relaxAll_95 (by decide) ?_
        exact ih2 (k2 + 1) (rlx0_92) _ _ ls (by omega) (by rw [hq2, hz]; rfl)  hP hD hS (lv_sub hl [1, 2, 0] rfl)
      refine lv_iload_n hx hb dX2_relaxAll_2 rfl (lv_at hl 2 rfl) ?_
      refine lv_aload_n hx hb dX2_relaxAll_3 rfl (lv_at hl 1 rfl) ?_
      refine va_getN (D := D) (ci := 4) (v := .int (nI (gS G))) (C := RX1) (T := TX1) (N := 16) hx hb hts hinX1 hown hK hP 4 rfl rfl 5 (by decide) (hE.use 4 rfl) (fun _ h9 => h9) rfl dX2_relaxAll_4 ?_
      refine lv_icmp_ge (tgt := 98) hx hb dX2_relaxAll_7 (by decide) (fun c_7 => absurd c_7 (nI_ge (by omega) (by omega))) (fun c_7 => ?_)
      refine lv_aload_n hx hb dX2_relaxAll_10 rfl (lv_at hl 1 rfl) ?_
      refine lv_iload_n hx hb dX2_relaxAll_11 rfl (lv_at hl 2 rfl) ?_
      refine callRo (va_runV (As := [.int (nI k2)]) (rest := []) ⟨hx, hb, hml, hown, hts⟩ (c_X1_hasBridge l D C a G (k2) hG (by omega)) (cwV 1 hts gX2_relaxAll_X1_hasBridge rfl rfl rfl (by decide +kernel) ⟨Nat.le_of_ble_eq_true rfl, Nat.le_of_ble_eq_true rfl⟩) (roP_v (hP.sub (ws' := (gcells C a G)) [4, 5, 6, 7, 8, 9, 10, 11, 12] rfl) hK hE (va_recv hK (hP.sub (ws' := (gcells C a G)) [4, 5, 6, 7, 8, 9, 10, 11, 12] rfl) (ci := 4) (q0 := 0) rfl rfl)) rfl rfl hl.1 rfl (lv_room (Nat.le_of_ble_eq_true rfl)) dX2_relaxAll_12 ⟨Nat.le_refl _, Nat.le_refl _⟩) ?_
      refine bif_eq (tgt := 92) hx hb dX2_relaxAll_15 (by decide) (fun c_15 => ?_) (fun c_15 => ?_)
      · have hz := hz.trans (ifB_f c_15)
        exact J92 (rlx0_2) _ _ ls hz  hP hD hS (lv_sub hl [0, 1, 2] rfl)
      · have hz := hz.trans (ifB_t c_15)
        refine lv_aload_n hx hb dX2_relaxAll_18 rfl (lv_at hl 1 rfl) ?_
        refine va_getN (D := D) (ci := 4) (v := .ref (a 3)) (C := RX1) (T := TX1) (N := 16) hx hb hts hinX1 hown hK hP 4 rfl rfl 6 (by decide) (hE.use 6 rfl) (fun _ h9 => h9) rfl dX2_relaxAll_19 ?_
        refine lv_iload_n hx hb dX2_relaxAll_22 rfl (lv_at hl 2 rfl) ?_
        refine ialdN (tys := tyA C) hx hb hK hP 7 0 rfl rfl (i := k2) (by omega) (by decide) dX2_relaxAll_23 ?_
        have hb_1 := hlo (k2)
        refine lv_istore_n (lv' := [(3, .int (nI ((gLo G) k2))), (0, .ref (g 0)), (1, .ref (a 0)), (2, .int (nI k2))]) hx hb dX2_relaxAll_24 rfl hl (by decide) rfl (fun ls hl => ?_)
        refine lv_aload_n hx hb dX2_relaxAll_25 rfl (lv_at hl 2 rfl) ?_
        refine va_getN (D := D) (ci := 4) (v := .ref (a 4)) (C := RX1) (T := TX1) (N := 16) hx hb hts hinX1 hown hK hP 4 rfl rfl 7 (by decide) (hE.use 8 rfl) (fun _ h9 => h9) rfl dX2_relaxAll_26 ?_
        refine lv_iload_n hx hb dX2_relaxAll_29 rfl (lv_at hl 3 rfl) ?_
        refine ialdN (tys := tyA C) hx hb hK hP 8 0 rfl rfl (i := k2) (by omega) (by decide) dX2_relaxAll_30 ?_
        have hb_2 := hhi (k2)
        refine lv_istore (lv' := [(4, .int (nI ((gHi G) k2))), (3, .int (nI ((gLo G) k2))), (0, .ref (g 0)), (1, .ref (a 0)), (2, .int (nI k2))]) hx hb dX2_relaxAll_31 hl (by decide) rfl (fun ls hl => ?_)
        refine lv_aload_n hx hb dX2_relaxAll_33 rfl (lv_at hl 2 rfl) ?_
        refine va_get (D := D) (ci := 5) (v := .ref (g 2)) (C := RX2) (T := TX2) (N := 3) hx hb hts hinX2 hown hK hP 0 rfl rfl 1 (by decide) (hts (.fieldLink RX2 15 "BridgeAuction$Graph" "relaxed" "[I") (by decide +kernel)) (fun _ h9 => h9) rfl dX2_relaxAll_34 ?_
        refine lv_iload hx hb dX2_relaxAll_37 (lv_at hl 0 rfl) ?_
        refine lv_aload_n hx hb dX2_relaxAll_39 rfl (lv_at hl 2 rfl) ?_
        refine va_get (D := D) (ci := 5) (v := .ref (g 2)) (C := RX2) (T := TX2) (N := 3) hx hb hts hinX2 hown hK hP 0 rfl rfl 1 (by decide) (hts (.fieldLink RX2 15 "BridgeAuction$Graph" "relaxed" "[I") (by decide +kernel)) (fun _ h9 => h9) rfl dX2_relaxAll_40 ?_
        refine lv_iload hx hb dX2_relaxAll_43 (lv_at hl 0 rfl) ?_
        refine ialdN (tys := tyA C) hx hb hK hP 2 0 rfl rfl (i := ((gHi G) k2)) (by omega) (by decide) dX2_relaxAll_45 ?_
        refine lv_aload_n hx hb dX2_relaxAll_46 rfl (lv_at hl 2 rfl) ?_
        refine va_get (D := D) (ci := 5) (v := .ref (g 2)) (C := RX2) (T := TX2) (N := 3) hx hb hts hinX2 hown hK hP 0 rfl rfl 1 (by decide) (hts (.fieldLink RX2 15 "BridgeAuction$Graph" "relaxed" "[I") (by decide +kernel)) (fun _ h9 => h9) rfl dX2_relaxAll_47 ?_
        refine lv_iload_n hx hb dX2_relaxAll_50 rfl (lv_at hl 1 rfl) ?_
        refine ialdN (tys := tyA C) hx hb hK hP 2 0 rfl rfl (i := ((gLo G) k2)) (by omega) (by decide) dX2_relaxAll_51 ?_
        refine lv_aload_n hx hb dX2_relaxAll_52 rfl (lv_at hl 3 rfl) ?_
        refine va_getN (D := D) (ci := 4) (v := .ref (a 5)) (C := RX1) (T := TX1) (N := 16) hx hb hts hinX1 hown hK hP 4 rfl rfl 8 (by decide) (hE.use 10 rfl) (fun _ h9 => h9) rfl dX2_relaxAll_53 ?_
        refine lv_iload_n hx hb dX2_relaxAll_56 rfl (lv_at hl 4 rfl) ?_
        refine ialdN (tys := tyA C) hx hb hK hP 9 0 rfl rfl (i := k2) (by omega) (by decide) dX2_relaxAll_57 ?_
        refine lv_iadd hx hb dX2_relaxAll_58 ?_
        refine va_mmin hx hb (hml.trans hl.1.symm) hown (hts (.methodLink RX2 52 Lib.Math.min.name) (by decide +kernel)) (hts (.static Lib.Math.min.name) (by decide +kernel)) (hts (.initialized "java/lang/Math") (by decide +kernel)) (hts (.code Lib.Math.min.name Lib.Math.min.code 2 (some .int)) (by decide +kernel)) (Nat.le_of_ble_eq_true rfl) (Nat.le_of_ble_eq_true rfl) (Nat.le_of_ble_eq_true rfl) (Nat.le_of_ble_eq_true rfl) dX2_relaxAll_59 ?_
        refine topI (y := (imin (rlx0_2 ((gHi G) k2)) ((rlx0_2 ((gLo G) k2)) + ((gLen G) k2)))) rfl ?_
        refine iastN (tys := tyA C) hx hb hK hP hD hS 2 0 rfl rfl (i := ((gHi G) k2)) (by omega) (by decide) dX2_relaxAll_62 (fun H locs hP hD hS => ?_)
        have hP : va_P D vwCl (grcells C g (mkR (rNear Rr) (upd rlx0_2 ((gHi G) k2) (imin (rlx0_2 ((gHi G) k2)) ((rlx0_2 ((gLo G) k2)) + ((gLen G) k2)))) (rPar Rr)) ++ gcells C a G) H := hP
        have hD : va_D A (grcells C g (mkR (rNear Rr) (upd rlx0_2 ((gHi G) k2) (imin (rlx0_2 ((gHi G) k2)) ((rlx0_2 ((gLo G) k2)) + ((gLen G) k2)))) (rPar Rr)) ++ gcells C a G) := hD
        refine lv_aload_n hx hb dX2_relaxAll_63 rfl (lv_at hl 2 rfl) ?_
        refine va_get (D := D) (ci := 5) (v := .ref (g 2)) (C := RX2) (T := TX2) (N := 3) hx hb hts hinX2 hown hK hP 0 rfl rfl 1 (by decide) (hts (.fieldLink RX2 15 "BridgeAuction$Graph" "relaxed" "[I") (by decide +kernel)) (fun _ h9 => h9) rfl dX2_relaxAll_64 ?_
        refine lv_iload_n hx hb dX2_relaxAll_67 rfl (lv_at hl 1 rfl) ?_
        refine lv_aload_n hx hb dX2_relaxAll_68 rfl (lv_at hl 2 rfl) ?_
        refine va_get (D := D) (ci := 5) (v := .ref (g 2)) (C := RX2) (T := TX2) (N := 3) hx hb hts hinX2 hown hK hP 0 rfl rfl 1 (by decide) (hts (.fieldLink RX2 15 "BridgeAuction$Graph" "relaxed" "[I") (by decide +kernel)) (fun _ h9 => h9) rfl dX2_relaxAll_69 ?_
        refine lv_iload_n hx hb dX2_relaxAll_72 rfl (lv_at hl 1 rfl) ?_
        refine ialdN (tys := tyA C) hx hb hK hP 2 0 rfl rfl (i := ((gLo G) k2)) (by omega) (by decide) dX2_relaxAll_73 ?_
        refine lv_aload_n hx hb dX2_relaxAll_74 rfl (lv_at hl 2 rfl) ?_
        refine va_get (D := D) (ci := 5) (v := .ref (g 2)) (C := RX2) (T := TX2) (N := 3) hx hb hts hinX2 hown hK hP 0 rfl rfl 1 (by decide) (hts (.fieldLink RX2 15 "BridgeAuction$Graph" "relaxed" "[I") (by decide +kernel)) (fun _ h9 => h9) rfl dX2_relaxAll_75 ?_
        refine lv_iload hx hb dX2_relaxAll_78 (lv_at hl 0 rfl) ?_
        refine ialdN (tys := tyA C) hx hb hK hP 2 0 rfl rfl (i := ((gHi G) k2)) (by omega) (by decide) dX2_relaxAll_80 ?_
        refine lv_aload_n hx hb dX2_relaxAll_81 rfl (lv_at hl 3 rfl) ?_
        refine va_getN (D := D) (ci := 4) (v := .ref (a 5)) (C := RX1) (T := TX1) (N := 16) hx hb hts hinX1 hown hK hP 4 rfl rfl 8 (by decide) (hE.use 10 rfl) (fun _ h9 => h9) rfl dX2_relaxAll_82 ?_
        refine lv_iload_n hx hb dX2_relaxAll_85 rfl (lv_at hl 4 rfl) ?_
        refine ialdN (tys := tyA C) hx hb hK hP 9 0 rfl rfl (i := k2) (by omega) (by decide) dX2_relaxAll_86 ?_
        refine lv_iadd hx hb dX2_relaxAll_87 ?_
        refine va_mmin hx hb (hml.trans hl.1.symm) hown (hts (.methodLink RX2 52 Lib.Math.min.name) (by decide +kernel)) (hts (.static Lib.Math.min.name) (by decide +kernel)) (hts (.initialized "java/lang/Math") (by decide +kernel)) (hts (.code Lib.Math.min.name Lib.Math.min.code 2 (some .int)) (by decide +kernel)) (Nat.le_of_ble_eq_true rfl) (Nat.le_of_ble_eq_true rfl) (Nat.le_of_ble_eq_true rfl) (Nat.le_of_ble_eq_true rfl) dX2_relaxAll_88 ?_
        refine topI (y := (imin ((upd rlx0_2 ((gHi G) k2) (imin (rlx0_2 ((gHi G) k2)) ((rlx0_2 ((gLo G) k2)) + ((gLen G) k2)))) ((gLo G) k2)) (((upd rlx0_2 ((gHi G) k2) (imin (rlx0_2 ((gHi G) k2)) ((rlx0_2 ((gLo G) k2)) + ((gLen G) k2)))) ((gHi G) k2)) + ((gLen G) k2)))) rfl ?_
        refine iastN (tys := tyA C) hx hb hK hP hD hS 2 0 rfl rfl (i := ((gLo G) k2)) (by omega) (by decide) dX2_relaxAll_91 (fun H locs hP hD hS => ?_)
        have hP : va_P D vwCl (grcells C g (mkR (rNear Rr) (upd (upd rlx0_2 ((gHi G) k2) (imin (rlx0_2 ((gHi G) k2)) ((rlx0_2 ((gLo G) k2)) + ((gLen G) k2)))) ((gLo G) k2) (imin ((upd rlx0_2 ((gHi G) k2) (imin (rlx0_2 ((gHi G) k2)) ((rlx0_2 ((gLo G) k2)) + ((gLen G) k2)))) ((gLo G) k2)) (((upd rlx0_2 ((gHi G) k2) (imin (rlx0_2 ((gHi G) k2)) ((rlx0_2 ((gLo G) k2)) + ((gLen G) k2)))) ((gHi G) k2)) + ((gLen G) k2)))) (rPar Rr)) ++ gcells C a G) H := hP
        have hD : va_D A (grcells C g (mkR (rNear Rr) (upd (upd rlx0_2 ((gHi G) k2) (imin (rlx0_2 ((gHi G) k2)) ((rlx0_2 ((gLo G) k2)) + ((gLen G) k2)))) ((gLo G) k2) (imin ((upd rlx0_2 ((gHi G) k2) (imin (rlx0_2 ((gHi G) k2)) ((rlx0_2 ((gLo G) k2)) + ((gLen G) k2)))) ((gLo G) k2)) (((upd rlx0_2 ((gHi G) k2) (imin (rlx0_2 ((gHi G) k2)) ((rlx0_2 ((gLo G) k2)) + ((gLen G) k2)))) ((gHi G) k2)) + ((gLen G) k2)))) (rPar Rr)) ++ gcells C a G) := hD
        exact J92 ((upd (upd rlx0_2 ((gHi G) k2) (imin (rlx0_2 ((gHi G) k2)) ((rlx0_2 ((gLo G) k2)) + ((gLen G) k2)))) ((gLo G) k2) (imin ((upd rlx0_2 ((gHi G) k2) (imin (rlx0_2 ((gHi G) k2)) ((rlx0_2 ((gLo G) k2)) + ((gLen G) k2)))) ((gLo G) k2)) (((upd rlx0_2 ((gHi G) k2) (imin (rlx0_2 ((gHi G) k2)) ((rlx0_2 ((gLo G) k2)) + ((gLen G) k2)))) ((gHi G) k2)) + ((gLen G) k2))))) _ _ ls hz  hP hD hS (lv_sub hl [2, 3, 4] rfl)
  refine lv_iconst (v := 0) hx hb dX2_relaxAll_0 (by decide) ?_
  refine lv_istore_n (lv' := [(2, .int 0), (0, .ref (g 0)), (1, .ref (a 0))]) hx hb dX2_relaxAll_1 rfl hl (by decide) rfl (fun ls hl => ?_)
  exact J2 (gS G) 0 ((rRlx Rr)) _ _ ls (by omega) hz  hP hD hS (lv_sub hl [1, 2, 0] rfl)

