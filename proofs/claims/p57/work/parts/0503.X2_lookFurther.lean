theorem bridgedFrom_in {G : GS} (hG : GSafe G) {i : Int32} {k : Nat} (h : ¬ f_X1_bridgedFrom G i k = -1) : vp_in (f_X1_bridgedFrom G i k) 8 := by
  obtain ⟨-, -, hlo, hhi⟩ := hG
  revert h
  unfold f_X1_bridgedFrom
  simp only [f_X1_bridgedFrom_j47]
  repeat' split
  all_goals first | (intro h; exact absurd rfl h) | (intro _; exact vp_in_nI (hhi k) (by decide)) | (intro _; exact vp_in_nI (hlo k) (by decide)) | skip
def f_X2_lookFurther_j54  (near0_54 : (Nat → Int32)) : Sum (GR) ((Nat → Int32)) := (Sum.inr near0_54)
def f_X2_lookFurther_l2b (Rr : GR) (G : GS) (i : Nat) (k2 : Nat) (near0_2 : (Nat → Int32)) : Sum (GR) ((Nat → Int32)) := (if (f_X1_bridgedFrom G ((nI i)) (k2)) = (-1) then (f_X2_lookFurther_j54 (near0_2)) else (f_X2_lookFurther_j54 ((upd near0_2 ((f_X1_bridgedFrom G ((nI i)) (k2))).toNatClampNeg (imin (near0_2 ((f_X1_bridgedFrom G ((nI i)) (k2))).toNatClampNeg) ((near0_2 i) + ((gLen G) k2)))))))
def f_X2_lookFurther_l2x (Rr : GR) (G : GS) (i : Nat) (near0_2 : (Nat → Int32)) : GR := (mkR near0_2 (rRlx Rr) (rPar Rr))
def f_X2_lookFurther_l2s (Rr : GR) (G : GS) (i : Nat) (k2 : Nat) (q_ : (Nat → Int32)) : Sum (GR) ((Nat → Int32)) := f_X2_lookFurther_l2b Rr G i k2 (q_)
def f_X2_lookFurther_l2e (Rr : GR) (G : GS) (i : Nat) (q_ : (Nat → Int32)) : GR := f_X2_lookFurther_l2x Rr G i (q_)
def f_X2_lookFurther_l2 (Rr : GR) (G : GS) (i : Nat) (n2 k2 : Nat) (near0_2 : (Nat → Int32)) : GR := lpF (f_X2_lookFurther_l2s Rr G i) (f_X2_lookFurther_l2e Rr G i) n2 k2 near0_2
def f_X2_lookFurther (Rr : GR) (G : GS) (i : Nat) : GR := (f_X2_lookFurther_l2 Rr G i (gS G) 0 ((rNear Rr)))
set_option maxHeartbeats 4000000 in
set_option maxRecDepth 100000 in
theorem c_X2_lookFurther (l : Launch) (D : va_G) (C : Nat → ClassId) (g : Nat → Nat) (Rr : GR) (a : Nat → Nat) (G : GS) (i : Nat) (sz : Nat) (hG : GSafe G) (h_i : i < 8) : Met l yX2_lookFurther wsX2_lookFurther ({ frames := 2, cells := 0, slots := 0, locals := 43 } : Room) (rwP [.ref (g 0), .ref (a 0), .int (nI i)] D C (grcells C g Rr ++ gcells C a G) sz) (rwO none D (grcells C g ((f_X2_lookFurther Rr G i)) ++ gcells C a G) (va_A (grcells C g Rr ++ gcells C a G) sz)) 0 0 (va_A (grcells C g Rr ++ gcells C a G) sz) := by
  refine Met.ofW (cc := cX2_lookFurther) (maxL := 5) (ret := none) (by decide) rfl ?_
  intro p e s m args below meth c s₁ B hml hv
  obtain ⟨rfl, hsz, hP, hK, hD0, hE⟩ := hv
  have hx := B.exec
  have hb := B.bytes
  have hr := B.returns
  have hts := atoms_spec (ws := wsX2_lookFurther) B.pre
  have hown : s.vm.findClass RX2 = some m.cls := findClass_of_methodNamed B.named
  have hlocks := B.notSynchronized
  subst hsz
  have hD := hD0.self (sz := s.heap.size)
  generalize hAe : va_A (grcells C g Rr ++ gcells C a G) s.heap.size = A at hD ⊢
  have hA : ∀ q : Nat, s.heap.size ≤ q → A q := fun q h => by rw [← hAe]; exact Or.inr h
  have hS0 : va_S A s.heap s.heap [] := va_S.rf
  have hP : va_P D vwCl (grcells C g Rr ++ gcells C a G) s.heap := hP
  have hS := hS0
  obtain ⟨hS12, hP4, hlo, hhi⟩ := id hG
  have hinX1 : ∀ w ∈ u_ws RX1 TX1 16, w ∈ wsX2_lookFurther := by decide +kernel
  have hinX2 : ∀ w ∈ u_ws RX2 TX2 3, w ∈ wsX2_lookFurther := by decide +kernel
  have hl := lv_entry ([.ref (g 0), .ref (a 0), .int (nI i)]) (n := 5) (Nat.le_of_ble_eq_true rfl)
  rw [lg_entry_eq]
  generalize (lg_sl ([.ref (g 0), .ref (a 0), .int (nI i)]) ++ List.replicate (5 - (lg_sl ([.ref (g 0), .ref (a 0), .int (nI i)])).length) Slot.unset).toArray = ls at hl ⊢
  have hl : lv_has ls 5 [(0, .ref (g 0)), (1, .ref (a 0)), (2, .int (nI i))] := hl
  obtain ⟨z, hz⟩ : ∃ z, z = f_X2_lookFurther Rr G i := ⟨_, rfl⟩
  rw [← hz]
  have J2 : ∀ (n2 k2 : Nat) (near0_2 : (Nat → Int32)) (H : Heap) (locs : List Loc) (ls : Array Slot), k2 + n2 = gS G → z = f_X2_lookFurther_l2 Rr G i n2 k2 near0_2 → va_P D vwCl (grcells C g (mkR near0_2 (rRlx Rr) (rPar Rr)) ++ gcells C a G) H → va_D A (grcells C g (mkR near0_2 (rRlx Rr) (rPar Rr)) ++ gcells C a G) → va_S A s.heap H locs → lv_has ls 5 [(0, .ref (g 0)), (1, .ref (a 0)), (2, .int (nI i)), (3, .int (nI k2))] → W p l e ({ frames := 2, cells := 0, slots := 0, locals := 43 } : Room) s m ([.ref (g 0), .ref (a 0), .int (nI i)] : List Value).toArray below meth c H locs 0 0 (MQ below (rwO none D (grcells C g z ++ gcells C a G) A) ([.ref (g 0), .ref (a 0), .int (nI i)] : List Value).toArray s 0 0 A) (F0 m 2 ls []) := by
    intro n2
    induction n2 with
    | zero =>
      intro k2 near0_2 H locs ls hk2 hz  hP hD hS hl
      have hz : z = f_X2_lookFurther_l2x Rr G i near0_2 := hz
      refine lv_iload_n hx hb dX2_lookFurther_2 rfl (lv_at hl 3 rfl) ?_
      refine lv_aload_n hx hb dX2_lookFurther_3 rfl (lv_at hl 1 rfl) ?_
      refine va_getN (D := D) (ci := 4) (v := .int (nI (gS G))) (C := RX1) (T := TX1) (N := 16) hx hb hts hinX1 hown hK hP 4 rfl rfl 5 (by decide) (hE.use 4 rfl) (fun _ h9 => h9) rfl dX2_lookFurther_4 ?_
      refine lv_icmp_ge (tgt := 60) hx hb dX2_lookFurther_7 (by decide) (fun c_7 => ?_) (fun c_7 => absurd (nI_le (by omega) (by omega)) c_7)
      have hz : z = (mkR near0_2 (rRlx Rr) (rPar Rr)) := hz
      rw [hz]
      exact rw_retV hx hb hr hP hS dX2_lookFurther_60 hlocks
    | succ n2 ih2 =>
      intro k2 near0_2 H locs ls hk2 hz2  hP hD hS hl
      obtain ⟨z2, hz⟩ : ∃ zz_, zz_ = f_X2_lookFurther_l2b Rr G i k2 near0_2 := ⟨_, rfl⟩
      have hq2 : z = sE id (fun q_ => lpF (f_X2_lookFurther_l2s Rr G i) (f_X2_lookFurther_l2e Rr G i) n2 (k2 + 1) q_) z2 := by rw [hz2, hz]; rfl
      have J54 : ∀ (near0_54 : (Nat → Int32))  (H : Heap) (locs : List Loc) (ls : Array Slot), z2 = f_X2_lookFurther_j54 near0_54 → va_P D vwCl (grcells C g (mkR near0_54 (rRlx Rr) (rPar Rr)) ++ gcells C a G) H → va_D A (grcells C g (mkR near0_54 (rRlx Rr) (rPar Rr)) ++ gcells C a G) → va_S A s.heap H locs → lv_has ls 5 [(0, .ref (g 0)), (1, .ref (a 0)), (2, .int (nI i)), (3, .int (nI k2))] → W p l e ({ frames := 2, cells := 0, slots := 0, locals := 43 } : Room) s m ([.ref (g 0), .ref (a 0), .int (nI i)] : List Value).toArray below meth c H locs 0 0 (MQ below (rwO none D (grcells C g z ++ gcells C a G) A) ([.ref (g 0), .ref (a 0), .int (nI i)] : List Value).toArray s 0 0 A) (F0 m 54 ls []) := by
        intro near0_54 H locs ls hz  hP hD hS hl
        refine lv_iinc (v := (nI (k2 + 1))) (lv' := [(3, .int (nI (k2 + 1))), (0, .ref (g 0)), (1, .ref (a 0)), (2, .int (nI i))]) hx hb dX2_lookFurther_54 hl (k := 3) rfl (by exact nI_1 _) (by decide) rfl (fun ls hl => ?_)
        refine lv_goto (tgt := 2) hx hb dX2_lookFurther_57 (by decide) ?_
        exact ih2 (k2 + 1) (near0_54) _ _ ls (by omega) (by rw [hq2, hz]; rfl)  hP hD hS (lv_sub hl [1, 2, 3, 0] rfl)
      refine lv_iload_n hx hb dX2_lookFurther_2 rfl (lv_at hl 3 rfl) ?_
      refine lv_aload_n hx hb dX2_lookFurther_3 rfl (lv_at hl 1 rfl) ?_
      refine va_getN (D := D) (ci := 4) (v := .int (nI (gS G))) (C := RX1) (T := TX1) (N := 16) hx hb hts hinX1 hown hK hP 4 rfl rfl 5 (by decide) (hE.use 4 rfl) (fun _ h9 => h9) rfl dX2_lookFurther_4 ?_
      refine lv_icmp_ge (tgt := 60) hx hb dX2_lookFurther_7 (by decide) (fun c_7 => absurd c_7 (nI_ge (by omega) (by omega))) (fun c_7 => ?_)
      refine lv_aload_n hx hb dX2_lookFurther_10 rfl (lv_at hl 1 rfl) ?_
      refine lv_iload_n hx hb dX2_lookFurther_11 rfl (lv_at hl 2 rfl) ?_
      refine lv_iload_n hx hb dX2_lookFurther_12 rfl (lv_at hl 3 rfl) ?_
      refine callRo (va_runV (As := [.int (nI i), .int (nI k2)]) (rest := []) ⟨hx, hb, hml, hown, hts⟩ (c_X1_bridgedFrom l D C a G ((nI i)) (k2) hG (by omega)) (cwV 2 hts gX2_lookFurther_X1_bridgedFrom rfl rfl rfl (by decide +kernel) ⟨Nat.le_of_ble_eq_true rfl, Nat.le_of_ble_eq_true rfl⟩) (roP_v (hP.sub (ws' := (gcells C a G)) [4, 5, 6, 7, 8, 9, 10, 11, 12] rfl) hK hE (va_recv hK (hP.sub (ws' := (gcells C a G)) [4, 5, 6, 7, 8, 9, 10, 11, 12] rfl) (ci := 4) (q0 := 0) rfl rfl)) rfl rfl hl.1 rfl (lv_room (Nat.le_of_ble_eq_true rfl)) dX2_lookFurther_13 ⟨Nat.le_refl _, Nat.le_refl _⟩) ?_
      refine lv_istore (lv' := [(4, .int (f_X1_bridgedFrom G ((nI i)) (k2))), (0, .ref (g 0)), (1, .ref (a 0)), (2, .int (nI i)), (3, .int (nI k2))]) hx hb dX2_lookFurther_16 hl (by decide) rfl (fun ls hl => ?_)
      refine lv_iload hx hb dX2_lookFurther_18 (lv_at hl 0 rfl) ?_
      refine lv_iconst (v := (-1)) hx hb dX2_lookFurther_20 (by decide) ?_
      refine lv_icmp_eq (tgt := 54) hx hb dX2_lookFurther_21 (by decide) (fun c_21 => ?_) (fun c_21 => ?_)
      · have hz := hz.trans (if_pos c_21)
        exact J54 (near0_2) _ _ ls hz  hP hD hS (lv_sub hl [1, 2, 3, 4] rfl)
      · have hz := hz.trans (if_neg c_21)
        refine lv_aload_n hx hb dX2_lookFurther_24 rfl (lv_at hl 1 rfl) ?_
        refine va_get (D := D) (ci := 5) (v := .ref (g 1)) (C := RX2) (T := TX2) (N := 3) hx hb hts hinX2 hown hK hP 0 rfl rfl 0 (by decide) (hts (.fieldLink RX2 9 "BridgeAuction$Graph" "nearest" "[I") (by decide +kernel)) (fun _ h9 => h9) rfl dX2_lookFurther_25 ?_
        refine lv_iload hx hb dX2_lookFurther_28 (lv_at hl 0 rfl) ?_
        refine lv_aload_n hx hb dX2_lookFurther_30 rfl (lv_at hl 1 rfl) ?_
        refine va_get (D := D) (ci := 5) (v := .ref (g 1)) (C := RX2) (T := TX2) (N := 3) hx hb hts hinX2 hown hK hP 0 rfl rfl 0 (by decide) (hts (.fieldLink RX2 9 "BridgeAuction$Graph" "nearest" "[I") (by decide +kernel)) (fun _ h9 => h9) rfl dX2_lookFurther_31 ?_
        refine lv_iload hx hb dX2_lookFurther_34 (lv_at hl 0 rfl) ?_
        obtain ⟨ehn_1, lhn_1⟩ := nat_of (x := (f_X1_bridgedFrom G ((nI i)) (k2))) (n := 8) (by exact bridgedFrom_in hG c_21) (by omega)
        refine topN ehn_1 ?_
        refine ialdN (tys := tyA C) hx hb hK hP 1 0 rfl rfl (i := ((f_X1_bridgedFrom G ((nI i)) (k2))).toNatClampNeg) (by omega) (by decide) dX2_lookFurther_36 ?_
        refine lv_aload_n hx hb dX2_lookFurther_37 rfl (lv_at hl 1 rfl) ?_
        refine va_get (D := D) (ci := 5) (v := .ref (g 1)) (C := RX2) (T := TX2) (N := 3) hx hb hts hinX2 hown hK hP 0 rfl rfl 0 (by decide) (hts (.fieldLink RX2 9 "BridgeAuction$Graph" "nearest" "[I") (by decide +kernel)) (fun _ h9 => h9) rfl dX2_lookFurther_38 ?_
        refine lv_iload_n hx hb dX2_lookFurther_41 rfl (lv_at hl 3 rfl) ?_
        refine ialdN (tys := tyA C) hx hb hK hP 1 0 rfl rfl (i := i) (by omega) (by decide) dX2_lookFurther_42 ?_
        refine lv_aload_n hx hb dX2_lookFurther_43 rfl (lv_at hl 2 rfl) ?_
        refine va_getN (D := D) (ci := 4) (v := .ref (a 5)) (C := RX1) (T := TX1) (N := 16) hx hb hts hinX1 hown hK hP 4 rfl rfl 8 (by decide) (hE.use 10 rfl) (fun _ h9 => h9) rfl dX2_lookFurther_44 ?_
        refine lv_iload_n hx hb dX2_lookFurther_47 rfl (lv_at hl 4 rfl) ?_
        refine ialdN (tys := tyA C) hx hb hK hP 9 0 rfl rfl (i := k2) (by omega) (by decide) dX2_lookFurther_48 ?_
        refine lv_iadd hx hb dX2_lookFurther_49 ?_
        refine va_mmin hx hb (hml.trans hl.1.symm) hown (hts (.methodLink RX2 52 Lib.Math.min.name) (by decide +kernel)) (hts (.static Lib.Math.min.name) (by decide +kernel)) (hts (.initialized "java/lang/Math") (by decide +kernel)) (hts (.code Lib.Math.min.name Lib.Math.min.code 2 (some .int)) (by decide +kernel)) (Nat.le_of_ble_eq_true rfl) (Nat.le_of_ble_eq_true rfl) (Nat.le_of_ble_eq_true rfl) (Nat.le_of_ble_eq_true rfl) dX2_lookFurther_50 ?_
        refine topI (y := (imin (near0_2 ((f_X1_bridgedFrom G ((nI i)) (k2))).toNatClampNeg) ((near0_2 i) + ((gLen G) k2)))) rfl ?_
        obtain ⟨ehn_2, lhn_2⟩ := nat_of (x := (f_X1_bridgedFrom G ((nI i)) (k2))) (n := 8) (by exact bridgedFrom_in hG c_21) (by omega)
        refine topN2 ehn_2 ?_
        refine iastN (tys := tyA C) hx hb hK hP hD hS 1 0 rfl rfl (i := ((f_X1_bridgedFrom G ((nI i)) (k2))).toNatClampNeg) (by omega) (by decide) dX2_lookFurther_53 (fun H locs hP hD hS => ?_)
        have hP : va_P D vwCl (grcells C g (mkR (upd near0_2 ((f_X1_bridgedFrom G ((nI i)) (k2))).toNatClampNeg (imin (near0_2 ((f_X1_bridgedFrom G ((nI i)) (k2))).toNatClampNeg) ((near0_2 i) + ((gLen G) k2)))) (rRlx Rr) (rPar Rr)) ++ gcells C a G) H := hP
        have hD : va_D A (grcells C g (mkR (upd near0_2 ((f_X1_bridgedFrom G ((nI i)) (k2))).toNatClampNeg (imin (near0_2 ((f_X1_bridgedFrom G ((nI i)) (k2))).toNatClampNeg) ((near0_2 i) + ((gLen G) k2)))) (rRlx Rr) (rPar Rr)) ++ gcells C a G) := hD
        exact J54 ((upd near0_2 ((f_X1_bridgedFrom G ((nI i)) (k2))).toNatClampNeg (imin (near0_2 ((f_X1_bridgedFrom G ((nI i)) (k2))).toNatClampNeg) ((near0_2 i) + ((gLen G) k2))))) _ _ ls hz  hP hD hS (lv_sub hl [1, 2, 3, 4] rfl)
  refine lv_iconst (v := 0) hx hb dX2_lookFurther_0 (by decide) ?_
  refine lv_istore_n (lv' := [(3, .int 0), (0, .ref (g 0)), (1, .ref (a 0)), (2, .int (nI i))]) hx hb dX2_lookFurther_1 rfl hl (by decide) rfl (fun ls hl => ?_)
  exact J2 (gS G) 0 ((rNear Rr)) _ _ ls (by omega) hz  hP hD hS (lv_sub hl [1, 2, 3, 0] rfl)

