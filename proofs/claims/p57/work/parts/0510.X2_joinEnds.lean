theorem rootOf_lt {R : GR} (hR : RSafe R) {i : Nat} (hi : i < 8) : f_X2_rootOf R i < 8 := by
  refine lpF_invN (step := f_X2_rootOf_l4s R) (ex := f_X2_rootOf_l4e R) 8 (fun _ v => v < 8) (fun r => r < 8) ?_ ?_ ?_ 8 0 _ rfl hi
  · intro k s r _ hI h
    simp only [f_X2_rootOf_l4s, f_X2_rootOf_l4b, f_X2_rootOf_j33] at h
    split at h
    · cases h; exact hI
    · cases h
  · intro k s s' _ _ h
    simp only [f_X2_rootOf_l4s, f_X2_rootOf_l4b, f_X2_rootOf_j33] at h
    split at h
    · cases h
    · cases h; exact hR s
  · intro s hI; exact hI
def f_X2_joinEnds_j42 (Rr : GR) (s0_42 : Bool) (par0_42 : (Nat → Nat)) : Bool × GR := (s0_42, (mkR (rNear Rr) (rRlx Rr) par0_42))
def f_X2_joinEnds (Rr : GR) (G : GS) (k : Nat) : Bool × GR := (if (nI (f_X2_rootOf Rr (((gLo G) k)))) = (nI (f_X2_rootOf Rr (((gHi G) k)))) then (f_X2_joinEnds_j42 Rr (false) ((updN (rPar Rr) (f_X2_rootOf Rr (((gLo G) k))) (f_X2_rootOf Rr (((gHi G) k)))))) else (f_X2_joinEnds_j42 Rr (true) ((updN (rPar Rr) (f_X2_rootOf Rr (((gLo G) k))) (f_X2_rootOf Rr (((gHi G) k)))))))
set_option maxHeartbeats 4000000 in
set_option maxRecDepth 100000 in
theorem c_X2_joinEnds (l : Launch) (D : va_G) (C : Nat → ClassId) (g : Nat → Nat) (Rr : GR) (a : Nat → Nat) (G : GS) (k : Nat) (sz : Nat) (hR : RSafe Rr) (hG : GSafe G) (h_k : k < 12) : Met l yX2_joinEnds wsX2_joinEnds ({ frames := 1, cells := 0, slots := 0, locals := 23 } : Room) (rwP [.ref (g 0), .ref (a 0), .int (nI k)] D C (grcells C g Rr ++ gcells C a G) sz) (rwO (some (.int (bI ((f_X2_joinEnds Rr G k).1)))) D (grcells C g ((f_X2_joinEnds Rr G k).2) ++ gcells C a G) (va_A (grcells C g Rr ++ gcells C a G) sz)) 0 0 (va_A (grcells C g Rr ++ gcells C a G) sz) := by
  refine Met.ofW (cc := cX2_joinEnds) (maxL := 5) (ret := (some .boolean)) (by decide) rfl ?_
  intro p e s m args below meth c s₁ B hml hv
  obtain ⟨rfl, hsz, hP, hK, hD0, hE⟩ := hv
  have hx := B.exec
  have hb := B.bytes
  have hr := B.returns
  have hts := atoms_spec (ws := wsX2_joinEnds) B.pre
  have hown : s.vm.findClass RX2 = some m.cls := findClass_of_methodNamed B.named
  have hlocks := B.notSynchronized
  subst hsz
  have hD := hD0.self (sz := s.heap.size)
  generalize hAe : va_A (grcells C g Rr ++ gcells C a G) s.heap.size = A at hD ⊢
  have hA : ∀ q : Nat, s.heap.size ≤ q → A q := fun q h => by rw [← hAe]; exact Or.inr h
  have hS0 : va_S A s.heap s.heap [] := va_S.rf
  have hP : va_P D vwCl (grcells C g Rr ++ gcells C a G) s.heap := hP
  have hS := hS0
  obtain hpar := id hR
  obtain ⟨hS12, hP4, hlo, hhi⟩ := id hG
  have hinX1 : ∀ w ∈ u_ws RX1 TX1 16, w ∈ wsX2_joinEnds := by decide +kernel
  have hinX2 : ∀ w ∈ u_ws RX2 TX2 3, w ∈ wsX2_joinEnds := by decide +kernel
  have hl := lv_entry ([.ref (g 0), .ref (a 0), .int (nI k)]) (n := 5) (Nat.le_of_ble_eq_true rfl)
  rw [lg_entry_eq]
  generalize (lg_sl ([.ref (g 0), .ref (a 0), .int (nI k)]) ++ List.replicate (5 - (lg_sl ([.ref (g 0), .ref (a 0), .int (nI k)])).length) Slot.unset).toArray = ls at hl ⊢
  have hl : lv_has ls 5 [(0, .ref (g 0)), (1, .ref (a 0)), (2, .int (nI k))] := hl
  obtain ⟨z, hz⟩ : ∃ z, z = f_X2_joinEnds Rr G k := ⟨_, rfl⟩
  rw [← hz]
  have J42 : ∀ (s0_42 : Bool) (par0_42 : (Nat → Nat))  (H : Heap) (locs : List Loc) (ls : Array Slot), z = f_X2_joinEnds_j42 Rr s0_42 par0_42 → va_P D vwCl (grcells C g (mkR (rNear Rr) (rRlx Rr) par0_42) ++ gcells C a G) H → va_D A (grcells C g (mkR (rNear Rr) (rRlx Rr) par0_42) ++ gcells C a G) → va_S A s.heap H locs → lv_has ls 5 [] → W p l e ({ frames := 1, cells := 0, slots := 0, locals := 23 } : Room) s m ([.ref (g 0), .ref (a 0), .int (nI k)] : List Value).toArray below meth c H locs 0 0 (MQ below (rwO (some (.int (bI z.1))) D (grcells C g z.2 ++ gcells C a G) A) ([.ref (g 0), .ref (a 0), .int (nI k)] : List Value).toArray s 0 0 A) (F0 m 42 ls [.int (bI s0_42)]) := by
    intro s0_42 par0_42 H locs ls hz  hP hD hS hl
    have hz : z = (s0_42, (mkR (rNear Rr) (rRlx Rr) par0_42)) := hz
    rw [hz]
    exact rw_retB hx hb hr hP hS rfl dX2_joinEnds_42 hlocks
  refine lv_aload_n hx hb dX2_joinEnds_0 rfl (lv_at hl 0 rfl) ?_
  refine lv_aload_n hx hb dX2_joinEnds_1 rfl (lv_at hl 1 rfl) ?_
  refine va_getN (D := D) (ci := 4) (v := .ref (a 3)) (C := RX1) (T := TX1) (N := 16) hx hb hts hinX1 hown hK hP 4 rfl rfl 6 (by decide) (hE.use 6 rfl) (fun _ h9 => h9) rfl dX2_joinEnds_2 ?_
  refine lv_iload_n hx hb dX2_joinEnds_5 rfl (lv_at hl 2 rfl) ?_
  refine ialdN (tys := tyA C) hx hb hK hP 7 0 rfl rfl (i := k) (by omega) (by decide) dX2_joinEnds_6 ?_
  have hb_1 := hlo (k)
  refine callRo (va_runV (As := [.int (nI ((gLo G) k))]) (rest := []) ⟨hx, hb, hml, hown, hts⟩ (c_X2_rootOf l D C g Rr (((gLo G) k)) hR (by omega)) (cwV 1 hts gX2_joinEnds_X2_rootOf rfl rfl rfl (by decide +kernel) ⟨Nat.le_of_ble_eq_true rfl, Nat.le_of_ble_eq_true rfl⟩) (roP_v (hP.sub (ws' := (grcells C g Rr)) [0, 1, 2, 3] rfl) hK hE (va_recv hK (hP.sub (ws' := (grcells C g Rr)) [0, 1, 2, 3] rfl) (ci := 5) (q0 := 0) rfl rfl)) rfl rfl hl.1 rfl (lv_room (Nat.le_of_ble_eq_true rfl)) dX2_joinEnds_7 ⟨Nat.le_refl _, Nat.le_refl _⟩) ?_
  have hr1 := rootOf_lt hR (hlo k)
  refine lv_istore_n (lv' := [(3, .int (nI (f_X2_rootOf Rr (((gLo G) k))))), (0, .ref (g 0)), (1, .ref (a 0)), (2, .int (nI k))]) hx hb dX2_joinEnds_10 rfl hl (by decide) rfl (fun ls hl => ?_)
  refine lv_aload_n hx hb dX2_joinEnds_11 rfl (lv_at hl 1 rfl) ?_
  refine lv_aload_n hx hb dX2_joinEnds_12 rfl (lv_at hl 2 rfl) ?_
  refine va_getN (D := D) (ci := 4) (v := .ref (a 4)) (C := RX1) (T := TX1) (N := 16) hx hb hts hinX1 hown hK hP 4 rfl rfl 7 (by decide) (hE.use 8 rfl) (fun _ h9 => h9) rfl dX2_joinEnds_13 ?_
  refine lv_iload_n hx hb dX2_joinEnds_16 rfl (lv_at hl 3 rfl) ?_
  refine ialdN (tys := tyA C) hx hb hK hP 8 0 rfl rfl (i := k) (by omega) (by decide) dX2_joinEnds_17 ?_
  have hb_2 := hhi (k)
  refine callRo (va_runV (As := [.int (nI ((gHi G) k))]) (rest := []) ⟨hx, hb, hml, hown, hts⟩ (c_X2_rootOf l D C g Rr (((gHi G) k)) hR (by omega)) (cwV 1 hts gX2_joinEnds_X2_rootOf rfl rfl rfl (by decide +kernel) ⟨Nat.le_of_ble_eq_true rfl, Nat.le_of_ble_eq_true rfl⟩) (roP_v (hP.sub (ws' := (grcells C g Rr)) [0, 1, 2, 3] rfl) hK hE (va_recv hK (hP.sub (ws' := (grcells C g Rr)) [0, 1, 2, 3] rfl) (ci := 5) (q0 := 0) rfl rfl)) rfl rfl hl.1 rfl (lv_room (Nat.le_of_ble_eq_true rfl)) dX2_joinEnds_18 ⟨Nat.le_refl _, Nat.le_refl _⟩) ?_
  have hr2 := rootOf_lt hR (hhi k)
  refine lv_istore (lv' := [(4, .int (nI (f_X2_rootOf Rr (((gHi G) k))))), (3, .int (nI (f_X2_rootOf Rr (((gLo G) k))))), (0, .ref (g 0)), (1, .ref (a 0)), (2, .int (nI k))]) hx hb dX2_joinEnds_21 hl (by decide) rfl (fun ls hl => ?_)
  refine lv_aload_n hx hb dX2_joinEnds_23 rfl (lv_at hl 2 rfl) ?_
  refine va_get (D := D) (ci := 5) (v := .ref (g 3)) (C := RX2) (T := TX2) (N := 3) hx hb hts hinX2 hown hK hP 0 rfl rfl 2 (by decide) (hts (.fieldLink RX2 18 "BridgeAuction$Graph" "parents" "[I") (by decide +kernel)) (fun _ h9 => h9) rfl dX2_joinEnds_24 ?_
  refine lv_iload_n hx hb dX2_joinEnds_27 rfl (lv_at hl 1 rfl) ?_
  refine lv_iload hx hb dX2_joinEnds_28 (lv_at hl 0 rfl) ?_
  refine iastNN (tys := tyA C) hx hb hK hP hD hS 3 0 rfl rfl (i := (f_X2_rootOf Rr (((gLo G) k)))) (by omega) (by decide) dX2_joinEnds_30 (fun H locs hP hD hS => ?_)
  have hP : va_P D vwCl (grcells C g (mkR (rNear Rr) (rRlx Rr) (updN (rPar Rr) (f_X2_rootOf Rr (((gLo G) k))) (f_X2_rootOf Rr (((gHi G) k))))) ++ gcells C a G) H := hP
  have hD : va_D A (grcells C g (mkR (rNear Rr) (rRlx Rr) (updN (rPar Rr) (f_X2_rootOf Rr (((gLo G) k))) (f_X2_rootOf Rr (((gHi G) k))))) ++ gcells C a G) := hD
  refine lv_iload_n hx hb dX2_joinEnds_31 rfl (lv_at hl 1 rfl) ?_
  refine lv_iload hx hb dX2_joinEnds_32 (lv_at hl 0 rfl) ?_
  refine lv_icmp_eq (tgt := 41) hx hb dX2_joinEnds_34 (by decide) (fun c_34 => ?_) (fun c_34 => ?_)
  · have hz := hz.trans (if_pos c_34)
    refine lv_iconst (v := 0) hx hb dX2_joinEnds_41 (by decide) ?_
    exact J42 (false) ((updN (rPar Rr) (f_X2_rootOf Rr (((gLo G) k))) (f_X2_rootOf Rr (((gHi G) k))))) _ _ ls hz  hP hD hS (lv_sub hl [] rfl)
  · have hz := hz.trans (if_neg c_34)
    refine lv_iconst (v := 1) hx hb dX2_joinEnds_37 (by decide) ?_
    refine lv_goto (tgt := 42) hx hb dX2_joinEnds_38 (by decide) ?_
    exact J42 (true) ((updN (rPar Rr) (f_X2_rootOf Rr (((gLo G) k))) (f_X2_rootOf Rr (((gHi G) k))))) _ _ ls hz  hP hD hS (lv_sub hl [] rfl)

