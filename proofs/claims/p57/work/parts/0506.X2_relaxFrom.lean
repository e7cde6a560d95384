def f_X2_relaxFrom_l19b (G : GS) (k19 : Nat) (Rr_19 : GR) : Sum (GR) (GR) := (lt_ (f_X2_relaxAll Rr_19 G) (fun y27 => (Sum.inr y27)))
def f_X2_relaxFrom_l19x (G : GS) (Rr_19 : GR) : GR := Rr_19
def f_X2_relaxFrom_l19s (G : GS) (k19 : Nat) (q_ : GR) : Sum (GR) (GR) := f_X2_relaxFrom_l19b G k19 (q_)
def f_X2_relaxFrom_l19e (G : GS) (q_ : GR) : GR := f_X2_relaxFrom_l19x G (q_)
def f_X2_relaxFrom_l19 (G : GS) (n19 k19 : Nat) (Rr_19 : GR) : GR := lpF (f_X2_relaxFrom_l19s G) (f_X2_relaxFrom_l19e G) n19 k19 Rr_19
def f_X2_relaxFrom (Rr : GR) (G : GS) (i : Nat) : GR := (lt_ (f_J7_fill_53178 (rRlx Rr) (1000)) (fun y7 => (f_X2_relaxFrom_l19 G (8 - 1) 1 ((mkR (rNear Rr) (upd y7 i 0) (rPar Rr))))))
set_option maxHeartbeats 4000000 in
set_option maxRecDepth 100000 in
theorem c_X2_relaxFrom (l : Launch) (D : va_G) (C : Nat → ClassId) (g : Nat → Nat) (Rr : GR) (a : Nat → Nat) (G : GS) (i : Nat) (sz : Nat) (hG : GSafe G) (h_i : i < 8) : Met l yX2_relaxFrom wsX2_relaxFrom ({ frames := 2, cells := 0, slots := 0, locals := 45 } : Room) (rwP [.ref (g 0), .ref (a 0), .int (nI i)] D C (grcells C g Rr ++ gcells C a G) sz) (rwO none D (grcells C g ((f_X2_relaxFrom Rr G i)) ++ gcells C a G) (va_A (grcells C g Rr ++ gcells C a G) sz)) 0 0 (va_A (grcells C g Rr ++ gcells C a G) sz) := by
  refine Met.ofW (cc := cX2_relaxFrom) (maxL := 4) (ret := none) (by decide) rfl ?_
  intro p e s m args below meth c s₁ B hml hv
  obtain ⟨rfl, hsz, hP, hK, hD0, hE⟩ := hv
  have hx := B.exec
  have hb := B.bytes
  have hr := B.returns
  have hts := atoms_spec (ws := wsX2_relaxFrom) B.pre
  have hown : s.vm.findClass RX2 = some m.cls := findClass_of_methodNamed B.named
  have hlocks := B.notSynchronized
  subst hsz
  have hD := hD0.self (sz := s.heap.size)
  generalize hAe : va_A (grcells C g Rr ++ gcells C a G) s.heap.size = A at hD ⊢
  have hA : ∀ q : Nat, s.heap.size ≤ q → A q := fun q h => by rw [← hAe]; exact Or.inr h
  have hS0 : va_S A s.heap s.heap [] := va_S.rf
  have hP : va_P D vwCl (grcells C g Rr ++ gcells C a G) s.heap := hP
  have hS := hS0
  obtain ⟨hS12, hP4, hlo, hhi⟩ := id hG
  have hinX2 : ∀ w ∈ u_ws RX2 TX2 3, w ∈ wsX2_relaxFrom := by decide +kernel
  have hl := lv_entry ([.ref (g 0), .ref (a 0), .int (nI i)]) (n := 4) (Nat.le_of_ble_eq_true rfl)
  rw [lg_entry_eq]
  generalize (lg_sl ([.ref (g 0), .ref (a 0), .int (nI i)]) ++ List.replicate (4 - (lg_sl ([.ref (g 0), .ref (a 0), .int (nI i)])).length) Slot.unset).toArray = ls at hl ⊢
  have hl : lv_has ls 4 [(0, .ref (g 0)), (1, .ref (a 0)), (2, .int (nI i))] := hl
  obtain ⟨z, hz⟩ : ∃ z, z = f_X2_relaxFrom Rr G i := ⟨_, rfl⟩
  rw [← hz]
  have J19 : ∀ (n19 k19 : Nat) (Rr_19 : GR) (H : Heap) (locs : List Loc) (ls : Array Slot), k19 + n19 = 8 → z = f_X2_relaxFrom_l19 G n19 k19 Rr_19 → va_P D vwCl (grcells C g Rr_19 ++ gcells C a G) H → va_D A (grcells C g Rr_19 ++ gcells C a G) → va_S A s.heap H locs → lv_has ls 4 [(0, .ref (g 0)), (1, .ref (a 0)), (3, .int (nI k19))] → W p l e ({ frames := 2, cells := 0, slots := 0, locals := 45 } : Room) s m ([.ref (g 0), .ref (a 0), .int (nI i)] : List Value).toArray below meth c H locs 0 0 (MQ below (rwO none D (grcells C g z ++ gcells C a G) A) ([.ref (g 0), .ref (a 0), .int (nI i)] : List Value).toArray s 0 0 A) (F0 m 19 ls []) := by
    intro n19
    induction n19 with
    | zero =>
      intro k19 Rr_19 H locs ls hk19 hz  hP hD hS hl
      have hz : z = f_X2_relaxFrom_l19x G Rr_19 := hz
      refine lv_iload_n hx hb dX2_relaxFrom_19 rfl (lv_at hl 2 rfl) ?_
      refine lv_bipush (v := 8) hx hb dX2_relaxFrom_20 (by decide +kernel) ?_
      refine lv_icmp_ge (tgt := 36) hx hb dX2_relaxFrom_22 (by decide) (fun c_22 => ?_) (fun c_22 => absurd (by have e : (8 : Int32) = nI 8 := (by decide +kernel); rw [e]; exact nI_le (by omega) (by omega)) c_22)
      have hz : z = Rr_19 := hz
      rw [hz]
      exact rw_retV hx hb hr hP hS dX2_relaxFrom_36 hlocks
    | succ n19 ih19 =>
      intro k19 Rr_19 H locs ls hk19 hz19  hP hD hS hl
      obtain ⟨z19, hz⟩ : ∃ zz_, zz_ = f_X2_relaxFrom_l19b G k19 Rr_19 := ⟨_, rfl⟩
      have hq19 : z = sE id (fun q_ => lpF (f_X2_relaxFrom_l19s G) (f_X2_relaxFrom_l19e G) n19 (k19 + 1) q_) z19 := by rw [hz19, hz]; rfl
      refine lv_iload_n hx hb dX2_relaxFrom_19 rfl (lv_at hl 2 rfl) ?_
      refine lv_bipush (v := 8) hx hb dX2_relaxFrom_20 (by decide +kernel) ?_
      refine lv_icmp_ge (tgt := 36) hx hb dX2_relaxFrom_22 (by decide) (fun c_22 => absurd c_22 (by have e : (8 : Int32) = nI 8 := (by decide +kernel); rw [e]; exact nI_ge (by omega) (by omega))) (fun c_22 => ?_)
      refine lv_aload_n hx hb dX2_relaxFrom_25 rfl (lv_at hl 0 rfl) ?_
      refine lv_aload_n hx hb dX2_relaxFrom_26 rfl (lv_at hl 1 rfl) ?_
      have hFc := va_free (wc := (grcells C g Rr_19 ++ gcells C a G)) hD hS hA [0, 1, 2, 3, 4, 5, 6, 7, 8, 9, 10, 11, 12] rfl
      refine callRw (va_runV (As := [.ref (a 0)]) (rest := []) ⟨hx, hb, hml, hown, hts⟩ (c_X2_relaxAll l D C g Rr_19 a G _ hG) (cwV 1 hts gX2_relaxFrom_X2_relaxAll rfl rfl rfl (by decide +kernel) ⟨Nat.le_of_ble_eq_true rfl, Nat.le_of_ble_eq_true rfl⟩) (rwP_v hP hK hE hD (va_recv hK hP (ci := 5) (q0 := 0) rfl rfl)) rfl rfl hl.1 rfl (lv_room (Nat.le_of_ble_eq_true rfl)) dX2_relaxFrom_27 ⟨Nat.le_refl _, Nat.le_refl _⟩) hS hFc (fun H1 locs hPn hk hS => ?_)
      generalize hy27 : (f_X2_relaxAll Rr_19 G) = y27 at hPn ⊢
      have hz := lt_eq hz hy27.symm
      have hP : va_P D vwCl (grcells C g y27 ++ gcells C a G) H1 := hPn
      have hD : va_D A (grcells C g y27 ++ gcells C a G) := adr_D hD rfl
      generalize H1 = H at hP hS ⊢
      refine lv_iinc (v := (nI (k19 + 1))) (lv' := [(3, .int (nI (k19 + 1))), (0, .ref (g 0)), (1, .ref (a 0))]) hx hb dX2_relaxFrom_30 hl (k := 2) rfl (by exact nI_1 _) (by decide) rfl (fun ls hl => ?_)
      refine lv_goto (tgt := 19) hx hb dX2_relaxFrom_33 (by decide) ?_
      exact ih19 (k19 + 1) (y27) _ _ ls (by omega) (by rw [hq19, hz]; rfl)  hP hD hS (lv_sub hl [1, 2, 0] rfl)
  refine lv_aload_n hx hb dX2_relaxFrom_0 rfl (lv_at hl 0 rfl) ?_
  refine va_get (D := D) (ci := 5) (v := .ref (g 2)) (C := RX2) (T := TX2) (N := 3) hx hb hts hinX2 hown hK hP 0 rfl rfl 1 (by decide) (hts (.fieldLink RX2 15 "BridgeAuction$Graph" "relaxed" "[I") (by decide +kernel)) (fun _ h9 => h9) rfl dX2_relaxFrom_1 ?_
  refine lv_sipush (v := 1000) hx hb dX2_relaxFrom_4 (by decide +kernel) ?_
  have hPc := hP.sub (ws' := ([((g 2), .inl (C 0, 8, .inl (rRlx Rr)))])) [2] rfl
  have hDc := hD.sub (ws' := ([((g 2), .inl (C 0, 8, .inl (rRlx Rr)))])) [2] (by decide) rfl
  have hFc := va_free (wc := ([((g 2), .inl (C 0, 8, .inl (rRlx Rr)))])) hD hS hA [2] rfl
  refine callRw (va_runS (As := [.ref (g 2), .int 1000]) (rest := []) ⟨hx, hb, hml, hown, hts⟩ (c_J7_fill_53178 l D C (g 2) (rRlx Rr) (1000) _) (va_cwS 2 hts gX2_relaxFrom_J7_fill_53178 rfl rfl rfl (by decide +kernel) ⟨Nat.le_of_ble_eq_true rfl, Nat.le_of_ble_eq_true rfl⟩) (rwP_s hPc hK hE hDc) rfl rfl hl.1 rfl (lv_room (Nat.le_of_ble_eq_true rfl)) dX2_relaxFrom_7 ⟨Nat.le_refl _, Nat.le_refl _⟩) hS hFc (fun H1 locs hPn hk hS => ?_)
  obtain ⟨y7, hy7⟩ : ∃ y_, y_ = (f_J7_fill_53178 (rRlx Rr) (1000)) := ⟨_, rfl⟩
  have hPn : va_P D vwCl ([((g 2), .inl (C 0, 8, .inl y7))]) H1 := by rw [hy7]; exact hPn
  have hz := lt_eq hz hy7
  have hP : va_P D vwCl (grcells C g (mkR (rNear Rr) y7 (rPar Rr)) ++ gcells C a G) H1 := rwJoin (wr := ([(g 0, .inr (5, [.ref (g 1), .ref (g 2), .ref (g 3)])), (g 1, .inl (C 0, 8, .inl (rNear Rr))), (g 3, .inl (C 0, 8, .inl (fun j => nI ((rPar Rr) j))))] ++ gcells C a G)) (ws' := (grcells C g (mkR (rNear Rr) y7 (rPar Rr)) ++ gcells C a G)) hP hD [2] [0, 1, 3, 4, 5, 6, 7, 8, 9, 10, 11, 12] rfl rfl (by decide) (by decide) (by decide) hk hFc hPn rfl [0, 1, 12, 2, 3, 4, 5, 6, 7, 8, 9, 10, 11] rfl
  have hD : va_D A (grcells C g (mkR (rNear Rr) y7 (rPar Rr)) ++ gcells C a G) := adr_D hD rfl
  generalize H1 = H at hP hS ⊢
  refine lv_aload_n hx hb dX2_relaxFrom_10 rfl (lv_at hl 0 rfl) ?_
  refine va_get (D := D) (ci := 5) (v := .ref (g 2)) (C := RX2) (T := TX2) (N := 3) hx hb hts hinX2 hown hK hP 0 rfl rfl 1 (by decide) (hts (.fieldLink RX2 15 "BridgeAuction$Graph" "relaxed" "[I") (by decide +kernel)) (fun _ h9 => h9) rfl dX2_relaxFrom_11 ?_
  refine lv_iload_n hx hb dX2_relaxFrom_14 rfl (lv_at hl 2 rfl) ?_
  refine lv_iconst (v := 0) hx hb dX2_relaxFrom_15 (by decide) ?_
  refine iastN (tys := tyA C) hx hb hK hP hD hS 2 0 rfl rfl (i := i) (by omega) (by decide) dX2_relaxFrom_16 (fun H locs hP hD hS => ?_)
  have hP : va_P D vwCl (grcells C g (mkR (rNear Rr) (upd y7 i 0) (rPar Rr)) ++ gcells C a G) H := hP
  have hD : va_D A (grcells C g (mkR (rNear Rr) (upd y7 i 0) (rPar Rr)) ++ gcells C a G) := hD
  refine lv_iconst (v := 1) hx hb dX2_relaxFrom_17 (by decide) ?_
  refine lv_istore_n (lv' := [(3, .int 1), (0, .ref (g 0)), (1, .ref (a 0)), (2, .int (nI i))]) hx hb dX2_relaxFrom_18 rfl hl (by decide) rfl (fun ls hl => ?_)
  exact J19 (8 - 1) 1 ((mkR (rNear Rr) (upd y7 i 0) (rPar Rr))) _ _ ls (by omega) hz  hP hD hS (lv_sub hl [1, 2, 0] rfl)

