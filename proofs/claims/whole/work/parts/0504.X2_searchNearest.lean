theorem nearestOpen_in {R : GR} {x : Int32} (h : ¬ f_X2_nearestOpen R x = -1) : vp_in (f_X2_nearestOpen R x) 8 := by
  have key : f_X2_nearestOpen R x = -1 ∨ vp_in (f_X2_nearestOpen R x) 8 := by
    refine lpF_invN (step := f_X2_nearestOpen_l9s R x) (ex := f_X2_nearestOpen_l9e R x) 8 (fun (k : Nat) (s : Int32 × Int32) => (s.1 = -1 ∨ vp_in s.1 8)) (fun r => r = -1 ∨ vp_in r 8) ?_ ?_ ?_ 8 0 _ rfl (Or.inl rfl)
    · intro k s r hk hI hs
      simp only [f_X2_nearestOpen_l9s, f_X2_nearestOpen_l9b, f_X2_nearestOpen_j47] at hs
      repeat' split at hs
      all_goals cases hs
    · intro k s s' hk hI hs
      simp only [f_X2_nearestOpen_l9s, f_X2_nearestOpen_l9b, f_X2_nearestOpen_j47] at hs
      repeat' split at hs
      all_goals (cases hs; first | exact hI | exact Or.inr (vp_in_nI hk (by decide)))
    · intro s hI; exact hI
  exact key.resolve_left h
def f_X2_searchNearest_l21b (G : GS) (k21 : Nat) (v2_21 : Int32) (Rr_21 : GR) : Sum (GR) (Int32 × GR) := (if (f_X2_nearestOpen Rr_21 (v2_21)) = (-1) then (Sum.inl Rr_21) else (lt_ (f_X2_lookFurther Rr_21 G (((f_X2_nearestOpen Rr_21 (v2_21))).toNatClampNeg)) (fun y51 => (Sum.inr ((v2_21 ||| (1 <<< ((f_X2_nearestOpen Rr_21 (v2_21)) &&& 31))), y51)))))
def f_X2_searchNearest_l21x (G : GS) (v2_21 : Int32) (Rr_21 : GR) : GR := Rr_21
def f_X2_searchNearest_l21s (G : GS) (k21 : Nat) (q_ : Int32 × GR) : Sum (GR) (Int32 × GR) := f_X2_searchNearest_l21b G k21 (q_.1) (q_.2)
def f_X2_searchNearest_l21e (G : GS) (q_ : Int32 × GR) : GR := f_X2_searchNearest_l21x G (q_.1) (q_.2)
def f_X2_searchNearest_l21 (G : GS) (n21 k21 : Nat) (v2_21 : Int32) (Rr_21 : GR) : GR := lpF (f_X2_searchNearest_l21s G) (f_X2_searchNearest_l21e G) n21 k21 (v2_21, Rr_21)
def f_X2_searchNearest (Rr : GR) (G : GS) (i : Nat) : GR := (lt_ (f_J7_fill_53178 (rNear Rr) (1000)) (fun y7 => (f_X2_searchNearest_l21 G (8) 0 (0) ((mkR (upd y7 i 0) (rRlx Rr) (rPar Rr))))))
set_option maxHeartbeats 4000000 in
set_option maxRecDepth 100000 in
theorem c_X2_searchNearest (l : Launch) (D : va_G) (C : Nat → ClassId) (g : Nat → Nat) (Rr : GR) (a : Nat → Nat) (G : GS) (i : Nat) (sz : Nat) (hG : GSafe G) (h_i : i < 8) : Met l yX2_searchNearest wsX2_searchNearest ({ frames := 3, cells := 0, slots := 0, locals := 66 } : Room) (rwP [.ref (g 0), .int (nI i)] D C (grcells C g (a 0) Rr ++ gcells C a G) sz) (rwO none D (grcells C g (a 0) ((f_X2_searchNearest Rr G i)) ++ gcells C a G) (va_A (grcells C g (a 0) Rr ++ gcells C a G) sz)) 0 0 (va_A (grcells C g (a 0) Rr ++ gcells C a G) sz) := by
  refine Met.ofW (cc := cX2_searchNearest) (maxL := 5) (ret := none) (by decide) rfl ?_
  intro p e s m args below meth c s₁ B hml hv
  obtain ⟨rfl, hsz, hP, hK, hD0, hE⟩ := hv
  have hx := B.exec
  have hb := B.bytes
  have hr := B.returns
  have hts := atoms_spec (ws := wsX2_searchNearest) B.pre
  have hown : s.vm.findClass RX2 = some m.cls := findClass_of_methodNamed B.named
  have hlocks := B.notSynchronized
  subst hsz
  have hD := hD0.self (sz := s.heap.size)
  generalize hAe : va_A (grcells C g (a 0) Rr ++ gcells C a G) s.heap.size = A at hD ⊢
  have hA : ∀ q : Nat, s.heap.size ≤ q → A q := fun q h => by rw [← hAe]; exact Or.inr h
  have hS0 : va_S A s.heap s.heap [] := va_S.rf
  have hP : va_P D vwCl (grcells C g (a 0) Rr ++ gcells C a G) s.heap := hP
  have hS := hS0
  obtain ⟨hS12, hP4, hlo, hhi⟩ := id hG
  have hinX2 : ∀ w ∈ u_ws RX2 TX2 4, w ∈ wsX2_searchNearest := by decide +kernel
  have hl := lv_entry ([.ref (g 0), .int (nI i)]) (n := 5) (Nat.le_of_ble_eq_true rfl)
  rw [lg_entry_eq]
  generalize (lg_sl ([.ref (g 0), .int (nI i)]) ++ List.replicate (5 - (lg_sl ([.ref (g 0), .int (nI i)])).length) Slot.unset).toArray = ls at hl ⊢
  have hl : lv_has ls 5 [(0, .ref (g 0)), (1, .int (nI i))] := hl
  obtain ⟨z, hz⟩ : ∃ z, z = f_X2_searchNearest Rr G i := ⟨_, rfl⟩
  rw [← hz]
  have J21 : ∀ (n21 k21 : Nat) (v2_21 : Int32) (Rr_21 : GR) (H : Heap) (locs : List Loc) (ls : Array Slot), k21 + n21 = 8 → z = f_X2_searchNearest_l21 G n21 k21 v2_21 Rr_21 → va_P D vwCl (grcells C g (a 0) Rr_21 ++ gcells C a G) H → va_D A (grcells C g (a 0) Rr_21 ++ gcells C a G) → va_S A s.heap H locs → lv_has ls 5 [(0, .ref (g 0)), (2, .int v2_21), (3, .int (nI k21))] → W p l e ({ frames := 3, cells := 0, slots := 0, locals := 66 } : Room) s m ([.ref (g 0), .int (nI i)] : List Value).toArray below meth c H locs 0 0 (MQ below (rwO none D (grcells C g (a 0) z ++ gcells C a G) A) ([.ref (g 0), .int (nI i)] : List Value).toArray s 0 0 A) (F0 m 21 ls []) := by
    intro n21
    induction n21 with
    | zero =>
      intro k21 v2_21 Rr_21 H locs ls hk21 hz  hP hD hS hl
      have hz : z = f_X2_searchNearest_l21x G v2_21 Rr_21 := hz
      refine lv_iload_n hx hb dX2_searchNearest_21 rfl (lv_at hl 2 rfl) ?_
      refine lv_bipush (v := 8) hx hb dX2_searchNearest_22 (by decide +kernel) ?_
      refine lv_icmp_ge (tgt := 60) hx hb dX2_searchNearest_24 (by decide) (fun c_24 => ?_) (fun c_24 => absurd (by have e : (8 : Int32) = nI 8 := (by decide +kernel); rw [e]; exact nI_le (by omega) (by omega)) c_24)
      have hz : z = Rr_21 := hz
      rw [hz]
      exact rw_retV hx hb hr hP hS dX2_searchNearest_60 hlocks
    | succ n21 ih21 =>
      intro k21 v2_21 Rr_21 H locs ls hk21 hz21  hP hD hS hl
      obtain ⟨z21, hz⟩ : ∃ zz_, zz_ = f_X2_searchNearest_l21b G k21 v2_21 Rr_21 := ⟨_, rfl⟩
      have hq21 : z = sE id (fun q_ => lpF (f_X2_searchNearest_l21s G) (f_X2_searchNearest_l21e G) n21 (k21 + 1) q_) z21 := by rw [hz21, hz]; rfl
      refine lv_iload_n hx hb dX2_searchNearest_21 rfl (lv_at hl 2 rfl) ?_
      refine lv_bipush (v := 8) hx hb dX2_searchNearest_22 (by decide +kernel) ?_
      refine lv_icmp_ge (tgt := 60) hx hb dX2_searchNearest_24 (by decide) (fun c_24 => absurd c_24 (by have e : (8 : Int32) = nI 8 := (by decide +kernel); rw [e]; exact nI_ge (by omega) (by omega))) (fun c_24 => ?_)
      refine lv_aload_n hx hb dX2_searchNearest_27 rfl (lv_at hl 0 rfl) ?_
      refine lv_iload_n hx hb dX2_searchNearest_28 rfl (lv_at hl 1 rfl) ?_
      refine callRo (va_runV (As := [.int v2_21]) (rest := []) ⟨hx, hb, hml, hown, hts⟩ (c_X2_nearestOpen l D C a g Rr_21 (v2_21)) (cwV 1 hts gX2_searchNearest_X2_nearestOpen rfl rfl rfl (by decide +kernel) ⟨Nat.le_of_ble_eq_true rfl, Nat.le_of_ble_eq_true rfl⟩) (roP_v (hP.sub (ws' := (grcells C g (a 0) Rr_21)) [0, 1, 2, 3] rfl) hK hE (va_recv hK (hP.sub (ws' := (grcells C g (a 0) Rr_21)) [0, 1, 2, 3] rfl) (ci := 5) (q0 := 0) rfl rfl)) rfl rfl hl.1 rfl (lv_room (Nat.le_of_ble_eq_true rfl)) dX2_searchNearest_29 ⟨Nat.le_refl _, Nat.le_refl _⟩) ?_
      refine lv_istore (lv' := [(4, .int (f_X2_nearestOpen Rr_21 (v2_21))), (0, .ref (g 0)), (2, .int v2_21), (3, .int (nI k21))]) hx hb dX2_searchNearest_32 hl (by decide) rfl (fun ls hl => ?_)
      refine lv_iload hx hb dX2_searchNearest_34 (lv_at hl 0 rfl) ?_
      refine lv_iconst (v := (-1)) hx hb dX2_searchNearest_36 (by decide) ?_
      refine lv_icmp_ne (tgt := 41) hx hb dX2_searchNearest_37 (by decide) (fun c_37 => ?_) (fun c_37 => ?_)
      · have hz := hz.trans (if_neg c_37)
        refine lv_iload_n hx hb dX2_searchNearest_41 rfl (lv_at hl 2 rfl) ?_
        refine lv_iconst (v := 1) hx hb dX2_searchNearest_42 (by decide) ?_
        refine lv_iload hx hb dX2_searchNearest_43 (lv_at hl 0 rfl) ?_
        refine lv_ishl hx hb dX2_searchNearest_45 ?_
        refine lv_ior hx hb dX2_searchNearest_46 ?_
        refine lv_istore_n (lv' := [(2, .int (v2_21 ||| (1 <<< ((f_X2_nearestOpen Rr_21 (v2_21)) &&& 31)))), (4, .int (f_X2_nearestOpen Rr_21 (v2_21))), (0, .ref (g 0)), (3, .int (nI k21))]) hx hb dX2_searchNearest_47 rfl hl (by decide) rfl (fun ls hl => ?_)
        refine lv_aload_n hx hb dX2_searchNearest_48 rfl (lv_at hl 2 rfl) ?_
        refine lv_iload hx hb dX2_searchNearest_49 (lv_at hl 1 rfl) ?_
        obtain ⟨ehn_1, lhn_1⟩ := nat_of (x := (f_X2_nearestOpen Rr_21 (v2_21))) (n := 8) (by exact nearestOpen_in c_37) (by omega)
        refine topN ehn_1 ?_
        have hFc := va_free (wc := (grcells C g (a 0) Rr_21 ++ gcells C a G)) hD hS hA [0, 1, 2, 3, 4, 5, 6, 7, 8, 9, 10, 11, 12] rfl
        refine callRw (va_runV (As := [.int (nI ((f_X2_nearestOpen Rr_21 (v2_21))).toNatClampNeg)]) (rest := []) ⟨hx, hb, hml, hown, hts⟩ (c_X2_lookFurther l D C g Rr_21 a G (((f_X2_nearestOpen Rr_21 (v2_21))).toNatClampNeg) _ hG (by omega)) (cwV 1 hts gX2_searchNearest_X2_lookFurther rfl rfl rfl (by decide +kernel) ⟨Nat.le_of_ble_eq_true rfl, Nat.le_of_ble_eq_true rfl⟩) (rwP_v hP hK hE hD (va_recv hK hP (ci := 5) (q0 := 0) rfl rfl)) rfl rfl hl.1 rfl (lv_room (Nat.le_of_ble_eq_true rfl)) dX2_searchNearest_51 ⟨Nat.le_refl _, Nat.le_refl _⟩) hS hFc (fun H1 locs hPn hk hS => ?_)
        generalize hy51 : (f_X2_lookFurther Rr_21 G (((f_X2_nearestOpen Rr_21 (v2_21))).toNatClampNeg)) = y51 at hPn ⊢
        have hz := lt_eq hz hy51.symm
        have hP : va_P D vwCl (grcells C g (a 0) y51 ++ gcells C a G) H1 := hPn
        have hD : va_D A (grcells C g (a 0) y51 ++ gcells C a G) := adr_D hD rfl
        generalize H1 = H at hP hS ⊢
        refine lv_iinc (v := (nI (k21 + 1))) (lv' := [(3, .int (nI (k21 + 1))), (2, .int (v2_21 ||| (1 <<< ((f_X2_nearestOpen Rr_21 (v2_21)) &&& 31)))), (4, .int (f_X2_nearestOpen Rr_21 (v2_21))), (0, .ref (g 0))]) hx hb dX2_searchNearest_54 hl (k := 3) rfl (by exact nI_1 _) (by decide) rfl (fun ls hl => ?_)
        refine lv_goto (tgt := 21) hx hb dX2_searchNearest_57 (by decide) ?_
        exact ih21 (k21 + 1) ((v2_21 ||| (1 <<< ((f_X2_nearestOpen Rr_21 (v2_21)) &&& 31)))) (y51) _ _ ls (by omega) (by rw [hq21, hz]; rfl)  hP hD hS (lv_sub hl [3, 1, 0] rfl)
      · have hz := hz.trans (if_pos c_37)
        have hz := up1 hq21 hz
        have hz : z = Rr_21 := hz
        rw [hz]
        exact rw_retV hx hb hr hP hS dX2_searchNearest_40 hlocks
  refine lv_aload_n hx hb dX2_searchNearest_0 rfl (lv_at hl 0 rfl) ?_
  refine va_get (D := D) (ci := 5) (v := .ref (g 1)) (C := RX2) (T := TX2) (N := 4) hx hb hts hinX2 hown hK hP 0 rfl rfl 1 (by decide) (hts (.fieldLink RX2 9 "BridgeAuction$Graph" "nearest" "[I") (by decide +kernel)) (fun _ h9 => h9) rfl dX2_searchNearest_1 ?_
  refine lv_sipush (v := 1000) hx hb dX2_searchNearest_4 (by decide +kernel) ?_
  have hPc := hP.sub (ws' := ([((g 1), .inl (C 0, 8, .inl (rNear Rr)))])) [1] rfl
  have hDc := hD.sub (ws' := ([((g 1), .inl (C 0, 8, .inl (rNear Rr)))])) [1] (by decide) rfl
  have hFc := va_free (wc := ([((g 1), .inl (C 0, 8, .inl (rNear Rr)))])) hD hS hA [1] rfl
  refine callRw (va_runS (As := [.ref (g 1), .int 1000]) (rest := []) ⟨hx, hb, hml, hown, hts⟩ (c_J7_fill_53178 l D C (g 1) (rNear Rr) (1000) _) (va_cwS 2 hts gX2_searchNearest_J7_fill_53178 rfl rfl rfl (by decide +kernel) ⟨Nat.le_of_ble_eq_true rfl, Nat.le_of_ble_eq_true rfl⟩) (rwP_s hPc hK hE hDc) rfl rfl hl.1 rfl (lv_room (Nat.le_of_ble_eq_true rfl)) dX2_searchNearest_7 ⟨Nat.le_refl _, Nat.le_refl _⟩) hS hFc (fun H1 locs hPn hk hS => ?_)
  obtain ⟨y7, hy7⟩ : ∃ y_, y_ = (f_J7_fill_53178 (rNear Rr) (1000)) := ⟨_, rfl⟩
  have hPn : va_P D vwCl ([((g 1), .inl (C 0, 8, .inl y7))]) H1 := by rw [hy7]; exact hPn
  have hz := lt_eq hz hy7
  have hP : va_P D vwCl (grcells C g (a 0) (mkR y7 (rRlx Rr) (rPar Rr)) ++ gcells C a G) H1 := rwJoin (wr := ([(g 0, .inr (5, [.ref (a 0), .ref (g 1), .ref (g 2), .ref (g 3)])), (g 2, .inl (C 0, 8, .inl (rRlx Rr))), (g 3, .inl (C 0, 8, .inl (fun j => nI ((rPar Rr) j))))] ++ gcells C a G)) (ws' := (grcells C g (a 0) (mkR y7 (rRlx Rr) (rPar Rr)) ++ gcells C a G)) hP hD [1] [0, 2, 3, 4, 5, 6, 7, 8, 9, 10, 11, 12] rfl rfl (by decide) (by decide) (by decide) hk hFc hPn rfl [0, 12, 1, 2, 3, 4, 5, 6, 7, 8, 9, 10, 11] rfl
  have hD : va_D A (grcells C g (a 0) (mkR y7 (rRlx Rr) (rPar Rr)) ++ gcells C a G) := adr_D hD rfl
  generalize H1 = H at hP hS ⊢
  refine lv_aload_n hx hb dX2_searchNearest_10 rfl (lv_at hl 0 rfl) ?_
  refine va_get (D := D) (ci := 5) (v := .ref (g 1)) (C := RX2) (T := TX2) (N := 4) hx hb hts hinX2 hown hK hP 0 rfl rfl 1 (by decide) (hts (.fieldLink RX2 9 "BridgeAuction$Graph" "nearest" "[I") (by decide +kernel)) (fun _ h9 => h9) rfl dX2_searchNearest_11 ?_
  refine lv_iload_n hx hb dX2_searchNearest_14 rfl (lv_at hl 1 rfl) ?_
  refine lv_iconst (v := 0) hx hb dX2_searchNearest_15 (by decide) ?_
  refine iastN (tys := tyA C) hx hb hK hP hD hS 1 0 rfl rfl (i := i) (by omega) (by decide) dX2_searchNearest_16 (fun H locs hP hD hS => ?_)
  have hP : va_P D vwCl (grcells C g (a 0) (mkR (upd y7 i 0) (rRlx Rr) (rPar Rr)) ++ gcells C a G) H := hP
  have hD : va_D A (grcells C g (a 0) (mkR (upd y7 i 0) (rRlx Rr) (rPar Rr)) ++ gcells C a G) := hD
  refine lv_iconst (v := 0) hx hb dX2_searchNearest_17 (by decide) ?_
  refine lv_istore_n (lv' := [(2, .int 0), (0, .ref (g 0)), (1, .int (nI i))]) hx hb dX2_searchNearest_18 rfl hl (by decide) rfl (fun ls hl => ?_)
  refine lv_iconst (v := 0) hx hb dX2_searchNearest_19 (by decide) ?_
  refine lv_istore_n (lv' := [(3, .int 0), (2, .int 0), (0, .ref (g 0)), (1, .int (nI i))]) hx hb dX2_searchNearest_20 rfl hl (by decide) rfl (fun ls hl => ?_)
  exact J21 (8) 0 (0) ((mkR (upd y7 i 0) (rRlx Rr) (rPar Rr))) _ _ ls (by omega) hz  hP hD hS (lv_sub hl [2, 1, 0] rfl)

