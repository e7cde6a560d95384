def f_X2_kruskalLength_j60  (v2_60 : Int32) (Rr_60 : GR) : Sum (Sum (Int32 × GR) (Int32 × GR)) (Int32 × GR) := (Sum.inr (v2_60, Rr_60))
def f_X2_kruskalLength_l17b (G : GS) (k8 : Nat) (k17 : Nat) (v2_17 : Int32) (Rr_17 : GR) : Sum (Sum (Int32 × GR) (Int32 × GR)) (Int32 × GR) := (if (f_X1_hasBridge G (k17)) = true then (if ((gLen G) k17) = (nI k8) then (lt_ (f_X2_joinEnds Rr_17 G (k17)) (fun y50 => (if y50.1 = true then (f_X2_kruskalLength_j60 ((v2_17 + (nI k8))) (y50.2)) else (f_X2_kruskalLength_j60 (v2_17) (y50.2))))) else (f_X2_kruskalLength_j60 (v2_17) (Rr_17))) else (f_X2_kruskalLength_j60 (v2_17) (Rr_17)))
def f_X2_kruskalLength_l17x (G : GS) (k8 : Nat) (v2_17 : Int32) (Rr_17 : GR) : Sum (Int32 × GR) (Int32 × GR) := (Sum.inr (v2_17, Rr_17))
def f_X2_kruskalLength_l17s (G : GS) (k8 : Nat) (k17 : Nat) (q_ : Int32 × GR) : Sum (Sum (Int32 × GR) (Int32 × GR)) (Int32 × GR) := f_X2_kruskalLength_l17b G k8 k17 (q_.1) (q_.2)
def f_X2_kruskalLength_l17e (G : GS) (k8 : Nat) (q_ : Int32 × GR) : Sum (Int32 × GR) (Int32 × GR) := f_X2_kruskalLength_l17x G k8 (q_.1) (q_.2)
def f_X2_kruskalLength_l17 (G : GS) (k8 : Nat) (n17 k17 : Nat) (v2_17 : Int32) (Rr_17 : GR) : Sum (Int32 × GR) (Int32 × GR) := lpF (f_X2_kruskalLength_l17s G k8) (f_X2_kruskalLength_l17e G k8) n17 k17 (v2_17, Rr_17)
def f_X2_kruskalLength_l8b (G : GS) (k8 : Nat) (v2_8 : Int32) (Rr_8 : GR) : Sum (Int32 × GR) (Int32 × GR) := (f_X2_kruskalLength_l17 G k8 (gS G) 0 (v2_8) (Rr_8))
def f_X2_kruskalLength_l8x (G : GS) (v2_8 : Int32) (Rr_8 : GR) : Int32 × GR := (v2_8, Rr_8)
def f_X2_kruskalLength_l8s (G : GS) (k8 : Nat) (q_ : Int32 × GR) : Sum (Int32 × GR) (Int32 × GR) := f_X2_kruskalLength_l8b G k8 (q_.1) (q_.2)
def f_X2_kruskalLength_l8e (G : GS) (q_ : Int32 × GR) : Int32 × GR := f_X2_kruskalLength_l8x G (q_.1) (q_.2)
def f_X2_kruskalLength_l8 (G : GS) (n8 k8 : Nat) (v2_8 : Int32) (Rr_8 : GR) : Int32 × GR := lpF (f_X2_kruskalLength_l8s G) (f_X2_kruskalLength_l8e G) n8 k8 (v2_8, Rr_8)
def f_X2_kruskalLength (Rr : GR) (G : GS) : Int32 × GR := (lt_ (f_X2_separateAll Rr) (fun y1 => (f_X2_kruskalLength_l8 G (10 - 1) 1 (0) (y1))))
set_option maxHeartbeats 4000000 in
set_option maxRecDepth 100000 in
theorem c_X2_kruskalLength (l : Launch) (D : va_G) (C : Nat → ClassId) (g : Nat → Nat) (Rr : GR) (a : Nat → Nat) (G : GS) (sz : Nat) (hR : RSafe Rr) (hG : GSafe G) : Met l yX2_kruskalLength wsX2_kruskalLength ({ frames := 2, cells := 0, slots := 0, locals := 47 } : Room) (rwP [.ref (g 0), .ref (a 0)] D C (grcells C g Rr ++ gcells C a G) sz) (rwO (some (.int ((f_X2_kruskalLength Rr G).1))) D (grcells C g ((f_X2_kruskalLength Rr G).2) ++ gcells C a G) (va_A (grcells C g Rr ++ gcells C a G) sz)) 0 0 (va_A (grcells C g Rr ++ gcells C a G) sz) := by
  refine Met.ofW (cc := cX2_kruskalLength) (maxL := 5) (ret := (some .int)) (by decide) rfl ?_
  intro p e s m args below meth c s₁ B hml hv
  obtain ⟨rfl, hsz, hP, hK, hD0, hE⟩ := hv
  have hx := B.exec
  have hb := B.bytes
  have hr := B.returns
  have hts := atoms_spec (ws := wsX2_kruskalLength) B.pre
  have hown : s.vm.findClass RX2 = some m.cls := findClass_of_methodNamed B.named
  have hlocks := B.notSynchronized
  subst hsz
  have hD := hD0.self (sz := s.heap.size)
  generalize hAe : va_A (grcells C g Rr ++ gcells C a G) s.heap.size = A at hD ⊢
  have hA : ∀ q : Nat, s.heap.size ≤ q → A q := fun q h => by rw [← hAe]; exact Or.inr h
  have hS0 : va_S A s.heap s.heap [] := va_S.rf
  have hP : va_P D vwCl (grcells C g Rr ++ gcells C a G) s.heap := hP
  have hS := hS0
  obtain hpar := id hR
  obtain ⟨hS12, hP4, hlo, hhi⟩ := id hG
  have hinX1 : ∀ w ∈ u_ws RX1 TX1 16, w ∈ wsX2_kruskalLength := by decide +kernel
  have hl := lv_entry ([.ref (g 0), .ref (a 0)]) (n := 5) (Nat.le_of_ble_eq_true rfl)
  rw [lg_entry_eq]
  generalize (lg_sl ([.ref (g 0), .ref (a 0)]) ++ List.replicate (5 - (lg_sl ([.ref (g 0), .ref (a 0)])).length) Slot.unset).toArray = ls at hl ⊢
  have hl : lv_has ls 5 [(0, .ref (g 0)), (1, .ref (a 0))] := hl
  obtain ⟨z, hz⟩ : ∃ z, z = f_X2_kruskalLength Rr G := ⟨_, rfl⟩
  rw [← hz]
  have J8 : ∀ (n8 k8 : Nat) (v2_8 : Int32) (Rr_8 : GR) (H : Heap) (locs : List Loc) (ls : Array Slot), k8 + n8 = 10 → z = f_X2_kruskalLength_l8 G n8 k8 v2_8 Rr_8 → (RSafe Rr_8) → va_P D vwCl (grcells C g Rr_8 ++ gcells C a G) H → va_D A (grcells C g Rr_8 ++ gcells C a G) → va_S A s.heap H locs → lv_has ls 5 [(0, .ref (g 0)), (1, .ref (a 0)), (2, .int v2_8), (3, .int (nI k8))] → W p l e ({ frames := 2, cells := 0, slots := 0, locals := 47 } : Room) s m ([.ref (g 0), .ref (a 0)] : List Value).toArray below meth c H locs 0 0 (MQ below (rwO (some (.int z.1)) D (grcells C g z.2 ++ gcells C a G) A) ([.ref (g 0), .ref (a 0)] : List Value).toArray s 0 0 A) (F0 m 8 ls []) := by
    intro n8
    induction n8 with
    | zero =>
      intro k8 v2_8 Rr_8 H locs ls hk8 hz iv8_0 hP hD hS hl
      have hz : z = f_X2_kruskalLength_l8x G v2_8 Rr_8 := hz
      refine lv_iload_n hx hb dX2_kruskalLength_8 rfl (lv_at hl 3 rfl) ?_
      refine lv_bipush (v := 9) hx hb dX2_kruskalLength_9 (by decide +kernel) ?_
      refine lv_icmp_gt (tgt := 72) hx hb dX2_kruskalLength_11 (by decide) (fun c_11 => ?_) (fun c_11 => absurd (by have e : (9 : Int32) = nI 9 := (by decide +kernel); rw [e]; exact nI_lt (by omega) (by omega)) c_11)
      refine lv_iload_n hx hb dX2_kruskalLength_72 rfl (lv_at hl 2 rfl) ?_
      have hz : z = (v2_8, Rr_8) := hz
      rw [hz]
      exact rw_ret hx hb hr hP hS rfl dX2_kruskalLength_73 hlocks
    | succ n8 ih8 =>
      intro k8 v2_8 Rr_8 H locs ls hk8 hz8 iv8_0 hP hD hS hl
      obtain ⟨z8, hz⟩ : ∃ zz_, zz_ = f_X2_kruskalLength_l8b G k8 v2_8 Rr_8 := ⟨_, rfl⟩
      have hq8 : z = sE id (fun q_ => lpF (f_X2_kruskalLength_l8s G) (f_X2_kruskalLength_l8e G) n8 (k8 + 1) q_) z8 := by rw [hz8, hz]; rfl
      have J17 : ∀ (n17 k17 : Nat) (v2_17 : Int32) (Rr_17 : GR) (H : Heap) (locs : List Loc) (ls : Array Slot), k17 + n17 = gS G → z8 = f_X2_kruskalLength_l17 G k8 n17 k17 v2_17 Rr_17 → (RSafe Rr_17) → va_P D vwCl (grcells C g Rr_17 ++ gcells C a G) H → va_D A (grcells C g Rr_17 ++ gcells C a G) → va_S A s.heap H locs → lv_has ls 5 [(0, .ref (g 0)), (1, .ref (a 0)), (2, .int v2_17), (3, .int (nI k8)), (4, .int (nI k17))] → W p l e ({ frames := 2, cells := 0, slots := 0, locals := 47 } : Room) s m ([.ref (g 0), .ref (a 0)] : List Value).toArray below meth c H locs 0 0 (MQ below (rwO (some (.int z.1)) D (grcells C g z.2 ++ gcells C a G) A) ([.ref (g 0), .ref (a 0)] : List Value).toArray s 0 0 A) (F0 m 17 ls []) := by
        intro n17
        induction n17 with
        | zero =>
          intro k17 v2_17 Rr_17 H locs ls hk17 hz iv17_0 hP hD hS hl
          have hz : z8 = f_X2_kruskalLength_l17x G k8 v2_17 Rr_17 := hz
          refine lv_iload hx hb dX2_kruskalLength_17 (lv_at hl 4 rfl) ?_
          refine lv_aload_n hx hb dX2_kruskalLength_19 rfl (lv_at hl 1 rfl) ?_
          refine va_getN (D := D) (ci := 4) (v := .int (nI (gS G))) (C := RX1) (T := TX1) (N := 16) hx hb hts hinX1 hown hK hP 4 rfl rfl 5 (by decide) (hE.use 4 rfl) (fun _ h9 => h9) rfl dX2_kruskalLength_20 ?_
          refine lv_icmp_ge (tgt := 66) hx hb dX2_kruskalLength_23 (by decide) (fun c_23 => ?_) (fun c_23 => absurd (nI_le (by omega) (by omega)) c_23)
          refine lv_iinc (v := (nI (k8 + 1))) (lv' := [(3, .int (nI (k8 + 1))), (0, .ref (g 0)), (1, .ref (a 0)), (2, .int v2_17), (4, .int (nI k17))]) hx hb dX2_kruskalLength_66 hl (k := 3) rfl (by exact nI_1 _) (by decide) rfl (fun ls hl => ?_)
          refine lv_goto (tgt := 8) hx hb dX2_kruskalLength_69 (by decide) ?_
          exact ih8 (k8 + 1) (v2_17) (Rr_17) _ _ ls (by omega) (by rw [hq8, hz]; rfl) (by assumption) hP hD hS (lv_sub hl [1, 2, 3, 0] rfl)
        | succ n17 ih17 =>
          intro k17 v2_17 Rr_17 H locs ls hk17 hz17 iv17_0 hP hD hS hl
          obtain ⟨z17, hz⟩ : ∃ zz_, zz_ = f_X2_kruskalLength_l17b G k8 k17 v2_17 Rr_17 := ⟨_, rfl⟩
          have hq17 : z8 = sE id (fun q_ => lpF (f_X2_kruskalLength_l17s G k8) (f_X2_kruskalLength_l17e G k8) n17 (k17 + 1) q_) z17 := by rw [hz17, hz]; rfl
          have J60 : ∀ (v2_60 : Int32) (Rr_60 : GR)  (H : Heap) (locs : List Loc) (ls : Array Slot), z17 = f_X2_kruskalLength_j60 v2_60 Rr_60 → (RSafe Rr_60) → va_P D vwCl (grcells C g Rr_60 ++ gcells C a G) H → va_D A (grcells C g Rr_60 ++ gcells C a G) → va_S A s.heap H locs → lv_has ls 5 [(0, .ref (g 0)), (1, .ref (a 0)), (2, .int v2_60), (3, .int (nI k8)), (4, .int (nI k17))] → W p l e ({ frames := 2, cells := 0, slots := 0, locals := 47 } : Room) s m ([.ref (g 0), .ref (a 0)] : List Value).toArray below meth c H locs 0 0 (MQ below (rwO (some (.int z.1)) D (grcells C g z.2 ++ gcells C a G) A) ([.ref (g 0), .ref (a 0)] : List Value).toArray s 0 0 A) (F0 m 60 ls []) := by
            intro v2_60 Rr_60 H locs ls hz iv60_0 hP hD hS hl
            refine lv_iinc (v := (nI (k17 + 1))) (lv' := [(4, .int (nI (k17 + 1))), (0, .ref (g 0)), (1, .ref (a 0)), (2, .int v2_60), (3, .int (nI k8))]) hx hb dX2_kruskalLength_60 hl (k := 4) rfl (by exact nI_1 _) (by decide) rfl (fun ls hl => ?_)
            refine lv_goto (tgt := 17) hx hb dX2_kruskalLength_63 (by decide) ?_
            exact ih17 (k17 + 1) (v2_60) (Rr_60) _ _ ls (by omega) (by rw [hq17, hz]; rfl) (by assumption) hP hD hS (lv_sub hl [1, 2, 3, 4, 0] rfl)
          refine lv_iload hx hb dX2_kruskalLength_17 (lv_at hl 4 rfl) ?_
          refine lv_aload_n hx hb dX2_kruskalLength_19 rfl (lv_at hl 1 rfl) ?_
          refine va_getN (D := D) (ci := 4) (v := .int (nI (gS G))) (C := RX1) (T := TX1) (N := 16) hx hb hts hinX1 hown hK hP 4 rfl rfl 5 (by decide) (hE.use 4 rfl) (fun _ h9 => h9) rfl dX2_kruskalLength_20 ?_
          refine lv_icmp_ge (tgt := 66) hx hb dX2_kruskalLength_23 (by decide) (fun c_23 => absurd c_23 (nI_ge (by omega) (by omega))) (fun c_23 => ?_)
          refine lv_aload_n hx hb dX2_kruskalLength_26 rfl (lv_at hl 1 rfl) ?_
          refine lv_iload hx hb dX2_kruskalLength_27 (lv_at hl 4 rfl) ?_
          refine callRo (va_runV (As := [.int (nI k17)]) (rest := []) ⟨hx, hb, hml, hown, hts⟩ (c_X1_hasBridge l D C a G (k17) hG (by omega)) (cwV 1 hts gX2_kruskalLength_X1_hasBridge rfl rfl rfl (by decide +kernel) ⟨Nat.le_of_ble_eq_true rfl, Nat.le_of_ble_eq_true rfl⟩) (roP_v (hP.sub (ws' := (gcells C a G)) [4, 5, 6, 7, 8, 9, 10, 11, 12] rfl) hK hE (va_recv hK (hP.sub (ws' := (gcells C a G)) [4, 5, 6, 7, 8, 9, 10, 11, 12] rfl) (ci := 4) (q0 := 0) rfl rfl)) rfl rfl hl.1 rfl (lv_room (Nat.le_of_ble_eq_true rfl)) dX2_kruskalLength_29 ⟨Nat.le_refl _, Nat.le_refl _⟩) ?_
          refine bif_eq (tgt := 60) hx hb dX2_kruskalLength_32 (by decide) (fun c_32 => ?_) (fun c_32 => ?_)
          · have hz := hz.trans (ifB_f c_32)
            exact J60 (v2_17) (Rr_17) _ _ ls hz (by assumption) hP hD hS (lv_sub hl [0, 1, 2, 3, 4] rfl)
          · have hz := hz.trans (ifB_t c_32)
            refine lv_aload_n hx hb dX2_kruskalLength_35 rfl (lv_at hl 1 rfl) ?_
            refine va_getN (D := D) (ci := 4) (v := .ref (a 5)) (C := RX1) (T := TX1) (N := 16) hx hb hts hinX1 hown hK hP 4 rfl rfl 8 (by decide) (hE.use 10 rfl) (fun _ h9 => h9) rfl dX2_kruskalLength_36 ?_
            refine lv_iload hx hb dX2_kruskalLength_39 (lv_at hl 4 rfl) ?_
            refine ialdN (tys := tyA C) hx hb hK hP 9 0 rfl rfl (i := k17) (by omega) (by decide) dX2_kruskalLength_41 ?_
            refine lv_iload_n hx hb dX2_kruskalLength_42 rfl (lv_at hl 3 rfl) ?_
            refine lv_icmp_ne (tgt := 60) hx hb dX2_kruskalLength_43 (by decide) (fun c_43 => ?_) (fun c_43 => ?_)
            · have hz := hz.trans (if_neg c_43)
              exact J60 (v2_17) (Rr_17) _ _ ls hz (by assumption) hP hD hS (lv_sub hl [0, 1, 2, 3, 4] rfl)
            · have hz := hz.trans (if_pos c_43)
              refine lv_aload_n hx hb dX2_kruskalLength_46 rfl (lv_at hl 0 rfl) ?_
              refine lv_aload_n hx hb dX2_kruskalLength_47 rfl (lv_at hl 1 rfl) ?_
              refine lv_iload hx hb dX2_kruskalLength_48 (lv_at hl 4 rfl) ?_
              have hFc := va_free (wc := (grcells C g Rr_17 ++ gcells C a G)) hD hS hA [0, 1, 2, 3, 4, 5, 6, 7, 8, 9, 10, 11, 12] rfl
              refine callRw (va_runV (As := [.ref (a 0), .int (nI k17)]) (rest := []) ⟨hx, hb, hml, hown, hts⟩ (c_X2_joinEnds l D C g Rr_17 a G (k17) _ (by assumption) hG (by omega)) (cwV 2 hts gX2_kruskalLength_X2_joinEnds rfl rfl rfl (by decide +kernel) ⟨Nat.le_of_ble_eq_true rfl, Nat.le_of_ble_eq_true rfl⟩) (rwP_v hP hK hE hD (va_recv hK hP (ci := 5) (q0 := 0) rfl rfl)) rfl rfl hl.1 rfl (lv_room (Nat.le_of_ble_eq_true rfl)) dX2_kruskalLength_50 ⟨Nat.le_refl _, Nat.le_refl _⟩) hS hFc (fun H1 locs hPn hk hS => ?_)
              generalize hy50 : (f_X2_joinEnds Rr_17 G (k17)) = y50 at hPn ⊢
              have hz := lt_eq hz hy50.symm
              have hP : va_P D vwCl (grcells C g y50.2 ++ gcells C a G) H1 := hPn
              have hD : va_D A (grcells C g y50.2 ++ gcells C a G) := adr_D hD rfl
              generalize H1 = H at hP hS ⊢
              have hs50 : RSafe y50.2 := by rw [← hy50]; exact joinEnds_safe (by assumption) hG _
              refine bif_eq (tgt := 60) hx hb dX2_kruskalLength_53 (by decide) (fun c_53 => ?_) (fun c_53 => ?_)
              · have hz := hz.trans (ifB_f c_53)
                exact J60 (v2_17) (y50.2) _ _ ls hz (by assumption) hP hD hS (lv_sub hl [0, 1, 2, 3, 4] rfl)
              · have hz := hz.trans (ifB_t c_53)
                refine lv_iload_n hx hb dX2_kruskalLength_56 rfl (lv_at hl 2 rfl) ?_
                refine lv_iload_n hx hb dX2_kruskalLength_57 rfl (lv_at hl 3 rfl) ?_
                refine lv_iadd hx hb dX2_kruskalLength_58 ?_
                refine lv_istore_n (lv' := [(2, .int (v2_17 + (nI k8))), (0, .ref (g 0)), (1, .ref (a 0)), (3, .int (nI k8)), (4, .int (nI k17))]) hx hb dX2_kruskalLength_59 rfl hl (by decide) rfl (fun ls hl => ?_)
                exact J60 ((v2_17 + (nI k8))) (y50.2) _ _ ls hz (by assumption) hP hD hS (lv_sub hl [1, 2, 0, 3, 4] rfl)
      refine lv_iload_n hx hb dX2_kruskalLength_8 rfl (lv_at hl 3 rfl) ?_
      refine lv_bipush (v := 9) hx hb dX2_kruskalLength_9 (by decide +kernel) ?_
      refine lv_icmp_gt (tgt := 72) hx hb dX2_kruskalLength_11 (by decide) (fun c_11 => absurd c_11 (by have e : (9 : Int32) = nI 9 := (by decide +kernel); rw [e]; exact nI_nlt (by omega) (by omega))) (fun c_11 => ?_)
      refine lv_iconst (v := 0) hx hb dX2_kruskalLength_14 (by decide) ?_
      refine lv_istore (lv' := [(4, .int 0), (0, .ref (g 0)), (1, .ref (a 0)), (2, .int v2_8), (3, .int (nI k8))]) hx hb dX2_kruskalLength_15 hl (by decide) rfl (fun ls hl => ?_)
      exact J17 (gS G) 0 (v2_8) (Rr_8) _ _ ls (by omega) hz (by assumption) hP hD hS (lv_sub hl [1, 2, 3, 4, 0] rfl)
  refine lv_aload_n hx hb dX2_kruskalLength_0 rfl (lv_at hl 0 rfl) ?_
  have hPc := hP.sub (ws' := (grcells C g Rr)) [0, 1, 2, 3] rfl
  have hDc := hD.sub (ws' := (grcells C g Rr)) [0, 1, 2, 3] (by decide) rfl
  have hFc := va_free (wc := (grcells C g Rr)) hD hS hA [0, 1, 2, 3] rfl
  refine callRw (va_runV (As := []) (rest := []) ⟨hx, hb, hml, hown, hts⟩ (c_X2_separateAll l D C g Rr _) (cwV 0 hts gX2_kruskalLength_X2_separateAll rfl rfl rfl (by decide +kernel) ⟨Nat.le_of_ble_eq_true rfl, Nat.le_of_ble_eq_true rfl⟩) (rwP_v hPc hK hE hDc (va_recv hK hPc (ci := 5) (q0 := 0) rfl rfl)) rfl rfl hl.1 rfl (lv_room (Nat.le_of_ble_eq_true rfl)) dX2_kruskalLength_1 ⟨Nat.le_refl _, Nat.le_refl _⟩) hS hFc (fun H1 locs hPn hk hS => ?_)
  generalize hy1 : (f_X2_separateAll Rr) = y1 at hPn ⊢
  have hz := lt_eq hz hy1.symm
  have hP : va_P D vwCl (grcells C g y1 ++ gcells C a G) H1 := rwJoin (wr := (gcells C a G)) (ws' := (grcells C g y1 ++ gcells C a G)) hP hD [0, 1, 2, 3] [4, 5, 6, 7, 8, 9, 10, 11, 12] rfl rfl (by decide) (by decide) (by decide) hk hFc hPn rfl [9, 10, 11, 12, 0, 1, 2, 3, 4, 5, 6, 7, 8] rfl
  have hD : va_D A (grcells C g y1 ++ gcells C a G) := adr_D hD rfl
  generalize H1 = H at hP hS ⊢
  have hs1 : RSafe y1 := by rw [← hy1]; exact separateAll_safe hR
  refine lv_iconst (v := 0) hx hb dX2_kruskalLength_4 (by decide) ?_
  refine lv_istore_n (lv' := [(2, .int 0), (0, .ref (g 0)), (1, .ref (a 0))]) hx hb dX2_kruskalLength_5 rfl hl (by decide) rfl (fun ls hl => ?_)
  refine lv_iconst (v := 1) hx hb dX2_kruskalLength_6 (by decide) ?_
  refine lv_istore_n (lv' := [(3, .int 1), (2, .int 0), (0, .ref (g 0)), (1, .ref (a 0))]) hx hb dX2_kruskalLength_7 rfl hl (by decide) rfl (fun ls hl => ?_)
  exact J8 (10 - 1) 1 (0) (y1) _ _ ls (by omega) hz (by assumption) hP hD hS (lv_sub hl [2, 3, 1, 0] rfl)

