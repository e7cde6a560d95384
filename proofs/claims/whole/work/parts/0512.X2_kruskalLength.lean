def f_X2_kruskalLength_j63  (v1_63 : Int32) (Rr_63 : GR) : Sum (Sum (Int32 × GR) (Int32 × GR)) (Int32 × GR) := (Sum.inr (v1_63, Rr_63))
def f_X2_kruskalLength_l16b (G : GS) (k8 : Nat) (k16 : Nat) (v1_16 : Int32) (Rr_16 : GR) : Sum (Sum (Int32 × GR) (Int32 × GR)) (Int32 × GR) := (if (f_X1_hasBridge G (k16)) = true then (if ((gLen G) k16) = (nI k8) then (lt_ (f_X2_joinEnds Rr_16 G (k16)) (fun y53 => (if y53.1 = true then (f_X2_kruskalLength_j63 ((v1_16 + (nI k8))) (y53.2)) else (f_X2_kruskalLength_j63 (v1_16) (y53.2))))) else (f_X2_kruskalLength_j63 (v1_16) (Rr_16))) else (f_X2_kruskalLength_j63 (v1_16) (Rr_16)))
def f_X2_kruskalLength_l16x (G : GS) (k8 : Nat) (v1_16 : Int32) (Rr_16 : GR) : Sum (Int32 × GR) (Int32 × GR) := (Sum.inr (v1_16, Rr_16))
def f_X2_kruskalLength_l16s (G : GS) (k8 : Nat) (k16 : Nat) (q_ : Int32 × GR) : Sum (Sum (Int32 × GR) (Int32 × GR)) (Int32 × GR) := f_X2_kruskalLength_l16b G k8 k16 (q_.1) (q_.2)
def f_X2_kruskalLength_l16e (G : GS) (k8 : Nat) (q_ : Int32 × GR) : Sum (Int32 × GR) (Int32 × GR) := f_X2_kruskalLength_l16x G k8 (q_.1) (q_.2)
def f_X2_kruskalLength_l16 (G : GS) (k8 : Nat) (n16 k16 : Nat) (v1_16 : Int32) (Rr_16 : GR) : Sum (Int32 × GR) (Int32 × GR) := lpF (f_X2_kruskalLength_l16s G k8) (f_X2_kruskalLength_l16e G k8) n16 k16 (v1_16, Rr_16)
def f_X2_kruskalLength_l8b (G : GS) (k8 : Nat) (v1_8 : Int32) (Rr_8 : GR) : Sum (Int32 × GR) (Int32 × GR) := (f_X2_kruskalLength_l16 G k8 (gS G) 0 (v1_8) (Rr_8))
def f_X2_kruskalLength_l8x (G : GS) (v1_8 : Int32) (Rr_8 : GR) : Int32 × GR := (v1_8, Rr_8)
def f_X2_kruskalLength_l8s (G : GS) (k8 : Nat) (q_ : Int32 × GR) : Sum (Int32 × GR) (Int32 × GR) := f_X2_kruskalLength_l8b G k8 (q_.1) (q_.2)
def f_X2_kruskalLength_l8e (G : GS) (q_ : Int32 × GR) : Int32 × GR := f_X2_kruskalLength_l8x G (q_.1) (q_.2)
def f_X2_kruskalLength_l8 (G : GS) (n8 k8 : Nat) (v1_8 : Int32) (Rr_8 : GR) : Int32 × GR := lpF (f_X2_kruskalLength_l8s G) (f_X2_kruskalLength_l8e G) n8 k8 (v1_8, Rr_8)
def f_X2_kruskalLength (Rr : GR) (G : GS) : Int32 × GR := (lt_ (f_X2_separateAll Rr) (fun y1 => (f_X2_kruskalLength_l8 G (10 - 1) 1 (0) (y1))))
set_option maxHeartbeats 4000000 in
set_option maxRecDepth 100000 in
theorem c_X2_kruskalLength (l : Launch) (D : va_G) (C : Nat → ClassId) (g : Nat → Nat) (Rr : GR) (a : Nat → Nat) (G : GS) (sz : Nat) (hR : RSafe Rr) (hG : GSafe G) : Met l yX2_kruskalLength wsX2_kruskalLength ({ frames := 2, cells := 0, slots := 0, locals := 46 } : Room) (rwP [.ref (g 0)] D C (grcells C g (a 0) Rr ++ gcells C a G) sz) (rwO (some (.int ((f_X2_kruskalLength Rr G).1))) D (grcells C g (a 0) ((f_X2_kruskalLength Rr G).2) ++ gcells C a G) (va_A (grcells C g (a 0) Rr ++ gcells C a G) sz)) 0 0 (va_A (grcells C g (a 0) Rr ++ gcells C a G) sz) := by
  refine Met.ofW (cc := cX2_kruskalLength) (maxL := 4) (ret := (some .int)) (by decide) rfl ?_
  intro p e s m args below meth c s₁ B hml hv
  obtain ⟨rfl, hsz, hP, hK, hD0, hE⟩ := hv
  have hx := B.exec
  have hb := B.bytes
  have hr := B.returns
  have hts := atoms_spec (ws := wsX2_kruskalLength) B.pre
  have hown : s.vm.findClass RX2 = some m.cls := findClass_of_methodNamed B.named
  have hlocks := B.notSynchronized
  subst hsz
  have hD := hD0.self (sz := s.heap.size)
  generalize hAe : va_A (grcells C g (a 0) Rr ++ gcells C a G) s.heap.size = A at hD ⊢
  have hA : ∀ q : Nat, s.heap.size ≤ q → A q := fun q h => by rw [← hAe]; exact Or.inr h
  have hS0 : va_S A s.heap s.heap [] := va_S.rf
  have hP : va_P D vwCl (grcells C g (a 0) Rr ++ gcells C a G) s.heap := hP
  have hS := hS0
  obtain hpar := id hR
  obtain ⟨hS12, hP4, hlo, hhi⟩ := id hG
  have hinX1 : ∀ w ∈ u_ws RX1 TX1 16, w ∈ wsX2_kruskalLength := by decide +kernel
  have hinX2 : ∀ w ∈ u_ws RX2 TX2 4, w ∈ wsX2_kruskalLength := by decide +kernel
  have hl := lv_entry ([.ref (g 0)]) (n := 4) (Nat.le_of_ble_eq_true rfl)
  rw [lg_entry_eq]
  generalize (lg_sl ([.ref (g 0)]) ++ List.replicate (4 - (lg_sl ([.ref (g 0)])).length) Slot.unset).toArray = ls at hl ⊢
  have hl : lv_has ls 4 [(0, .ref (g 0))] := hl
  obtain ⟨z, hz⟩ : ∃ z, z = f_X2_kruskalLength Rr G := ⟨_, rfl⟩
  rw [← hz]
  have J8 : ∀ (n8 k8 : Nat) (v1_8 : Int32) (Rr_8 : GR) (H : Heap) (locs : List Loc) (ls : Array Slot), k8 + n8 = 10 → z = f_X2_kruskalLength_l8 G n8 k8 v1_8 Rr_8 → (RSafe Rr_8) → va_P D vwCl (grcells C g (a 0) Rr_8 ++ gcells C a G) H → va_D A (grcells C g (a 0) Rr_8 ++ gcells C a G) → va_S A s.heap H locs → lv_has ls 4 [(0, .ref (g 0)), (1, .int v1_8), (2, .int (nI k8))] → W p l e ({ frames := 2, cells := 0, slots := 0, locals := 46 } : Room) s m ([.ref (g 0)] : List Value).toArray below meth c H locs 0 0 (MQ below (rwO (some (.int z.1)) D (grcells C g (a 0) z.2 ++ gcells C a G) A) ([.ref (g 0)] : List Value).toArray s 0 0 A) (F0 m 8 ls []) := by
    intro n8
    induction n8 with
    | zero =>
      intro k8 v1_8 Rr_8 H locs ls hk8 hz iv8_0 hP hD hS hl
      have hz : z = f_X2_kruskalLength_l8x G v1_8 Rr_8 := hz
      refine lv_iload_n hx hb dX2_kruskalLength_8 rfl (lv_at hl 2 rfl) ?_
      refine lv_bipush (v := 9) hx hb dX2_kruskalLength_9 (by decide +kernel) ?_
      refine lv_icmp_gt (tgt := 75) hx hb dX2_kruskalLength_11 (by decide) (fun c_11 => ?_) (fun c_11 => absurd (by have e : (9 : Int32) = nI 9 := (by decide +kernel); rw [e]; exact nI_lt (by omega) (by omega)) c_11)
      refine lv_iload_n hx hb dX2_kruskalLength_75 rfl (lv_at hl 1 rfl) ?_
      have hz : z = (v1_8, Rr_8) := hz
      rw [hz]
      exact rw_ret hx hb hr hP hS rfl dX2_kruskalLength_76 hlocks
    | succ n8 ih8 =>
      intro k8 v1_8 Rr_8 H locs ls hk8 hz8 iv8_0 hP hD hS hl
      obtain ⟨z8, hz⟩ : ∃ zz_, zz_ = f_X2_kruskalLength_l8b G k8 v1_8 Rr_8 := ⟨_, rfl⟩
      have hq8 : z = sE id (fun q_ => lpF (f_X2_kruskalLength_l8s G) (f_X2_kruskalLength_l8e G) n8 (k8 + 1) q_) z8 := by rw [hz8, hz]; rfl
      have J16 : ∀ (n16 k16 : Nat) (v1_16 : Int32) (Rr_16 : GR) (H : Heap) (locs : List Loc) (ls : Array Slot), k16 + n16 = gS G → z8 = f_X2_kruskalLength_l16 G k8 n16 k16 v1_16 Rr_16 → (RSafe Rr_16) → va_P D vwCl (grcells C g (a 0) Rr_16 ++ gcells C a G) H → va_D A (grcells C g (a 0) Rr_16 ++ gcells C a G) → va_S A s.heap H locs → lv_has ls 4 [(0, .ref (g 0)), (1, .int v1_16), (2, .int (nI k8)), (3, .int (nI k16))] → W p l e ({ frames := 2, cells := 0, slots := 0, locals := 46 } : Room) s m ([.ref (g 0)] : List Value).toArray below meth c H locs 0 0 (MQ below (rwO (some (.int z.1)) D (grcells C g (a 0) z.2 ++ gcells C a G) A) ([.ref (g 0)] : List Value).toArray s 0 0 A) (F0 m 16 ls []) := by
        intro n16
        induction n16 with
        | zero =>
          intro k16 v1_16 Rr_16 H locs ls hk16 hz iv16_0 hP hD hS hl
          have hz : z8 = f_X2_kruskalLength_l16x G k8 v1_16 Rr_16 := hz
          refine lv_iload_n hx hb dX2_kruskalLength_16 rfl (lv_at hl 3 rfl) ?_
          refine lv_aload_n hx hb dX2_kruskalLength_17 rfl (lv_at hl 0 rfl) ?_
          refine va_get (D := D) (ci := 5) (v := .ref (a 0)) (C := RX2) (T := TX2) (N := 4) hx hb hts hinX2 hown hK hP 0 rfl rfl 0 (by decide) (hts (.fieldLink RX2 21 "BridgeAuction$Graph" "game" "LBridgeAuction$Game;") (by decide +kernel)) (fun _ h9 => h9) rfl dX2_kruskalLength_18 ?_
          refine va_getN (D := D) (ci := 4) (v := .int (nI (gS G))) (C := RX1) (T := TX1) (N := 16) hx hb hts hinX1 hown hK hP 4 rfl rfl 5 (by decide) (hE.use 4 rfl) (fun _ h9 => h9) rfl dX2_kruskalLength_21 ?_
          refine lv_icmp_ge (tgt := 69) hx hb dX2_kruskalLength_24 (by decide) (fun c_24 => ?_) (fun c_24 => absurd (nI_le (by omega) (by omega)) c_24)
          refine lv_iinc (v := (nI (k8 + 1))) (lv' := [(2, .int (nI (k8 + 1))), (0, .ref (g 0)), (1, .int v1_16), (3, .int (nI k16))]) hx hb dX2_kruskalLength_69 hl (k := 2) rfl (by exact nI_1 _) (by decide) rfl (fun ls hl => ?_)
          refine lv_goto (tgt := 8) hx hb dX2_kruskalLength_72 (by decide) ?_
          exact ih8 (k8 + 1) (v1_16) (Rr_16) _ _ ls (by omega) (by rw [hq8, hz]; rfl) (by assumption) hP hD hS (lv_sub hl [1, 2, 0] rfl)
        | succ n16 ih16 =>
          intro k16 v1_16 Rr_16 H locs ls hk16 hz16 iv16_0 hP hD hS hl
          obtain ⟨z16, hz⟩ : ∃ zz_, zz_ = f_X2_kruskalLength_l16b G k8 k16 v1_16 Rr_16 := ⟨_, rfl⟩
          have hq16 : z8 = sE id (fun q_ => lpF (f_X2_kruskalLength_l16s G k8) (f_X2_kruskalLength_l16e G k8) n16 (k16 + 1) q_) z16 := by rw [hz16, hz]; rfl
          have J63 : ∀ (v1_63 : Int32) (Rr_63 : GR)  (H : Heap) (locs : List Loc) (ls : Array Slot), z16 = f_X2_kruskalLength_j63 v1_63 Rr_63 → (RSafe Rr_63) → va_P D vwCl (grcells C g (a 0) Rr_63 ++ gcells C a G) H → va_D A (grcells C g (a 0) Rr_63 ++ gcells C a G) → va_S A s.heap H locs → lv_has ls 4 [(0, .ref (g 0)), (1, .int v1_63), (2, .int (nI k8)), (3, .int (nI k16))] → W p l e ({ frames := 2, cells := 0, slots := 0, locals := 46 } : Room) s m ([.ref (g 0)] : List Value).toArray below meth c H locs 0 0 (MQ below (rwO (some (.int z.1)) D (grcells C g (a 0) z.2 ++ gcells C a G) A) ([.ref (g 0)] : List Value).toArray s 0 0 A) (F0 m 63 ls []) := by
            intro v1_63 Rr_63 H locs ls hz iv63_0 hP hD hS hl
            refine lv_iinc (v := (nI (k16 + 1))) (lv' := [(3, .int (nI (k16 + 1))), (0, .ref (g 0)), (1, .int v1_63), (2, .int (nI k8))]) hx hb dX2_kruskalLength_63 hl (k := 3) rfl (by exact nI_1 _) (by decide) rfl (fun ls hl => ?_)
            refine lv_goto (tgt := 16) hx hb dX2_kruskalLength_66 (by decide) ?_
            exact ih16 (k16 + 1) (v1_63) (Rr_63) _ _ ls (by omega) (by rw [hq16, hz]; rfl) (by assumption) hP hD hS (lv_sub hl [1, 2, 3, 0] rfl)
          refine lv_iload_n hx hb dX2_kruskalLength_16 rfl (lv_at hl 3 rfl) ?_
          refine lv_aload_n hx hb dX2_kruskalLength_17 rfl (lv_at hl 0 rfl) ?_
          refine va_get (D := D) (ci := 5) (v := .ref (a 0)) (C := RX2) (T := TX2) (N := 4) hx hb hts hinX2 hown hK hP 0 rfl rfl 0 (by decide) (hts (.fieldLink RX2 21 "BridgeAuction$Graph" "game" "LBridgeAuction$Game;") (by decide +kernel)) (fun _ h9 => h9) rfl dX2_kruskalLength_18 ?_
          refine va_getN (D := D) (ci := 4) (v := .int (nI (gS G))) (C := RX1) (T := TX1) (N := 16) hx hb hts hinX1 hown hK hP 4 rfl rfl 5 (by decide) (hE.use 4 rfl) (fun _ h9 => h9) rfl dX2_kruskalLength_21 ?_
          refine lv_icmp_ge (tgt := 69) hx hb dX2_kruskalLength_24 (by decide) (fun c_24 => absurd c_24 (nI_ge (by omega) (by omega))) (fun c_24 => ?_)
          refine lv_aload_n hx hb dX2_kruskalLength_27 rfl (lv_at hl 0 rfl) ?_
          refine va_get (D := D) (ci := 5) (v := .ref (a 0)) (C := RX2) (T := TX2) (N := 4) hx hb hts hinX2 hown hK hP 0 rfl rfl 0 (by decide) (hts (.fieldLink RX2 21 "BridgeAuction$Graph" "game" "LBridgeAuction$Game;") (by decide +kernel)) (fun _ h9 => h9) rfl dX2_kruskalLength_28 ?_
          refine lv_iload_n hx hb dX2_kruskalLength_31 rfl (lv_at hl 3 rfl) ?_
          refine callRo (va_runV (As := [.int (nI k16)]) (rest := []) ⟨hx, hb, hml, hown, hts⟩ (c_X1_hasBridge l D C a G (k16) hG (by omega)) (cwV 1 hts gX2_kruskalLength_X1_hasBridge rfl rfl rfl (by decide +kernel) ⟨Nat.le_of_ble_eq_true rfl, Nat.le_of_ble_eq_true rfl⟩) (roP_v (hP.sub (ws' := (gcells C a G)) [4, 5, 6, 7, 8, 9, 10, 11, 12] rfl) hK hE (va_recv hK (hP.sub (ws' := (gcells C a G)) [4, 5, 6, 7, 8, 9, 10, 11, 12] rfl) (ci := 4) (q0 := 0) rfl rfl)) rfl rfl hl.1 rfl (lv_room (Nat.le_of_ble_eq_true rfl)) dX2_kruskalLength_32 ⟨Nat.le_refl _, Nat.le_refl _⟩) ?_
          refine bif_eq (tgt := 63) hx hb dX2_kruskalLength_35 (by decide) (fun c_35 => ?_) (fun c_35 => ?_)
          · have hz := hz.trans (ifB_f c_35)
            exact J63 (v1_16) (Rr_16) _ _ ls hz (by assumption) hP hD hS (lv_sub hl [0, 1, 2, 3] rfl)
          · have hz := hz.trans (ifB_t c_35)
            refine lv_aload_n hx hb dX2_kruskalLength_38 rfl (lv_at hl 0 rfl) ?_
            refine va_get (D := D) (ci := 5) (v := .ref (a 0)) (C := RX2) (T := TX2) (N := 4) hx hb hts hinX2 hown hK hP 0 rfl rfl 0 (by decide) (hts (.fieldLink RX2 21 "BridgeAuction$Graph" "game" "LBridgeAuction$Game;") (by decide +kernel)) (fun _ h9 => h9) rfl dX2_kruskalLength_39 ?_
            refine va_getN (D := D) (ci := 4) (v := .ref (a 5)) (C := RX1) (T := TX1) (N := 16) hx hb hts hinX1 hown hK hP 4 rfl rfl 8 (by decide) (hE.use 10 rfl) (fun _ h9 => h9) rfl dX2_kruskalLength_42 ?_
            refine lv_iload_n hx hb dX2_kruskalLength_45 rfl (lv_at hl 3 rfl) ?_
            refine ialdN (tys := tyA C) hx hb hK hP 9 0 rfl rfl (i := k16) (by omega) (by decide) dX2_kruskalLength_46 ?_
            refine lv_iload_n hx hb dX2_kruskalLength_47 rfl (lv_at hl 2 rfl) ?_
            refine lv_icmp_ne (tgt := 63) hx hb dX2_kruskalLength_48 (by decide) (fun c_48 => ?_) (fun c_48 => ?_)
            · have hz := hz.trans (if_neg c_48)
              exact J63 (v1_16) (Rr_16) _ _ ls hz (by assumption) hP hD hS (lv_sub hl [0, 1, 2, 3] rfl)
            · have hz := hz.trans (if_pos c_48)
              refine lv_aload_n hx hb dX2_kruskalLength_51 rfl (lv_at hl 0 rfl) ?_
              refine lv_iload_n hx hb dX2_kruskalLength_52 rfl (lv_at hl 3 rfl) ?_
              have hFc := va_free (wc := (grcells C g (a 0) Rr_16 ++ gcells C a G)) hD hS hA [0, 1, 2, 3, 4, 5, 6, 7, 8, 9, 10, 11, 12] rfl
              refine callRw (va_runV (As := [.int (nI k16)]) (rest := []) ⟨hx, hb, hml, hown, hts⟩ (c_X2_joinEnds l D C g Rr_16 a G (k16) _ (by assumption) hG (by omega)) (cwV 1 hts gX2_kruskalLength_X2_joinEnds rfl rfl rfl (by decide +kernel) ⟨Nat.le_of_ble_eq_true rfl, Nat.le_of_ble_eq_true rfl⟩) (rwP_v hP hK hE hD (va_recv hK hP (ci := 5) (q0 := 0) rfl rfl)) rfl rfl hl.1 rfl (lv_room (Nat.le_of_ble_eq_true rfl)) dX2_kruskalLength_53 ⟨Nat.le_refl _, Nat.le_refl _⟩) hS hFc (fun H1 locs hPn hk hS => ?_)
              generalize hy53 : (f_X2_joinEnds Rr_16 G (k16)) = y53 at hPn ⊢
              have hz := lt_eq hz hy53.symm
              have hP : va_P D vwCl (grcells C g (a 0) y53.2 ++ gcells C a G) H1 := hPn
              have hD : va_D A (grcells C g (a 0) y53.2 ++ gcells C a G) := adr_D hD rfl
              generalize H1 = H at hP hS ⊢
              have hs53 : RSafe y53.2 := by rw [← hy53]; exact joinEnds_safe (by assumption) hG _
              refine bif_eq (tgt := 63) hx hb dX2_kruskalLength_56 (by decide) (fun c_56 => ?_) (fun c_56 => ?_)
              · have hz := hz.trans (ifB_f c_56)
                exact J63 (v1_16) (y53.2) _ _ ls hz (by assumption) hP hD hS (lv_sub hl [0, 1, 2, 3] rfl)
              · have hz := hz.trans (ifB_t c_56)
                refine lv_iload_n hx hb dX2_kruskalLength_59 rfl (lv_at hl 1 rfl) ?_
                refine lv_iload_n hx hb dX2_kruskalLength_60 rfl (lv_at hl 2 rfl) ?_
                refine lv_iadd hx hb dX2_kruskalLength_61 ?_
                refine lv_istore_n (lv' := [(1, .int (v1_16 + (nI k8))), (0, .ref (g 0)), (2, .int (nI k8)), (3, .int (nI k16))]) hx hb dX2_kruskalLength_62 rfl hl (by decide) rfl (fun ls hl => ?_)
                exact J63 ((v1_16 + (nI k8))) (y53.2) _ _ ls hz (by assumption) hP hD hS (lv_sub hl [1, 0, 2, 3] rfl)
      refine lv_iload_n hx hb dX2_kruskalLength_8 rfl (lv_at hl 2 rfl) ?_
      refine lv_bipush (v := 9) hx hb dX2_kruskalLength_9 (by decide +kernel) ?_
      refine lv_icmp_gt (tgt := 75) hx hb dX2_kruskalLength_11 (by decide) (fun c_11 => absurd c_11 (by have e : (9 : Int32) = nI 9 := (by decide +kernel); rw [e]; exact nI_nlt (by omega) (by omega))) (fun c_11 => ?_)
      refine lv_iconst (v := 0) hx hb dX2_kruskalLength_14 (by decide) ?_
      refine lv_istore_n (lv' := [(3, .int 0), (0, .ref (g 0)), (1, .int v1_8), (2, .int (nI k8))]) hx hb dX2_kruskalLength_15 rfl hl (by decide) rfl (fun ls hl => ?_)
      exact J16 (gS G) 0 (v1_8) (Rr_8) _ _ ls (by omega) hz (by assumption) hP hD hS (lv_sub hl [1, 2, 3, 0] rfl)
  refine lv_aload_n hx hb dX2_kruskalLength_0 rfl (lv_at hl 0 rfl) ?_
  have hPc := hP.sub (ws' := (grcells C g (a 0) Rr)) [0, 1, 2, 3] rfl
  have hDc := hD.sub (ws' := (grcells C g (a 0) Rr)) [0, 1, 2, 3] (by decide) rfl
  have hFc := va_free (wc := (grcells C g (a 0) Rr)) hD hS hA [0, 1, 2, 3] rfl
  refine callRw (va_runV (As := []) (rest := []) ⟨hx, hb, hml, hown, hts⟩ (c_X2_separateAll l D C a g Rr _) (cwV 0 hts gX2_kruskalLength_X2_separateAll rfl rfl rfl (by decide +kernel) ⟨Nat.le_of_ble_eq_true rfl, Nat.le_of_ble_eq_true rfl⟩) (rwP_v hPc hK hE hDc (va_recv hK hPc (ci := 5) (q0 := 0) rfl rfl)) rfl rfl hl.1 rfl (lv_room (Nat.le_of_ble_eq_true rfl)) dX2_kruskalLength_1 ⟨Nat.le_refl _, Nat.le_refl _⟩) hS hFc (fun H1 locs hPn hk hS => ?_)
  generalize hy1 : (f_X2_separateAll Rr) = y1 at hPn ⊢
  have hz := lt_eq hz hy1.symm
  have hP : va_P D vwCl (grcells C g (a 0) y1 ++ gcells C a G) H1 := rwJoin (wr := (gcells C a G)) (ws' := (grcells C g (a 0) y1 ++ gcells C a G)) hP hD [0, 1, 2, 3] [4, 5, 6, 7, 8, 9, 10, 11, 12] rfl rfl (by decide) (by decide) (by decide) hk hFc hPn rfl [9, 10, 11, 12, 0, 1, 2, 3, 4, 5, 6, 7, 8] rfl
  have hD : va_D A (grcells C g (a 0) y1 ++ gcells C a G) := adr_D hD rfl
  generalize H1 = H at hP hS ⊢
  have hs1 : RSafe y1 := by rw [← hy1]; exact separateAll_safe hR
  refine lv_iconst (v := 0) hx hb dX2_kruskalLength_4 (by decide) ?_
  refine lv_istore_n (lv' := [(1, .int 0), (0, .ref (g 0))]) hx hb dX2_kruskalLength_5 rfl hl (by decide) rfl (fun ls hl => ?_)
  refine lv_iconst (v := 1) hx hb dX2_kruskalLength_6 (by decide) ?_
  refine lv_istore_n (lv' := [(2, .int 1), (1, .int 0), (0, .ref (g 0))]) hx hb dX2_kruskalLength_7 rfl hl (by decide) rfl (fun ls hl => ?_)
  exact J8 (10 - 1) 1 (0) (y1) _ _ ls (by omega) hz (by assumption) hP hD hS (lv_sub hl [2, 1, 0] rfl)

