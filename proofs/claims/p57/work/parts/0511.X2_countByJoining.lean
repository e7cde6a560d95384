theorem joinEnds_safe {R : GR} {G : GS} (hR : RSafe R) (hG : GSafe G) (k : Nat) : RSafe (f_X2_joinEnds R G k).2 := by
  have h2 := rootOf_lt hR (hG.2.2.2 k)
  have key : ∀ b, RSafe (f_X2_joinEnds_j42 R b (updN (rPar R) (f_X2_rootOf R (gLo G k)) (f_X2_rootOf R (gHi G k)))).2 := by
    intro b j
    show (if j = f_X2_rootOf R (gLo G k) then f_X2_rootOf R (gHi G k) else rPar R j) < 8
    split
    · exact h2
    · exact hR j
  unfold f_X2_joinEnds
  split
  · exact key _
  · exact key _
def f_X2_countByJoining_j37  (v2_37 : Int32) (Rr_37 : GR) : Sum (Int32 × GR) (Int32 × GR) := (Sum.inr (v2_37, Rr_37))
def f_X2_countByJoining_l9b (G : GS) (k9 : Nat) (v2_9 : Int32) (Rr_9 : GR) : Sum (Int32 × GR) (Int32 × GR) := (if (f_X1_hasBridge G (k9)) = true then (lt_ (f_X2_joinEnds Rr_9 G (k9)) (fun y28 => (if y28.1 = true then (f_X2_countByJoining_j37 ((v2_9 + (-1))) (y28.2)) else (f_X2_countByJoining_j37 (v2_9) (y28.2))))) else (f_X2_countByJoining_j37 (v2_9) (Rr_9)))
def f_X2_countByJoining_l9x (G : GS) (v2_9 : Int32) (Rr_9 : GR) : Int32 × GR := (v2_9, Rr_9)
def f_X2_countByJoining_l9s (G : GS) (k9 : Nat) (q_ : Int32 × GR) : Sum (Int32 × GR) (Int32 × GR) := f_X2_countByJoining_l9b G k9 (q_.1) (q_.2)
def f_X2_countByJoining_l9e (G : GS) (q_ : Int32 × GR) : Int32 × GR := f_X2_countByJoining_l9x G (q_.1) (q_.2)
def f_X2_countByJoining_l9 (G : GS) (n9 k9 : Nat) (v2_9 : Int32) (Rr_9 : GR) : Int32 × GR := lpF (f_X2_countByJoining_l9s G) (f_X2_countByJoining_l9e G) n9 k9 (v2_9, Rr_9)
def f_X2_countByJoining (Rr : GR) (G : GS) : Int32 × GR := (lt_ (f_X2_separateAll Rr) (fun y1 => (f_X2_countByJoining_l9 G (gS G) 0 (8) (y1))))
set_option maxHeartbeats 4000000 in
set_option maxRecDepth 100000 in
theorem c_X2_countByJoining (l : Launch) (D : va_G) (C : Nat → ClassId) (g : Nat → Nat) (Rr : GR) (a : Nat → Nat) (G : GS) (sz : Nat) (hR : RSafe Rr) (hG : GSafe G) : Met l yX2_countByJoining wsX2_countByJoining ({ frames := 2, cells := 0, slots := 0, locals := 47 } : Room) (rwP [.ref (g 0), .ref (a 0)] D C (grcells C g Rr ++ gcells C a G) sz) (rwO (some (.int ((f_X2_countByJoining Rr G).1))) D (grcells C g ((f_X2_countByJoining Rr G).2) ++ gcells C a G) (va_A (grcells C g Rr ++ gcells C a G) sz)) 0 0 (va_A (grcells C g Rr ++ gcells C a G) sz) := by
  refine Met.ofW (cc := cX2_countByJoining) (maxL := 4) (ret := (some .int)) (by decide) rfl ?_
  intro p e s m args below meth c s₁ B hml hv
  obtain ⟨rfl, hsz, hP, hK, hD0, hE⟩ := hv
  have hx := B.exec
  have hb := B.bytes
  have hr := B.returns
  have hts := atoms_spec (ws := wsX2_countByJoining) B.pre
  have hown : s.vm.findClass RX2 = some m.cls := findClass_of_methodNamed B.named
  have hlocks := B.notSynchronized
  subst hsz
  have hD := hD0.self (sz := s.heap.size)
  generalize hAe : va_A (grcells C g Rr ++ gcells C a G) s.heap.size = A at hD ⊢
  have hA : ∀ q : Nat, s.heap.size ≤ q → A q := fun q h => by rw [← hAe]; exact Or.inr h
  have hS0 : va_S A s.heap s.heap [] := va_S.rf
  have hP : va_P D vwCl (grcells C g Rr ++ gcells C a G) s.heap := hP
  have hS := hS0
  obtain hpar := id hR
  obtain ⟨hS12, hP4, hlo, hhi⟩ := id hG
  have hinX1 : ∀ w ∈ u_ws RX1 TX1 16, w ∈ wsX2_countByJoining := by decide +kernel
  have hl := lv_entry ([.ref (g 0), .ref (a 0)]) (n := 4) (Nat.le_of_ble_eq_true rfl)
  rw [lg_entry_eq]
  generalize (lg_sl ([.ref (g 0), .ref (a 0)]) ++ List.replicate (4 - (lg_sl ([.ref (g 0), .ref (a 0)])).length) Slot.unset).toArray = ls at hl ⊢
  have hl : lv_has ls 4 [(0, .ref (g 0)), (1, .ref (a 0))] := hl
  obtain ⟨z, hz⟩ : ∃ z, z = f_X2_countByJoining Rr G := ⟨_, rfl⟩
  rw [← hz]
  have J9 : ∀ (n9 k9 : Nat) (v2_9 : Int32) (Rr_9 : GR) (H : Heap) (locs : List Loc) (ls : Array Slot), k9 + n9 = gS G → z = f_X2_countByJoining_l9 G n9 k9 v2_9 Rr_9 → (RSafe Rr_9) → va_P D vwCl (grcells C g Rr_9 ++ gcells C a G) H → va_D A (grcells C g Rr_9 ++ gcells C a G) → va_S A s.heap H locs → lv_has ls 4 [(0, .ref (g 0)), (1, .ref (a 0)), (2, .int v2_9), (3, .int (nI k9))] → W p l e ({ frames := 2, cells := 0, slots := 0, locals := 47 } : Room) s m ([.ref (g 0), .ref (a 0)] : List Value).toArray below meth c H locs 0 0 (MQ below (rwO (some (.int z.1)) D (grcells C g z.2 ++ gcells C a G) A) ([.ref (g 0), .ref (a 0)] : List Value).toArray s 0 0 A) (F0 m 9 ls []) := by
    intro n9
    induction n9 with
    | zero =>
      intro k9 v2_9 Rr_9 H locs ls hk9 hz iv9_0 hP hD hS hl
      have hz : z = f_X2_countByJoining_l9x G v2_9 Rr_9 := hz
      refine lv_iload_n hx hb dX2_countByJoining_9 rfl (lv_at hl 3 rfl) ?_
      refine lv_aload_n hx hb dX2_countByJoining_10 rfl (lv_at hl 1 rfl) ?_
      refine va_getN (D := D) (ci := 4) (v := .int (nI (gS G))) (C := RX1) (T := TX1) (N := 16) hx hb hts hinX1 hown hK hP 4 rfl rfl 5 (by decide) (hE.use 4 rfl) (fun _ h9 => h9) rfl dX2_countByJoining_11 ?_
      refine lv_icmp_ge (tgt := 43) hx hb dX2_countByJoining_14 (by decide) (fun c_14 => ?_) (fun c_14 => absurd (nI_le (by omega) (by omega)) c_14)
      refine lv_iload_n hx hb dX2_countByJoining_43 rfl (lv_at hl 2 rfl) ?_
      have hz : z = (v2_9, Rr_9) := hz
      rw [hz]
      exact rw_ret hx hb hr hP hS rfl dX2_countByJoining_44 hlocks
    | succ n9 ih9 =>
      intro k9 v2_9 Rr_9 H locs ls hk9 hz9 iv9_0 hP hD hS hl
      obtain ⟨z9, hz⟩ : ∃ zz_, zz_ = f_X2_countByJoining_l9b G k9 v2_9 Rr_9 := ⟨_, rfl⟩
      have hq9 : z = sE id (fun q_ => lpF (f_X2_countByJoining_l9s G) (f_X2_countByJoining_l9e G) n9 (k9 + 1) q_) z9 := by rw [hz9, hz]; rfl
      have J37 : ∀ (v2_37 : Int32) (Rr_37 : GR)  (H : Heap) (locs : List Loc) (ls : Array Slot), z9 = f_X2_countByJoining_j37 v2_37 Rr_37 → (RSafe Rr_37) → va_P D vwCl (grcells C g Rr_37 ++ gcells C a G) H → va_D A (grcells C g Rr_37 ++ gcells C a G) → va_S A s.heap H locs → lv_has ls 4 [(0, .ref (g 0)), (1, .ref (a 0)), (2, .int v2_37), (3, .int (nI k9))] → W p l e ({ frames := 2, cells := 0, slots := 0, locals := 47 } : Room) s m ([.ref (g 0), .ref (a 0)] : List Value).toArray below meth c H locs 0 0 (MQ below (rwO (some (.int z.1)) D (grcells C g z.2 ++ gcells C a G) A) ([.ref (g 0), .ref (a 0)] : List Value).toArray s 0 0 A) (F0 m 37 ls []) := by
        intro v2_37 Rr_37 H locs ls hz iv37_0 hP hD hS hl
        refine lv_iinc (v := (nI (k9 + 1))) (lv' := [(3, .int (nI (k9 + 1))), (0, .ref (g 0)), (1, .ref (a 0)), (2, .int v2_37)]) hx hb dX2_countByJoining_37 hl (k := 3) rfl (by exact nI_1 _) (by decide) rfl (fun ls hl => ?_)
        refine lv_goto (tgt := 9) hx hb dX2_countByJoining_40 (by decide) ?_
        exact ih9 (k9 + 1) (v2_37) (Rr_37) _ _ ls (by omega) (by rw [hq9, hz]; rfl) (by assumption) hP hD hS (lv_sub hl [1, 2, 3, 0] rfl)
      refine lv_iload_n hx hb dX2_countByJoining_9 rfl (lv_at hl 3 rfl) ?_
      refine lv_aload_n hx hb dX2_countByJoining_10 rfl (lv_at hl 1 rfl) ?_
      refine va_getN (D := D) (ci := 4) (v := .int (nI (gS G))) (C := RX1) (T := TX1) (N := 16) hx hb hts hinX1 hown hK hP 4 rfl rfl 5 (by decide) (hE.use 4 rfl) (fun _ h9 => h9) rfl dX2_countByJoining_11 ?_
      refine lv_icmp_ge (tgt := 43) hx hb dX2_countByJoining_14 (by decide) (fun c_14 => absurd c_14 (nI_ge (by omega) (by omega))) (fun c_14 => ?_)
      refine lv_aload_n hx hb dX2_countByJoining_17 rfl (lv_at hl 1 rfl) ?_
      refine lv_iload_n hx hb dX2_countByJoining_18 rfl (lv_at hl 3 rfl) ?_
      refine callRo (va_runV (As := [.int (nI k9)]) (rest := []) ⟨hx, hb, hml, hown, hts⟩ (c_X1_hasBridge l D C a G (k9) hG (by omega)) (cwV 1 hts gX2_countByJoining_X1_hasBridge rfl rfl rfl (by decide +kernel) ⟨Nat.le_of_ble_eq_true rfl, Nat.le_of_ble_eq_true rfl⟩) (roP_v (hP.sub (ws' := (gcells C a G)) [4, 5, 6, 7, 8, 9, 10, 11, 12] rfl) hK hE (va_recv hK (hP.sub (ws' := (gcells C a G)) [4, 5, 6, 7, 8, 9, 10, 11, 12] rfl) (ci := 4) (q0 := 0) rfl rfl)) rfl rfl hl.1 rfl (lv_room (Nat.le_of_ble_eq_true rfl)) dX2_countByJoining_19 ⟨Nat.le_refl _, Nat.le_refl _⟩) ?_
      refine bif_eq (tgt := 37) hx hb dX2_countByJoining_22 (by decide) (fun c_22 => ?_) (fun c_22 => ?_)
      · have hz := hz.trans (ifB_f c_22)
        exact J37 (v2_9) (Rr_9) _ _ ls hz (by assumption) hP hD hS (lv_sub hl [0, 1, 2, 3] rfl)
      · have hz := hz.trans (ifB_t c_22)
        refine lv_aload_n hx hb dX2_countByJoining_25 rfl (lv_at hl 0 rfl) ?_
        refine lv_aload_n hx hb dX2_countByJoining_26 rfl (lv_at hl 1 rfl) ?_
        refine lv_iload_n hx hb dX2_countByJoining_27 rfl (lv_at hl 3 rfl) ?_
        have hFc := va_free (wc := (grcells C g Rr_9 ++ gcells C a G)) hD hS hA [0, 1, 2, 3, 4, 5, 6, 7, 8, 9, 10, 11, 12] rfl
        refine callRw (va_runV (As := [.ref (a 0), .int (nI k9)]) (rest := []) ⟨hx, hb, hml, hown, hts⟩ (c_X2_joinEnds l D C g Rr_9 a G (k9) _ (by assumption) hG (by omega)) (cwV 2 hts gX2_countByJoining_X2_joinEnds rfl rfl rfl (by decide +kernel) ⟨Nat.le_of_ble_eq_true rfl, Nat.le_of_ble_eq_true rfl⟩) (rwP_v hP hK hE hD (va_recv hK hP (ci := 5) (q0 := 0) rfl rfl)) rfl rfl hl.1 rfl (lv_room (Nat.le_of_ble_eq_true rfl)) dX2_countByJoining_28 ⟨Nat.le_refl _, Nat.le_refl _⟩) hS hFc (fun H1 locs hPn hk hS => ?_)
        generalize hy28 : (f_X2_joinEnds Rr_9 G (k9)) = y28 at hPn ⊢
        have hz := lt_eq hz hy28.symm
        have hP : va_P D vwCl (grcells C g y28.2 ++ gcells C a G) H1 := hPn
        have hD : va_D A (grcells C g y28.2 ++ gcells C a G) := adr_D hD rfl
        generalize H1 = H at hP hS ⊢
        have hs28 : RSafe y28.2 := by rw [← hy28]; exact joinEnds_safe (by assumption) hG _
        refine bif_eq (tgt := 37) hx hb dX2_countByJoining_31 (by decide) (fun c_31 => ?_) (fun c_31 => ?_)
        · have hz := hz.trans (ifB_f c_31)
          exact J37 (v2_9) (y28.2) _ _ ls hz (by assumption) hP hD hS (lv_sub hl [0, 1, 2, 3] rfl)
        · have hz := hz.trans (ifB_t c_31)
          refine lv_iinc (v := (v2_9 + (-1))) (lv' := [(2, .int (v2_9 + (-1))), (0, .ref (g 0)), (1, .ref (a 0)), (3, .int (nI k9))]) hx hb dX2_countByJoining_34 hl (k := 2) rfl rfl (by decide) rfl (fun ls hl => ?_)
          exact J37 ((v2_9 + (-1))) (y28.2) _ _ ls hz (by assumption) hP hD hS (lv_sub hl [1, 2, 0, 3] rfl)
  refine lv_aload_n hx hb dX2_countByJoining_0 rfl (lv_at hl 0 rfl) ?_
  have hPc := hP.sub (ws' := (grcells C g Rr)) [0, 1, 2, 3] rfl
  have hDc := hD.sub (ws' := (grcells C g Rr)) [0, 1, 2, 3] (by decide) rfl
  have hFc := va_free (wc := (grcells C g Rr)) hD hS hA [0, 1, 2, 3] rfl
  refine callRw (va_runV (As := []) (rest := []) ⟨hx, hb, hml, hown, hts⟩ (c_X2_separateAll l D C g Rr _) (cwV 0 hts gX2_countByJoining_X2_separateAll rfl rfl rfl (by decide +kernel) ⟨Nat.le_of_ble_eq_true rfl, Nat.le_of_ble_eq_true rfl⟩) (rwP_v hPc hK hE hDc (va_recv hK hPc (ci := 5) (q0 := 0) rfl rfl)) rfl rfl hl.1 rfl (lv_room (Nat.le_of_ble_eq_true rfl)) dX2_countByJoining_1 ⟨Nat.le_refl _, Nat.le_refl _⟩) hS hFc (fun H1 locs hPn hk hS => ?_)
  generalize hy1 : (f_X2_separateAll Rr) = y1 at hPn ⊢
  have hz := lt_eq hz hy1.symm
  have hP : va_P D vwCl (grcells C g y1 ++ gcells C a G) H1 := rwJoin (wr := (gcells C a G)) (ws' := (grcells C g y1 ++ gcells C a G)) hP hD [0, 1, 2, 3] [4, 5, 6, 7, 8, 9, 10, 11, 12] rfl rfl (by decide) (by decide) (by decide) hk hFc hPn rfl [9, 10, 11, 12, 0, 1, 2, 3, 4, 5, 6, 7, 8] rfl
  have hD : va_D A (grcells C g y1 ++ gcells C a G) := adr_D hD rfl
  generalize H1 = H at hP hS ⊢
  have hs1 : RSafe y1 := by rw [← hy1]; exact separateAll_safe hR
  refine lv_bipush (v := 8) hx hb dX2_countByJoining_4 (by decide +kernel) ?_
  refine lv_istore_n (lv' := [(2, .int 8), (0, .ref (g 0)), (1, .ref (a 0))]) hx hb dX2_countByJoining_6 rfl hl (by decide) rfl (fun ls hl => ?_)
  refine lv_iconst (v := 0) hx hb dX2_countByJoining_7 (by decide) ?_
  refine lv_istore_n (lv' := [(3, .int 0), (2, .int 8), (0, .ref (g 0)), (1, .ref (a 0))]) hx hb dX2_countByJoining_8 rfl hl (by decide) rfl (fun ls hl => ?_)
  exact J9 (gS G) 0 (8) (y1) _ _ ls (by omega) hz (by assumption) hP hD hS (lv_sub hl [2, 3, 1, 0] rfl)

