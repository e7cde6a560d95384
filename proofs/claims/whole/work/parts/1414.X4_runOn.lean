theorem X1_judgePlayer_lt (G : GS) (x : Int32) : f_X1_judgePlayer G x < 6 := by
  simp only [f_X1_judgePlayer, f_X1_judgePlayer_j31, f_X1_judgePlayer_j10]
  repeat' split
  all_goals first | exact X1_judgeBluff_lt _ _ _ _ | decide
theorem X1_judgeSite_lt (G : GS) (x : Int32) (y : Int32) (w : Int32) : f_X1_judgeSite G x y w < 6 := by
  simp only [f_X1_judgeSite, f_X1_judgeSite_j77, f_X1_judgeSite_j34, f_X1_judgeSite_j14]
  repeat' split
  all_goals first | exact X1_judgeBluff_lt _ _ _ _ | decide
theorem X1_judgeSuit_lt (G : GS) (x : Int32) (y : Int32) : f_X1_judgeSuit G x y < 6 := by
  simp only [f_X1_judgeSuit, f_X1_judgeSuit_j29, f_X1_judgeSuit_j20]
  repeat' split
  all_goals first | exact X1_judgeBluff_lt _ _ _ _ | decide
theorem X1_judgeTide_lt (x : Int32) : f_X1_judgeTide x < 6 := by
  simp only [f_X1_judgeTide, f_X1_judgeTide_j19, f_X1_judgeTide_j10]
  repeat' split
  all_goals first | exact X1_judgeBluff_lt _ _ _ _ | decide
theorem X1_judgeBid_lt (G : GS) (x : Int32) (y : Int32) (w : Int32) : f_X1_judgeBid G x y w < 6 := by
  simp only [f_X1_judgeBid, f_X1_judgeBid_j49]
  repeat' split
  all_goals first | exact X1_judgeBluff_lt _ _ _ _ | decide
theorem X1_judgeFerry_lt (G : GS) (x : Int32) (y : Int32) : f_X1_judgeFerry G x y < 6 := by
  simp only [f_X1_judgeFerry, f_X1_judgeFerry_j104, f_X1_judgeFerry_j90, f_X1_judgeFerry_j85, f_X1_judgeFerry_j51, f_X1_judgeFerry_j16]
  repeat' split
  all_goals first | exact X1_judgeBluff_lt _ _ _ _ | decide
theorem X1_judgeDrop_lt (G : GS) (x : Int32) (y : Int32) : f_X1_judgeDrop G x y < 6 := by
  simp only [f_X1_judgeDrop, f_X1_judgeDrop_j52, f_X1_judgeDrop_j16]
  repeat' split
  all_goals first | exact X1_judgeBluff_lt _ _ _ _ | decide
theorem X1_judgeSettling_lt (G : GS) (x : Int32) : f_X1_judgeSettling G x < 6 := by
  simp only [f_X1_judgeSettling, f_X1_judgeSettling_j42]
  repeat' split
  all_goals first | exact X1_judgeBluff_lt _ _ _ _ | decide
theorem X1_judge_lt (G : GS) (n : Nat) (x y w : Int32) : f_X1_judge G n x y w < 6 := by
  unfold f_X1_judge
  split
  · exact X1_judgePlayer_lt _ _
  · split
    · exact X1_judgeSite_lt _ _ _ _
    · split
      · exact X1_judgeSuit_lt _ _ _
      · split
        · exact X1_judgeTide_lt _
        · split
          · exact X1_judgeBid_lt _ _ _ _
          · split
            · exact X1_judgeBluff_lt _ _ _ _
            · split
              · exact X1_judgeFerry_lt _ _ _
              · split
                · exact X1_judgeDrop_lt _ _ _
                · exact X1_judgeSettling_lt _ _
def GF (G : GS) : Prop := GSafe G ∧ FerOK G
theorem FerOK_upd {f : Nat → Int32} (h : ∀ k, k < 12 → f k = -1 ∨ vp_in (f k) 4) {j : Nat} {x : Int32} (hx : x = -1 ∨ vp_in x 4) : ∀ k, k < 12 → upd f j x k = -1 ∨ vp_in (upd f j x k) 4 := by
  intro k hk
  by_cases e : k = j
  · subst e; rw [upd_s]; exact hx
  · rw [upd_n e]; exact h k hk
theorem updN_all {f : Nat → Nat} {j x n : Nat} (h : ∀ k, f k < n) (hx : x < n) (k : Nat) : updN f j x k < n := by
  unfold updN
  split
  · exact hx
  · exact h k
theorem X1_pay_ok {G : GS} (h : GF G) (q : Nat) (x : Int32) : GF (f_X1_pay G q x) := h
theorem X1_clear_ok {G : GS} (h : GF G) (k : Nat) : GF (f_X1_clearBids G k) := by
  refine lpF_invN (step := f_X1_clearBids_l2s G k) (ex := f_X1_clearBids_l2e G k) 4 (fun _ s => ∀ k, k < 12 → s.1 k = -1 ∨ vp_in (s.1 k) 4) GF ?_ ?_ ?_ 4 0 _ rfl h.2
  · intro k1 s r _ _ h9
    simp only [f_X1_clearBids_l2s, f_X1_clearBids_l2b] at h9
    cases h9
  · intro k1 s s' _ hI h9
    simp only [f_X1_clearBids_l2s, f_X1_clearBids_l2b] at h9
    cases h9
    exact hI
  · intro s hI
    exact ⟨h.1, FerOK_upd hI (Or.inl rfl)⟩
theorem X1_close_ok {G : GS} (h : GF G) (k : Nat) : GF (f_X1_close G k).2 := by
  have h1 := X1_clear_ok h k
  simp only [f_X1_close, f_X1_close_j82, f_X1_close_j94, lt_]
  generalize f_X1_clearBids G k = y at h1 ⊢
  repeat' split
  all_goals exact h1
theorem X1_play_ok {G : GS} (h : GF G) {n : Nat} (hn : n < 9) {x y w : Int32} (hj : f_X1_judge G n x y w = 0) : GF (f_X1_play G n x y w).2 := by
  have hG := h.1
  have hF := h.2
  have hP4 := hG.2.1
  have hS12 := hG.1
  simp only [f_X1_play, f_X1_play_j149, lt_]
  split
  · rename_i c
    have q := X1_judgePlayer_0 hG ((X1_judge_1 c).symm.trans hj)
    exact ⟨⟨hG.1, q, hG.2.2.1, hG.2.2.2⟩, hF⟩
  · rename_i c1
    split
    · rename_i c
      have q := X1_judgeSite_0 hG ((X1_judge_2 c).symm.trans hj)
      obtain ⟨i, hi, rfl⟩ := vp_in_of q.1 (by decide)
      obtain ⟨j, hj8, rfl⟩ := vp_in_of q.2.1 (by decide)
      rw [nI_clamp (show i < 2 ^ 31 by omega), nI_clamp (show j < 2 ^ 31 by omega)]
      exact ⟨⟨q.2.2, hP4, fun k => updN_all hG.2.2.1 (nat_of (imin_in hi hj8) (by decide)).2 k, fun k => updN_all hG.2.2.2 (nat_of (imax_in hi hj8) (by decide)).2 k⟩, FerOK_upd hF (Or.inl rfl)⟩
    · rename_i c2
      split
      · exact h
      · rename_i c3
        split
        · exact h
        · rename_i c4
          split
          · exact h
          · rename_i c5
            split
            · exact h
            · rename_i c6
              split
              · rename_i c
                have q := X1_judgeFerry_0 hG ((X1_judge_7 c).symm.trans hj)
                have q1 := vp_mono q.1 hP4
                exact ⟨hG, FerOK_upd hF (Or.inr (by rw [← (nat_of q1 (by decide)).1]; exact q1))⟩
              · rename_i c7
                split
                · exact h
                · split
                  · exact X1_close_ok h _
                  · exact X1_close_ok h _
def f_X4_runOn_l7b  (k7 : Nat) (S_7 : SS) (G_7 : GS) : Sum (Int32 × SS × GS) (SS × GS) := (lt_ (f_X4_readCommand S_7) (fun y13 => (lt_ (f_X4_readSign y13.2 (59)) (fun y20 => (if (f_X1_judge G_7 ((sVb y20.2)) (((sNum y20.2) 0)) (((sNum y20.2) 1)) (((sNum y20.2) 2))) = 0 then (lt_ (f_X1_play G_7 ((sVb y20.2)) (((sNum y20.2) 0)) (((sNum y20.2) 1)) (((sNum y20.2) 2))) (fun y81 => (Sum.inr (y20.2, y81.2)))) else (Sum.inl ((nI k7), y20.2, G_7)))))))
def f_X4_runOn_l7x  (S_7 : SS) (G_7 : GS) : Int32 × SS × GS := ((-1), S_7, G_7)
def f_X4_runOn_l7s  (k7 : Nat) (q_ : SS × GS) : Sum (Int32 × SS × GS) (SS × GS) := f_X4_runOn_l7b  k7 (q_.1) (q_.2)
def f_X4_runOn_l7e  (q_ : SS × GS) : Int32 × SS × GS := f_X4_runOn_l7x  (q_.1) (q_.2)
def f_X4_runOn_l7  (n7 k7 : Nat) (S_7 : SS) (G_7 : GS) : Int32 × SS × GS := lpF (f_X4_runOn_l7s ) (f_X4_runOn_l7e ) n7 k7 (S_7, G_7)
def f_X4_runOn (S : SS) (G : GS) (n : Nat) : Int32 × SS × GS := (f_X4_runOn_l7 (n) 0 ((mkS (sSgn S) (sSiz S) 0 (sVb S) (sNum S))) (G))
set_option maxHeartbeats 4000000 in
set_option maxRecDepth 100000 in
theorem c_X4_runOn (l : Launch) (D : va_G) (C : Nat → ClassId) (ev : Nat → Nat) (sc : Nat → Nat) (S : SS) (a : Nat → Nat) (G : GS) (n : Nat) (sz : Nat) (hG : GSafe G) (h_n : n < 61) (hSz : sSiz S ≤ 60) (hVb : sVb S < 9) (hF : FerOK G) : Met l yX4_runOn wsX4_runOn ({ frames := 7, cells := 0, slots := 0, locals := 154 } : Room) (rwPE [.ref (sc 0), .ref (a 0), .int (nI n)] D C ev (scells C ev sc S ++ gcells C a G) sz) (rwO (some (.int ((f_X4_runOn S G n).1))) D (scells C ev sc ((f_X4_runOn S G n).2.1) ++ gcells C a ((f_X4_runOn S G n).2.2)) (va_A (scells C ev sc S ++ gcells C a G) sz)) 0 0 (va_A (scells C ev sc S ++ gcells C a G) sz) := by
  refine Met.ofW (cc := cX4_runOn) (maxL := 4) (ret := (some .int)) (by decide) rfl ?_
  intro p e s m args below meth c s₁ B hml hv
  obtain ⟨rfl, hsz, hP, hK, hD0, hE, hR, hX⟩ := hv
  have hx := B.exec
  have hb := B.bytes
  have hr := B.returns
  have hts := atoms_spec (ws := wsX4_runOn) B.pre
  have hown : s.vm.findClass RX4 = some m.cls := findClass_of_methodNamed B.named
  have hlocks := B.notSynchronized
  subst hsz
  have hD := hD0.self (sz := s.heap.size)
  generalize hAe : va_A (scells C ev sc S ++ gcells C a G) s.heap.size = A at hD hX ⊢
  have hA : ∀ q : Nat, s.heap.size ≤ q → A q := fun q h => by rw [← hAe]; exact Or.inr h
  have hS0 : va_S A s.heap s.heap [] := va_S.rf
  have hP : va_P D vwCl (scells C ev sc S ++ gcells C a G) s.heap := hP
  have hS := hS0
  obtain ⟨⟨hV, hB, hMV, hMB, hAL, hEk, hEa, hTX, hXZ⟩, hCS, hSF⟩ := id hX
  obtain ⟨hS12, hP4, hlo, hhi⟩ := id hG
  have hinX4 : ∀ w ∈ u_ws RX4 TX4 5, w ∈ wsX4_runOn := by decide +kernel
  have hl := lv_entry ([.ref (sc 0), .ref (a 0), .int (nI n)]) (n := 4) (Nat.le_of_ble_eq_true rfl)
  rw [lg_entry_eq]
  generalize (lg_sl ([.ref (sc 0), .ref (a 0), .int (nI n)]) ++ List.replicate (4 - (lg_sl ([.ref (sc 0), .ref (a 0), .int (nI n)])).length) Slot.unset).toArray = ls at hl ⊢
  have hl : lv_has ls 4 [(0, .ref (sc 0)), (1, .ref (a 0)), (2, .int (nI n))] := hl
  obtain ⟨z, hz⟩ : ∃ z, z = f_X4_runOn S G n := ⟨_, rfl⟩
  rw [← hz]
  have J7 : ∀ (n7 k7 : Nat) (S_7 : SS) (G_7 : GS) (H : Heap) (locs : List Loc) (ls : Array Slot), k7 + n7 = n → z = f_X4_runOn_l7  n7 k7 S_7 G_7 → (sSiz S_7 = sSiz S ∧ sAt S_7 ≤ sSiz S ∧ sVb S_7 < 9) → (GSafe G_7) → (FerOK G_7) → va_P D vwCl (scells C ev sc S_7 ++ gcells C a G_7) H → va_D A (scells C ev sc S_7 ++ gcells C a G_7) → va_S A s.heap H locs → lv_has ls 4 [(0, .ref (sc 0)), (1, .ref (a 0)), (2, .int (nI n)), (3, .int (nI k7))] → W p l e ({ frames := 7, cells := 0, slots := 0, locals := 154 } : Room) s m ([.ref (sc 0), .ref (a 0), .int (nI n)] : List Value).toArray below meth c H locs 0 0 (MQ below (rwO (some (.int z.1)) D (scells C ev sc z.2.1 ++ gcells C a z.2.2) A) ([.ref (sc 0), .ref (a 0), .int (nI n)] : List Value).toArray s 0 0 A) (F0 m 7 ls []) := by
    intro n7
    induction n7 with
    | zero =>
      intro k7 S_7 G_7 H locs ls hk7 hz iv7_0 iv7_1 iv7_2 hP hD hS hl
      have hz : z = f_X4_runOn_l7x  S_7 G_7 := hz
      refine lv_iload_n hx hb dX4_runOn_7 rfl (lv_at hl 3 rfl) ?_
      refine lv_iload_n hx hb dX4_runOn_8 rfl (lv_at hl 2 rfl) ?_
      refine lv_icmp_ge (tgt := 91) hx hb dX4_runOn_9 (by decide) (fun c_9 => ?_) (fun c_9 => absurd (nI_le (by omega) (by omega)) c_9)
      refine lv_iconst (v := (-1)) hx hb dX4_runOn_91 (by decide) ?_
      have hz : z = ((-1), S_7, G_7) := hz
      rw [hz]
      exact rw_ret hx hb hr hP hS rfl dX4_runOn_92 hlocks
    | succ n7 ih7 =>
      intro k7 S_7 G_7 H locs ls hk7 hz7 iv7_0 iv7_1 iv7_2 hP hD hS hl
      obtain ⟨z7, hz⟩ : ∃ zz_, zz_ = f_X4_runOn_l7b  k7 S_7 G_7 := ⟨_, rfl⟩
      have hq7 : z = sE id (fun q_ => lpF (f_X4_runOn_l7s ) (f_X4_runOn_l7e ) n7 (k7 + 1) q_) z7 := by rw [hz7, hz]; rfl
      refine lv_iload_n hx hb dX4_runOn_7 rfl (lv_at hl 3 rfl) ?_
      refine lv_iload_n hx hb dX4_runOn_8 rfl (lv_at hl 2 rfl) ?_
      refine lv_icmp_ge (tgt := 91) hx hb dX4_runOn_9 (by decide) (fun c_9 => absurd c_9 (nI_ge (by omega) (by omega))) (fun c_9 => ?_)
      refine lv_aload_n hx hb dX4_runOn_12 rfl (lv_at hl 0 rfl) ?_
      have hPc := hP.sub (ws' := (scells C ev sc S_7)) [0, 1, 2] rfl
      have hDc := hD.sub (ws' := (scells C ev sc S_7)) [0, 1, 2] (by decide) rfl
      have hFc := va_free (wc := (scells C ev sc S_7)) hD hS hA [0, 1, 2] rfl
      refine callRw (va_runV (As := []) (rest := []) ⟨hx, hb, hml, hown, hts⟩ (c_X4_readCommand l D C ev sc S_7 _ (by have := iv7_0.1; omega) (by have := iv7_0.1; have := iv7_0.2.1; omega) (by exact iv7_0.2.2)) (cwV 0 hts gX4_runOn_X4_readCommand rfl rfl rfl (by decide +kernel) ⟨Nat.le_of_ble_eq_true rfl, Nat.le_of_ble_eq_true rfl⟩) (rwPE_v hPc hK hE hDc hR hX hS hFc (va_recv hK hPc (ci := 7) (q0 := 0) rfl rfl)) rfl rfl hl.1 rfl (lv_room (Nat.le_of_ble_eq_true rfl)) dX4_runOn_13 ⟨Nat.le_refl _, Nat.le_refl _⟩) hS hFc (fun H1 locs hPn hk hS => ?_)
      generalize hy13 : (f_X4_readCommand S_7) = y13 at hPn ⊢
      have hz := lt_eq hz hy13.symm
      have hP : va_P D vwCl (scells C ev sc y13.2 ++ gcells C a G_7) H1 := rwJoin (wr := (gcells C a G_7)) (ws' := (scells C ev sc y13.2 ++ gcells C a G_7)) hP hD [0, 1, 2] [3, 4, 5, 6, 7, 8, 9, 10, 11] rfl rfl (by decide) (by decide) (by decide) hk hFc hPn rfl [9, 10, 11, 0, 1, 2, 3, 4, 5, 6, 7, 8] rfl
      have hD : va_D A (scells C ev sc y13.2 ++ gcells C a G_7) := adr_D hD rfl
      generalize H1 = H at hP hS ⊢
      have a13 : sSiz y13.2 = sSiz S ∧ sAt y13.2 ≤ sSiz S ∧ sVb y13.2 < 9 := by rw [← hy13, ← iv7_0.1]; exact X4_readCommand_sz (S := S_7) (by have := iv7_0.1; omega) (by have := iv7_0.1; have := iv7_0.2.1; omega) iv7_0.2.2
      refine lv_pop hx hb dX4_runOn_16 rfl ?_
      refine lv_aload_n hx hb dX4_runOn_17 rfl (lv_at hl 0 rfl) ?_
      refine lv_bipush (v := 59) hx hb dX4_runOn_18 (by decide +kernel) ?_
      have hPc := hP.sub (ws' := (scells C ev sc y13.2)) [0, 1, 2] rfl
      have hDc := hD.sub (ws' := (scells C ev sc y13.2)) [0, 1, 2] (by decide) rfl
      have hFc := va_free (wc := (scells C ev sc y13.2)) hD hS hA [0, 1, 2] rfl
      refine callRw (va_runV (As := [.int 59]) (rest := []) ⟨hx, hb, hml, hown, hts⟩ (c_X4_readSign l D C ev sc y13.2 (59) _ (by have := a13.1; omega) (by have := a13.1; have := a13.2.1; omega)) (cwV 1 hts gX4_runOn_X4_readSign rfl rfl rfl (by decide +kernel) ⟨Nat.le_of_ble_eq_true rfl, Nat.le_of_ble_eq_true rfl⟩) (rwPE_v hPc hK hE hDc hR hX hS hFc (va_recv hK hPc (ci := 7) (q0 := 0) rfl rfl)) rfl rfl hl.1 rfl (lv_room (Nat.le_of_ble_eq_true rfl)) dX4_runOn_20 ⟨Nat.le_refl _, Nat.le_refl _⟩) hS hFc (fun H1 locs hPn hk hS => ?_)
      generalize hy20 : (f_X4_readSign y13.2 (59)) = y20 at hPn ⊢
      have hz := lt_eq hz hy20.symm
      have hP : va_P D vwCl (scells C ev sc y20.2 ++ gcells C a G_7) H1 := rwJoin (wr := (gcells C a G_7)) (ws' := (scells C ev sc y20.2 ++ gcells C a G_7)) hP hD [0, 1, 2] [3, 4, 5, 6, 7, 8, 9, 10, 11] rfl rfl (by decide) (by decide) (by decide) hk hFc hPn rfl [9, 10, 11, 0, 1, 2, 3, 4, 5, 6, 7, 8] rfl
      have hD : va_D A (scells C ev sc y20.2 ++ gcells C a G_7) := adr_D hD rfl
      generalize H1 = H at hP hS ⊢
      have a20 : sSiz y20.2 = sSiz S ∧ sAt y20.2 ≤ sSiz S ∧ sVb y20.2 < 9 := by rw [← hy20, ← a13.1]; have q := X4_readSign_sz (S := y13.2) (by have := a13.1; omega) (by have := a13.1; have := a13.2.1; omega) 59; exact ⟨q.1, q.2.1, by rw [q.2.2]; exact a13.2.2⟩
      refine lv_pop hx hb dX4_runOn_23 rfl ?_
      refine lv_aload_n hx hb dX4_runOn_24 rfl (lv_at hl 1 rfl) ?_
      refine lv_aload_n hx hb dX4_runOn_25 rfl (lv_at hl 0 rfl) ?_
      refine va_get (D := D) (ci := 7) (v := .ref (ev (10 + (sVb y20.2)))) (C := RX4) (T := TX4) (N := 5) hx hb hts hinX4 hown hK hP 0 rfl rfl 3 (by decide) (hts (.fieldLink RX4 28 "BridgeAuction$Script" "verb" "LBridgeAuction$Verb;") (by decide +kernel)) (fun _ h9 => h9) rfl dX4_runOn_26 ?_
      refine lv_aload_n hx hb dX4_runOn_29 rfl (lv_at hl 0 rfl) ?_
      refine va_get (D := D) (ci := 7) (v := .ref (sc 2)) (C := RX4) (T := TX4) (N := 5) hx hb hts hinX4 hown hK hP 0 rfl rfl 4 (by decide) (hts (.fieldLink RX4 31 "BridgeAuction$Script" "numbers" "[I") (by decide +kernel)) (fun _ h9 => h9) rfl dX4_runOn_30 ?_
      refine lv_iconst (v := 0) hx hb dX4_runOn_33 (by decide) ?_
      refine topN (k := 0) (by decide +kernel) ?_
      refine ialdN (tys := tyA C) hx hb hK hP 2 0 rfl rfl (i := 0) (by omega) (by decide) dX4_runOn_34 ?_
      refine lv_aload_n hx hb dX4_runOn_35 rfl (lv_at hl 0 rfl) ?_
      refine va_get (D := D) (ci := 7) (v := .ref (sc 2)) (C := RX4) (T := TX4) (N := 5) hx hb hts hinX4 hown hK hP 0 rfl rfl 4 (by decide) (hts (.fieldLink RX4 31 "BridgeAuction$Script" "numbers" "[I") (by decide +kernel)) (fun _ h9 => h9) rfl dX4_runOn_36 ?_
      refine lv_iconst (v := 1) hx hb dX4_runOn_39 (by decide) ?_
      refine topN (k := 1) (by decide +kernel) ?_
      refine ialdN (tys := tyA C) hx hb hK hP 2 0 rfl rfl (i := 1) (by omega) (by decide) dX4_runOn_40 ?_
      refine lv_aload_n hx hb dX4_runOn_41 rfl (lv_at hl 0 rfl) ?_
      refine va_get (D := D) (ci := 7) (v := .ref (sc 2)) (C := RX4) (T := TX4) (N := 5) hx hb hts hinX4 hown hK hP 0 rfl rfl 4 (by decide) (hts (.fieldLink RX4 31 "BridgeAuction$Script" "numbers" "[I") (by decide +kernel)) (fun _ h9 => h9) rfl dX4_runOn_42 ?_
      refine lv_iconst (v := 2) hx hb dX4_runOn_45 (by decide) ?_
      refine topN (k := 2) (by decide +kernel) ?_
      refine ialdN (tys := tyA C) hx hb hK hP 2 0 rfl rfl (i := 2) (by omega) (by decide) dX4_runOn_46 ?_
      refine callRo (va_runV (As := [.ref (ev (10 + (sVb y20.2))), .int ((sNum y20.2) 0), .int ((sNum y20.2) 1), .int ((sNum y20.2) 2)]) (rest := []) ⟨hx, hb, hml, hown, hts⟩ (c_X1_judge l D C ev a G_7 ((sVb y20.2)) (((sNum y20.2) 0)) (((sNum y20.2) 1)) (((sNum y20.2) 2)) (by assumption) (by omega)) (cwV 4 hts gX4_runOn_X1_judge rfl rfl rfl (by decide +kernel) ⟨Nat.le_of_ble_eq_true rfl, Nat.le_of_ble_eq_true rfl⟩) (roPE_v (hP.sub (ws' := (gcells C a G_7)) [3, 4, 5, 6, 7, 8, 9, 10, 11] rfl) hK hE hR hX hS (va_recv hK (hP.sub (ws' := (gcells C a G_7)) [3, 4, 5, 6, 7, 8, 9, 10, 11] rfl) (ci := 4) (q0 := 0) rfl rfl)) rfl rfl hl.1 rfl (lv_room (Nat.le_of_ble_eq_true rfl)) dX4_runOn_47 ⟨Nat.le_refl _, Nat.le_refl _⟩) ?_
      refine va_gets (v := .ref (ev 0)) (C := "BridgeAuction$Verdict") (n := "FINE") (d := "LBridgeAuction$Verdict;") hx hb (hV.1 0 (by decide)).1 hS hown (hts (.fieldLink RX4 49 "BridgeAuction$Verdict" "FINE" "LBridgeAuction$Verdict;") (by decide +kernel)) (fun _ h9 => h9) dX4_runOn_50 ?_
      refine acmpV_eq (x := (f_X1_judge G_7 ((sVb y20.2)) (((sNum y20.2) 0)) (((sNum y20.2) 1)) (((sNum y20.2) 2)))) (y := 0) (tgt := 58) hx hb hV (by exact X1_judge_lt _ _ _ _ _) (by decide) dX4_runOn_53 (by decide) (fun c_53 => ?_) (fun c_53 => ?_)
      · have hz := hz.trans (if_pos c_53)
        refine lv_aload_n hx hb dX4_runOn_58 rfl (lv_at hl 1 rfl) ?_
        refine lv_aload_n hx hb dX4_runOn_59 rfl (lv_at hl 0 rfl) ?_
        refine va_get (D := D) (ci := 7) (v := .ref (ev (10 + (sVb y20.2)))) (C := RX4) (T := TX4) (N := 5) hx hb hts hinX4 hown hK hP 0 rfl rfl 3 (by decide) (hts (.fieldLink RX4 28 "BridgeAuction$Script" "verb" "LBridgeAuction$Verb;") (by decide +kernel)) (fun _ h9 => h9) rfl dX4_runOn_60 ?_
        refine lv_aload_n hx hb dX4_runOn_63 rfl (lv_at hl 0 rfl) ?_
        refine va_get (D := D) (ci := 7) (v := .ref (sc 2)) (C := RX4) (T := TX4) (N := 5) hx hb hts hinX4 hown hK hP 0 rfl rfl 4 (by decide) (hts (.fieldLink RX4 31 "BridgeAuction$Script" "numbers" "[I") (by decide +kernel)) (fun _ h9 => h9) rfl dX4_runOn_64 ?_
        refine lv_iconst (v := 0) hx hb dX4_runOn_67 (by decide) ?_
        refine topN (k := 0) (by decide +kernel) ?_
        refine ialdN (tys := tyA C) hx hb hK hP 2 0 rfl rfl (i := 0) (by omega) (by decide) dX4_runOn_68 ?_
        refine lv_aload_n hx hb dX4_runOn_69 rfl (lv_at hl 0 rfl) ?_
        refine va_get (D := D) (ci := 7) (v := .ref (sc 2)) (C := RX4) (T := TX4) (N := 5) hx hb hts hinX4 hown hK hP 0 rfl rfl 4 (by decide) (hts (.fieldLink RX4 31 "BridgeAuction$Script" "numbers" "[I") (by decide +kernel)) (fun _ h9 => h9) rfl dX4_runOn_70 ?_
        refine lv_iconst (v := 1) hx hb dX4_runOn_73 (by decide) ?_
        refine topN (k := 1) (by decide +kernel) ?_
        refine ialdN (tys := tyA C) hx hb hK hP 2 0 rfl rfl (i := 1) (by omega) (by decide) dX4_runOn_74 ?_
        refine lv_aload_n hx hb dX4_runOn_75 rfl (lv_at hl 0 rfl) ?_
        refine va_get (D := D) (ci := 7) (v := .ref (sc 2)) (C := RX4) (T := TX4) (N := 5) hx hb hts hinX4 hown hK hP 0 rfl rfl 4 (by decide) (hts (.fieldLink RX4 31 "BridgeAuction$Script" "numbers" "[I") (by decide +kernel)) (fun _ h9 => h9) rfl dX4_runOn_76 ?_
        refine lv_iconst (v := 2) hx hb dX4_runOn_79 (by decide) ?_
        refine topN (k := 2) (by decide +kernel) ?_
        refine ialdN (tys := tyA C) hx hb hK hP 2 0 rfl rfl (i := 2) (by omega) (by decide) dX4_runOn_80 ?_
        have hPc := hP.sub (ws' := (gcells C a G_7)) [3, 4, 5, 6, 7, 8, 9, 10, 11] rfl
        have hDc := hD.sub (ws' := (gcells C a G_7)) [3, 4, 5, 6, 7, 8, 9, 10, 11] (by decide) rfl
        have hFc := va_free (wc := (gcells C a G_7)) hD hS hA [3, 4, 5, 6, 7, 8, 9, 10, 11] rfl
        refine callRw (va_runV (As := [.ref (ev (10 + (sVb y20.2))), .int ((sNum y20.2) 0), .int ((sNum y20.2) 1), .int ((sNum y20.2) 2)]) (rest := []) ⟨hx, hb, hml, hown, hts⟩ (c_X1_play l D C ev a G_7 ((sVb y20.2)) (((sNum y20.2) 0)) (((sNum y20.2) 1)) (((sNum y20.2) 2)) _ (by assumption) (by omega) (by exact iv7_2) (by exact c_53)) (cwV 4 hts gX4_runOn_X1_play rfl rfl rfl (by decide +kernel) ⟨Nat.le_of_ble_eq_true rfl, Nat.le_of_ble_eq_true rfl⟩) (rwPE_v hPc hK hE hDc hR hX hS hFc (va_recv hK hPc (ci := 4) (q0 := 0) rfl rfl)) rfl rfl hl.1 rfl (lv_room (Nat.le_of_ble_eq_true rfl)) dX4_runOn_81 ⟨Nat.le_refl _, Nat.le_refl _⟩) hS hFc (fun H1 locs hPn hk hS => ?_)
        generalize hy81 : (f_X1_play G_7 ((sVb y20.2)) (((sNum y20.2) 0)) (((sNum y20.2) 1)) (((sNum y20.2) 2))) = y81 at hPn ⊢
        have hz := lt_eq hz hy81.symm
        have hP : va_P D vwCl (scells C ev sc y20.2 ++ gcells C a y81.2) H1 := rwJoin (wr := (scells C ev sc y20.2)) (ws' := (scells C ev sc y20.2 ++ gcells C a y81.2)) hP hD [3, 4, 5, 6, 7, 8, 9, 10, 11] [0, 1, 2] rfl rfl (by decide) (by decide) (by decide) hk hFc hPn rfl [0, 1, 2, 3, 4, 5, 6, 7, 8, 9, 10, 11] rfl
        have hD : va_D A (scells C ev sc y20.2 ++ gcells C a y81.2) := adr_D hD rfl
        generalize H1 = H at hP hS ⊢
        have a81 : GF y81.2 := by rw [← hy81]; exact X1_play_ok ⟨iv7_1, iv7_2⟩ a20.2.2 c_53
        refine lv_pop hx hb dX4_runOn_84 rfl ?_
        refine lv_iinc (v := (nI (k7 + 1))) (lv' := [(3, .int (nI (k7 + 1))), (0, .ref (sc 0)), (1, .ref (a 0)), (2, .int (nI n))]) hx hb dX4_runOn_85 hl (k := 3) rfl (by exact nI_1 _) (by decide) rfl (fun ls hl => ?_)
        refine lv_goto (tgt := 7) hx hb dX4_runOn_88 (by decide) ?_
        exact ih7 (k7 + 1) (y20.2) (y81.2) _ _ ls (by omega) (by rw [hq7, hz]; rfl) (by first | exact ⟨rfl, Nat.zero_le _, hVb⟩ | assumption) (by first | exact hG | exact a81.1) (by first | exact hF | exact a81.2) hP hD hS (lv_sub hl [1, 2, 3, 0] rfl)
      · have hz := hz.trans (if_neg c_53)
        refine lv_iload_n hx hb dX4_runOn_56 rfl (lv_at hl 3 rfl) ?_
        have hz := up1 hq7 hz
        have hz : z = ((nI k7), y20.2, G_7) := hz
        rw [hz]
        exact rw_ret hx hb hr hP hS rfl dX4_runOn_57 hlocks
  refine lv_aload_n hx hb dX4_runOn_0 rfl (lv_at hl 0 rfl) ?_
  refine lv_iconst (v := 0) hx hb dX4_runOn_1 (by decide) ?_
  refine topN (k := 0) (by decide +kernel) ?_
  refine va_put (D := D) (ci := 7) (v := .int (nI 0)) (ty := .int) (C := RX4) (T := TX4) (N := 5) hx hb hts hinX4 tyX4 tyX4_ok nmX4 hown hK hP hD hS 0 rfl rfl 2 (by decide) (hts (.fieldLink RX4 19 "BridgeAuction$Script" "at" "I") (by decide +kernel)) (fun _ h9 => h9) rfl (by decide +kernel) rfl rfl (Nat.le_of_ble_eq_true rfl) dX4_runOn_2 (fun H locs hP hD hS => ?_)
  have hP : va_P D vwCl (scells C ev sc (mkS (sSgn S) (sSiz S) 0 (sVb S) (sNum S)) ++ gcells C a G) H := hP
  have hD : va_D A (scells C ev sc (mkS (sSgn S) (sSiz S) 0 (sVb S) (sNum S)) ++ gcells C a G) := hD
  refine lv_iconst (v := 0) hx hb dX4_runOn_5 (by decide) ?_
  refine lv_istore_n (lv' := [(3, .int 0), (0, .ref (sc 0)), (1, .ref (a 0)), (2, .int (nI n))]) hx hb dX4_runOn_6 rfl hl (by decide) rfl (fun ls hl => ?_)
  exact J7 (n) 0 ((mkS (sSgn S) (sSiz S) 0 (sVb S) (sNum S))) (G) _ _ ls (by omega) hz (by first | exact ⟨rfl, Nat.zero_le _, hVb⟩ | assumption) (by first | exact hG | exact a81.1) (by first | exact hF | exact a81.2) hP hD hS (lv_sub hl [1, 2, 3, 0] rfl)

