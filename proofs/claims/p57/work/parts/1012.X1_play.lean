theorem X1_judge_1 {G : GS} {n : Nat} {x y w : Int32} (c : smB.getD n 0 = 1) : f_X1_judge G n x y w = f_X1_judgePlayer G x := by
  unfold f_X1_judge
  simp only [c]
  rfl
theorem X1_judge_2 {G : GS} {n : Nat} {x y w : Int32} (c : smB.getD n 0 = 2) : f_X1_judge G n x y w = f_X1_judgeSite G x y w := by
  unfold f_X1_judge
  simp only [c]
  rfl
theorem X1_judge_3 {G : GS} {n : Nat} {x y w : Int32} (c : smB.getD n 0 = 3) : f_X1_judge G n x y w = f_X1_judgeSuit G x y := by
  unfold f_X1_judge
  simp only [c]
  rfl
theorem X1_judge_4 {G : GS} {n : Nat} {x y w : Int32} (c : smB.getD n 0 = 4) : f_X1_judge G n x y w = f_X1_judgeTide x := by
  unfold f_X1_judge
  simp only [c]
  rfl
theorem X1_judge_5 {G : GS} {n : Nat} {x y w : Int32} (c : smB.getD n 0 = 5) : f_X1_judge G n x y w = f_X1_judgeBid G x y w := by
  unfold f_X1_judge
  simp only [c]
  rfl
theorem X1_judge_6 {G : GS} {n : Nat} {x y w : Int32} (c : smB.getD n 0 = 6) : f_X1_judge G n x y w = f_X1_judgeBluff G x y w := by
  unfold f_X1_judge
  simp only [c]
  rfl
theorem X1_judge_7 {G : GS} {n : Nat} {x y w : Int32} (c : smB.getD n 0 = 7) : f_X1_judge G n x y w = f_X1_judgeFerry G x y := by
  unfold f_X1_judge
  simp only [c]
  rfl
theorem X1_judge_8 {G : GS} {n : Nat} {x y w : Int32} (c : smB.getD n 0 = 8) : f_X1_judge G n x y w = f_X1_judgeDrop G x y := by
  unfold f_X1_judge
  simp only [c]
  rfl
theorem X1_judge_9 {G : GS} {n : Nat} {x y w : Int32} (c : smB.getD n 0 = 0) : f_X1_judge G n x y w = f_X1_judgeSettling G x := by
  unfold f_X1_judge
  simp only [c]
  rfl
theorem smB_0 {n : Nat} (h : n < 9) (c1 : ¬ smB.getD n 0 = 1) (c2 : ¬ smB.getD n 0 = 2) (c3 : ¬ smB.getD n 0 = 3) (c4 : ¬ smB.getD n 0 = 4) (c5 : ¬ smB.getD n 0 = 5) (c6 : ¬ smB.getD n 0 = 6) (c7 : ¬ smB.getD n 0 = 7) (c8 : ¬ smB.getD n 0 = 8) : smB.getD n 0 = 0 := by
  rcases (by omega : n = 0 ∨ n = 1 ∨ n = 2 ∨ n = 3 ∨ n = 4 ∨ n = 5 ∨ n = 6 ∨ n = 7 ∨ n = 8) with r | r | r | r | r | r | r | r | r <;> subst r
  · exact absurd rfl c1
  · exact absurd rfl c2
  · exact absurd rfl c3
  · exact absurd rfl c4
  · exact absurd rfl c5
  · exact absurd rfl c6
  · exact absurd rfl c7
  · exact absurd rfl c8
  · rfl
theorem X1_judgePlayer_0 {G : GS} (hG : GSafe G) {x : Int32} (h : f_X1_judgePlayer G x = 0) : gP G < 4 := by
  have h4 := hG.2.1
  rcases Nat.lt_or_ge (gP G) 4 with a | a
  · exact a
  · exfalso
    have e : gP G = 4 := by omega
    simp only [f_X1_judgePlayer, f_X1_judgePlayer_j31, f_X1_judgePlayer_j10] at h
    rw [e, if_pos (show nI 4 = (4 : Int32) from by decide +kernel)] at h
    revert h
    repeat' split
    all_goals (intro h; exact absurd h (by decide))
theorem X1_judgeSite_0 {G : GS} (hG : GSafe G) {x y w : Int32} (h : f_X1_judgeSite G x y w = 0) : vp_in x 8 ∧ vp_in y 8 ∧ gS G < 12 := by
  have h12 := hG.1
  simp only [f_X1_judgeSite, f_X1_judgeSite_j14, f_X1_judgeSite_j34, f_X1_judgeSite_j77] at h
  split at h
  · rename_i c1
    split at h
    · rename_i c2
      refine ⟨X1_isIsland_in c1, X1_isIsland_in c2, ?_⟩
      rcases Nat.lt_or_ge (gS G) 12 with a | a
      · exact a
      · exfalso
        have e : gS G = 12 := by omega
        rw [e, if_pos (show nI 12 = (12 : Int32) from by decide +kernel)] at h
        revert h
        repeat' split
        all_goals (intro h; exact absurd h (by decide))
    · exact absurd h (by decide)
  · exact absurd h (by decide)
theorem X1_judgeSuit_0 {G : GS} {x y : Int32} (h : f_X1_judgeSuit G x y = 0) : vp_in x 8 := by
  simp only [f_X1_judgeSuit] at h
  split at h
  · exact X1_isIsland_in (by assumption)
  · exact absurd h (by decide)
theorem X1_judgeBid_0 {G : GS} (hG : GSafe G) {x y w : Int32} (h : f_X1_judgeBid G x y w = 0) : vp_in x (gP G) ∧ vp_in y (gS G) := by
  simp only [f_X1_judgeBid] at h
  split at h
  · exact X1_judgeBluff_0 hG (by assumption)
  · exact X1_judgeBluff_0 hG h
theorem X1_judgeFerry_0 {G : GS} (hG : GSafe G) {x y : Int32} (h : f_X1_judgeFerry G x y = 0) : vp_in x (gP G) ∧ vp_in y (gS G) := by
  simp only [f_X1_judgeFerry, f_X1_judgeFerry_j16] at h
  split at h
  · rename_i c1
    split at h
    · rename_i c2
      exact ⟨X1_isPlayer_in hG c1, X1_isSite_in hG c2⟩
    · exact absurd h (by decide)
  · exact absurd h (by decide)
theorem X1_judgeDrop_0 {G : GS} (hG : GSafe G) {x y : Int32} (h : f_X1_judgeDrop G x y = 0) : vp_in x (gP G) ∧ vp_in y (gS G) := by
  simp only [f_X1_judgeDrop, f_X1_judgeDrop_j16] at h
  split at h
  · rename_i c1
    split at h
    · rename_i c2
      exact ⟨X1_isPlayer_in hG c1, X1_isSite_in hG c2⟩
    · exact absurd h (by decide)
  · exact absurd h (by decide)
def FerOK (G : GS) : Prop := ∀ k, k < 12 → gFer G k = -1 ∨ vp_in (gFer G k) 4
theorem X1_winnerOf_in {G : GS} (hG : GSafe G) (hF : FerOK G) {k : Nat} (hk : k < 12) (h : ¬ f_X1_winnerOf G k = -1) : vp_in (f_X1_winnerOf G k) 4 := by
  have h4 := hG.2.1
  revert h
  unfold f_X1_winnerOf
  split
  · intro h
    have key : f_X1_winnerOf_l24 G k (gP G) 0 (-1) 0 = -1 ∨ vp_in (f_X1_winnerOf_l24 G k (gP G) 0 (-1) 0) 4 := by
      refine lpF_invN (step := f_X1_winnerOf_l24s G k) (ex := f_X1_winnerOf_l24e G k) (gP G) (fun _ (s : Int32 × Int32) => s.1 = -1 ∨ vp_in s.1 4) (fun r => r = -1 ∨ vp_in r 4) ?_ ?_ ?_ (gP G) 0 _ (Nat.zero_add _) (Or.inl rfl)
      · intro k s r hk hI hs
        simp only [f_X1_winnerOf_l24s, f_X1_winnerOf_l24b, f_X1_winnerOf_j55] at hs
        split at hs
        all_goals cases hs
      · intro k s s' hk hI hs
        simp only [f_X1_winnerOf_l24s, f_X1_winnerOf_l24b, f_X1_winnerOf_j55] at hs
        split at hs
        · cases hs; exact hI
        · cases hs; exact Or.inr (vp_in_nI (by omega) (by decide))
      · intro s hI; exact hI
    exact key.resolve_left h
  · intro h; exact (hF k hk).resolve_left h
theorem X1_judgeSettling_0 {G : GS} (hG : GSafe G) (hF : FerOK G) {x : Int32} (h : f_X1_judgeSettling G x = 0) : vp_in x (gS G) ∧ vp_in (f_X1_winnerOf G x.toNatClampNeg) 4 := by
  simp only [f_X1_judgeSettling, f_X1_judgeSettling_j42] at h
  split at h
  · rename_i c1
    have hs := X1_isSite_in hG c1
    refine ⟨hs, ?_⟩
    split at h
    · exact absurd h (by decide)
    · split at h
      · exact absurd h (by decide)
      · rename_i c3
        exact X1_winnerOf_in hG hF (nat_of (vp_mono hs hG.1) (by decide)).2 c3
  · exact absurd h (by decide)
def f_X1_play_j149  (s0_149 : Bool) (G_149 : GS) : Int32 × GS := ((bI s0_149), G_149)
def f_X1_play (G : GS) (n : Nat) (x : Int32) (y : Int32) (w : Int32) : Int32 × GS := (if (smB.getD n 0) = 1 then (lt_ (f_X1_join G (x)) (fun y58 => ((nI y58.1), y58.2))) else (if (smB.getD n 0) = 2 then (lt_ (f_X1_open G (x.toNatClampNeg) (y.toNatClampNeg) (w)) (fun y67 => ((nI y67.1), y67.2))) else (if (smB.getD n 0) = 3 then (lt_ (f_X1_giveSuit G (x.toNatClampNeg) (y)) (fun y74 => (y74.1, y74.2))) else (if (smB.getD n 0) = 4 then (lt_ (f_X1_moveTide G (x)) (fun y80 => (y80.1, y80.2))) else (if (smB.getD n 0) = 5 then ((f_X1_availableTo (mkG (gSuit G) (gTide G) (gP G) (gMon G) (gUsed G) (gS G) (gLo G) (gHi G) (gLen G) (gBld G) (gFer G) (upd (gOff G) (y.toNatClampNeg * 4 + x.toNatClampNeg) w) (gIni G) (gBank G) (gSet G) (gBlf G)) (x.toNatClampNeg)), (mkG (gSuit G) (gTide G) (gP G) (gMon G) (gUsed G) (gS G) (gLo G) (gHi G) (gLen G) (gBld G) (gFer G) (upd (gOff G) (y.toNatClampNeg * 4 + x.toNatClampNeg) w) (gIni G) (gBank G) (gSet G) (gBlf G))) else (if (smB.getD n 0) = 6 then ((f_X1_bidsAbove (mkG (gSuit G) (gTide G) (gP G) (gMon G) (gUsed G) (gS G) (gLo G) (gHi G) (gLen G) (gBld G) (gFer G) (upd (gOff G) (y.toNatClampNeg * 4 + x.toNatClampNeg) (-w)) (gIni G) (gBank G) (gSet G) (gBlf G)) (y.toNatClampNeg) (0)), (mkG (gSuit G) (gTide G) (gP G) (gMon G) (gUsed G) (gS G) (gLo G) (gHi G) (gLen G) (gBld G) (gFer G) (upd (gOff G) (y.toNatClampNeg * 4 + x.toNatClampNeg) (-w)) (gIni G) (gBank G) (gSet G) (gBlf G))) else (if (smB.getD n 0) = 7 then (lt_ (f_X1_sendFerry G (x.toNatClampNeg) (y.toNatClampNeg)) (fun y125 => (y125.1, y125.2))) else (if (smB.getD n 0) = 8 then (lt_ (f_X1_drop G (x.toNatClampNeg) (y.toNatClampNeg)) (fun y132 => (y132.1, y132.2))) else (lt_ (f_X1_close G (x.toNatClampNeg)) (fun y138 => (if y138.1 = true then (f_X1_play_j149 (true) (y138.2)) else (f_X1_play_j149 (false) (y138.2)))))))))))))
set_option maxHeartbeats 4000000 in
set_option maxRecDepth 100000 in
theorem c_X1_play (l : Launch) (D : va_G) (C : Nat → ClassId) (ev : Nat → Nat) (a : Nat → Nat) (G : GS) (n : Nat) (x : Int32) (y : Int32) (w : Int32) (sz : Nat) (hG : GSafe G) (h_n : n < 9) (hF : FerOK G) (hj : f_X1_judge G n x y w = 0) : Met l yX1_play wsX1_play ({ frames := 4, cells := 0, slots := 0, locals := 92 } : Room) (rwPE [.ref (a 0), .ref (ev (10 + n)), .int x, .int y, .int w] D C ev (gcells C a G) sz) (rwO (some (.int ((f_X1_play G n x y w).1))) D (gcells C a ((f_X1_play G n x y w).2)) (va_A (gcells C a G) sz)) 0 0 (va_A (gcells C a G) sz) := by
  refine Met.ofW (cc := cX1_play) (maxL := 5) (ret := (some .int)) (by decide) rfl ?_
  intro p e s m args below meth c s₁ B hml hv
  obtain ⟨rfl, hsz, hP, hK, hD0, hE, hR, hX⟩ := hv
  have hx := B.exec
  have hb := B.bytes
  have hr := B.returns
  have hts := atoms_spec (ws := wsX1_play) B.pre
  have hown : s.vm.findClass RX1 = some m.cls := findClass_of_methodNamed B.named
  have hlocks := B.notSynchronized
  subst hsz
  have hD := hD0.self (sz := s.heap.size)
  generalize hAe : va_A (gcells C a G) s.heap.size = A at hD hX ⊢
  have hA : ∀ q : Nat, s.heap.size ≤ q → A q := fun q h => by rw [← hAe]; exact Or.inr h
  have hS0 : va_S A s.heap s.heap [] := va_S.rf
  have hP : va_P D vwCl (gcells C a G) s.heap := hP
  have hS := hS0
  obtain ⟨⟨hV, hB, hMV, hMB, hAL, hEk, hEa, hTX, hXZ⟩, hCS, hSF⟩ := id hX
  obtain ⟨hS12, hP4, hlo, hhi⟩ := id hG
  have hinX1 : ∀ w ∈ u_ws RX1 TX1 16, w ∈ wsX1_play := by decide +kernel
  have hl := lv_entry ([.ref (a 0), .ref (ev (10 + n)), .int x, .int y, .int w]) (n := 5) (Nat.le_of_ble_eq_true rfl)
  rw [lg_entry_eq]
  generalize (lg_sl ([.ref (a 0), .ref (ev (10 + n)), .int x, .int y, .int w]) ++ List.replicate (5 - (lg_sl ([.ref (a 0), .ref (ev (10 + n)), .int x, .int y, .int w])).length) Slot.unset).toArray = ls at hl ⊢
  have hl : lv_has ls 5 [(0, .ref (a 0)), (1, .ref (ev (10 + n))), (2, .int x), (3, .int y), (4, .int w)] := hl
  obtain ⟨z, hz⟩ : ∃ z, z = f_X1_play G n x y w := ⟨_, rfl⟩
  rw [← hz]
  have J149 : ∀ (s0_149 : Bool) (G_149 : GS)  (H : Heap) (locs : List Loc) (ls : Array Slot), z = f_X1_play_j149 s0_149 G_149 → va_P D vwCl (gcells C a G_149) H → va_D A (gcells C a G_149) → va_S A s.heap H locs → lv_has ls 5 [] → W p l e ({ frames := 4, cells := 0, slots := 0, locals := 92 } : Room) s m ([.ref (a 0), .ref (ev (10 + n)), .int x, .int y, .int w] : List Value).toArray below meth c H locs 0 0 (MQ below (rwO (some (.int z.1)) D (gcells C a z.2) A) ([.ref (a 0), .ref (ev (10 + n)), .int x, .int y, .int w] : List Value).toArray s 0 0 A) (F0 m 149 ls [.int (bI s0_149)]) := by
    intro s0_149 G_149 H locs ls hz  hP hD hS hl
    have hz : z = ((bI s0_149), G_149) := hz
    rw [hz]
    exact rw_ret hx hb hr hP hS rfl dX1_play_149 hlocks
  refine va_gets (v := .ref (ev 31)) (C := "BridgeAuction$1") (n := "$SwitchMap$BridgeAuction$Verb") (d := "[I") hx hb hMB.1 hS hown (hts (.fieldLink RX1 67 "BridgeAuction$1" "$SwitchMap$BridgeAuction$Verb" "[I") (by decide +kernel)) (fun _ h9 => h9) dX1_play_0 ?_
  refine lv_aload_n hx hb dX1_play_3 rfl (lv_at hl 1 rfl) ?_
  refine callRo (va_runU (As := []) (rest := [.ref (ev 31)]) ⟨hx, hb, hml, hown, hts⟩ (c_ordB l D C ev n (by omega)) (va_cwU 0 hts gX1_play_Jx29ce0_ordinal_8abf5_u72X5 rfl rfl rfl rfl (by decide +kernel) ⟨Nat.le_of_ble_eq_true rfl, Nat.le_of_ble_eq_true rfl⟩) (roPE_v (hP.sub (ws' := ([] : va_W)) [] rfl) hK hE hR hX hS (va_Orecv (hB.1 n (by show n < 9; omega)).2.1 hS)) rfl rfl hl.1 rfl (lv_room (Nat.le_of_ble_eq_true rfl)) dX1_play_4 ⟨Nat.le_refl _, Nat.le_refl _⟩) ?_
  refine topN (k := n) rfl ?_
  refine va_ti (v := .int (smB.getD n 0)) hx hb hMB.2 hS (vp_in_nI (by omega) (by decide)) (smB_at (by omega)) dX1_play_7 ?_
  by_cases c_8_0 : (smB.getD n 0) = 1
  · have hz := hz.trans (if_pos c_8_0)
    refine lv_tableIn (tgt := 56) hx hb dX1_play_8 (by rw [c_8_0]; decide) (by rw [c_8_0]; decide) (by rw [c_8_0]; rfl) (by decide) ?_
    have q := X1_judgePlayer_0 hG ((X1_judge_1 c_8_0).symm.trans hj)
    refine lv_aload_n hx hb dX1_play_56 rfl (lv_at hl 0 rfl) ?_
    refine lv_iload_n hx hb dX1_play_57 rfl (lv_at hl 2 rfl) ?_
    have hFc := va_free (wc := (gcells C a G)) hD hS hA [0, 1, 2, 3, 4, 5, 6, 7, 8] rfl
    refine callRw (va_runV (As := [.int x]) (rest := []) ⟨hx, hb, hml, hown, hts⟩ (c_X1_join l D C a G (x) _ hG (by first | assumption | omega)) (cwV 1 hts gX1_play_X1_join rfl rfl rfl (by decide +kernel) ⟨Nat.le_of_ble_eq_true rfl, Nat.le_of_ble_eq_true rfl⟩) (rwP_v hP hK hE hD (va_recv hK hP (ci := 4) (q0 := 0) rfl rfl)) rfl rfl hl.1 rfl (lv_room (Nat.le_of_ble_eq_true rfl)) dX1_play_58 ⟨Nat.le_refl _, Nat.le_refl _⟩) hS hFc (fun H1 locs hPn hk hS => ?_)
    generalize hy58 : (f_X1_join G (x)) = y58 at hPn ⊢
    have hz := lt_eq hz hy58.symm
    have hP : va_P D vwCl (gcells C a y58.2) H1 := hPn
    have hD : va_D A (gcells C a y58.2) := adr_D hD rfl
    generalize H1 = H at hP hS ⊢
    have hz : z = ((nI y58.1), y58.2) := hz
    rw [hz]
    exact rw_ret hx hb hr hP hS rfl dX1_play_61 hlocks
  have hz := hz.trans (if_neg c_8_0)
  by_cases c_8_1 : (smB.getD n 0) = 2
  · have hz := hz.trans (if_pos c_8_1)
    refine lv_tableIn (tgt := 62) hx hb dX1_play_8 (by rw [c_8_1]; decide) (by rw [c_8_1]; decide) (by rw [c_8_1]; rfl) (by decide) ?_
    have q := X1_judgeSite_0 hG ((X1_judge_2 c_8_1).symm.trans hj)
    have hx8 := q.1
    have hy8 := q.2.1
    have hlt := q.2.2
    refine lv_aload_n hx hb dX1_play_62 rfl (lv_at hl 0 rfl) ?_
    refine lv_iload_n hx hb dX1_play_63 rfl (lv_at hl 2 rfl) ?_
    refine lv_iload_n hx hb dX1_play_64 rfl (lv_at hl 3 rfl) ?_
    refine lv_iload hx hb dX1_play_65 (lv_at hl 4 rfl) ?_
    obtain ⟨ehn_1, lhn_1⟩ := nat_of (x := x) (n := 8) (by first | assumption) (by omega)
    refine topN3 ehn_1 ?_
    obtain ⟨ehn_2, lhn_2⟩ := nat_of (x := y) (n := 8) (by first | assumption) (by omega)
    refine topN2 ehn_2 ?_
    have hFc := va_free (wc := (gcells C a G)) hD hS hA [0, 1, 2, 3, 4, 5, 6, 7, 8] rfl
    refine callRw (va_runV (As := [.int (nI x.toNatClampNeg), .int (nI y.toNatClampNeg), .int w]) (rest := []) ⟨hx, hb, hml, hown, hts⟩ (c_X1_open l D C a G (x.toNatClampNeg) (y.toNatClampNeg) (w) _ hG (by omega) (by omega) (by first | assumption | omega)) (cwV 3 hts gX1_play_X1_open rfl rfl rfl (by decide +kernel) ⟨Nat.le_of_ble_eq_true rfl, Nat.le_of_ble_eq_true rfl⟩) (rwP_v hP hK hE hD (va_recv hK hP (ci := 4) (q0 := 0) rfl rfl)) rfl rfl hl.1 rfl (lv_room (Nat.le_of_ble_eq_true rfl)) dX1_play_67 ⟨Nat.le_refl _, Nat.le_refl _⟩) hS hFc (fun H1 locs hPn hk hS => ?_)
    generalize hy67 : (f_X1_open G (x.toNatClampNeg) (y.toNatClampNeg) (w)) = y67 at hPn ⊢
    have hz := lt_eq hz hy67.symm
    have hP : va_P D vwCl (gcells C a y67.2) H1 := hPn
    have hD : va_D A (gcells C a y67.2) := adr_D hD rfl
    generalize H1 = H at hP hS ⊢
    have hz : z = ((nI y67.1), y67.2) := hz
    rw [hz]
    exact rw_ret hx hb hr hP hS rfl dX1_play_70 hlocks
  have hz := hz.trans (if_neg c_8_1)
  by_cases c_8_2 : (smB.getD n 0) = 3
  · have hz := hz.trans (if_pos c_8_2)
    refine lv_tableIn (tgt := 71) hx hb dX1_play_8 (by rw [c_8_2]; decide) (by rw [c_8_2]; decide) (by rw [c_8_2]; rfl) (by decide) ?_
    have q := X1_judgeSuit_0 ((X1_judge_3 c_8_2).symm.trans hj)
    have hx8 := q
    refine lv_aload_n hx hb dX1_play_71 rfl (lv_at hl 0 rfl) ?_
    refine lv_iload_n hx hb dX1_play_72 rfl (lv_at hl 2 rfl) ?_
    refine lv_iload_n hx hb dX1_play_73 rfl (lv_at hl 3 rfl) ?_
    obtain ⟨ehn_3, lhn_3⟩ := nat_of (x := x) (n := 8) (by first | assumption) (by omega)
    refine topN2 ehn_3 ?_
    have hFc := va_free (wc := (gcells C a G)) hD hS hA [0, 1, 2, 3, 4, 5, 6, 7, 8] rfl
    refine callRw (va_runV (As := [.int (nI x.toNatClampNeg), .int y]) (rest := []) ⟨hx, hb, hml, hown, hts⟩ (c_X1_giveSuit l D C a G (x.toNatClampNeg) (y) _ hG (by omega)) (cwV 2 hts gX1_play_X1_giveSuit rfl rfl rfl (by decide +kernel) ⟨Nat.le_of_ble_eq_true rfl, Nat.le_of_ble_eq_true rfl⟩) (rwP_v hP hK hE hD (va_recv hK hP (ci := 4) (q0 := 0) rfl rfl)) rfl rfl hl.1 rfl (lv_room (Nat.le_of_ble_eq_true rfl)) dX1_play_74 ⟨Nat.le_refl _, Nat.le_refl _⟩) hS hFc (fun H1 locs hPn hk hS => ?_)
    generalize hy74 : (f_X1_giveSuit G (x.toNatClampNeg) (y)) = y74 at hPn ⊢
    have hz := lt_eq hz hy74.symm
    have hP : va_P D vwCl (gcells C a y74.2) H1 := hPn
    have hD : va_D A (gcells C a y74.2) := adr_D hD rfl
    generalize H1 = H at hP hS ⊢
    have hz : z = (y74.1, y74.2) := hz
    rw [hz]
    exact rw_ret hx hb hr hP hS rfl dX1_play_77 hlocks
  have hz := hz.trans (if_neg c_8_2)
  by_cases c_8_3 : (smB.getD n 0) = 4
  · have hz := hz.trans (if_pos c_8_3)
    refine lv_tableIn (tgt := 78) hx hb dX1_play_8 (by rw [c_8_3]; decide) (by rw [c_8_3]; decide) (by rw [c_8_3]; rfl) (by decide) ?_
    refine lv_aload_n hx hb dX1_play_78 rfl (lv_at hl 0 rfl) ?_
    refine lv_iload_n hx hb dX1_play_79 rfl (lv_at hl 2 rfl) ?_
    have hFc := va_free (wc := (gcells C a G)) hD hS hA [0, 1, 2, 3, 4, 5, 6, 7, 8] rfl
    refine callRw (va_runV (As := [.int x]) (rest := []) ⟨hx, hb, hml, hown, hts⟩ (c_X1_moveTide l D C a G (x) _ hG) (cwV 1 hts gX1_play_X1_moveTide rfl rfl rfl (by decide +kernel) ⟨Nat.le_of_ble_eq_true rfl, Nat.le_of_ble_eq_true rfl⟩) (rwP_v hP hK hE hD (va_recv hK hP (ci := 4) (q0 := 0) rfl rfl)) rfl rfl hl.1 rfl (lv_room (Nat.le_of_ble_eq_true rfl)) dX1_play_80 ⟨Nat.le_refl _, Nat.le_refl _⟩) hS hFc (fun H1 locs hPn hk hS => ?_)
    generalize hy80 : (f_X1_moveTide G (x)) = y80 at hPn ⊢
    have hz := lt_eq hz hy80.symm
    have hP : va_P D vwCl (gcells C a y80.2) H1 := hPn
    have hD : va_D A (gcells C a y80.2) := adr_D hD rfl
    generalize H1 = H at hP hS ⊢
    have hz : z = (y80.1, y80.2) := hz
    rw [hz]
    exact rw_ret hx hb hr hP hS rfl dX1_play_83 hlocks
  have hz := hz.trans (if_neg c_8_3)
  by_cases c_8_4 : (smB.getD n 0) = 5
  · have hz := hz.trans (if_pos c_8_4)
    refine lv_tableIn (tgt := 84) hx hb dX1_play_8 (by rw [c_8_4]; decide) (by rw [c_8_4]; decide) (by rw [c_8_4]; rfl) (by decide) ?_
    have q := X1_judgeBid_0 hG ((X1_judge_5 c_8_4).symm.trans hj)
    have hp := vp_mono q.1 hP4
    have hs := vp_mono q.2 hS12
    have ex := (nat_of hp (by decide)).1
    have lx := (nat_of hp (by decide)).2
    have ey := (nat_of hs (by decide)).1
    have ly := (nat_of hs (by decide)).2
    refine lv_aload_n hx hb dX1_play_84 rfl (lv_at hl 0 rfl) ?_
    refine va_get (D := D) (ci := 4) (v := .ref (a 8)) (C := RX1) (T := TX1) (N := 16) hx hb hts hinX1 hown hK hP 0 rfl rfl 11 (by decide) (hts (.fieldLink RX1 46 "BridgeAuction$Game" "offers" "[I") (by decide +kernel)) (fun _ h9 => h9) rfl dX1_play_85 ?_
    refine lv_iload_n hx hb dX1_play_88 rfl (lv_at hl 2 rfl) ?_
    refine lv_iload_n hx hb dX1_play_89 rfl (lv_at hl 3 rfl) ?_
    obtain ⟨ehn_4, lhn_4⟩ := nat_of (x := x) (n := 4) (by first | assumption) (by omega)
    refine topN2 ehn_4 ?_
    obtain ⟨ehn_5, lhn_5⟩ := nat_of (x := y) (n := 12) (by first | assumption) (by omega)
    refine topN ehn_5 ?_
    refine callRo (va_runS (As := [.int (nI x.toNatClampNeg), .int (nI y.toNatClampNeg)]) (rest := [.ref (a 8)]) ⟨hx, hb, hml, hown, hts⟩ (c_X1_slot l D C (x.toNatClampNeg) (y.toNatClampNeg) (by omega) (by omega)) (va_cwS 2 hts gX1_play_X1_slot rfl rfl rfl (by decide +kernel) ⟨Nat.le_of_ble_eq_true rfl, Nat.le_of_ble_eq_true rfl⟩) (roP_s (hP.sub (ws' := ([] : va_W)) [] rfl) hK hE) rfl rfl hl.1 rfl (lv_room (Nat.le_of_ble_eq_true rfl)) dX1_play_90 ⟨Nat.le_refl _, Nat.le_refl _⟩) ?_
    refine topN (k := (y.toNatClampNeg * 4 + x.toNatClampNeg)) rfl ?_
    refine lv_iload hx hb dX1_play_93 (lv_at hl 4 rfl) ?_
    refine iastN (tys := tyA C) hx hb hK hP hD hS 8 0 rfl rfl (i := (y.toNatClampNeg * 4 + x.toNatClampNeg)) (by omega) (by decide) dX1_play_95 (fun H locs hP hD hS => ?_)
    have hP : va_P D vwCl (gcells C a (mkG (gSuit G) (gTide G) (gP G) (gMon G) (gUsed G) (gS G) (gLo G) (gHi G) (gLen G) (gBld G) (gFer G) (upd (gOff G) (y.toNatClampNeg * 4 + x.toNatClampNeg) w) (gIni G) (gBank G) (gSet G) (gBlf G))) H := hP
    have hD : va_D A (gcells C a (mkG (gSuit G) (gTide G) (gP G) (gMon G) (gUsed G) (gS G) (gLo G) (gHi G) (gLen G) (gBld G) (gFer G) (upd (gOff G) (y.toNatClampNeg * 4 + x.toNatClampNeg) w) (gIni G) (gBank G) (gSet G) (gBlf G))) := hD
    refine lv_aload_n hx hb dX1_play_96 rfl (lv_at hl 0 rfl) ?_
    refine lv_iload_n hx hb dX1_play_97 rfl (lv_at hl 2 rfl) ?_
    obtain ⟨ehn_6, lhn_6⟩ := nat_of (x := x) (n := 4) (by first | assumption) (by omega)
    refine topN ehn_6 ?_
    refine callRo (va_runV (As := [.int (nI x.toNatClampNeg)]) (rest := []) ⟨hx, hb, hml, hown, hts⟩ (c_X1_availableTo l D C a (mkG (gSuit G) (gTide G) (gP G) (gMon G) (gUsed G) (gS G) (gLo G) (gHi G) (gLen G) (gBld G) (gFer G) (upd (gOff G) (y.toNatClampNeg * 4 + x.toNatClampNeg) w) (gIni G) (gBank G) (gSet G) (gBlf G)) (x.toNatClampNeg) (GSafe_of hG rfl rfl rfl rfl) (by omega)) (cwV 1 hts gX1_play_X1_availableTo rfl rfl rfl (by decide +kernel) ⟨Nat.le_of_ble_eq_true rfl, Nat.le_of_ble_eq_true rfl⟩) (roP_v hP hK hE (va_recv hK hP (ci := 4) (q0 := 0) rfl rfl)) rfl rfl hl.1 rfl (lv_room (Nat.le_of_ble_eq_true rfl)) dX1_play_98 ⟨Nat.le_refl _, Nat.le_refl _⟩) ?_
    have hz : z = ((f_X1_availableTo (mkG (gSuit G) (gTide G) (gP G) (gMon G) (gUsed G) (gS G) (gLo G) (gHi G) (gLen G) (gBld G) (gFer G) (upd (gOff G) (y.toNatClampNeg * 4 + x.toNatClampNeg) w) (gIni G) (gBank G) (gSet G) (gBlf G)) (x.toNatClampNeg)), (mkG (gSuit G) (gTide G) (gP G) (gMon G) (gUsed G) (gS G) (gLo G) (gHi G) (gLen G) (gBld G) (gFer G) (upd (gOff G) (y.toNatClampNeg * 4 + x.toNatClampNeg) w) (gIni G) (gBank G) (gSet G) (gBlf G))) := hz
    rw [hz]
    exact rw_ret hx hb hr hP hS rfl dX1_play_101 hlocks
  have hz := hz.trans (if_neg c_8_4)
  by_cases c_8_5 : (smB.getD n 0) = 6
  · have hz := hz.trans (if_pos c_8_5)
    refine lv_tableIn (tgt := 102) hx hb dX1_play_8 (by rw [c_8_5]; decide) (by rw [c_8_5]; decide) (by rw [c_8_5]; rfl) (by decide) ?_
    have q := X1_judgeBluff_0 hG ((X1_judge_6 c_8_5).symm.trans hj)
    have hp := vp_mono q.1 hP4
    have hs := vp_mono q.2 hS12
    have ex := (nat_of hp (by decide)).1
    have lx := (nat_of hp (by decide)).2
    have ey := (nat_of hs (by decide)).1
    have ly := (nat_of hs (by decide)).2
    refine lv_aload_n hx hb dX1_play_102 rfl (lv_at hl 0 rfl) ?_
    refine va_get (D := D) (ci := 4) (v := .ref (a 8)) (C := RX1) (T := TX1) (N := 16) hx hb hts hinX1 hown hK hP 0 rfl rfl 11 (by decide) (hts (.fieldLink RX1 46 "BridgeAuction$Game" "offers" "[I") (by decide +kernel)) (fun _ h9 => h9) rfl dX1_play_103 ?_
    refine lv_iload_n hx hb dX1_play_106 rfl (lv_at hl 2 rfl) ?_
    refine lv_iload_n hx hb dX1_play_107 rfl (lv_at hl 3 rfl) ?_
    obtain ⟨ehn_7, lhn_7⟩ := nat_of (x := x) (n := 4) (by first | assumption) (by omega)
    refine topN2 ehn_7 ?_
    obtain ⟨ehn_8, lhn_8⟩ := nat_of (x := y) (n := 12) (by first | assumption) (by omega)
    refine topN ehn_8 ?_
    refine callRo (va_runS (As := [.int (nI x.toNatClampNeg), .int (nI y.toNatClampNeg)]) (rest := [.ref (a 8)]) ⟨hx, hb, hml, hown, hts⟩ (c_X1_slot l D C (x.toNatClampNeg) (y.toNatClampNeg) (by omega) (by omega)) (va_cwS 2 hts gX1_play_X1_slot rfl rfl rfl (by decide +kernel) ⟨Nat.le_of_ble_eq_true rfl, Nat.le_of_ble_eq_true rfl⟩) (roP_s (hP.sub (ws' := ([] : va_W)) [] rfl) hK hE) rfl rfl hl.1 rfl (lv_room (Nat.le_of_ble_eq_true rfl)) dX1_play_108 ⟨Nat.le_refl _, Nat.le_refl _⟩) ?_
    refine topN (k := (y.toNatClampNeg * 4 + x.toNatClampNeg)) rfl ?_
    refine lv_iload hx hb dX1_play_111 (lv_at hl 4 rfl) ?_
    refine lv_ineg hx hb dX1_play_113 ?_
    refine iastN (tys := tyA C) hx hb hK hP hD hS 8 0 rfl rfl (i := (y.toNatClampNeg * 4 + x.toNatClampNeg)) (by omega) (by decide) dX1_play_114 (fun H locs hP hD hS => ?_)
    have hP : va_P D vwCl (gcells C a (mkG (gSuit G) (gTide G) (gP G) (gMon G) (gUsed G) (gS G) (gLo G) (gHi G) (gLen G) (gBld G) (gFer G) (upd (gOff G) (y.toNatClampNeg * 4 + x.toNatClampNeg) (-w)) (gIni G) (gBank G) (gSet G) (gBlf G))) H := hP
    have hD : va_D A (gcells C a (mkG (gSuit G) (gTide G) (gP G) (gMon G) (gUsed G) (gS G) (gLo G) (gHi G) (gLen G) (gBld G) (gFer G) (upd (gOff G) (y.toNatClampNeg * 4 + x.toNatClampNeg) (-w)) (gIni G) (gBank G) (gSet G) (gBlf G))) := hD
    refine lv_aload_n hx hb dX1_play_115 rfl (lv_at hl 0 rfl) ?_
    refine lv_iload_n hx hb dX1_play_116 rfl (lv_at hl 3 rfl) ?_
    refine lv_iconst (v := 0) hx hb dX1_play_117 (by decide) ?_
    obtain ⟨ehn_9, lhn_9⟩ := nat_of (x := y) (n := 12) (by first | assumption) (by omega)
    refine topN2 ehn_9 ?_
    refine callRo (va_runV (As := [.int (nI y.toNatClampNeg), .int 0]) (rest := []) ⟨hx, hb, hml, hown, hts⟩ (c_X1_bidsAbove l D C a (mkG (gSuit G) (gTide G) (gP G) (gMon G) (gUsed G) (gS G) (gLo G) (gHi G) (gLen G) (gBld G) (gFer G) (upd (gOff G) (y.toNatClampNeg * 4 + x.toNatClampNeg) (-w)) (gIni G) (gBank G) (gSet G) (gBlf G)) (y.toNatClampNeg) (0) (GSafe_of hG rfl rfl rfl rfl) (by omega)) (cwV 2 hts gX1_play_X1_bidsAbove rfl rfl rfl (by decide +kernel) ⟨Nat.le_of_ble_eq_true rfl, Nat.le_of_ble_eq_true rfl⟩) (roP_v hP hK hE (va_recv hK hP (ci := 4) (q0 := 0) rfl rfl)) rfl rfl hl.1 rfl (lv_room (Nat.le_of_ble_eq_true rfl)) dX1_play_118 ⟨Nat.le_refl _, Nat.le_refl _⟩) ?_
    have hz : z = ((f_X1_bidsAbove (mkG (gSuit G) (gTide G) (gP G) (gMon G) (gUsed G) (gS G) (gLo G) (gHi G) (gLen G) (gBld G) (gFer G) (upd (gOff G) (y.toNatClampNeg * 4 + x.toNatClampNeg) (-w)) (gIni G) (gBank G) (gSet G) (gBlf G)) (y.toNatClampNeg) (0)), (mkG (gSuit G) (gTide G) (gP G) (gMon G) (gUsed G) (gS G) (gLo G) (gHi G) (gLen G) (gBld G) (gFer G) (upd (gOff G) (y.toNatClampNeg * 4 + x.toNatClampNeg) (-w)) (gIni G) (gBank G) (gSet G) (gBlf G))) := hz
    rw [hz]
    exact rw_ret hx hb hr hP hS rfl dX1_play_121 hlocks
  have hz := hz.trans (if_neg c_8_5)
  by_cases c_8_6 : (smB.getD n 0) = 7
  · have hz := hz.trans (if_pos c_8_6)
    refine lv_tableIn (tgt := 122) hx hb dX1_play_8 (by rw [c_8_6]; decide) (by rw [c_8_6]; decide) (by rw [c_8_6]; rfl) (by decide) ?_
    have q := X1_judgeFerry_0 hG ((X1_judge_7 c_8_6).symm.trans hj)
    have hp := vp_mono q.1 hP4
    have hs := vp_mono q.2 hS12
    have ex := (nat_of hp (by decide)).1
    have lx := (nat_of hp (by decide)).2
    have ey := (nat_of hs (by decide)).1
    have ly := (nat_of hs (by decide)).2
    refine lv_aload_n hx hb dX1_play_122 rfl (lv_at hl 0 rfl) ?_
    refine lv_iload_n hx hb dX1_play_123 rfl (lv_at hl 2 rfl) ?_
    refine lv_iload_n hx hb dX1_play_124 rfl (lv_at hl 3 rfl) ?_
    obtain ⟨ehn_10, lhn_10⟩ := nat_of (x := x) (n := 4) (by first | assumption) (by omega)
    refine topN2 ehn_10 ?_
    obtain ⟨ehn_11, lhn_11⟩ := nat_of (x := y) (n := 12) (by first | assumption) (by omega)
    refine topN ehn_11 ?_
    have hFc := va_free (wc := (gcells C a G)) hD hS hA [0, 1, 2, 3, 4, 5, 6, 7, 8] rfl
    refine callRw (va_runV (As := [.int (nI x.toNatClampNeg), .int (nI y.toNatClampNeg)]) (rest := []) ⟨hx, hb, hml, hown, hts⟩ (c_X1_sendFerry l D C a G (x.toNatClampNeg) (y.toNatClampNeg) _ hG (by omega) (by omega)) (cwV 2 hts gX1_play_X1_sendFerry rfl rfl rfl (by decide +kernel) ⟨Nat.le_of_ble_eq_true rfl, Nat.le_of_ble_eq_true rfl⟩) (rwP_v hP hK hE hD (va_recv hK hP (ci := 4) (q0 := 0) rfl rfl)) rfl rfl hl.1 rfl (lv_room (Nat.le_of_ble_eq_true rfl)) dX1_play_125 ⟨Nat.le_refl _, Nat.le_refl _⟩) hS hFc (fun H1 locs hPn hk hS => ?_)
    generalize hy125 : (f_X1_sendFerry G (x.toNatClampNeg) (y.toNatClampNeg)) = y125 at hPn ⊢
    have hz := lt_eq hz hy125.symm
    have hP : va_P D vwCl (gcells C a y125.2) H1 := hPn
    have hD : va_D A (gcells C a y125.2) := adr_D hD rfl
    generalize H1 = H at hP hS ⊢
    have hz : z = (y125.1, y125.2) := hz
    rw [hz]
    exact rw_ret hx hb hr hP hS rfl dX1_play_128 hlocks
  have hz := hz.trans (if_neg c_8_6)
  by_cases c_8_7 : (smB.getD n 0) = 8
  · have hz := hz.trans (if_pos c_8_7)
    refine lv_tableIn (tgt := 129) hx hb dX1_play_8 (by rw [c_8_7]; decide) (by rw [c_8_7]; decide) (by rw [c_8_7]; rfl) (by decide) ?_
    have q := X1_judgeDrop_0 hG ((X1_judge_8 c_8_7).symm.trans hj)
    have hp := vp_mono q.1 hP4
    have hs := vp_mono q.2 hS12
    have ex := (nat_of hp (by decide)).1
    have lx := (nat_of hp (by decide)).2
    have ey := (nat_of hs (by decide)).1
    have ly := (nat_of hs (by decide)).2
    refine lv_aload_n hx hb dX1_play_129 rfl (lv_at hl 0 rfl) ?_
    refine lv_iload_n hx hb dX1_play_130 rfl (lv_at hl 2 rfl) ?_
    refine lv_iload_n hx hb dX1_play_131 rfl (lv_at hl 3 rfl) ?_
    obtain ⟨ehn_12, lhn_12⟩ := nat_of (x := x) (n := 4) (by first | assumption) (by omega)
    refine topN2 ehn_12 ?_
    obtain ⟨ehn_13, lhn_13⟩ := nat_of (x := y) (n := 12) (by first | assumption) (by omega)
    refine topN ehn_13 ?_
    have hFc := va_free (wc := (gcells C a G)) hD hS hA [0, 1, 2, 3, 4, 5, 6, 7, 8] rfl
    refine callRw (va_runV (As := [.int (nI x.toNatClampNeg), .int (nI y.toNatClampNeg)]) (rest := []) ⟨hx, hb, hml, hown, hts⟩ (c_X1_drop l D C a G (x.toNatClampNeg) (y.toNatClampNeg) _ hG (by omega) (by omega)) (cwV 2 hts gX1_play_X1_drop rfl rfl rfl (by decide +kernel) ⟨Nat.le_of_ble_eq_true rfl, Nat.le_of_ble_eq_true rfl⟩) (rwP_v hP hK hE hD (va_recv hK hP (ci := 4) (q0 := 0) rfl rfl)) rfl rfl hl.1 rfl (lv_room (Nat.le_of_ble_eq_true rfl)) dX1_play_132 ⟨Nat.le_refl _, Nat.le_refl _⟩) hS hFc (fun H1 locs hPn hk hS => ?_)
    generalize hy132 : (f_X1_drop G (x.toNatClampNeg) (y.toNatClampNeg)) = y132 at hPn ⊢
    have hz := lt_eq hz hy132.symm
    have hP : va_P D vwCl (gcells C a y132.2) H1 := hPn
    have hD : va_D A (gcells C a y132.2) := adr_D hD rfl
    generalize H1 = H at hP hS ⊢
    have hz : z = (y132.1, y132.2) := hz
    rw [hz]
    exact rw_ret hx hb hr hP hS rfl dX1_play_135 hlocks
  have hz := hz.trans (if_neg c_8_7)
  refine lv_tableOut (tgt := 136) hx hb dX1_play_8 (tsw_out (lo := 1) (n := 8) (by decide) (by intro i hi hi2; rcases (by omega : i = 1 ∨ i = 2 ∨ i = 3 ∨ i = 4 ∨ i = 5 ∨ i = 6 ∨ i = 7 ∨ i = 8) with rfl | rfl | rfl | rfl | rfl | rfl | rfl | rfl <;> first | exact fun h => c_8_0 (h.trans (by decide +kernel)) | exact fun h => c_8_1 (h.trans (by decide +kernel)) | exact fun h => c_8_2 (h.trans (by decide +kernel)) | exact fun h => c_8_3 (h.trans (by decide +kernel)) | exact fun h => c_8_4 (h.trans (by decide +kernel)) | exact fun h => c_8_5 (h.trans (by decide +kernel)) | exact fun h => c_8_6 (h.trans (by decide +kernel)) | exact fun h => c_8_7 (h.trans (by decide +kernel)))) (by decide) ?_
  have q := X1_judgeSettling_0 hG hF ((X1_judge_9 (smB_0 h_n c_8_0 c_8_1 c_8_2 c_8_3 c_8_4 c_8_5 c_8_6 c_8_7)).symm.trans hj)
  have hs := vp_mono q.1 hS12
  have hw := q.2
  refine lv_aload_n hx hb dX1_play_136 rfl (lv_at hl 0 rfl) ?_
  refine lv_iload_n hx hb dX1_play_137 rfl (lv_at hl 2 rfl) ?_
  obtain ⟨ehn_14, lhn_14⟩ := nat_of (x := x) (n := 12) (by first | assumption) (by omega)
  refine topN ehn_14 ?_
  have hFc := va_free (wc := (gcells C a G)) hD hS hA [0, 1, 2, 3, 4, 5, 6, 7, 8] rfl
  refine callRw (va_runV (As := [.int (nI x.toNatClampNeg)]) (rest := []) ⟨hx, hb, hml, hown, hts⟩ (c_X1_close l D C a G (x.toNatClampNeg) _ hG (by omega) (by first | assumption | omega)) (cwV 1 hts gX1_play_X1_close rfl rfl rfl (by decide +kernel) ⟨Nat.le_of_ble_eq_true rfl, Nat.le_of_ble_eq_true rfl⟩) (rwP_v hP hK hE hD (va_recv hK hP (ci := 4) (q0 := 0) rfl rfl)) rfl rfl hl.1 rfl (lv_room (Nat.le_of_ble_eq_true rfl)) dX1_play_138 ⟨Nat.le_refl _, Nat.le_refl _⟩) hS hFc (fun H1 locs hPn hk hS => ?_)
  generalize hy138 : (f_X1_close G (x.toNatClampNeg)) = y138 at hPn ⊢
  have hz := lt_eq hz hy138.symm
  have hP : va_P D vwCl (gcells C a y138.2) H1 := hPn
  have hD : va_D A (gcells C a y138.2) := adr_D hD rfl
  generalize H1 = H at hP hS ⊢
  refine bif_eq (tgt := 148) hx hb dX1_play_141 (by decide) (fun c_141 => ?_) (fun c_141 => ?_)
  · have hz := hz.trans (ifB_f c_141)
    refine lv_iconst (v := 0) hx hb dX1_play_148 (by decide) ?_
    exact J149 (false) (y138.2) _ _ ls hz  hP hD hS (lv_sub hl [] rfl)
  · have hz := hz.trans (ifB_t c_141)
    refine lv_iconst (v := 1) hx hb dX1_play_144 (by decide) ?_
    refine lv_goto (tgt := 149) hx hb dX1_play_145 (by decide) ?_
    exact J149 (true) (y138.2) _ _ ls hz  hP hD hS (lv_sub hl [] rfl)

