def f_X1_close_j94  (v4_94 : Bool) (G_94 : GS) : Bool × GS := (v4_94, G_94)
def f_X1_close_j82 (k : Nat) (v2_82 : Int32) (v4_82 : Bool) (G_82 : GS) : Bool × GS := (if v4_82 = true then (f_X1_close_j94 (v4_82) ((mkG (gSuit G_82) (gTide G_82) (gP G_82) (gMon G_82) (gUsed G_82) (gS G_82) (gLo G_82) (gHi G_82) (gLen G_82) (upd (gBld G_82) k v2_82) (gFer G_82) (gOff G_82) (gIni G_82) (gBank G_82) (gSet G_82) (gBlf G_82)))) else (f_X1_close_j94 (v4_82) (G_82)))
def f_X1_close (G : GS) (k : Nat) : Bool × GS := (lt_ (f_X1_clearBids G (k)) (fun y31 => (if (f_X1_hasBluff G (((f_X1_winnerOf G (k))).toNatClampNeg) (k)) = true then (lt_ (f_X1_pay (mkG (gSuit y31) (gTide y31) (gP y31) (gMon y31) (gUsed y31) (gS y31) (gLo y31) (gHi y31) (gLen y31) (gBld y31) (gFer y31) (gOff y31) (gIni y31) (gBank y31) ((gSet y31) + 1) ((gBlf y31) + 1)) (((f_X1_winnerOf G (k))).toNatClampNeg) ((imin 5 (f_X1_availableTo (mkG (gSuit y31) (gTide y31) (gP y31) (gMon y31) (gUsed y31) (gS y31) (gLo y31) (gHi y31) (gLen y31) (gBld y31) (gFer y31) (gOff y31) (gIni y31) (gBank y31) ((gSet y31) + 1) ((gBlf y31) + 1)) (((f_X1_winnerOf G (k))).toNatClampNeg))))) (fun y69 => (f_X1_close_j82 k ((f_X1_winnerOf G (k))) ((f_X1_buildsWith G (((f_X1_winnerOf G (k))).toNatClampNeg) (k))) (y69)))) else (lt_ (f_X1_pay (mkG (gSuit y31) (gTide y31) (gP y31) (gMon y31) (gUsed y31) (gS y31) (gLo y31) (gHi y31) (gLen y31) (gBld y31) (gFer y31) (gOff y31) (gIni y31) (gBank y31) ((gSet y31) + 1) (gBlf y31)) (((f_X1_winnerOf G (k))).toNatClampNeg) ((f_X1_amountOf G (((f_X1_winnerOf G (k))).toNatClampNeg) (k)))) (fun y79 => (f_X1_close_j82 k ((f_X1_winnerOf G (k))) ((f_X1_buildsWith G (((f_X1_winnerOf G (k))).toNatClampNeg) (k))) (y79)))))))
set_option maxHeartbeats 4000000 in
set_option maxRecDepth 100000 in
theorem c_X1_close (l : Launch) (D : va_G) (C : Nat → ClassId) (a : Nat → Nat) (G : GS) (k : Nat) (sz : Nat) (hG : GSafe G) (h_k : k < 12) (hw : vp_in (f_X1_winnerOf G k) 4) : Met l yX1_close wsX1_close ({ frames := 3, cells := 0, slots := 0, locals := 67 } : Room) (rwP [.ref (a 0), .int (nI k)] D C (gcells C a G) sz) (rwO (some (.int (bI (f_X1_close G k).1))) D (gcells C a ((f_X1_close G k).2)) (va_A (gcells C a G) sz)) 0 0 (va_A (gcells C a G) sz) := by
  refine Met.ofW (cc := cX1_close) (maxL := 6) (ret := (some .boolean)) (by decide) rfl ?_
  intro p e s m args below meth c s₁ B hml hv
  obtain ⟨rfl, hsz, hP, hK, hD0, hE⟩ := hv
  have hx := B.exec
  have hb := B.bytes
  have hr := B.returns
  have hts := atoms_spec (ws := wsX1_close) B.pre
  have hown : s.vm.findClass RX1 = some m.cls := findClass_of_methodNamed B.named
  have hlocks := B.notSynchronized
  subst hsz
  have hD := hD0.self (sz := s.heap.size)
  generalize hAe : va_A (gcells C a G) s.heap.size = A at hD ⊢
  have hA : ∀ q : Nat, s.heap.size ≤ q → A q := fun q h => by rw [← hAe]; exact Or.inr h
  have hS0 : va_S A s.heap s.heap [] := va_S.rf
  have hP : va_P D vwCl (gcells C a G) s.heap := hP
  have hS := hS0
  obtain ⟨hS12, hP4, hlo, hhi⟩ := id hG
  have hinX1 : ∀ w ∈ u_ws RX1 TX1 16, w ∈ wsX1_close := by decide +kernel
  have hl := lv_entry ([.ref (a 0), .int (nI k)]) (n := 6) (Nat.le_of_ble_eq_true rfl)
  rw [lg_entry_eq]
  generalize (lg_sl ([.ref (a 0), .int (nI k)]) ++ List.replicate (6 - (lg_sl ([.ref (a 0), .int (nI k)])).length) Slot.unset).toArray = ls at hl ⊢
  have hl : lv_has ls 6 [(0, .ref (a 0)), (1, .int (nI k))] := hl
  obtain ⟨z, hz⟩ : ∃ z, z = f_X1_close G k := ⟨_, rfl⟩
  rw [← hz]
  have J94 : ∀ (v4_94 : Bool) (G_94 : GS)  (H : Heap) (locs : List Loc) (ls : Array Slot), z = f_X1_close_j94 v4_94 G_94 → va_P D vwCl (gcells C a G_94) H → va_D A (gcells C a G_94) → va_S A s.heap H locs → lv_has ls 6 [(4, .int (bI v4_94))] → W p l e ({ frames := 3, cells := 0, slots := 0, locals := 67 } : Room) s m ([.ref (a 0), .int (nI k)] : List Value).toArray below meth c H locs 0 0 (MQ below (rwO (some (.int (bI z.1))) D (gcells C a z.2) A) ([.ref (a 0), .int (nI k)] : List Value).toArray s 0 0 A) (F0 m 94 ls []) := by
    intro v4_94 G_94 H locs ls hz  hP hD hS hl
    refine lv_iload hx hb dX1_close_94 (lv_at hl 0 rfl) ?_
    have hz : z = (v4_94, G_94) := hz
    rw [hz]
    exact rw_retB hx hb hr hP hS rfl dX1_close_96 hlocks
  have J82 : ∀ (v2_82 : Int32) (v4_82 : Bool) (G_82 : GS)  (H : Heap) (locs : List Loc) (ls : Array Slot), z = f_X1_close_j82 k v2_82 v4_82 G_82 → va_P D vwCl (gcells C a G_82) H → va_D A (gcells C a G_82) → va_S A s.heap H locs → lv_has ls 6 [(0, .ref (a 0)), (1, .int (nI k)), (2, .int v2_82), (4, .int (bI v4_82))] → W p l e ({ frames := 3, cells := 0, slots := 0, locals := 67 } : Room) s m ([.ref (a 0), .int (nI k)] : List Value).toArray below meth c H locs 0 0 (MQ below (rwO (some (.int (bI z.1))) D (gcells C a z.2) A) ([.ref (a 0), .int (nI k)] : List Value).toArray s 0 0 A) (F0 m 82 ls []) := by
    intro v2_82 v4_82 G_82 H locs ls hz  hP hD hS hl
    refine lv_iload hx hb dX1_close_82 (lv_at hl 3 rfl) ?_
    refine bif_eq (tgt := 94) hx hb dX1_close_84 (by decide) (fun c_84 => ?_) (fun c_84 => ?_)
    · have hz := hz.trans (ifB_f c_84)
      exact J94 (v4_82) (G_82) _ _ ls hz  hP hD hS (lv_sub hl [3] rfl)
    · have hz := hz.trans (ifB_t c_84)
      refine lv_aload_n hx hb dX1_close_87 rfl (lv_at hl 0 rfl) ?_
      refine va_get (D := D) (ci := 4) (v := .ref (a 6)) (C := RX1) (T := TX1) (N := 16) hx hb hts hinX1 hown hK hP 0 rfl rfl 9 (by decide) (hts (.fieldLink RX1 40 "BridgeAuction$Game" "builders" "[I") (by decide +kernel)) (fun _ h9 => h9) rfl dX1_close_88 ?_
      refine lv_iload_n hx hb dX1_close_91 rfl (lv_at hl 1 rfl) ?_
      refine lv_iload_n hx hb dX1_close_92 rfl (lv_at hl 2 rfl) ?_
      refine iastN (tys := tyA C) hx hb hK hP hD hS 6 0 rfl rfl (i := k) (by omega) (by decide) dX1_close_93 (fun H locs hP hD hS => ?_)
      have hP : va_P D vwCl (gcells C a (mkG (gSuit G_82) (gTide G_82) (gP G_82) (gMon G_82) (gUsed G_82) (gS G_82) (gLo G_82) (gHi G_82) (gLen G_82) (upd (gBld G_82) k v2_82) (gFer G_82) (gOff G_82) (gIni G_82) (gBank G_82) (gSet G_82) (gBlf G_82))) H := hP
      have hD : va_D A (gcells C a (mkG (gSuit G_82) (gTide G_82) (gP G_82) (gMon G_82) (gUsed G_82) (gS G_82) (gLo G_82) (gHi G_82) (gLen G_82) (upd (gBld G_82) k v2_82) (gFer G_82) (gOff G_82) (gIni G_82) (gBank G_82) (gSet G_82) (gBlf G_82))) := hD
      exact J94 (v4_82) ((mkG (gSuit G_82) (gTide G_82) (gP G_82) (gMon G_82) (gUsed G_82) (gS G_82) (gLo G_82) (gHi G_82) (gLen G_82) (upd (gBld G_82) k v2_82) (gFer G_82) (gOff G_82) (gIni G_82) (gBank G_82) (gSet G_82) (gBlf G_82))) _ _ ls hz  hP hD hS (lv_sub hl [3] rfl)
  refine lv_aload_n hx hb dX1_close_0 rfl (lv_at hl 0 rfl) ?_
  refine lv_iload_n hx hb dX1_close_1 rfl (lv_at hl 1 rfl) ?_
  refine callRo (va_runV (As := [.int (nI k)]) (rest := []) ⟨hx, hb, hml, hown, hts⟩ (c_X1_winnerOf l D C a G (k) hG (by omega)) (cwV 1 hts gX1_close_X1_winnerOf rfl rfl rfl (by decide +kernel) ⟨Nat.le_of_ble_eq_true rfl, Nat.le_of_ble_eq_true rfl⟩) (roP_v hP hK hE (va_recv hK hP (ci := 4) (q0 := 0) rfl rfl)) rfl rfl hl.1 rfl (lv_room (Nat.le_of_ble_eq_true rfl)) dX1_close_2 ⟨Nat.le_refl _, Nat.le_refl _⟩) ?_
  refine lv_istore_n (lv' := [(2, .int (f_X1_winnerOf G (k))), (0, .ref (a 0)), (1, .int (nI k))]) hx hb dX1_close_5 rfl hl (by decide) rfl (fun ls hl => ?_)
  refine lv_aload_n hx hb dX1_close_6 rfl (lv_at hl 1 rfl) ?_
  refine lv_iload_n hx hb dX1_close_7 rfl (lv_at hl 0 rfl) ?_
  refine lv_iload_n hx hb dX1_close_8 rfl (lv_at hl 2 rfl) ?_
  obtain ⟨ehn_1, lhn_1⟩ := nat_of (x := (f_X1_winnerOf G (k))) (n := 4) (by exact hw) (by omega)
  refine topN2 ehn_1 ?_
  refine callRo (va_runV (As := [.int (nI ((f_X1_winnerOf G (k))).toNatClampNeg), .int (nI k)]) (rest := []) ⟨hx, hb, hml, hown, hts⟩ (c_X1_hasBluff l D C a G (((f_X1_winnerOf G (k))).toNatClampNeg) (k) hG (by omega) (by omega)) (cwV 2 hts gX1_close_X1_hasBluff rfl rfl rfl (by decide +kernel) ⟨Nat.le_of_ble_eq_true rfl, Nat.le_of_ble_eq_true rfl⟩) (roP_v hP hK hE (va_recv hK hP (ci := 4) (q0 := 0) rfl rfl)) rfl rfl hl.1 rfl (lv_room (Nat.le_of_ble_eq_true rfl)) dX1_close_9 ⟨Nat.le_refl _, Nat.le_refl _⟩) ?_
  refine lv_istore_n (lv' := [(3, .int (bI (f_X1_hasBluff G (((f_X1_winnerOf G (k))).toNatClampNeg) (k)))), (2, .int (f_X1_winnerOf G (k))), (0, .ref (a 0)), (1, .int (nI k))]) hx hb dX1_close_12 rfl hl (by decide) rfl (fun ls hl => ?_)
  refine lv_aload_n hx hb dX1_close_13 rfl (lv_at hl 2 rfl) ?_
  refine lv_iload_n hx hb dX1_close_14 rfl (lv_at hl 1 rfl) ?_
  refine lv_iload_n hx hb dX1_close_15 rfl (lv_at hl 3 rfl) ?_
  obtain ⟨ehn_2, lhn_2⟩ := nat_of (x := (f_X1_winnerOf G (k))) (n := 4) (by exact hw) (by omega)
  refine topN2 ehn_2 ?_
  refine callRo (va_runV (As := [.int (nI ((f_X1_winnerOf G (k))).toNatClampNeg), .int (nI k)]) (rest := []) ⟨hx, hb, hml, hown, hts⟩ (c_X1_buildsWith l D C a G (((f_X1_winnerOf G (k))).toNatClampNeg) (k) hG (by omega) (by omega)) (cwV 2 hts gX1_close_X1_buildsWith rfl rfl rfl (by decide +kernel) ⟨Nat.le_of_ble_eq_true rfl, Nat.le_of_ble_eq_true rfl⟩) (roP_v hP hK hE (va_recv hK hP (ci := 4) (q0 := 0) rfl rfl)) rfl rfl hl.1 rfl (lv_room (Nat.le_of_ble_eq_true rfl)) dX1_close_16 ⟨Nat.le_refl _, Nat.le_refl _⟩) ?_
  refine lv_istore (lv' := [(4, .int (bI (f_X1_buildsWith G (((f_X1_winnerOf G (k))).toNatClampNeg) (k)))), (3, .int (bI (f_X1_hasBluff G (((f_X1_winnerOf G (k))).toNatClampNeg) (k)))), (2, .int (f_X1_winnerOf G (k))), (0, .ref (a 0)), (1, .int (nI k))]) hx hb dX1_close_19 hl (by decide) rfl (fun ls hl => ?_)
  refine lv_aload_n hx hb dX1_close_21 rfl (lv_at hl 3 rfl) ?_
  refine lv_iload_n hx hb dX1_close_22 rfl (lv_at hl 2 rfl) ?_
  refine lv_iload_n hx hb dX1_close_23 rfl (lv_at hl 4 rfl) ?_
  obtain ⟨ehn_3, lhn_3⟩ := nat_of (x := (f_X1_winnerOf G (k))) (n := 4) (by exact hw) (by omega)
  refine topN2 ehn_3 ?_
  refine callRo (va_runV (As := [.int (nI ((f_X1_winnerOf G (k))).toNatClampNeg), .int (nI k)]) (rest := []) ⟨hx, hb, hml, hown, hts⟩ (c_X1_amountOf l D C a G (((f_X1_winnerOf G (k))).toNatClampNeg) (k) hG (by omega) (by omega)) (cwV 2 hts gX1_close_X1_amountOf rfl rfl rfl (by decide +kernel) ⟨Nat.le_of_ble_eq_true rfl, Nat.le_of_ble_eq_true rfl⟩) (roP_v hP hK hE (va_recv hK hP (ci := 4) (q0 := 0) rfl rfl)) rfl rfl hl.1 rfl (lv_room (Nat.le_of_ble_eq_true rfl)) dX1_close_24 ⟨Nat.le_refl _, Nat.le_refl _⟩) ?_
  refine lv_istore (lv' := [(5, .int (f_X1_amountOf G (((f_X1_winnerOf G (k))).toNatClampNeg) (k))), (4, .int (bI (f_X1_buildsWith G (((f_X1_winnerOf G (k))).toNatClampNeg) (k)))), (3, .int (bI (f_X1_hasBluff G (((f_X1_winnerOf G (k))).toNatClampNeg) (k)))), (2, .int (f_X1_winnerOf G (k))), (0, .ref (a 0)), (1, .int (nI k))]) hx hb dX1_close_27 hl (by decide) rfl (fun ls hl => ?_)
  refine lv_aload_n hx hb dX1_close_29 rfl (lv_at hl 4 rfl) ?_
  refine lv_iload_n hx hb dX1_close_30 rfl (lv_at hl 5 rfl) ?_
  have hFc := va_free (wc := (gcells C a G)) hD hS hA [0, 1, 2, 3, 4, 5, 6, 7, 8] rfl
  refine callRw (va_runV (As := [.int (nI k)]) (rest := []) ⟨hx, hb, hml, hown, hts⟩ (c_X1_clearBids l D C a G (k) _ hG (by omega)) (cwV 1 hts gX1_close_X1_clearBids rfl rfl rfl (by decide +kernel) ⟨Nat.le_of_ble_eq_true rfl, Nat.le_of_ble_eq_true rfl⟩) (rwP_v hP hK hE hD (va_recv hK hP (ci := 4) (q0 := 0) rfl rfl)) rfl rfl hl.1 rfl (lv_room (Nat.le_of_ble_eq_true rfl)) dX1_close_31 ⟨Nat.le_refl _, Nat.le_refl _⟩) hS hFc (fun H1 locs hPn hk hS => ?_)
  generalize hy31 : (f_X1_clearBids G (k)) = y31 at hPn ⊢
  have hz := lt_eq hz hy31.symm
  have hP : va_P D vwCl (gcells C a y31) H1 := hPn
  have hD : va_D A (gcells C a y31) := adr_D hD rfl
  generalize H1 = H at hP hS ⊢
  have hs31 : GSafe y31 := by rw [← hy31]; exact clearBids_safe hG k
  refine lv_aload_n hx hb dX1_close_34 rfl (lv_at hl 4 rfl) ?_
  refine lv_dup hx hb dX1_close_35 rfl ?_
  refine va_get (D := D) (ci := 4) (v := .int (gSet y31)) (C := RX1) (T := TX1) (N := 16) hx hb hts hinX1 hown hK hP 0 rfl rfl 14 (by decide) (hts (.fieldLink RX1 55 "BridgeAuction$Game" "settlings" "I") (by decide +kernel)) (fun _ h9 => h9) rfl dX1_close_36 ?_
  refine lv_iconst (v := 1) hx hb dX1_close_39 (by decide) ?_
  refine lv_iadd hx hb dX1_close_40 ?_
  refine va_put (D := D) (ci := 4) (v := .int ((gSet y31) + 1)) (ty := .int) (C := RX1) (T := TX1) (N := 16) hx hb hts hinX1 tyX1 tyX1_ok nmX1 hown hK hP hD hS 0 rfl rfl 14 (by decide) (hts (.fieldLink RX1 55 "BridgeAuction$Game" "settlings" "I") (by decide +kernel)) (fun _ h9 => h9) rfl (by decide +kernel) rfl rfl (Nat.le_of_ble_eq_true rfl) dX1_close_41 (fun H locs hP hD hS => ?_)
  have hP : va_P D vwCl (gcells C a (mkG (gSuit y31) (gTide y31) (gP y31) (gMon y31) (gUsed y31) (gS y31) (gLo y31) (gHi y31) (gLen y31) (gBld y31) (gFer y31) (gOff y31) (gIni y31) (gBank y31) ((gSet y31) + 1) (gBlf y31))) H := hP
  have hD : va_D A (gcells C a (mkG (gSuit y31) (gTide y31) (gP y31) (gMon y31) (gUsed y31) (gS y31) (gLo y31) (gHi y31) (gLen y31) (gBld y31) (gFer y31) (gOff y31) (gIni y31) (gBank y31) ((gSet y31) + 1) (gBlf y31))) := hD
  refine lv_iload_n hx hb dX1_close_44 rfl (lv_at hl 2 rfl) ?_
  refine bif_eq (tgt := 75) hx hb dX1_close_45 (by decide) (fun c_45 => ?_) (fun c_45 => ?_)
  · have hz := hz.trans (ifB_f c_45)
    refine lv_aload_n hx hb dX1_close_75 rfl (lv_at hl 4 rfl) ?_
    refine lv_iload_n hx hb dX1_close_76 rfl (lv_at hl 3 rfl) ?_
    refine lv_iload hx hb dX1_close_77 (lv_at hl 0 rfl) ?_
    obtain ⟨ehn_4, lhn_4⟩ := nat_of (x := (f_X1_winnerOf G (k))) (n := 4) (by exact hw) (by omega)
    refine topN2 ehn_4 ?_
    have hFc := va_free (wc := (gcells C a (mkG (gSuit y31) (gTide y31) (gP y31) (gMon y31) (gUsed y31) (gS y31) (gLo y31) (gHi y31) (gLen y31) (gBld y31) (gFer y31) (gOff y31) (gIni y31) (gBank y31) ((gSet y31) + 1) (gBlf y31)))) hD hS hA [0, 1, 2, 3, 4, 5, 6, 7, 8] rfl
    refine callRw (va_runV (As := [.int (nI ((f_X1_winnerOf G (k))).toNatClampNeg), .int (f_X1_amountOf G (((f_X1_winnerOf G (k))).toNatClampNeg) (k))]) (rest := []) ⟨hx, hb, hml, hown, hts⟩ (c_X1_pay l D C a (mkG (gSuit y31) (gTide y31) (gP y31) (gMon y31) (gUsed y31) (gS y31) (gLo y31) (gHi y31) (gLen y31) (gBld y31) (gFer y31) (gOff y31) (gIni y31) (gBank y31) ((gSet y31) + 1) (gBlf y31)) (((f_X1_winnerOf G (k))).toNatClampNeg) ((f_X1_amountOf G (((f_X1_winnerOf G (k))).toNatClampNeg) (k))) _ (GSafe_of hs31 rfl rfl rfl rfl) (by omega)) (cwV 2 hts gX1_close_X1_pay rfl rfl rfl (by decide +kernel) ⟨Nat.le_of_ble_eq_true rfl, Nat.le_of_ble_eq_true rfl⟩) (rwP_v hP hK hE hD (va_recv hK hP (ci := 4) (q0 := 0) rfl rfl)) rfl rfl hl.1 rfl (lv_room (Nat.le_of_ble_eq_true rfl)) dX1_close_79 ⟨Nat.le_refl _, Nat.le_refl _⟩) hS hFc (fun H1 locs hPn hk hS => ?_)
    generalize hy79 : (f_X1_pay (mkG (gSuit y31) (gTide y31) (gP y31) (gMon y31) (gUsed y31) (gS y31) (gLo y31) (gHi y31) (gLen y31) (gBld y31) (gFer y31) (gOff y31) (gIni y31) (gBank y31) ((gSet y31) + 1) (gBlf y31)) (((f_X1_winnerOf G (k))).toNatClampNeg) ((f_X1_amountOf G (((f_X1_winnerOf G (k))).toNatClampNeg) (k)))) = y79 at hPn ⊢
    have hz := lt_eq hz hy79.symm
    have hP : va_P D vwCl (gcells C a y79) H1 := hPn
    have hD : va_D A (gcells C a y79) := adr_D hD rfl
    generalize H1 = H at hP hS ⊢
    exact J82 ((f_X1_winnerOf G (k))) ((f_X1_buildsWith G (((f_X1_winnerOf G (k))).toNatClampNeg) (k))) (y79) _ _ ls hz  hP hD hS (lv_sub hl [4, 5, 3, 1] rfl)
  · have hz := hz.trans (ifB_t c_45)
    refine lv_aload_n hx hb dX1_close_48 rfl (lv_at hl 4 rfl) ?_
    refine lv_dup hx hb dX1_close_49 rfl ?_
    refine va_get (D := D) (ci := 4) (v := .int (gBlf y31)) (C := RX1) (T := TX1) (N := 16) hx hb hts hinX1 hown hK hP 0 rfl rfl 15 (by decide) (hts (.fieldLink RX1 58 "BridgeAuction$Game" "wonBluffs" "I") (by decide +kernel)) (fun _ h9 => h9) rfl dX1_close_50 ?_
    refine lv_iconst (v := 1) hx hb dX1_close_53 (by decide) ?_
    refine lv_iadd hx hb dX1_close_54 ?_
    refine va_put (D := D) (ci := 4) (v := .int ((gBlf y31) + 1)) (ty := .int) (C := RX1) (T := TX1) (N := 16) hx hb hts hinX1 tyX1 tyX1_ok nmX1 hown hK hP hD hS 0 rfl rfl 15 (by decide) (hts (.fieldLink RX1 58 "BridgeAuction$Game" "wonBluffs" "I") (by decide +kernel)) (fun _ h9 => h9) rfl (by decide +kernel) rfl rfl (Nat.le_of_ble_eq_true rfl) dX1_close_55 (fun H locs hP hD hS => ?_)
    have hP : va_P D vwCl (gcells C a (mkG (gSuit y31) (gTide y31) (gP y31) (gMon y31) (gUsed y31) (gS y31) (gLo y31) (gHi y31) (gLen y31) (gBld y31) (gFer y31) (gOff y31) (gIni y31) (gBank y31) ((gSet y31) + 1) ((gBlf y31) + 1))) H := hP
    have hD : va_D A (gcells C a (mkG (gSuit y31) (gTide y31) (gP y31) (gMon y31) (gUsed y31) (gS y31) (gLo y31) (gHi y31) (gLen y31) (gBld y31) (gFer y31) (gOff y31) (gIni y31) (gBank y31) ((gSet y31) + 1) ((gBlf y31) + 1))) := hD
    refine lv_aload_n hx hb dX1_close_58 rfl (lv_at hl 4 rfl) ?_
    refine lv_iload_n hx hb dX1_close_59 rfl (lv_at hl 3 rfl) ?_
    refine lv_iconst (v := 5) hx hb dX1_close_60 (by decide) ?_
    refine lv_aload_n hx hb dX1_close_61 rfl (lv_at hl 4 rfl) ?_
    refine lv_iload_n hx hb dX1_close_62 rfl (lv_at hl 3 rfl) ?_
    obtain ⟨ehn_5, lhn_5⟩ := nat_of (x := (f_X1_winnerOf G (k))) (n := 4) (by exact hw) (by omega)
    refine topN ehn_5 ?_
    refine callRo (va_runV (As := [.int (nI ((f_X1_winnerOf G (k))).toNatClampNeg)]) (rest := [.int 5, .int (f_X1_winnerOf G (k)), .ref (a 0)]) ⟨hx, hb, hml, hown, hts⟩ (c_X1_availableTo l D C a (mkG (gSuit y31) (gTide y31) (gP y31) (gMon y31) (gUsed y31) (gS y31) (gLo y31) (gHi y31) (gLen y31) (gBld y31) (gFer y31) (gOff y31) (gIni y31) (gBank y31) ((gSet y31) + 1) ((gBlf y31) + 1)) (((f_X1_winnerOf G (k))).toNatClampNeg) (GSafe_of hs31 rfl rfl rfl rfl) (by omega)) (cwV 1 hts gX1_close_X1_availableTo rfl rfl rfl (by decide +kernel) ⟨Nat.le_of_ble_eq_true rfl, Nat.le_of_ble_eq_true rfl⟩) (roP_v hP hK hE (va_recv hK hP (ci := 4) (q0 := 0) rfl rfl)) rfl rfl hl.1 rfl (lv_room (Nat.le_of_ble_eq_true rfl)) dX1_close_63 ⟨Nat.le_refl _, Nat.le_refl _⟩) ?_
    refine va_mmin hx hb (hml.trans hl.1.symm) hown (hts (.methodLink RX1 127 Lib.Math.min.name) (by decide +kernel)) (hts (.static Lib.Math.min.name) (by decide +kernel)) (hts (.initialized "java/lang/Math") (by decide +kernel)) (hts (.code Lib.Math.min.name Lib.Math.min.code 2 (some .int)) (by decide +kernel)) (Nat.le_of_ble_eq_true rfl) (Nat.le_of_ble_eq_true rfl) (Nat.le_of_ble_eq_true rfl) (Nat.le_of_ble_eq_true rfl) dX1_close_66 ?_
    refine topI (y := (imin 5 (f_X1_availableTo (mkG (gSuit y31) (gTide y31) (gP y31) (gMon y31) (gUsed y31) (gS y31) (gLo y31) (gHi y31) (gLen y31) (gBld y31) (gFer y31) (gOff y31) (gIni y31) (gBank y31) ((gSet y31) + 1) ((gBlf y31) + 1)) (((f_X1_winnerOf G (k))).toNatClampNeg)))) rfl ?_
    obtain ⟨ehn_6, lhn_6⟩ := nat_of (x := (f_X1_winnerOf G (k))) (n := 4) (by exact hw) (by omega)
    refine topN2 ehn_6 ?_
    have hFc := va_free (wc := (gcells C a (mkG (gSuit y31) (gTide y31) (gP y31) (gMon y31) (gUsed y31) (gS y31) (gLo y31) (gHi y31) (gLen y31) (gBld y31) (gFer y31) (gOff y31) (gIni y31) (gBank y31) ((gSet y31) + 1) ((gBlf y31) + 1)))) hD hS hA [0, 1, 2, 3, 4, 5, 6, 7, 8] rfl
    refine callRw (va_runV (As := [.int (nI ((f_X1_winnerOf G (k))).toNatClampNeg), .int (imin 5 (f_X1_availableTo (mkG (gSuit y31) (gTide y31) (gP y31) (gMon y31) (gUsed y31) (gS y31) (gLo y31) (gHi y31) (gLen y31) (gBld y31) (gFer y31) (gOff y31) (gIni y31) (gBank y31) ((gSet y31) + 1) ((gBlf y31) + 1)) (((f_X1_winnerOf G (k))).toNatClampNeg)))]) (rest := []) ⟨hx, hb, hml, hown, hts⟩ (c_X1_pay l D C a (mkG (gSuit y31) (gTide y31) (gP y31) (gMon y31) (gUsed y31) (gS y31) (gLo y31) (gHi y31) (gLen y31) (gBld y31) (gFer y31) (gOff y31) (gIni y31) (gBank y31) ((gSet y31) + 1) ((gBlf y31) + 1)) (((f_X1_winnerOf G (k))).toNatClampNeg) ((imin 5 (f_X1_availableTo (mkG (gSuit y31) (gTide y31) (gP y31) (gMon y31) (gUsed y31) (gS y31) (gLo y31) (gHi y31) (gLen y31) (gBld y31) (gFer y31) (gOff y31) (gIni y31) (gBank y31) ((gSet y31) + 1) ((gBlf y31) + 1)) (((f_X1_winnerOf G (k))).toNatClampNeg)))) _ (GSafe_of hs31 rfl rfl rfl rfl) (by omega)) (cwV 2 hts gX1_close_X1_pay rfl rfl rfl (by decide +kernel) ⟨Nat.le_of_ble_eq_true rfl, Nat.le_of_ble_eq_true rfl⟩) (rwP_v hP hK hE hD (va_recv hK hP (ci := 4) (q0 := 0) rfl rfl)) rfl rfl hl.1 rfl (lv_room (Nat.le_of_ble_eq_true rfl)) dX1_close_69 ⟨Nat.le_refl _, Nat.le_refl _⟩) hS hFc (fun H1 locs hPn hk hS => ?_)
    generalize hy69 : (f_X1_pay (mkG (gSuit y31) (gTide y31) (gP y31) (gMon y31) (gUsed y31) (gS y31) (gLo y31) (gHi y31) (gLen y31) (gBld y31) (gFer y31) (gOff y31) (gIni y31) (gBank y31) ((gSet y31) + 1) ((gBlf y31) + 1)) (((f_X1_winnerOf G (k))).toNatClampNeg) ((imin 5 (f_X1_availableTo (mkG (gSuit y31) (gTide y31) (gP y31) (gMon y31) (gUsed y31) (gS y31) (gLo y31) (gHi y31) (gLen y31) (gBld y31) (gFer y31) (gOff y31) (gIni y31) (gBank y31) ((gSet y31) + 1) ((gBlf y31) + 1)) (((f_X1_winnerOf G (k))).toNatClampNeg))))) = y69 at hPn ⊢
    have hz := lt_eq hz hy69.symm
    have hP : va_P D vwCl (gcells C a y69) H1 := hPn
    have hD : va_D A (gcells C a y69) := adr_D hD rfl
    generalize H1 = H at hP hS ⊢
    refine lv_goto (tgt := 82) hx hb dX1_close_72 (by decide) ?_
    exact J82 ((f_X1_winnerOf G (k))) ((f_X1_buildsWith G (((f_X1_winnerOf G (k))).toNatClampNeg) (k))) (y69) _ _ ls hz  hP hD hS (lv_sub hl [4, 5, 3, 1] rfl)
