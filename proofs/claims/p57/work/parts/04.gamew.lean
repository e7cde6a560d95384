def f_X1_join (G : GS) (x : Int32) : Nat × GS := ((gP G), (mkG (gSuit G) (gTide G) ((gP G) + 1) (upd (gMon G) (gP G) x) (gUsed G) (gS G) (gLo G) (gHi G) (gLen G) (gBld G) (gFer G) (gOff G) ((gIni G) + x) (gBank G) (gSet G) (gBlf G)))
set_option maxHeartbeats 4000000 in
set_option maxRecDepth 100000 in
theorem c_X1_join (l : Launch) (D : va_G) (C : Nat → ClassId) (a : Nat → Nat) (G : GS) (x : Int32) (sz : Nat) (hG : GSafe G) (hlt : gP G < 4) : Met l yX1_join wsX1_join ({ frames := 0, cells := 0, slots := 0, locals := 0 } : Room) (rwP [.ref (a 0), .int x] D C (gcells C a G) sz) (rwO (some (.int (nI (f_X1_join G x).1))) D (gcells C a ((f_X1_join G x).2)) (va_A (gcells C a G) sz)) 0 0 (va_A (gcells C a G) sz) := by
  refine Met.ofW (cc := cX1_join) (maxL := 3) (ret := (some .int)) (by decide) rfl ?_
  intro p e s m args below meth c s₁ B hml hv
  obtain ⟨rfl, hsz, hP, hK, hD0, hE⟩ := hv
  have hx := B.exec
  have hb := B.bytes
  have hr := B.returns
  have hts := atoms_spec (ws := wsX1_join) B.pre
  have hown : s.vm.findClass RX1 = some m.cls := findClass_of_methodNamed B.named
  have hlocks := B.notSynchronized
  subst hsz
  have hD := hD0.self (sz := s.heap.size)
  generalize hAe : va_A (gcells C a G) s.heap.size = A at hD ⊢
  have hA : ∀ q : Nat, s.heap.size ≤ q → A q := fun q h => by rw [← hAe]; exact Or.inr h
  have hS0 : va_S A s.heap s.heap [] := va_S.rf
  have hP : va_P D vwCl (gcells C a G) s.heap := hP
  have hS := hS0
  obtain ⟨hS12, hP4, hlo, hhi⟩ := id hG
  have hinX1 : ∀ w ∈ u_ws RX1 TX1 16, w ∈ wsX1_join := by decide +kernel
  have hl := lv_entry ([.ref (a 0), .int x]) (n := 3) (Nat.le_of_ble_eq_true rfl)
  rw [lg_entry_eq]
  generalize (lg_sl ([.ref (a 0), .int x]) ++ List.replicate (3 - (lg_sl ([.ref (a 0), .int x])).length) Slot.unset).toArray = ls at hl ⊢
  have hl : lv_has ls 3 [(0, .ref (a 0)), (1, .int x)] := hl
  obtain ⟨z, hz⟩ : ∃ z, z = f_X1_join G x := ⟨_, rfl⟩
  rw [← hz]
  refine lv_aload_n hx hb dX1_join_0 rfl (lv_at hl 0 rfl) ?_
  refine va_get (D := D) (ci := 4) (v := .int (nI (gP G))) (C := RX1) (T := TX1) (N := 16) hx hb hts hinX1 hown hK hP 0 rfl rfl 2 (by decide) (hts (.fieldLink RX1 19 "BridgeAuction$Game" "players" "I") (by decide +kernel)) (fun _ h9 => h9) rfl dX1_join_1 ?_
  refine lv_istore_n (lv' := [(2, .int (nI (gP G))), (0, .ref (a 0)), (1, .int x)]) hx hb dX1_join_4 rfl hl (by decide) rfl (fun ls hl => ?_)
  refine lv_aload_n hx hb dX1_join_5 rfl (lv_at hl 1 rfl) ?_
  refine va_get (D := D) (ci := 4) (v := .ref (a 2)) (C := RX1) (T := TX1) (N := 16) hx hb hts hinX1 hown hK hP 0 rfl rfl 3 (by decide) (hts (.fieldLink RX1 22 "BridgeAuction$Game" "moneys" "[I") (by decide +kernel)) (fun _ h9 => h9) rfl dX1_join_6 ?_
  refine lv_iload_n hx hb dX1_join_9 rfl (lv_at hl 0 rfl) ?_
  refine lv_iload_n hx hb dX1_join_10 rfl (lv_at hl 2 rfl) ?_
  refine iastN (tys := tyA C) hx hb hK hP hD hS 2 0 rfl rfl (i := (gP G)) (by omega) (by decide) dX1_join_11 (fun H locs hP hD hS => ?_)
  have hP : va_P D vwCl (gcells C a (mkG (gSuit G) (gTide G) (gP G) (upd (gMon G) (gP G) x) (gUsed G) (gS G) (gLo G) (gHi G) (gLen G) (gBld G) (gFer G) (gOff G) (gIni G) (gBank G) (gSet G) (gBlf G))) H := hP
  have hD : va_D A (gcells C a (mkG (gSuit G) (gTide G) (gP G) (upd (gMon G) (gP G) x) (gUsed G) (gS G) (gLo G) (gHi G) (gLen G) (gBld G) (gFer G) (gOff G) (gIni G) (gBank G) (gSet G) (gBlf G))) := hD
  refine lv_aload_n hx hb dX1_join_12 rfl (lv_at hl 1 rfl) ?_
  refine lv_dup hx hb dX1_join_13 rfl ?_
  refine va_get (D := D) (ci := 4) (v := .int (gIni G)) (C := RX1) (T := TX1) (N := 16) hx hb hts hinX1 hown hK hP 0 rfl rfl 12 (by decide) (hts (.fieldLink RX1 49 "BridgeAuction$Game" "initialMoney" "I") (by decide +kernel)) (fun _ h9 => h9) rfl dX1_join_14 ?_
  refine lv_iload_n hx hb dX1_join_17 rfl (lv_at hl 2 rfl) ?_
  refine lv_iadd hx hb dX1_join_18 ?_
  refine va_put (D := D) (ci := 4) (v := .int ((gIni G) + x)) (ty := .int) (C := RX1) (T := TX1) (N := 16) hx hb hts hinX1 tyX1 tyX1_ok nmX1 hown hK hP hD hS 0 rfl rfl 12 (by decide) (hts (.fieldLink RX1 49 "BridgeAuction$Game" "initialMoney" "I") (by decide +kernel)) (fun _ h9 => h9) rfl (by decide +kernel) rfl rfl (Nat.le_of_ble_eq_true rfl) dX1_join_19 (fun H locs hP hD hS => ?_)
  have hP : va_P D vwCl (gcells C a (mkG (gSuit G) (gTide G) (gP G) (upd (gMon G) (gP G) x) (gUsed G) (gS G) (gLo G) (gHi G) (gLen G) (gBld G) (gFer G) (gOff G) ((gIni G) + x) (gBank G) (gSet G) (gBlf G))) H := hP
  have hD : va_D A (gcells C a (mkG (gSuit G) (gTide G) (gP G) (upd (gMon G) (gP G) x) (gUsed G) (gS G) (gLo G) (gHi G) (gLen G) (gBld G) (gFer G) (gOff G) ((gIni G) + x) (gBank G) (gSet G) (gBlf G))) := hD
  refine lv_aload_n hx hb dX1_join_22 rfl (lv_at hl 1 rfl) ?_
  refine lv_dup hx hb dX1_join_23 rfl ?_
  refine va_get (D := D) (ci := 4) (v := .int (nI (gP G))) (C := RX1) (T := TX1) (N := 16) hx hb hts hinX1 hown hK hP 0 rfl rfl 2 (by decide) (hts (.fieldLink RX1 19 "BridgeAuction$Game" "players" "I") (by decide +kernel)) (fun _ h9 => h9) rfl dX1_join_24 ?_
  refine lv_iconst (v := 1) hx hb dX1_join_27 (by decide) ?_
  refine topN (k := 1) (by decide) ?_
  refine addN hx hb dX1_join_28 ?_
  refine va_put (D := D) (ci := 4) (v := .int (nI ((gP G) + 1))) (ty := .int) (C := RX1) (T := TX1) (N := 16) hx hb hts hinX1 tyX1 tyX1_ok nmX1 hown hK hP hD hS 0 rfl rfl 2 (by decide) (hts (.fieldLink RX1 19 "BridgeAuction$Game" "players" "I") (by decide +kernel)) (fun _ h9 => h9) rfl (by decide +kernel) rfl rfl (Nat.le_of_ble_eq_true rfl) dX1_join_29 (fun H locs hP hD hS => ?_)
  have hP : va_P D vwCl (gcells C a (mkG (gSuit G) (gTide G) ((gP G) + 1) (upd (gMon G) (gP G) x) (gUsed G) (gS G) (gLo G) (gHi G) (gLen G) (gBld G) (gFer G) (gOff G) ((gIni G) + x) (gBank G) (gSet G) (gBlf G))) H := hP
  have hD : va_D A (gcells C a (mkG (gSuit G) (gTide G) ((gP G) + 1) (upd (gMon G) (gP G) x) (gUsed G) (gS G) (gLo G) (gHi G) (gLen G) (gBld G) (gFer G) (gOff G) ((gIni G) + x) (gBank G) (gSet G) (gBlf G))) := hD
  refine lv_iload_n hx hb dX1_join_32 rfl (lv_at hl 0 rfl) ?_
  have hz : z = ((gP G), (mkG (gSuit G) (gTide G) ((gP G) + 1) (upd (gMon G) (gP G) x) (gUsed G) (gS G) (gLo G) (gHi G) (gLen G) (gBld G) (gFer G) (gOff G) ((gIni G) + x) (gBank G) (gSet G) (gBlf G))) := hz
  rw [hz]
  exact rw_ret hx hb hr hP hS rfl dX1_join_33 hlocks

def f_X1_giveSuit (G : GS) (i : Nat) (x : Int32) : Int32 × GS := (((gSuit G) i), (mkG (upd (gSuit G) i x) (gTide G) (gP G) (gMon G) (gUsed G) (gS G) (gLo G) (gHi G) (gLen G) (gBld G) (gFer G) (gOff G) (gIni G) (gBank G) (gSet G) (gBlf G)))
set_option maxHeartbeats 4000000 in
set_option maxRecDepth 100000 in
theorem c_X1_giveSuit (l : Launch) (D : va_G) (C : Nat → ClassId) (a : Nat → Nat) (G : GS) (i : Nat) (x : Int32) (sz : Nat) (hG : GSafe G) (h_i : i < 8) : Met l yX1_giveSuit wsX1_giveSuit ({ frames := 0, cells := 0, slots := 0, locals := 0 } : Room) (rwP [.ref (a 0), .int (nI i), .int x] D C (gcells C a G) sz) (rwO (some (.int (f_X1_giveSuit G i x).1)) D (gcells C a ((f_X1_giveSuit G i x).2)) (va_A (gcells C a G) sz)) 0 0 (va_A (gcells C a G) sz) := by
  refine Met.ofW (cc := cX1_giveSuit) (maxL := 4) (ret := (some .int)) (by decide) rfl ?_
  intro p e s m args below meth c s₁ B hml hv
  obtain ⟨rfl, hsz, hP, hK, hD0, hE⟩ := hv
  have hx := B.exec
  have hb := B.bytes
  have hr := B.returns
  have hts := atoms_spec (ws := wsX1_giveSuit) B.pre
  have hown : s.vm.findClass RX1 = some m.cls := findClass_of_methodNamed B.named
  have hlocks := B.notSynchronized
  subst hsz
  have hD := hD0.self (sz := s.heap.size)
  generalize hAe : va_A (gcells C a G) s.heap.size = A at hD ⊢
  have hA : ∀ q : Nat, s.heap.size ≤ q → A q := fun q h => by rw [← hAe]; exact Or.inr h
  have hS0 : va_S A s.heap s.heap [] := va_S.rf
  have hP : va_P D vwCl (gcells C a G) s.heap := hP
  have hS := hS0
  obtain ⟨hS12, hP4, hlo, hhi⟩ := id hG
  have hinX1 : ∀ w ∈ u_ws RX1 TX1 16, w ∈ wsX1_giveSuit := by decide +kernel
  have hl := lv_entry ([.ref (a 0), .int (nI i), .int x]) (n := 4) (Nat.le_of_ble_eq_true rfl)
  rw [lg_entry_eq]
  generalize (lg_sl ([.ref (a 0), .int (nI i), .int x]) ++ List.replicate (4 - (lg_sl ([.ref (a 0), .int (nI i), .int x])).length) Slot.unset).toArray = ls at hl ⊢
  have hl : lv_has ls 4 [(0, .ref (a 0)), (1, .int (nI i)), (2, .int x)] := hl
  obtain ⟨z, hz⟩ : ∃ z, z = f_X1_giveSuit G i x := ⟨_, rfl⟩
  rw [← hz]
  refine lv_aload_n hx hb dX1_giveSuit_0 rfl (lv_at hl 0 rfl) ?_
  refine va_get (D := D) (ci := 4) (v := .ref (a 1)) (C := RX1) (T := TX1) (N := 16) hx hb hts hinX1 hown hK hP 0 rfl rfl 0 (by decide) (hts (.fieldLink RX1 9 "BridgeAuction$Game" "suits" "[I") (by decide +kernel)) (fun _ h9 => h9) rfl dX1_giveSuit_1 ?_
  refine lv_iload_n hx hb dX1_giveSuit_4 rfl (lv_at hl 1 rfl) ?_
  refine ialdN (tys := tyA C) hx hb hK hP 1 0 rfl rfl (i := i) (by omega) (by decide) dX1_giveSuit_5 ?_
  refine lv_istore_n (lv' := [(3, .int ((gSuit G) i)), (0, .ref (a 0)), (1, .int (nI i)), (2, .int x)]) hx hb dX1_giveSuit_6 rfl hl (by decide) rfl (fun ls hl => ?_)
  refine lv_aload_n hx hb dX1_giveSuit_7 rfl (lv_at hl 1 rfl) ?_
  refine va_get (D := D) (ci := 4) (v := .ref (a 1)) (C := RX1) (T := TX1) (N := 16) hx hb hts hinX1 hown hK hP 0 rfl rfl 0 (by decide) (hts (.fieldLink RX1 9 "BridgeAuction$Game" "suits" "[I") (by decide +kernel)) (fun _ h9 => h9) rfl dX1_giveSuit_8 ?_
  refine lv_iload_n hx hb dX1_giveSuit_11 rfl (lv_at hl 2 rfl) ?_
  refine lv_iload_n hx hb dX1_giveSuit_12 rfl (lv_at hl 3 rfl) ?_
  refine iastN (tys := tyA C) hx hb hK hP hD hS 1 0 rfl rfl (i := i) (by omega) (by decide) dX1_giveSuit_13 (fun H locs hP hD hS => ?_)
  have hP : va_P D vwCl (gcells C a (mkG (upd (gSuit G) i x) (gTide G) (gP G) (gMon G) (gUsed G) (gS G) (gLo G) (gHi G) (gLen G) (gBld G) (gFer G) (gOff G) (gIni G) (gBank G) (gSet G) (gBlf G))) H := hP
  have hD : va_D A (gcells C a (mkG (upd (gSuit G) i x) (gTide G) (gP G) (gMon G) (gUsed G) (gS G) (gLo G) (gHi G) (gLen G) (gBld G) (gFer G) (gOff G) (gIni G) (gBank G) (gSet G) (gBlf G))) := hD
  refine lv_iload_n hx hb dX1_giveSuit_14 rfl (lv_at hl 0 rfl) ?_
  have hz : z = (((gSuit G) i), (mkG (upd (gSuit G) i x) (gTide G) (gP G) (gMon G) (gUsed G) (gS G) (gLo G) (gHi G) (gLen G) (gBld G) (gFer G) (gOff G) (gIni G) (gBank G) (gSet G) (gBlf G))) := hz
  rw [hz]
  exact rw_ret hx hb hr hP hS rfl dX1_giveSuit_15 hlocks

def f_X1_moveTide (G : GS) (x : Int32) : Int32 × GS := ((gTide G), (mkG (gSuit G) x (gP G) (gMon G) (gUsed G) (gS G) (gLo G) (gHi G) (gLen G) (gBld G) (gFer G) (gOff G) (gIni G) (gBank G) (gSet G) (gBlf G)))
set_option maxHeartbeats 4000000 in
set_option maxRecDepth 100000 in
theorem c_X1_moveTide (l : Launch) (D : va_G) (C : Nat → ClassId) (a : Nat → Nat) (G : GS) (x : Int32) (sz : Nat) (hG : GSafe G) : Met l yX1_moveTide wsX1_moveTide ({ frames := 0, cells := 0, slots := 0, locals := 0 } : Room) (rwP [.ref (a 0), .int x] D C (gcells C a G) sz) (rwO (some (.int (f_X1_moveTide G x).1)) D (gcells C a ((f_X1_moveTide G x).2)) (va_A (gcells C a G) sz)) 0 0 (va_A (gcells C a G) sz) := by
  refine Met.ofW (cc := cX1_moveTide) (maxL := 3) (ret := (some .int)) (by decide) rfl ?_
  intro p e s m args below meth c s₁ B hml hv
  obtain ⟨rfl, hsz, hP, hK, hD0, hE⟩ := hv
  have hx := B.exec
  have hb := B.bytes
  have hr := B.returns
  have hts := atoms_spec (ws := wsX1_moveTide) B.pre
  have hown : s.vm.findClass RX1 = some m.cls := findClass_of_methodNamed B.named
  have hlocks := B.notSynchronized
  subst hsz
  have hD := hD0.self (sz := s.heap.size)
  generalize hAe : va_A (gcells C a G) s.heap.size = A at hD ⊢
  have hA : ∀ q : Nat, s.heap.size ≤ q → A q := fun q h => by rw [← hAe]; exact Or.inr h
  have hS0 : va_S A s.heap s.heap [] := va_S.rf
  have hP : va_P D vwCl (gcells C a G) s.heap := hP
  have hS := hS0
  obtain ⟨hS12, hP4, hlo, hhi⟩ := id hG
  have hinX1 : ∀ w ∈ u_ws RX1 TX1 16, w ∈ wsX1_moveTide := by decide +kernel
  have hl := lv_entry ([.ref (a 0), .int x]) (n := 3) (Nat.le_of_ble_eq_true rfl)
  rw [lg_entry_eq]
  generalize (lg_sl ([.ref (a 0), .int x]) ++ List.replicate (3 - (lg_sl ([.ref (a 0), .int x])).length) Slot.unset).toArray = ls at hl ⊢
  have hl : lv_has ls 3 [(0, .ref (a 0)), (1, .int x)] := hl
  obtain ⟨z, hz⟩ : ∃ z, z = f_X1_moveTide G x := ⟨_, rfl⟩
  rw [← hz]
  refine lv_aload_n hx hb dX1_moveTide_0 rfl (lv_at hl 0 rfl) ?_
  refine va_get (D := D) (ci := 4) (v := .int (gTide G)) (C := RX1) (T := TX1) (N := 16) hx hb hts hinX1 hown hK hP 0 rfl rfl 1 (by decide) (hts (.fieldLink RX1 15 "BridgeAuction$Game" "tideLevel" "I") (by decide +kernel)) (fun _ h9 => h9) rfl dX1_moveTide_1 ?_
  refine lv_istore_n (lv' := [(2, .int (gTide G)), (0, .ref (a 0)), (1, .int x)]) hx hb dX1_moveTide_4 rfl hl (by decide) rfl (fun ls hl => ?_)
  refine lv_aload_n hx hb dX1_moveTide_5 rfl (lv_at hl 1 rfl) ?_
  refine lv_iload_n hx hb dX1_moveTide_6 rfl (lv_at hl 2 rfl) ?_
  refine va_put (D := D) (ci := 4) (v := .int x) (ty := .int) (C := RX1) (T := TX1) (N := 16) hx hb hts hinX1 tyX1 tyX1_ok nmX1 hown hK hP hD hS 0 rfl rfl 1 (by decide) (hts (.fieldLink RX1 15 "BridgeAuction$Game" "tideLevel" "I") (by decide +kernel)) (fun _ h9 => h9) rfl (by decide +kernel) rfl rfl (Nat.le_of_ble_eq_true rfl) dX1_moveTide_7 (fun H locs hP hD hS => ?_)
  have hP : va_P D vwCl (gcells C a (mkG (gSuit G) x (gP G) (gMon G) (gUsed G) (gS G) (gLo G) (gHi G) (gLen G) (gBld G) (gFer G) (gOff G) (gIni G) (gBank G) (gSet G) (gBlf G))) H := hP
  have hD : va_D A (gcells C a (mkG (gSuit G) x (gP G) (gMon G) (gUsed G) (gS G) (gLo G) (gHi G) (gLen G) (gBld G) (gFer G) (gOff G) (gIni G) (gBank G) (gSet G) (gBlf G))) := hD
  refine lv_iload_n hx hb dX1_moveTide_10 rfl (lv_at hl 0 rfl) ?_
  have hz : z = ((gTide G), (mkG (gSuit G) x (gP G) (gMon G) (gUsed G) (gS G) (gLo G) (gHi G) (gLen G) (gBld G) (gFer G) (gOff G) (gIni G) (gBank G) (gSet G) (gBlf G))) := hz
  rw [hz]
  exact rw_ret hx hb hr hP hS rfl dX1_moveTide_11 hlocks

def f_X1_open (G : GS) (i : Nat) (j : Nat) (x : Int32) : Nat × GS := ((gS G), (mkG (gSuit G) (gTide G) (gP G) (gMon G) (gUsed G) ((gS G) + 1) (updN (gLo G) (gS G) ((imin (nI i) (nI j))).toNatClampNeg) (updN (gHi G) (gS G) ((imax (nI i) (nI j))).toNatClampNeg) (upd (gLen G) (gS G) x) (upd (gBld G) (gS G) (-1)) (upd (gFer G) (gS G) (-1)) (gOff G) (gIni G) (gBank G) (gSet G) (gBlf G)))
set_option maxHeartbeats 4000000 in
set_option maxRecDepth 100000 in
theorem c_X1_open (l : Launch) (D : va_G) (C : Nat → ClassId) (a : Nat → Nat) (G : GS) (i : Nat) (j : Nat) (x : Int32) (sz : Nat) (hG : GSafe G) (h_i : i < 8) (h_j : j < 8) (hlt : gS G < 12) : Met l yX1_open wsX1_open ({ frames := 1, cells := 0, slots := 0, locals := 15 } : Room) (rwP [.ref (a 0), .int (nI i), .int (nI j), .int x] D C (gcells C a G) sz) (rwO (some (.int (nI (f_X1_open G i j x).1))) D (gcells C a ((f_X1_open G i j x).2)) (va_A (gcells C a G) sz)) 0 0 (va_A (gcells C a G) sz) := by
  refine Met.ofW (cc := cX1_open) (maxL := 5) (ret := (some .int)) (by decide) rfl ?_
  intro p e s m args below meth c s₁ B hml hv
  obtain ⟨rfl, hsz, hP, hK, hD0, hE⟩ := hv
  have hx := B.exec
  have hb := B.bytes
  have hr := B.returns
  have hts := atoms_spec (ws := wsX1_open) B.pre
  have hown : s.vm.findClass RX1 = some m.cls := findClass_of_methodNamed B.named
  have hlocks := B.notSynchronized
  subst hsz
  have hD := hD0.self (sz := s.heap.size)
  generalize hAe : va_A (gcells C a G) s.heap.size = A at hD ⊢
  have hA : ∀ q : Nat, s.heap.size ≤ q → A q := fun q h => by rw [← hAe]; exact Or.inr h
  have hS0 : va_S A s.heap s.heap [] := va_S.rf
  have hP : va_P D vwCl (gcells C a G) s.heap := hP
  have hS := hS0
  obtain ⟨hS12, hP4, hlo, hhi⟩ := id hG
  have hinX1 : ∀ w ∈ u_ws RX1 TX1 16, w ∈ wsX1_open := by decide +kernel
  have hl := lv_entry ([.ref (a 0), .int (nI i), .int (nI j), .int x]) (n := 5) (Nat.le_of_ble_eq_true rfl)
  rw [lg_entry_eq]
  generalize (lg_sl ([.ref (a 0), .int (nI i), .int (nI j), .int x]) ++ List.replicate (5 - (lg_sl ([.ref (a 0), .int (nI i), .int (nI j), .int x])).length) Slot.unset).toArray = ls at hl ⊢
  have hl : lv_has ls 5 [(0, .ref (a 0)), (1, .int (nI i)), (2, .int (nI j)), (3, .int x)] := hl
  obtain ⟨z, hz⟩ : ∃ z, z = f_X1_open G i j x := ⟨_, rfl⟩
  rw [← hz]
  refine lv_aload_n hx hb dX1_open_0 rfl (lv_at hl 0 rfl) ?_
  refine va_get (D := D) (ci := 4) (v := .int (nI (gS G))) (C := RX1) (T := TX1) (N := 16) hx hb hts hinX1 hown hK hP 0 rfl rfl 5 (by decide) (hts (.fieldLink RX1 28 "BridgeAuction$Game" "sites" "I") (by decide +kernel)) (fun _ h9 => h9) rfl dX1_open_1 ?_
  refine lv_istore (lv' := [(4, .int (nI (gS G))), (0, .ref (a 0)), (1, .int (nI i)), (2, .int (nI j)), (3, .int x)]) hx hb dX1_open_4 hl (by decide) rfl (fun ls hl => ?_)
  refine lv_aload_n hx hb dX1_open_6 rfl (lv_at hl 1 rfl) ?_
  refine va_get (D := D) (ci := 4) (v := .ref (a 3)) (C := RX1) (T := TX1) (N := 16) hx hb hts hinX1 hown hK hP 0 rfl rfl 6 (by decide) (hts (.fieldLink RX1 31 "BridgeAuction$Game" "lowers" "[I") (by decide +kernel)) (fun _ h9 => h9) rfl dX1_open_7 ?_
  refine lv_iload hx hb dX1_open_10 (lv_at hl 0 rfl) ?_
  refine lv_iload_n hx hb dX1_open_12 rfl (lv_at hl 2 rfl) ?_
  refine lv_iload_n hx hb dX1_open_13 rfl (lv_at hl 3 rfl) ?_
  refine va_mmin hx hb (hml.trans hl.1.symm) hown (hts (.methodLink RX1 127 Lib.Math.min.name) (by decide +kernel)) (hts (.static Lib.Math.min.name) (by decide +kernel)) (hts (.initialized "java/lang/Math") (by decide +kernel)) (hts (.code Lib.Math.min.name Lib.Math.min.code 2 (some .int)) (by decide +kernel)) (Nat.le_of_ble_eq_true rfl) (Nat.le_of_ble_eq_true rfl) (Nat.le_of_ble_eq_true rfl) (Nat.le_of_ble_eq_true rfl) dX1_open_14 ?_
  refine topI (y := (imin (nI i) (nI j))) rfl ?_
  obtain ⟨ehn_1, lhn_1⟩ := nat_of (x := (imin (nI i) (nI j))) (n := 8) (by exact imin_in h_i h_j) (by omega)
  refine topN ehn_1 ?_
  refine iastNN (tys := tyA C) hx hb hK hP hD hS 3 0 rfl rfl (i := (gS G)) (by omega) (by decide) dX1_open_17 (fun H locs hP hD hS => ?_)
  have hP : va_P D vwCl (gcells C a (mkG (gSuit G) (gTide G) (gP G) (gMon G) (gUsed G) (gS G) (updN (gLo G) (gS G) ((imin (nI i) (nI j))).toNatClampNeg) (gHi G) (gLen G) (gBld G) (gFer G) (gOff G) (gIni G) (gBank G) (gSet G) (gBlf G))) H := hP
  have hD : va_D A (gcells C a (mkG (gSuit G) (gTide G) (gP G) (gMon G) (gUsed G) (gS G) (updN (gLo G) (gS G) ((imin (nI i) (nI j))).toNatClampNeg) (gHi G) (gLen G) (gBld G) (gFer G) (gOff G) (gIni G) (gBank G) (gSet G) (gBlf G))) := hD
  refine lv_aload_n hx hb dX1_open_18 rfl (lv_at hl 1 rfl) ?_
  refine va_get (D := D) (ci := 4) (v := .ref (a 4)) (C := RX1) (T := TX1) (N := 16) hx hb hts hinX1 hown hK hP 0 rfl rfl 7 (by decide) (hts (.fieldLink RX1 34 "BridgeAuction$Game" "highers" "[I") (by decide +kernel)) (fun _ h9 => h9) rfl dX1_open_19 ?_
  refine lv_iload hx hb dX1_open_22 (lv_at hl 0 rfl) ?_
  refine lv_iload_n hx hb dX1_open_24 rfl (lv_at hl 2 rfl) ?_
  refine lv_iload_n hx hb dX1_open_25 rfl (lv_at hl 3 rfl) ?_
  refine va_mmax hx hb (hml.trans hl.1.symm) hown (hts (.methodLink RX1 133 Lib.Math.max.name) (by decide +kernel)) (hts (.static Lib.Math.max.name) (by decide +kernel)) (hts (.initialized "java/lang/Math") (by decide +kernel)) (hts (.code Lib.Math.max.name Lib.Math.max.code 2 (some .int)) (by decide +kernel)) (Nat.le_of_ble_eq_true rfl) (Nat.le_of_ble_eq_true rfl) (Nat.le_of_ble_eq_true rfl) (Nat.le_of_ble_eq_true rfl) dX1_open_26 ?_
  refine topI (y := (imax (nI i) (nI j))) rfl ?_
  obtain ⟨ehn_2, lhn_2⟩ := nat_of (x := (imax (nI i) (nI j))) (n := 8) (by exact imax_in h_i h_j) (by omega)
  refine topN ehn_2 ?_
  refine iastNN (tys := tyA C) hx hb hK hP hD hS 4 0 rfl rfl (i := (gS G)) (by omega) (by decide) dX1_open_29 (fun H locs hP hD hS => ?_)
  have hP : va_P D vwCl (gcells C a (mkG (gSuit G) (gTide G) (gP G) (gMon G) (gUsed G) (gS G) (updN (gLo G) (gS G) ((imin (nI i) (nI j))).toNatClampNeg) (updN (gHi G) (gS G) ((imax (nI i) (nI j))).toNatClampNeg) (gLen G) (gBld G) (gFer G) (gOff G) (gIni G) (gBank G) (gSet G) (gBlf G))) H := hP
  have hD : va_D A (gcells C a (mkG (gSuit G) (gTide G) (gP G) (gMon G) (gUsed G) (gS G) (updN (gLo G) (gS G) ((imin (nI i) (nI j))).toNatClampNeg) (updN (gHi G) (gS G) ((imax (nI i) (nI j))).toNatClampNeg) (gLen G) (gBld G) (gFer G) (gOff G) (gIni G) (gBank G) (gSet G) (gBlf G))) := hD
  refine lv_aload_n hx hb dX1_open_30 rfl (lv_at hl 1 rfl) ?_
  refine va_get (D := D) (ci := 4) (v := .ref (a 5)) (C := RX1) (T := TX1) (N := 16) hx hb hts hinX1 hown hK hP 0 rfl rfl 8 (by decide) (hts (.fieldLink RX1 37 "BridgeAuction$Game" "lengths" "[I") (by decide +kernel)) (fun _ h9 => h9) rfl dX1_open_31 ?_
  refine lv_iload hx hb dX1_open_34 (lv_at hl 0 rfl) ?_
  refine lv_iload_n hx hb dX1_open_36 rfl (lv_at hl 4 rfl) ?_
  refine iastN (tys := tyA C) hx hb hK hP hD hS 5 0 rfl rfl (i := (gS G)) (by omega) (by decide) dX1_open_37 (fun H locs hP hD hS => ?_)
  have hP : va_P D vwCl (gcells C a (mkG (gSuit G) (gTide G) (gP G) (gMon G) (gUsed G) (gS G) (updN (gLo G) (gS G) ((imin (nI i) (nI j))).toNatClampNeg) (updN (gHi G) (gS G) ((imax (nI i) (nI j))).toNatClampNeg) (upd (gLen G) (gS G) x) (gBld G) (gFer G) (gOff G) (gIni G) (gBank G) (gSet G) (gBlf G))) H := hP
  have hD : va_D A (gcells C a (mkG (gSuit G) (gTide G) (gP G) (gMon G) (gUsed G) (gS G) (updN (gLo G) (gS G) ((imin (nI i) (nI j))).toNatClampNeg) (updN (gHi G) (gS G) ((imax (nI i) (nI j))).toNatClampNeg) (upd (gLen G) (gS G) x) (gBld G) (gFer G) (gOff G) (gIni G) (gBank G) (gSet G) (gBlf G))) := hD
  refine lv_aload_n hx hb dX1_open_38 rfl (lv_at hl 1 rfl) ?_
  refine va_get (D := D) (ci := 4) (v := .ref (a 6)) (C := RX1) (T := TX1) (N := 16) hx hb hts hinX1 hown hK hP 0 rfl rfl 9 (by decide) (hts (.fieldLink RX1 40 "BridgeAuction$Game" "builders" "[I") (by decide +kernel)) (fun _ h9 => h9) rfl dX1_open_39 ?_
  refine lv_iload hx hb dX1_open_42 (lv_at hl 0 rfl) ?_
  refine lv_iconst (v := (-1)) hx hb dX1_open_44 (by decide) ?_
  refine iastN (tys := tyA C) hx hb hK hP hD hS 6 0 rfl rfl (i := (gS G)) (by omega) (by decide) dX1_open_45 (fun H locs hP hD hS => ?_)
  have hP : va_P D vwCl (gcells C a (mkG (gSuit G) (gTide G) (gP G) (gMon G) (gUsed G) (gS G) (updN (gLo G) (gS G) ((imin (nI i) (nI j))).toNatClampNeg) (updN (gHi G) (gS G) ((imax (nI i) (nI j))).toNatClampNeg) (upd (gLen G) (gS G) x) (upd (gBld G) (gS G) (-1)) (gFer G) (gOff G) (gIni G) (gBank G) (gSet G) (gBlf G))) H := hP
  have hD : va_D A (gcells C a (mkG (gSuit G) (gTide G) (gP G) (gMon G) (gUsed G) (gS G) (updN (gLo G) (gS G) ((imin (nI i) (nI j))).toNatClampNeg) (updN (gHi G) (gS G) ((imax (nI i) (nI j))).toNatClampNeg) (upd (gLen G) (gS G) x) (upd (gBld G) (gS G) (-1)) (gFer G) (gOff G) (gIni G) (gBank G) (gSet G) (gBlf G))) := hD
  refine lv_aload_n hx hb dX1_open_46 rfl (lv_at hl 1 rfl) ?_
  refine va_get (D := D) (ci := 4) (v := .ref (a 7)) (C := RX1) (T := TX1) (N := 16) hx hb hts hinX1 hown hK hP 0 rfl rfl 10 (by decide) (hts (.fieldLink RX1 43 "BridgeAuction$Game" "ferries" "[I") (by decide +kernel)) (fun _ h9 => h9) rfl dX1_open_47 ?_
  refine lv_iload hx hb dX1_open_50 (lv_at hl 0 rfl) ?_
  refine lv_iconst (v := (-1)) hx hb dX1_open_52 (by decide) ?_
  refine iastN (tys := tyA C) hx hb hK hP hD hS 7 0 rfl rfl (i := (gS G)) (by omega) (by decide) dX1_open_53 (fun H locs hP hD hS => ?_)
  have hP : va_P D vwCl (gcells C a (mkG (gSuit G) (gTide G) (gP G) (gMon G) (gUsed G) (gS G) (updN (gLo G) (gS G) ((imin (nI i) (nI j))).toNatClampNeg) (updN (gHi G) (gS G) ((imax (nI i) (nI j))).toNatClampNeg) (upd (gLen G) (gS G) x) (upd (gBld G) (gS G) (-1)) (upd (gFer G) (gS G) (-1)) (gOff G) (gIni G) (gBank G) (gSet G) (gBlf G))) H := hP
  have hD : va_D A (gcells C a (mkG (gSuit G) (gTide G) (gP G) (gMon G) (gUsed G) (gS G) (updN (gLo G) (gS G) ((imin (nI i) (nI j))).toNatClampNeg) (updN (gHi G) (gS G) ((imax (nI i) (nI j))).toNatClampNeg) (upd (gLen G) (gS G) x) (upd (gBld G) (gS G) (-1)) (upd (gFer G) (gS G) (-1)) (gOff G) (gIni G) (gBank G) (gSet G) (gBlf G))) := hD
  refine lv_aload_n hx hb dX1_open_54 rfl (lv_at hl 1 rfl) ?_
  refine lv_dup hx hb dX1_open_55 rfl ?_
  refine va_get (D := D) (ci := 4) (v := .int (nI (gS G))) (C := RX1) (T := TX1) (N := 16) hx hb hts hinX1 hown hK hP 0 rfl rfl 5 (by decide) (hts (.fieldLink RX1 28 "BridgeAuction$Game" "sites" "I") (by decide +kernel)) (fun _ h9 => h9) rfl dX1_open_56 ?_
  refine lv_iconst (v := 1) hx hb dX1_open_59 (by decide) ?_
  refine topN (k := 1) (by decide) ?_
  refine addN hx hb dX1_open_60 ?_
  refine va_put (D := D) (ci := 4) (v := .int (nI ((gS G) + 1))) (ty := .int) (C := RX1) (T := TX1) (N := 16) hx hb hts hinX1 tyX1 tyX1_ok nmX1 hown hK hP hD hS 0 rfl rfl 5 (by decide) (hts (.fieldLink RX1 28 "BridgeAuction$Game" "sites" "I") (by decide +kernel)) (fun _ h9 => h9) rfl (by decide +kernel) rfl rfl (Nat.le_of_ble_eq_true rfl) dX1_open_61 (fun H locs hP hD hS => ?_)
  have hP : va_P D vwCl (gcells C a (mkG (gSuit G) (gTide G) (gP G) (gMon G) (gUsed G) ((gS G) + 1) (updN (gLo G) (gS G) ((imin (nI i) (nI j))).toNatClampNeg) (updN (gHi G) (gS G) ((imax (nI i) (nI j))).toNatClampNeg) (upd (gLen G) (gS G) x) (upd (gBld G) (gS G) (-1)) (upd (gFer G) (gS G) (-1)) (gOff G) (gIni G) (gBank G) (gSet G) (gBlf G))) H := hP
  have hD : va_D A (gcells C a (mkG (gSuit G) (gTide G) (gP G) (gMon G) (gUsed G) ((gS G) + 1) (updN (gLo G) (gS G) ((imin (nI i) (nI j))).toNatClampNeg) (updN (gHi G) (gS G) ((imax (nI i) (nI j))).toNatClampNeg) (upd (gLen G) (gS G) x) (upd (gBld G) (gS G) (-1)) (upd (gFer G) (gS G) (-1)) (gOff G) (gIni G) (gBank G) (gSet G) (gBlf G))) := hD
  refine lv_iload hx hb dX1_open_64 (lv_at hl 0 rfl) ?_
  have hz : z = ((gS G), (mkG (gSuit G) (gTide G) (gP G) (gMon G) (gUsed G) ((gS G) + 1) (updN (gLo G) (gS G) ((imin (nI i) (nI j))).toNatClampNeg) (updN (gHi G) (gS G) ((imax (nI i) (nI j))).toNatClampNeg) (upd (gLen G) (gS G) x) (upd (gBld G) (gS G) (-1)) (upd (gFer G) (gS G) (-1)) (gOff G) (gIni G) (gBank G) (gSet G) (gBlf G))) := hz
  rw [hz]
  exact rw_ret hx hb hr hP hS rfl dX1_open_66 hlocks

def f_X1_sendFerry (G : GS) (q : Nat) (k : Nat) : Int32 × GS := ((f_X1_bidsAbove (mkG (gSuit G) (gTide G) (gP G) (gMon G) ((gUsed G) ||| (1 <<< ((nI q) &&& 31))) (gS G) (gLo G) (gHi G) (gLen G) (gBld G) (upd (gFer G) k (nI q)) (gOff G) (gIni G) (gBank G) (gSet G) (gBlf G)) (k) ((f_X1_amountOf (mkG (gSuit G) (gTide G) (gP G) (gMon G) ((gUsed G) ||| (1 <<< ((nI q) &&& 31))) (gS G) (gLo G) (gHi G) (gLen G) (gBld G) (upd (gFer G) k (nI q)) (gOff G) (gIni G) (gBank G) (gSet G) (gBlf G)) (q) (k)))), (mkG (gSuit G) (gTide G) (gP G) (gMon G) ((gUsed G) ||| (1 <<< ((nI q) &&& 31))) (gS G) (gLo G) (gHi G) (gLen G) (gBld G) (upd (gFer G) k (nI q)) (gOff G) (gIni G) (gBank G) (gSet G) (gBlf G)))
set_option maxHeartbeats 4000000 in
set_option maxRecDepth 100000 in
theorem c_X1_sendFerry (l : Launch) (D : va_G) (C : Nat → ClassId) (a : Nat → Nat) (G : GS) (q : Nat) (k : Nat) (sz : Nat) (hG : GSafe G) (h_q : q < 4) (h_k : k < 12) : Met l yX1_sendFerry wsX1_sendFerry ({ frames := 3, cells := 0, slots := 0, locals := 67 } : Room) (rwP [.ref (a 0), .int (nI q), .int (nI k)] D C (gcells C a G) sz) (rwO (some (.int (f_X1_sendFerry G q k).1)) D (gcells C a ((f_X1_sendFerry G q k).2)) (va_A (gcells C a G) sz)) 0 0 (va_A (gcells C a G) sz) := by
  refine Met.ofW (cc := cX1_sendFerry) (maxL := 3) (ret := (some .int)) (by decide) rfl ?_
  intro p e s m args below meth c s₁ B hml hv
  obtain ⟨rfl, hsz, hP, hK, hD0, hE⟩ := hv
  have hx := B.exec
  have hb := B.bytes
  have hr := B.returns
  have hts := atoms_spec (ws := wsX1_sendFerry) B.pre
  have hown : s.vm.findClass RX1 = some m.cls := findClass_of_methodNamed B.named
  have hlocks := B.notSynchronized
  subst hsz
  have hD := hD0.self (sz := s.heap.size)
  generalize hAe : va_A (gcells C a G) s.heap.size = A at hD ⊢
  have hA : ∀ q : Nat, s.heap.size ≤ q → A q := fun q h => by rw [← hAe]; exact Or.inr h
  have hS0 : va_S A s.heap s.heap [] := va_S.rf
  have hP : va_P D vwCl (gcells C a G) s.heap := hP
  have hS := hS0
  obtain ⟨hS12, hP4, hlo, hhi⟩ := id hG
  have hinX1 : ∀ w ∈ u_ws RX1 TX1 16, w ∈ wsX1_sendFerry := by decide +kernel
  have hl := lv_entry ([.ref (a 0), .int (nI q), .int (nI k)]) (n := 3) (Nat.le_of_ble_eq_true rfl)
  rw [lg_entry_eq]
  generalize (lg_sl ([.ref (a 0), .int (nI q), .int (nI k)]) ++ List.replicate (3 - (lg_sl ([.ref (a 0), .int (nI q), .int (nI k)])).length) Slot.unset).toArray = ls at hl ⊢
  have hl : lv_has ls 3 [(0, .ref (a 0)), (1, .int (nI q)), (2, .int (nI k))] := hl
  obtain ⟨z, hz⟩ : ∃ z, z = f_X1_sendFerry G q k := ⟨_, rfl⟩
  rw [← hz]
  refine lv_aload_n hx hb dX1_sendFerry_0 rfl (lv_at hl 0 rfl) ?_
  refine va_get (D := D) (ci := 4) (v := .ref (a 7)) (C := RX1) (T := TX1) (N := 16) hx hb hts hinX1 hown hK hP 0 rfl rfl 10 (by decide) (hts (.fieldLink RX1 43 "BridgeAuction$Game" "ferries" "[I") (by decide +kernel)) (fun _ h9 => h9) rfl dX1_sendFerry_1 ?_
  refine lv_iload_n hx hb dX1_sendFerry_4 rfl (lv_at hl 2 rfl) ?_
  refine lv_iload_n hx hb dX1_sendFerry_5 rfl (lv_at hl 1 rfl) ?_
  refine iastN (tys := tyA C) hx hb hK hP hD hS 7 0 rfl rfl (i := k) (by omega) (by decide) dX1_sendFerry_6 (fun H locs hP hD hS => ?_)
  have hP : va_P D vwCl (gcells C a (mkG (gSuit G) (gTide G) (gP G) (gMon G) (gUsed G) (gS G) (gLo G) (gHi G) (gLen G) (gBld G) (upd (gFer G) k (nI q)) (gOff G) (gIni G) (gBank G) (gSet G) (gBlf G))) H := hP
  have hD : va_D A (gcells C a (mkG (gSuit G) (gTide G) (gP G) (gMon G) (gUsed G) (gS G) (gLo G) (gHi G) (gLen G) (gBld G) (upd (gFer G) k (nI q)) (gOff G) (gIni G) (gBank G) (gSet G) (gBlf G))) := hD
  refine lv_aload_n hx hb dX1_sendFerry_7 rfl (lv_at hl 0 rfl) ?_
  refine lv_dup hx hb dX1_sendFerry_8 rfl ?_
  refine va_get (D := D) (ci := 4) (v := .int (gUsed G)) (C := RX1) (T := TX1) (N := 16) hx hb hts hinX1 hown hK hP 0 rfl rfl 4 (by decide) (hts (.fieldLink RX1 25 "BridgeAuction$Game" "usedFerries" "I") (by decide +kernel)) (fun _ h9 => h9) rfl dX1_sendFerry_9 ?_
  refine lv_iconst (v := 1) hx hb dX1_sendFerry_12 (by decide) ?_
  refine lv_iload_n hx hb dX1_sendFerry_13 rfl (lv_at hl 1 rfl) ?_
  refine lv_ishl hx hb dX1_sendFerry_14 ?_
  refine lv_ior hx hb dX1_sendFerry_15 ?_
  refine va_put (D := D) (ci := 4) (v := .int ((gUsed G) ||| (1 <<< ((nI q) &&& 31)))) (ty := .int) (C := RX1) (T := TX1) (N := 16) hx hb hts hinX1 tyX1 tyX1_ok nmX1 hown hK hP hD hS 0 rfl rfl 4 (by decide) (hts (.fieldLink RX1 25 "BridgeAuction$Game" "usedFerries" "I") (by decide +kernel)) (fun _ h9 => h9) rfl (by decide +kernel) rfl rfl (Nat.le_of_ble_eq_true rfl) dX1_sendFerry_16 (fun H locs hP hD hS => ?_)
  have hP : va_P D vwCl (gcells C a (mkG (gSuit G) (gTide G) (gP G) (gMon G) ((gUsed G) ||| (1 <<< ((nI q) &&& 31))) (gS G) (gLo G) (gHi G) (gLen G) (gBld G) (upd (gFer G) k (nI q)) (gOff G) (gIni G) (gBank G) (gSet G) (gBlf G))) H := hP
  have hD : va_D A (gcells C a (mkG (gSuit G) (gTide G) (gP G) (gMon G) ((gUsed G) ||| (1 <<< ((nI q) &&& 31))) (gS G) (gLo G) (gHi G) (gLen G) (gBld G) (upd (gFer G) k (nI q)) (gOff G) (gIni G) (gBank G) (gSet G) (gBlf G))) := hD
  refine lv_aload_n hx hb dX1_sendFerry_19 rfl (lv_at hl 0 rfl) ?_
  refine lv_iload_n hx hb dX1_sendFerry_20 rfl (lv_at hl 2 rfl) ?_
  refine lv_aload_n hx hb dX1_sendFerry_21 rfl (lv_at hl 0 rfl) ?_
  refine lv_iload_n hx hb dX1_sendFerry_22 rfl (lv_at hl 1 rfl) ?_
  refine lv_iload_n hx hb dX1_sendFerry_23 rfl (lv_at hl 2 rfl) ?_
  refine callRo (va_runV (As := [.int (nI q), .int (nI k)]) (rest := [.int (nI k), .ref (a 0)]) ⟨hx, hb, hml, hown, hts⟩ (c_X1_amountOf l D C a (mkG (gSuit G) (gTide G) (gP G) (gMon G) ((gUsed G) ||| (1 <<< ((nI q) &&& 31))) (gS G) (gLo G) (gHi G) (gLen G) (gBld G) (upd (gFer G) k (nI q)) (gOff G) (gIni G) (gBank G) (gSet G) (gBlf G)) (q) (k) (GSafe_of hG rfl rfl rfl rfl) (by omega) (by omega)) (cwV 2 hts gX1_sendFerry_X1_amountOf rfl rfl rfl (by decide +kernel) ⟨Nat.le_of_ble_eq_true rfl, Nat.le_of_ble_eq_true rfl⟩) (roP_v hP hK hE (va_recv hK hP (ci := 4) (q0 := 0) rfl rfl)) rfl rfl hl.1 rfl (lv_room (Nat.le_of_ble_eq_true rfl)) dX1_sendFerry_24 ⟨Nat.le_refl _, Nat.le_refl _⟩) ?_
  refine callRo (va_runV (As := [.int (nI k), .int (f_X1_amountOf (mkG (gSuit G) (gTide G) (gP G) (gMon G) ((gUsed G) ||| (1 <<< ((nI q) &&& 31))) (gS G) (gLo G) (gHi G) (gLen G) (gBld G) (upd (gFer G) k (nI q)) (gOff G) (gIni G) (gBank G) (gSet G) (gBlf G)) (q) (k))]) (rest := []) ⟨hx, hb, hml, hown, hts⟩ (c_X1_bidsAbove l D C a (mkG (gSuit G) (gTide G) (gP G) (gMon G) ((gUsed G) ||| (1 <<< ((nI q) &&& 31))) (gS G) (gLo G) (gHi G) (gLen G) (gBld G) (upd (gFer G) k (nI q)) (gOff G) (gIni G) (gBank G) (gSet G) (gBlf G)) (k) ((f_X1_amountOf (mkG (gSuit G) (gTide G) (gP G) (gMon G) ((gUsed G) ||| (1 <<< ((nI q) &&& 31))) (gS G) (gLo G) (gHi G) (gLen G) (gBld G) (upd (gFer G) k (nI q)) (gOff G) (gIni G) (gBank G) (gSet G) (gBlf G)) (q) (k))) (GSafe_of hG rfl rfl rfl rfl) (by omega)) (cwV 2 hts gX1_sendFerry_X1_bidsAbove rfl rfl rfl (by decide +kernel) ⟨Nat.le_of_ble_eq_true rfl, Nat.le_of_ble_eq_true rfl⟩) (roP_v hP hK hE (va_recv hK hP (ci := 4) (q0 := 0) rfl rfl)) rfl rfl hl.1 rfl (lv_room (Nat.le_of_ble_eq_true rfl)) dX1_sendFerry_27 ⟨Nat.le_refl _, Nat.le_refl _⟩) ?_
  have hz : z = ((f_X1_bidsAbove (mkG (gSuit G) (gTide G) (gP G) (gMon G) ((gUsed G) ||| (1 <<< ((nI q) &&& 31))) (gS G) (gLo G) (gHi G) (gLen G) (gBld G) (upd (gFer G) k (nI q)) (gOff G) (gIni G) (gBank G) (gSet G) (gBlf G)) (k) ((f_X1_amountOf (mkG (gSuit G) (gTide G) (gP G) (gMon G) ((gUsed G) ||| (1 <<< ((nI q) &&& 31))) (gS G) (gLo G) (gHi G) (gLen G) (gBld G) (upd (gFer G) k (nI q)) (gOff G) (gIni G) (gBank G) (gSet G) (gBlf G)) (q) (k)))), (mkG (gSuit G) (gTide G) (gP G) (gMon G) ((gUsed G) ||| (1 <<< ((nI q) &&& 31))) (gS G) (gLo G) (gHi G) (gLen G) (gBld G) (upd (gFer G) k (nI q)) (gOff G) (gIni G) (gBank G) (gSet G) (gBlf G))) := hz
  rw [hz]
  exact rw_ret hx hb hr hP hS rfl dX1_sendFerry_30 hlocks

def f_X1_drop (G : GS) (q : Nat) (k : Nat) : Int32 × GS := ((f_X1_amountOf G (q) (k)), (mkG (gSuit G) (gTide G) (gP G) (gMon G) (gUsed G) (gS G) (gLo G) (gHi G) (gLen G) (gBld G) (gFer G) (upd (gOff G) (k * 4 + q) 0) (gIni G) (gBank G) (gSet G) (gBlf G)))
set_option maxHeartbeats 4000000 in
set_option maxRecDepth 100000 in
theorem c_X1_drop (l : Launch) (D : va_G) (C : Nat → ClassId) (a : Nat → Nat) (G : GS) (q : Nat) (k : Nat) (sz : Nat) (hG : GSafe G) (h_q : q < 4) (h_k : k < 12) : Met l yX1_drop wsX1_drop ({ frames := 2, cells := 0, slots := 0, locals := 43 } : Room) (rwP [.ref (a 0), .int (nI q), .int (nI k)] D C (gcells C a G) sz) (rwO (some (.int (f_X1_drop G q k).1)) D (gcells C a ((f_X1_drop G q k).2)) (va_A (gcells C a G) sz)) 0 0 (va_A (gcells C a G) sz) := by
  refine Met.ofW (cc := cX1_drop) (maxL := 4) (ret := (some .int)) (by decide) rfl ?_
  intro p e s m args below meth c s₁ B hml hv
  obtain ⟨rfl, hsz, hP, hK, hD0, hE⟩ := hv
  have hx := B.exec
  have hb := B.bytes
  have hr := B.returns
  have hts := atoms_spec (ws := wsX1_drop) B.pre
  have hown : s.vm.findClass RX1 = some m.cls := findClass_of_methodNamed B.named
  have hlocks := B.notSynchronized
  subst hsz
  have hD := hD0.self (sz := s.heap.size)
  generalize hAe : va_A (gcells C a G) s.heap.size = A at hD ⊢
  have hA : ∀ q : Nat, s.heap.size ≤ q → A q := fun q h => by rw [← hAe]; exact Or.inr h
  have hS0 : va_S A s.heap s.heap [] := va_S.rf
  have hP : va_P D vwCl (gcells C a G) s.heap := hP
  have hS := hS0
  obtain ⟨hS12, hP4, hlo, hhi⟩ := id hG
  have hinX1 : ∀ w ∈ u_ws RX1 TX1 16, w ∈ wsX1_drop := by decide +kernel
  have hl := lv_entry ([.ref (a 0), .int (nI q), .int (nI k)]) (n := 4) (Nat.le_of_ble_eq_true rfl)
  rw [lg_entry_eq]
  generalize (lg_sl ([.ref (a 0), .int (nI q), .int (nI k)]) ++ List.replicate (4 - (lg_sl ([.ref (a 0), .int (nI q), .int (nI k)])).length) Slot.unset).toArray = ls at hl ⊢
  have hl : lv_has ls 4 [(0, .ref (a 0)), (1, .int (nI q)), (2, .int (nI k))] := hl
  obtain ⟨z, hz⟩ : ∃ z, z = f_X1_drop G q k := ⟨_, rfl⟩
  rw [← hz]
  refine lv_aload_n hx hb dX1_drop_0 rfl (lv_at hl 0 rfl) ?_
  refine lv_iload_n hx hb dX1_drop_1 rfl (lv_at hl 1 rfl) ?_
  refine lv_iload_n hx hb dX1_drop_2 rfl (lv_at hl 2 rfl) ?_
  refine callRo (va_runV (As := [.int (nI q), .int (nI k)]) (rest := []) ⟨hx, hb, hml, hown, hts⟩ (c_X1_amountOf l D C a G (q) (k) hG (by omega) (by omega)) (cwV 2 hts gX1_drop_X1_amountOf rfl rfl rfl (by decide +kernel) ⟨Nat.le_of_ble_eq_true rfl, Nat.le_of_ble_eq_true rfl⟩) (roP_v hP hK hE (va_recv hK hP (ci := 4) (q0 := 0) rfl rfl)) rfl rfl hl.1 rfl (lv_room (Nat.le_of_ble_eq_true rfl)) dX1_drop_3 ⟨Nat.le_refl _, Nat.le_refl _⟩) ?_
  refine lv_istore_n (lv' := [(3, .int (f_X1_amountOf G (q) (k))), (0, .ref (a 0)), (1, .int (nI q)), (2, .int (nI k))]) hx hb dX1_drop_6 rfl hl (by decide) rfl (fun ls hl => ?_)
  refine lv_aload_n hx hb dX1_drop_7 rfl (lv_at hl 1 rfl) ?_
  refine va_get (D := D) (ci := 4) (v := .ref (a 8)) (C := RX1) (T := TX1) (N := 16) hx hb hts hinX1 hown hK hP 0 rfl rfl 11 (by decide) (hts (.fieldLink RX1 46 "BridgeAuction$Game" "offers" "[I") (by decide +kernel)) (fun _ h9 => h9) rfl dX1_drop_8 ?_
  refine lv_iload_n hx hb dX1_drop_11 rfl (lv_at hl 2 rfl) ?_
  refine lv_iload_n hx hb dX1_drop_12 rfl (lv_at hl 3 rfl) ?_
  refine callRo (va_runS (As := [.int (nI q), .int (nI k)]) (rest := [.ref (a 8)]) ⟨hx, hb, hml, hown, hts⟩ (c_X1_slot l D C (q) (k) (by omega) (by omega)) (va_cwS 2 hts gX1_drop_X1_slot rfl rfl rfl (by decide +kernel) ⟨Nat.le_of_ble_eq_true rfl, Nat.le_of_ble_eq_true rfl⟩) (roP_s (hP.sub (ws' := ([] : va_W)) [] rfl) hK hE) rfl rfl hl.1 rfl (lv_room (Nat.le_of_ble_eq_true rfl)) dX1_drop_13 ⟨Nat.le_refl _, Nat.le_refl _⟩) ?_
  refine topN (k := (k * 4 + q)) rfl ?_
  refine lv_iconst (v := 0) hx hb dX1_drop_16 (by decide) ?_
  refine iastN (tys := tyA C) hx hb hK hP hD hS 8 0 rfl rfl (i := (k * 4 + q)) (by omega) (by decide) dX1_drop_17 (fun H locs hP hD hS => ?_)
  have hP : va_P D vwCl (gcells C a (mkG (gSuit G) (gTide G) (gP G) (gMon G) (gUsed G) (gS G) (gLo G) (gHi G) (gLen G) (gBld G) (gFer G) (upd (gOff G) (k * 4 + q) 0) (gIni G) (gBank G) (gSet G) (gBlf G))) H := hP
  have hD : va_D A (gcells C a (mkG (gSuit G) (gTide G) (gP G) (gMon G) (gUsed G) (gS G) (gLo G) (gHi G) (gLen G) (gBld G) (gFer G) (upd (gOff G) (k * 4 + q) 0) (gIni G) (gBank G) (gSet G) (gBlf G))) := hD
  refine lv_iload_n hx hb dX1_drop_18 rfl (lv_at hl 0 rfl) ?_
  have hz : z = ((f_X1_amountOf G (q) (k)), (mkG (gSuit G) (gTide G) (gP G) (gMon G) (gUsed G) (gS G) (gLo G) (gHi G) (gLen G) (gBld G) (gFer G) (upd (gOff G) (k * 4 + q) 0) (gIni G) (gBank G) (gSet G) (gBlf G))) := hz
  rw [hz]
  exact rw_ret hx hb hr hP hS rfl dX1_drop_19 hlocks

def f_X1_clearBids_l2b (G : GS) (k : Nat) (k2 : Nat) (fer0_2 : (Nat → Int32)) (off0_2 : (Nat → Int32)) : Sum (GS) ((Nat → Int32) × (Nat → Int32)) := (Sum.inr (fer0_2, (upd off0_2 (k * 4 + k2) 0)))
def f_X1_clearBids_l2x (G : GS) (k : Nat) (fer0_2 : (Nat → Int32)) (off0_2 : (Nat → Int32)) : GS := (mkG (gSuit G) (gTide G) (gP G) (gMon G) (gUsed G) (gS G) (gLo G) (gHi G) (gLen G) (gBld G) (upd fer0_2 k (-1)) off0_2 (gIni G) (gBank G) (gSet G) (gBlf G))
def f_X1_clearBids_l2s (G : GS) (k : Nat) (k2 : Nat) (q_ : (Nat → Int32) × (Nat → Int32)) : Sum (GS) ((Nat → Int32) × (Nat → Int32)) := f_X1_clearBids_l2b G k k2 (q_.1) (q_.2)
def f_X1_clearBids_l2e (G : GS) (k : Nat) (q_ : (Nat → Int32) × (Nat → Int32)) : GS := f_X1_clearBids_l2x G k (q_.1) (q_.2)
def f_X1_clearBids_l2 (G : GS) (k : Nat) (n2 k2 : Nat) (fer0_2 : (Nat → Int32)) (off0_2 : (Nat → Int32)) : GS := lpF (f_X1_clearBids_l2s G k) (f_X1_clearBids_l2e G k) n2 k2 (fer0_2, off0_2)
def f_X1_clearBids (G : GS) (k : Nat) : GS := (f_X1_clearBids_l2 G k (4) 0 ((gFer G)) ((gOff G)))
set_option maxHeartbeats 4000000 in
set_option maxRecDepth 100000 in
theorem c_X1_clearBids (l : Launch) (D : va_G) (C : Nat → ClassId) (a : Nat → Nat) (G : GS) (k : Nat) (sz : Nat) (hG : GSafe G) (h_k : k < 12) : Met l yX1_clearBids wsX1_clearBids ({ frames := 1, cells := 0, slots := 0, locals := 21 } : Room) (rwP [.ref (a 0), .int (nI k)] D C (gcells C a G) sz) (rwO none D (gcells C a ((f_X1_clearBids G k))) (va_A (gcells C a G) sz)) 0 0 (va_A (gcells C a G) sz) := by
  refine Met.ofW (cc := cX1_clearBids) (maxL := 3) (ret := none) (by decide) rfl ?_
  intro p e s m args below meth c s₁ B hml hv
  obtain ⟨rfl, hsz, hP, hK, hD0, hE⟩ := hv
  have hx := B.exec
  have hb := B.bytes
  have hr := B.returns
  have hts := atoms_spec (ws := wsX1_clearBids) B.pre
  have hown : s.vm.findClass RX1 = some m.cls := findClass_of_methodNamed B.named
  have hlocks := B.notSynchronized
  subst hsz
  have hD := hD0.self (sz := s.heap.size)
  generalize hAe : va_A (gcells C a G) s.heap.size = A at hD ⊢
  have hA : ∀ q : Nat, s.heap.size ≤ q → A q := fun q h => by rw [← hAe]; exact Or.inr h
  have hS0 : va_S A s.heap s.heap [] := va_S.rf
  have hP : va_P D vwCl (gcells C a G) s.heap := hP
  have hS := hS0
  obtain ⟨hS12, hP4, hlo, hhi⟩ := id hG
  have hinX1 : ∀ w ∈ u_ws RX1 TX1 16, w ∈ wsX1_clearBids := by decide +kernel
  have hl := lv_entry ([.ref (a 0), .int (nI k)]) (n := 3) (Nat.le_of_ble_eq_true rfl)
  rw [lg_entry_eq]
  generalize (lg_sl ([.ref (a 0), .int (nI k)]) ++ List.replicate (3 - (lg_sl ([.ref (a 0), .int (nI k)])).length) Slot.unset).toArray = ls at hl ⊢
  have hl : lv_has ls 3 [(0, .ref (a 0)), (1, .int (nI k))] := hl
  obtain ⟨z, hz⟩ : ∃ z, z = f_X1_clearBids G k := ⟨_, rfl⟩
  rw [← hz]
  have J2 : ∀ (n2 k2 : Nat) (fer0_2 : (Nat → Int32)) (off0_2 : (Nat → Int32)) (H : Heap) (locs : List Loc) (ls : Array Slot), k2 + n2 = 4 → z = f_X1_clearBids_l2 G k n2 k2 fer0_2 off0_2 → va_P D vwCl (gcells C a (mkG (gSuit G) (gTide G) (gP G) (gMon G) (gUsed G) (gS G) (gLo G) (gHi G) (gLen G) (gBld G) fer0_2 off0_2 (gIni G) (gBank G) (gSet G) (gBlf G))) H → va_D A (gcells C a (mkG (gSuit G) (gTide G) (gP G) (gMon G) (gUsed G) (gS G) (gLo G) (gHi G) (gLen G) (gBld G) fer0_2 off0_2 (gIni G) (gBank G) (gSet G) (gBlf G))) → va_S A s.heap H locs → lv_has ls 3 [(0, .ref (a 0)), (1, .int (nI k)), (2, .int (nI k2))] → W p l e ({ frames := 1, cells := 0, slots := 0, locals := 21 } : Room) s m ([.ref (a 0), .int (nI k)] : List Value).toArray below meth c H locs 0 0 (MQ below (rwO none D (gcells C a z) A) ([.ref (a 0), .int (nI k)] : List Value).toArray s 0 0 A) (F0 m 2 ls []) := by
    intro n2
    induction n2 with
    | zero =>
      intro k2 fer0_2 off0_2 H locs ls hk2 hz  hP hD hS hl
      have hz : z = f_X1_clearBids_l2x G k fer0_2 off0_2 := hz
      refine lv_iload_n hx hb dX1_clearBids_2 rfl (lv_at hl 2 rfl) ?_
      refine lv_iconst (v := 4) hx hb dX1_clearBids_3 (by decide) ?_
      refine lv_icmp_ge (tgt := 24) hx hb dX1_clearBids_4 (by decide) (fun c_4 => ?_) (fun c_4 => absurd (by have e : (4 : Int32) = nI 4 := (by decide); rw [e]; exact nI_le (by omega) (by omega)) c_4)
      refine lv_aload_n hx hb dX1_clearBids_24 rfl (lv_at hl 0 rfl) ?_
      refine va_get (D := D) (ci := 4) (v := .ref (a 7)) (C := RX1) (T := TX1) (N := 16) hx hb hts hinX1 hown hK hP 0 rfl rfl 10 (by decide) (hts (.fieldLink RX1 43 "BridgeAuction$Game" "ferries" "[I") (by decide +kernel)) (fun _ h9 => h9) rfl dX1_clearBids_25 ?_
      refine lv_iload_n hx hb dX1_clearBids_28 rfl (lv_at hl 1 rfl) ?_
      refine lv_iconst (v := (-1)) hx hb dX1_clearBids_29 (by decide) ?_
      refine iastN (tys := tyA C) hx hb hK hP hD hS 7 0 rfl rfl (i := k) (by omega) (by decide) dX1_clearBids_30 (fun H locs hP hD hS => ?_)
      have hP : va_P D vwCl (gcells C a (mkG (gSuit G) (gTide G) (gP G) (gMon G) (gUsed G) (gS G) (gLo G) (gHi G) (gLen G) (gBld G) (upd fer0_2 k (-1)) off0_2 (gIni G) (gBank G) (gSet G) (gBlf G))) H := hP
      have hD : va_D A (gcells C a (mkG (gSuit G) (gTide G) (gP G) (gMon G) (gUsed G) (gS G) (gLo G) (gHi G) (gLen G) (gBld G) (upd fer0_2 k (-1)) off0_2 (gIni G) (gBank G) (gSet G) (gBlf G))) := hD
      have hz : z = (mkG (gSuit G) (gTide G) (gP G) (gMon G) (gUsed G) (gS G) (gLo G) (gHi G) (gLen G) (gBld G) (upd fer0_2 k (-1)) off0_2 (gIni G) (gBank G) (gSet G) (gBlf G)) := hz
      rw [hz]
      exact rw_retV hx hb hr hP hS dX1_clearBids_31 hlocks
    | succ n2 ih2 =>
      intro k2 fer0_2 off0_2 H locs ls hk2 hz2  hP hD hS hl
      obtain ⟨z2, hz⟩ : ∃ zz_, zz_ = f_X1_clearBids_l2b G k k2 fer0_2 off0_2 := ⟨_, rfl⟩
      have hq2 : z = sE id (fun q_ => lpF (f_X1_clearBids_l2s G k) (f_X1_clearBids_l2e G k) n2 (k2 + 1) q_) z2 := by rw [hz2, hz]; rfl
      refine lv_iload_n hx hb dX1_clearBids_2 rfl (lv_at hl 2 rfl) ?_
      refine lv_iconst (v := 4) hx hb dX1_clearBids_3 (by decide) ?_
      refine lv_icmp_ge (tgt := 24) hx hb dX1_clearBids_4 (by decide) (fun c_4 => absurd c_4 (by have e : (4 : Int32) = nI 4 := (by decide); rw [e]; exact nI_ge (by omega) (by omega))) (fun c_4 => ?_)
      refine lv_aload_n hx hb dX1_clearBids_7 rfl (lv_at hl 0 rfl) ?_
      refine va_get (D := D) (ci := 4) (v := .ref (a 8)) (C := RX1) (T := TX1) (N := 16) hx hb hts hinX1 hown hK hP 0 rfl rfl 11 (by decide) (hts (.fieldLink RX1 46 "BridgeAuction$Game" "offers" "[I") (by decide +kernel)) (fun _ h9 => h9) rfl dX1_clearBids_8 ?_
      refine lv_iload_n hx hb dX1_clearBids_11 rfl (lv_at hl 2 rfl) ?_
      refine lv_iload_n hx hb dX1_clearBids_12 rfl (lv_at hl 1 rfl) ?_
      refine callRo (va_runS (As := [.int (nI k2), .int (nI k)]) (rest := [.ref (a 8)]) ⟨hx, hb, hml, hown, hts⟩ (c_X1_slot l D C (k2) (k) (by omega) (by omega)) (va_cwS 2 hts gX1_clearBids_X1_slot rfl rfl rfl (by decide +kernel) ⟨Nat.le_of_ble_eq_true rfl, Nat.le_of_ble_eq_true rfl⟩) (roP_s (hP.sub (ws' := ([] : va_W)) [] rfl) hK hE) rfl rfl hl.1 rfl (lv_room (Nat.le_of_ble_eq_true rfl)) dX1_clearBids_13 ⟨Nat.le_refl _, Nat.le_refl _⟩) ?_
      refine topN (k := (k * 4 + k2)) rfl ?_
      refine lv_iconst (v := 0) hx hb dX1_clearBids_16 (by decide) ?_
      refine iastN (tys := tyA C) hx hb hK hP hD hS 8 0 rfl rfl (i := (k * 4 + k2)) (by omega) (by decide) dX1_clearBids_17 (fun H locs hP hD hS => ?_)
      have hP : va_P D vwCl (gcells C a (mkG (gSuit G) (gTide G) (gP G) (gMon G) (gUsed G) (gS G) (gLo G) (gHi G) (gLen G) (gBld G) fer0_2 (upd off0_2 (k * 4 + k2) 0) (gIni G) (gBank G) (gSet G) (gBlf G))) H := hP
      have hD : va_D A (gcells C a (mkG (gSuit G) (gTide G) (gP G) (gMon G) (gUsed G) (gS G) (gLo G) (gHi G) (gLen G) (gBld G) fer0_2 (upd off0_2 (k * 4 + k2) 0) (gIni G) (gBank G) (gSet G) (gBlf G))) := hD
      refine lv_iinc (v := (nI (k2 + 1))) (lv' := [(2, .int (nI (k2 + 1))), (0, .ref (a 0)), (1, .int (nI k))]) hx hb dX1_clearBids_18 hl (k := 2) rfl (by exact nI_1 _) (by decide) rfl (fun ls hl => ?_)
      refine lv_goto (tgt := 2) hx hb dX1_clearBids_21 (by decide) ?_
      exact ih2 (k2 + 1) (fer0_2) ((upd off0_2 (k * 4 + k2) 0)) _ _ ls (by omega) (by rw [hq2, hz]; rfl)  hP hD hS (lv_sub hl [1, 2, 0] rfl)
  refine lv_iconst (v := 0) hx hb dX1_clearBids_0 (by decide) ?_
  refine lv_istore_n (lv' := [(2, .int 0), (0, .ref (a 0)), (1, .int (nI k))]) hx hb dX1_clearBids_1 rfl hl (by decide) rfl (fun ls hl => ?_)
  exact J2 (4) 0 ((gFer G)) ((gOff G)) _ _ ls (by omega) hz  hP hD hS (lv_sub hl [1, 2, 0] rfl)

def f_X1_pay (G : GS) (q : Nat) (x : Int32) : GS := (mkG (gSuit G) (gTide G) (gP G) (upd (gMon G) q (((gMon G) q) - x)) (gUsed G) (gS G) (gLo G) (gHi G) (gLen G) (gBld G) (gFer G) (gOff G) (gIni G) ((gBank G) + x) (gSet G) (gBlf G))
set_option maxHeartbeats 4000000 in
set_option maxRecDepth 100000 in
theorem c_X1_pay (l : Launch) (D : va_G) (C : Nat → ClassId) (a : Nat → Nat) (G : GS) (q : Nat) (x : Int32) (sz : Nat) (hG : GSafe G) (h_q : q < 4) : Met l yX1_pay wsX1_pay ({ frames := 0, cells := 0, slots := 0, locals := 0 } : Room) (rwP [.ref (a 0), .int (nI q), .int x] D C (gcells C a G) sz) (rwO none D (gcells C a ((f_X1_pay G q x))) (va_A (gcells C a G) sz)) 0 0 (va_A (gcells C a G) sz) := by
  refine Met.ofW (cc := cX1_pay) (maxL := 3) (ret := none) (by decide) rfl ?_
  intro p e s m args below meth c s₁ B hml hv
  obtain ⟨rfl, hsz, hP, hK, hD0, hE⟩ := hv
  have hx := B.exec
  have hb := B.bytes
  have hr := B.returns
  have hts := atoms_spec (ws := wsX1_pay) B.pre
  have hown : s.vm.findClass RX1 = some m.cls := findClass_of_methodNamed B.named
  have hlocks := B.notSynchronized
  subst hsz
  have hD := hD0.self (sz := s.heap.size)
  generalize hAe : va_A (gcells C a G) s.heap.size = A at hD ⊢
  have hA : ∀ q : Nat, s.heap.size ≤ q → A q := fun q h => by rw [← hAe]; exact Or.inr h
  have hS0 : va_S A s.heap s.heap [] := va_S.rf
  have hP : va_P D vwCl (gcells C a G) s.heap := hP
  have hS := hS0
  obtain ⟨hS12, hP4, hlo, hhi⟩ := id hG
  have hinX1 : ∀ w ∈ u_ws RX1 TX1 16, w ∈ wsX1_pay := by decide +kernel
  have hl := lv_entry ([.ref (a 0), .int (nI q), .int x]) (n := 3) (Nat.le_of_ble_eq_true rfl)
  rw [lg_entry_eq]
  generalize (lg_sl ([.ref (a 0), .int (nI q), .int x]) ++ List.replicate (3 - (lg_sl ([.ref (a 0), .int (nI q), .int x])).length) Slot.unset).toArray = ls at hl ⊢
  have hl : lv_has ls 3 [(0, .ref (a 0)), (1, .int (nI q)), (2, .int x)] := hl
  obtain ⟨z, hz⟩ : ∃ z, z = f_X1_pay G q x := ⟨_, rfl⟩
  rw [← hz]
  refine lv_aload_n hx hb dX1_pay_0 rfl (lv_at hl 0 rfl) ?_
  refine va_get (D := D) (ci := 4) (v := .ref (a 2)) (C := RX1) (T := TX1) (N := 16) hx hb hts hinX1 hown hK hP 0 rfl rfl 3 (by decide) (hts (.fieldLink RX1 22 "BridgeAuction$Game" "moneys" "[I") (by decide +kernel)) (fun _ h9 => h9) rfl dX1_pay_1 ?_
  refine lv_iload_n hx hb dX1_pay_4 rfl (lv_at hl 1 rfl) ?_
  refine lv_dup2_11 hx hb dX1_pay_5 rfl rfl ?_
  refine ialdN (tys := tyA C) hx hb hK hP 2 0 rfl rfl (i := q) (by omega) (by decide) dX1_pay_6 ?_
  refine lv_iload_n hx hb dX1_pay_7 rfl (lv_at hl 2 rfl) ?_
  refine lv_isub hx hb dX1_pay_8 ?_
  refine iastN (tys := tyA C) hx hb hK hP hD hS 2 0 rfl rfl (i := q) (by omega) (by decide) dX1_pay_9 (fun H locs hP hD hS => ?_)
  have hP : va_P D vwCl (gcells C a (mkG (gSuit G) (gTide G) (gP G) (upd (gMon G) q (((gMon G) q) - x)) (gUsed G) (gS G) (gLo G) (gHi G) (gLen G) (gBld G) (gFer G) (gOff G) (gIni G) (gBank G) (gSet G) (gBlf G))) H := hP
  have hD : va_D A (gcells C a (mkG (gSuit G) (gTide G) (gP G) (upd (gMon G) q (((gMon G) q) - x)) (gUsed G) (gS G) (gLo G) (gHi G) (gLen G) (gBld G) (gFer G) (gOff G) (gIni G) (gBank G) (gSet G) (gBlf G))) := hD
  refine lv_aload_n hx hb dX1_pay_10 rfl (lv_at hl 0 rfl) ?_
  refine lv_dup hx hb dX1_pay_11 rfl ?_
  refine va_get (D := D) (ci := 4) (v := .int (gBank G)) (C := RX1) (T := TX1) (N := 16) hx hb hts hinX1 hown hK hP 0 rfl rfl 13 (by decide) (hts (.fieldLink RX1 52 "BridgeAuction$Game" "bank" "I") (by decide +kernel)) (fun _ h9 => h9) rfl dX1_pay_12 ?_
  refine lv_iload_n hx hb dX1_pay_15 rfl (lv_at hl 2 rfl) ?_
  refine lv_iadd hx hb dX1_pay_16 ?_
  refine va_put (D := D) (ci := 4) (v := .int ((gBank G) + x)) (ty := .int) (C := RX1) (T := TX1) (N := 16) hx hb hts hinX1 tyX1 tyX1_ok nmX1 hown hK hP hD hS 0 rfl rfl 13 (by decide) (hts (.fieldLink RX1 52 "BridgeAuction$Game" "bank" "I") (by decide +kernel)) (fun _ h9 => h9) rfl (by decide +kernel) rfl rfl (Nat.le_of_ble_eq_true rfl) dX1_pay_17 (fun H locs hP hD hS => ?_)
  have hP : va_P D vwCl (gcells C a (mkG (gSuit G) (gTide G) (gP G) (upd (gMon G) q (((gMon G) q) - x)) (gUsed G) (gS G) (gLo G) (gHi G) (gLen G) (gBld G) (gFer G) (gOff G) (gIni G) ((gBank G) + x) (gSet G) (gBlf G))) H := hP
  have hD : va_D A (gcells C a (mkG (gSuit G) (gTide G) (gP G) (upd (gMon G) q (((gMon G) q) - x)) (gUsed G) (gS G) (gLo G) (gHi G) (gLen G) (gBld G) (gFer G) (gOff G) (gIni G) ((gBank G) + x) (gSet G) (gBlf G))) := hD
  have hz : z = (mkG (gSuit G) (gTide G) (gP G) (upd (gMon G) q (((gMon G) q) - x)) (gUsed G) (gS G) (gLo G) (gHi G) (gLen G) (gBld G) (gFer G) (gOff G) (gIni G) ((gBank G) + x) (gSet G) (gBlf G)) := hz
  rw [hz]
  exact rw_retV hx hb hr hP hS dX1_pay_20 hlocks

theorem clearBids_safe {G : GS} (hG : GSafe G) (k : Nat) : GSafe (f_X1_clearBids G k) := by
  unfold f_X1_clearBids f_X1_clearBids_l2
  exact lpF_inv (step := f_X1_clearBids_l2s G k) (ex := f_X1_clearBids_l2e G k) (fun _ _ => True) GSafe (fun k1 s r _ h => absurd h (by simp [f_X1_clearBids_l2s, f_X1_clearBids_l2b])) (fun _ _ _ _ _ => trivial) (fun _ s _ => hG) 4 0 _ trivial
