def f_X1_join (G : GS) (x : Int32) : Nat × GS := ((gP G), (mkG (gSuit G) (gTide G) ((gP G) + 1) (upd (gMon G) (gP G) x) (gUsed G) (gS G) (gLo G) (gHi G) (gLen G) (gBld G) (gFer G) (gOff G) ((gIni G) + x) (gBank G) (gSet G) (gBlf G)))
set_option maxHeartbeats 4000000 in
set_option maxRecDepth 100000 in
theorem c_X1_join (l : Launch) (D : va_G) (C : Nat → ClassId) (a : Nat → Nat) (G : GS) (x : Int32) (sz : Nat) (hG : GSafe G) (hlt : gP G < 4) : Met l yX1_join wsX1_join ({ frames := 0, cells := 0, slots := 0, locals := 0 } : Room) (rwP [.ref (a 0), .int x] D C (gcells C a G) sz) (rwO (some (.int (nI (f_X1_join G x).1))) D (gcells C a ((f_X1_join G x).2)) (va_A (gcells C a G) sz)) 0 0 (va_A (gcells C a G) sz) := by
  refine Met.ofW (cc := cX1_join) (maxL := 3) (ret := (some .int)) (by decide) rfl ?_
  intro p e s m args below meth c s₁ B hml hv
  obtain ⟨rfl, hsz, hP, hK, hD0, hE⟩ := hv
  have hx := B.exec
  have hb := B.bytes
  have hr := B.returns
  have hts := atoms_spec (ws := wsX1_join) B.pre
  have hown : s.vm.findClass RX1 = some m.cls := findClass_of_methodNamed B.named
  have hlocks := B.notSynchronized
  subst hsz
  have hD := hD0.self (sz := s.heap.size)
  generalize hAe : va_A (gcells C a G) s.heap.size = A at hD ⊢
  have hA : ∀ q : Nat, s.heap.size ≤ q → A q := fun q h => by rw [← hAe]; exact Or.inr h
  have hS0 : va_S A s.heap s.heap [] := va_S.rf
  have hP : va_P D vwCl (gcells C a G) s.heap := hP
  have hS := hS0
  obtain ⟨hS12, hP4, hlo, hhi⟩ := id hG
  have hinX1 : ∀ w ∈ u_ws RX1 TX1 16, w ∈ wsX1_join := by decide +kernel
  have hl := lv_entry ([.ref (a 0), .int x]) (n := 3) (Nat.le_of_ble_eq_true rfl)
  rw [lg_entry_eq]
  generalize (lg_sl ([.ref (a 0), .int x]) ++ List.replicate (3 - (lg_sl ([.ref (a 0), .int x])).length) Slot.unset).toArray = ls at hl ⊢
  have hl : lv_has ls 3 [(0, .ref (a 0)), (1, .int x)] := hl
  obtain ⟨z, hz⟩ : ∃ z, z = f_X1_join G x := ⟨_, rfl⟩
  rw [← hz]
  refine lv_aload_n hx hb dX1_join_0 rfl (lv_at hl 0 rfl) ?_
  refine va_get (D := D) (ci := 4) (v := .int (nI (gP G))) (C := RX1) (T := TX1) (N := 16) hx hb hts hinX1 hown hK hP 0 rfl rfl 2 (by decide) (hts (.fieldLink RX1 19 "BridgeAuction$Game" "players" "I") (by decide +kernel)) (fun _ h9 => h9) rfl dX1_join_1 ?_
  refine lv_istore_n (lv' := [(2, .int (nI (gP G))), (0, .ref (a 0)), (1, .int x)]) hx hb dX1_join_4 rfl hl (by decide) rfl (fun ls hl => ?_)
  refine lv_aload_n hx hb dX1_join_5 rfl (lv_at hl 1 rfl) ?_
  refine va_get (D := D) (ci := 4) (v := .ref (a 2)) (C := RX1) (T := TX1) (N := 16) hx hb hts hinX1 hown hK hP 0 rfl rfl 3 (by decide) (hts (.fieldLink RX1 22 "BridgeAuction$Game" "moneys" "[I") (by decide +kernel)) (fun _ h9 => h9) rfl dX1_join_6 ?_
  refine lv_iload_n hx hb dX1_join_9 rfl (lv_at hl 0 rfl) ?_
  refine lv_iload_n hx hb dX1_join_10 rfl (lv_at hl 2 rfl) ?_
  refine iastN (tys := tyA C) hx hb hK hP hD hS 2 0 rfl rfl (i := (gP G)) (by omega) (by decide) dX1_join_11 (fun H locs hP hD hS => ?_)
  have hP : va_P D vwCl (gcells C a (mkG (gSuit G) (gTide G) (gP G) (upd (gMon G) (gP G) x) (gUsed G) (gS G) (gLo G) (gHi G) (gLen G) (gBld G) (gFer G) (gOff G) (gIni G) (gBank G) (gSet G) (gBlf G))) H := hP
  have hD : va_D A (gcells C a (mkG (gSuit G) (gTide G) (gP G) (upd (gMon G) (gP G) x) (gUsed G) (gS G) (gLo G) (gHi G) (gLen G) (gBld G) (gFer G) (gOff G) (gIni G) (gBank G) (gSet G) (gBlf G))) := hD
  refine lv_aload_n hx hb dX1_join_12 rfl (lv_at hl 1 rfl) ?_
  refine lv_dup hx hb dX1_join_13 rfl ?_
  refine va_get (D := D) (ci := 4) (v := .int (gIni G)) (C := RX1) (T := TX1) (N := 16) hx hb hts hinX1 hown hK hP 0 rfl rfl 12 (by decide) (hts (.fieldLink RX1 49 "BridgeAuction$Game" "initialMoney" "I") (by decide +kernel)) (fun _ h9 => h9) rfl dX1_join_14 ?_
  refine lv_iload_n hx hb dX1_join_17 rfl (lv_at hl 2 rfl) ?_
  refine lv_iadd hx hb dX1_join_18 ?_
  refine va_put (D := D) (ci := 4) (v := .int ((gIni G) + x)) (ty := .int) (C := RX1) (T := TX1) (N := 16) hx hb hts hinX1 tyX1 tyX1_ok nmX1 hown hK hP hD hS 0 rfl rfl 12 (by decide) (hts (.fieldLink RX1 49 "BridgeAuction$Game" "initialMoney" "I") (by decide +kernel)) (fun _ h9 => h9) rfl (by decide +kernel) rfl rfl (Nat.le_of_ble_eq_true rfl) dX1_join_19 (fun H locs hP hD hS => ?_)
  have hP : va_P D vwCl (gcells C a (mkG (gSuit G) (gTide G) (gP G) (upd (gMon G) (gP G) x) (gUsed G) (gS G) (gLo G) (gHi G) (gLen G) (gBld G) (gFer G) (gOff G) ((gIni G) + x) (gBank G) (gSet G) (gBlf G))) H := hP
  have hD : va_D A (gcells C a (mkG (gSuit G) (gTide G) (gP G) (upd (gMon G) (gP G) x) (gUsed G) (gS G) (gLo G) (gHi G) (gLen G) (gBld G) (gFer G) (gOff G) ((gIni G) + x) (gBank G) (gSet G) (gBlf G))) := hD
  refine lv_aload_n hx hb dX1_join_22 rfl (lv_at hl 1 rfl) ?_
  refine lv_dup hx hb dX1_join_23 rfl ?_
  refine va_get (D := D) (ci := 4) (v := .int (nI (gP G))) (C := RX1) (T := TX1) (N := 16) hx hb hts hinX1 hown hK hP 0 rfl rfl 2 (by decide) (hts (.fieldLink RX1 19 "BridgeAuction$Game" "players" "I") (by decide +kernel)) (fun _ h9 => h9) rfl dX1_join_24 ?_
  refine lv_iconst (v := 1) hx hb dX1_join_27 (by decide) ?_
  refine topN (k := 1) (by decide) ?_
  refine addN hx hb dX1_join_28 ?_
  refine va_put (D := D) (ci := 4) (v := .int (nI ((gP G) + 1))) (ty := .int) (C := RX1) (T := TX1) (N := 16) hx hb hts hinX1 tyX1 tyX1_ok nmX1 hown hK hP hD hS 0 rfl rfl 2 (by decide) (hts (.fieldLink RX1 19 "BridgeAuction$Game" "players" "I") (by decide +kernel)) (fun _ h9 => h9) rfl (by decide +kernel) rfl rfl (Nat.le_of_ble_eq_true rfl) dX1_join_29 (fun H locs hP hD hS => ?_)
  have hP : va_P D vwCl (gcells C a (mkG (gSuit G) (gTide G) ((gP G) + 1) (upd (gMon G) (gP G) x) (gUsed G) (gS G) (gLo G) (gHi G) (gLen G) (gBld G) (gFer G) (gOff G) ((gIni G) + x) (gBank G) (gSet G) (gBlf G))) H := hP
  have hD : va_D A (gcells C a (mkG (gSuit G) (gTide G) ((gP G) + 1) (upd (gMon G) (gP G) x) (gUsed G) (gS G) (gLo G) (gHi G) (gLen G) (gBld G) (gFer G) (gOff G) ((gIni G) + x) (gBank G) (gSet G) (gBlf G))) := hD
  refine lv_iload_n hx hb dX1_join_32 rfl (lv_at hl 0 rfl) ?_
  have hz : z = ((gP G), (mkG (gSuit G) (gTide G) ((gP G) + 1) (upd (gMon G) (gP G) x) (gUsed G) (gS G) (gLo G) (gHi G) (gLen G) (gBld G) (gFer G) (gOff G) ((gIni G) + x) (gBank G) (gSet G) (gBlf G))) := hz
  rw [hz]
  exact rw_ret hx hb hr hP hS rfl dX1_join_33 hlocks

def f_X1_giveSuit (G : GS) (i : Nat) (x : Int32) : Int32 × GS := (((gSuit G) i), (mkG (upd (gSuit G) i x) (gTide G) (gP G) (gMon G) (gUsed G) (gS G) (gLo G) (gHi G) (gLen G) (gBld G) (gFer G) (gOff G) (gIni G) (gBank G) (gSet G) (gBlf G)))
set_option maxHeartbeats 4000000 in
set_option maxRecDepth 100000 in
theorem c_X1_giveSuit (l : Launch) (D : va_G) (C : Nat → ClassId) (a : Nat → Nat) (G : GS) (i : Nat) (x : Int32) (sz : Nat) (hG : GSafe G) (h_i : i < 8) : Met l yX1_giveSuit wsX1_giveSuit ({ frames := 0, cells := 0, slots := 0, locals := 0 } : Room) (rwP [.ref (a 0), .int (nI i), .int x] D C (gcells C a G) sz) (rwO (some (.int (f_X1_giveSuit G i x).1)) D (gcells C a ((f_X1_giveSuit G i x).2)) (va_A (gcells C a G) sz)) 0 0 (va_A (gcells C a G) sz) := by
  refine Met.ofW (cc := cX1_giveSuit) (maxL := 4) (ret := (some .int)) (by decide) rfl ?_
  intro p e s m args below meth c s₁ B hml hv
  obtain ⟨rfl, hsz, hP, hK, hD0, hE⟩ := hv
  have hx := B.exec
  have hb := B.bytes
  have hr := B.returns
  have hts := atoms_spec (ws := wsX1_giveSuit) B.pre
  have hown : s.vm.findClass RX1 = some m.cls := findClass_of_methodNamed B.named
  have hlocks := B.notSynchronized
  subst hsz
  have hD := hD0.self (sz := s.heap.size)
  generalize hAe : va_A (gcells C a G) s.heap.size = A at hD ⊢
  have hA : ∀ q : Nat, s.heap.size ≤ q → A q := fun q h => by rw [← hAe]; exact Or.inr h
  have hS0 : va_S A s.heap s.heap [] := va_S.rf
  have hP : va_P D vwCl (gcells C a G) s.heap := hP
  have hS := hS0
  obtain ⟨hS12, hP4, hlo, hhi⟩ := id hG
  have hinX1 : ∀ w ∈ u_ws RX1 TX1 16, w ∈ wsX1_giveSuit := by decide +kernel
  have hl := lv_entry ([.ref (a 0), .int (nI i), .int x]) (n := 4) (Nat.le_of_ble_eq_true rfl)
  rw [lg_entry_eq]
  generalize (lg_sl ([.ref (a 0), .int (nI i), .int x]) ++ List.replicate (4 - (lg_sl ([.ref (a 0), .int (nI i), .int x])).length) Slot.unset).toArray = ls at hl ⊢
  have hl : lv_has ls 4 [(0, .ref (a 0)), (1, .int (nI i)), (2, .int x)] := hl
  obtain ⟨z, hz⟩ : ∃ z, z = f_X1_giveSuit G i x := ⟨_, rfl⟩
  rw [← hz]
  refine lv_aload_n hx hb dX1_giveSuit_0 rfl (lv_at hl 0 rfl) ?_
  refine va_get (D := D) (ci := 4) (v := .ref (a 1)) (C := RX1) (T := TX1) (N := 16) hx hb hts hinX1 hown hK hP 0 rfl rfl 0 (by decide) (hts (.fieldLink RX1 9 "BridgeAuction$Game" "suits" "[I") (by decide +kernel)) (fun _ h9 => h9) rfl dX1_giveSuit_1 ?_
  refine lv_iload_n hx hb dX1_giveSuit_4 rfl (lv_at hl 1 rfl) ?_
  refine ialdN (tys := tyA C) hx hb hK hP 1 0 rfl rfl (i := i) (by omega) (by decide) dX1_giveSuit_5 ?_
  refine lv_istore_n (lv' := [(3, .int ((gSuit G) i)), (0, .ref (a 0)), (1, .int (nI i)), (2, .int x)]) hx hb dX1_giveSuit_6 rfl hl (by decide) rfl (fun ls hl => ?_)
  refine lv_aload_n hx hb dX1_giveSuit_7 rfl (lv_at hl 1 rfl) ?_
  refine va_get (D := D) (ci := 4) (v := .ref (a 1)) (C := RX1) (T := TX1) (N := 16) hx hb hts hinX1 hown hK hP 0 rfl rfl 0 (by decide) (hts (.fieldLink RX1 9 "BridgeAuction$Game" "suits" "[I") (by decide +kernel)) (fun _ h9 => h9) rfl dX1_giveSuit_8 ?_
  refine lv_iload_n hx hb dX1_giveSuit_11 rfl (lv_at hl 2 rfl) ?_
  refine lv_iload_n hx hb dX1_giveSuit_12 rfl (lv_at hl 3 rfl) ?_
  refine iastN (tys := tyA C) hx hb hK hP hD hS 1 0 rfl rfl (i := i) (by omega) (by decide) dX1_giveSuit_13 (fun H locs hP hD hS => ?_)
  have hP : va_P D vwCl (gcells C a (mkG (upd (gSuit G) i x) (gTide G) (gP G) (gMon G) (gUsed G) (gS G) (gLo G) (gHi G) (gLen G) (gBld G) (gFer G) (gOff G) (gIni G) (gBank G) (gSet G) (gBlf G))) H := hP
  have hD : va_D A (gcells C a (mkG (upd (gSuit G) i x) (gTide G) (gP G) (gMon G) (gUsed G) (gS G) (gLo G) (gHi G) (gLen G) (gBld G) (gFer G) (gOff G) (gIni G) (gBank G) (gSet G) (gBlf G))) := hD
  refine lv_iload_n hx hb dX1_giveSuit_14 rfl (lv_at hl 0 rfl) ?_
  have hz : z = (((gSuit G) i), (mkG (upd (gSuit G) i x) (gTide G) (gP G) (gMon G) (gUsed G) (gS G) (gLo G) (gHi G) (gLen G) (gBld G) (gFer G) (gOff G) (gIni G) (gBank G) (gSet G) (gBlf G))) := hz
  rw [hz]
  exact rw_ret hx hb hr hP hS rfl dX1_giveSuit_15 hlocks

def f_X1_moveTide (G : GS) (x : Int32) : Int32 × GS := ((gTide G), (mkG (gSuit G) x (gP G) (gMon G) (gUsed G) (gS G) (gLo G) (gHi G) (gLen G) (gBld G) (gFer G) (gOff G) (gIni G) (gBank G) (gSet G) (gBlf G)))
set_option maxHeartbeats 4000000 in
set_option maxRecDepth 100000 in
theorem c_X1_moveTide (l : Launch) (D : va_G) (C : Nat → ClassId) (a : Nat → Nat) (G : GS) (x : Int32) (sz : Nat) (hG : GSafe G) : Met l yX1_moveTide wsX1_moveTide ({ frames := 0, cells := 0, slots := 0, locals := 0 } : Room) (rwP [.ref (a 0), .int x] D C (gcells C a G) sz) (rwO (some (.int (f_X1_moveTide G x).1)) D (gcells C a ((f_X1_moveTide G x).2)) (va_A (gcells C a G) sz)) 0 0 (va_A (gcells C a G) sz) := by
  refine Met.ofW (cc := cX1_moveTide) (maxL := 3) (ret := (some .int)) (by decide) rfl ?_
  intro p e s m args below meth c s₁ B hml hv
  obtain ⟨rfl, hsz, hP, hK, hD0, hE⟩ := hv
  have hx := B.exec
  have hb := B.bytes
  have hr := B.returns
  have hts := atoms_spec (ws := wsX1_moveTide) B.pre
  have hown : s.vm.findClass RX1 = some m.cls := findClass_of_methodNamed B.named
  have hlocks := B.notSynchronized
  subst hsz
  have hD := hD0.self (sz := s.heap.size)
  generalize hAe : va_A (gcells C a G) s.heap.size = A at hD ⊢
  have hA : ∀ q : Nat, s.heap.size ≤ q → A q := fun q h => by rw [← hAe]; exact Or.inr h
  have hS0 : va_S A s.heap s.heap [] := va_S.rf
  have hP : va_P D vwCl (gcells C a G) s.heap := hP
  have hS := hS0
  obtain ⟨hS12, hP4, hlo, hhi⟩ := id hG
  have hinX1 : ∀ w ∈ u_ws RX1 TX1 16, w ∈ wsX1_moveTide := by decide +kernel
  have hl := lv_entry ([.ref (a 0), .int x]) (n := 3) (Nat.le_of_ble_eq_true rfl)
  rw [lg_entry_eq]
  generalize (lg_sl ([.ref (a 0), .int x]) ++ List.replicate (3 - (lg_sl ([.ref (a 0), .int x])).length) Slot.unset).toArray = ls at hl ⊢
  have hl : lv_has ls 3 [(0, .ref (a 0)), (1, .int x)] := hl
  obtain ⟨z, hz⟩ : ∃ z, z = f_X1_moveTide G x := ⟨_, rfl⟩
  rw [← hz]
  refine lv_aload_n hx hb dX1_moveTide_0 rfl (lv_at hl 0 rfl) ?_
  refine va_get (D := D) (ci := 4) (v := .int (gTide G)) (C := RX1) (T := TX1) (N := 16) hx hb hts hinX1 hown hK hP 0 rfl rfl 1 (by decide) (hts (.fieldLink RX1 15 "BridgeAuction$Game" "tideLevel" "I") (by decide +kernel)) (fun _ h9 => h9) rfl dX1_moveTide_1 ?_
  refine lv_istore_n (lv' := [(2, .int (gTide G)), (0, .ref (a 0)), (1, .int x)]) hx hb dX1_moveTide_4 rfl hl (by decide) rfl (fun ls hl => ?_)
  refine lv_aload_n hx hb dX1_moveTide_5 rfl (lv_at hl 1 rfl) ?_
  refine lv_iload_n hx hb dX1_moveTide_6 rfl (lv_at hl 2 rfl) ?_
  refine va_put (D := D) (ci := 4) (v := .int x) (ty := .int) (C := RX1) (T := TX1) (N := 16) hx hb hts hinX1 tyX1 tyX1_ok nmX1 hown hK hP hD hS 0 rfl rfl 1 (by decide) (hts (.fieldLink RX1 15 "BridgeAuction$Game" "tideLevel" "I") (by decide +kernel)) (fun _ h9 => h9) rfl (by decide +kernel) rfl rfl (Nat.le_of_ble_eq_true rfl) dX1_moveTide_7 (fun H locs hP hD hS => ?_)
  have hP : va_P D vwCl (gcells C a (mkG (gSuit G) x (gP G) (gMon G) (gUsed G) (gS G) (gLo G) (gHi G) (gLen G) (gBld G) (gFer G) (gOff G) (gIni G) (gBank G) (gSet G) (gBlf G))) H := hP
  have hD : va_D A (gcells C a (mkG (gSuit G) x (gP G) (gMon G) (gUsed G) (gS G) (gLo G) (gHi G) (gLen G) (gBld G) (gFer G) (gOff G) (gIni G) (gBank G) (gSet G) (gBlf G))) := hD
  refine lv_iload_n hx hb dX1_moveTide_10 rfl (lv_at hl 0 rfl) ?_
  have hz : z = ((gTide G), (mkG (gSuit G) x (gP G) (gMon G) (gUsed G) (gS G) (gLo G) (gHi G) (gLen G) (gBld G) (gFer G) (gOff G) (gIni G) (gBank G) (gSet G) (gBlf G))) := hz
  rw [hz]
  exact rw_ret hx hb hr hP hS rfl dX1_moveTide_11 hlocks

def f_X1_open (G : GS) (i : Nat) (j : Nat) (x : Int32) : Nat × GS := ((gS G), (mkG (gSuit G) (gTide G) (gP G) (gMon G) (gUsed G) ((gS G) + 1) (updN (gLo G) (gS G) ((imin (nI i) (nI j))).toNatClampNeg) (updN (gHi G) (gS G) ((imax (nI i) (nI j))).toNatClampNeg) (upd (gLen G) (gS G) x) (upd (gBld G) (gS G) (-1)) (upd (gFer G) (gS G) (-1)) (gOff G) (gIni G) (gBank G) (gSet G) (gBlf G)))
set_option maxHeartbeats 4000000 in
set_option maxRecDepth 100000 in
theorem c_X1_open (l : Launch) (D : va_G) (C : Nat → ClassId) (a : Nat → Nat) (G : GS) (i : Nat) (j : Nat) (x : Int32) (sz : Nat) (hG : GSafe G) (h_i : i < 8) (h_j : j < 8) (hlt : gS G < 12) : Met l yX1_open wsX1_open ({ frames := 1, cells := 0, slots := 0, locals := 15 } : Room) (rwP [.ref (a 0), .int (nI i), .int (nI j), .int x] D C (gcells C a G) sz) (rwO (some (.int (nI (f_X1_open G i j x).1))) D (gcells C a ((f_X1_open G i j x).2)) (va_A (gcells C a G) sz)) 0 0 (va_A (gcells C a G) sz) := by
  refine Met.ofW (cc := cX1_open) (maxL := 5) (ret := (some .int)) (by decide) rfl ?_
  intro p e s m args below meth c s₁ B hml hv
  obtain ⟨rfl, hsz, hP, hK, hD0, hE⟩ := hv
  have hx := B.exec
  have hb := B.bytes
  have hr := B.returns
  have hts := atoms_spec (ws := wsX1_open) B.pre
  have hown : s.vm.findClass RX1 = some m.cls := findClass_of_methodNamed B.named
  have hlocks := B.notSynchronized
  subst hsz
  have hD := hD0.self (sz := s.heap.size)
  generalize hAe : va_A (gcells C a G) s.heap.size = A at hD ⊢
  have hA : ∀ q : Nat, s.heap.size ≤ q → A q := fun q h => by rw [← hAe]; exact Or.inr h
  have hS0 : va_S A s.heap s.heap [] := va_S.rf
  have hP : va_P D vwCl (gcells C a G) s.heap := hP
  have hS := hS0
  obtain ⟨hS12, hP4, hlo, hhi⟩ := id hG
  have hinX1 : ∀ w ∈ u_ws RX1 TX1 16, w ∈ wsX1_open := by decide +kernel
  have hl := lv_entry ([.ref (a 0), .int (nI i), .int (nI j), .int x]) (n := 5) (Nat.le_of_ble_eq_true rfl)
  rw [lg_entry_eq]
  generalize (lg_sl ([.ref (a 0), .int (nI i), .int (nI j), .int x]) ++ List.replicate (5 - (lg_sl ([.ref (a 0), .int (nI i), .int (nI j), .int x])).length) Slot.unset).toArray = ls at hl ⊢
  have hl : lv_has ls 5 [(0, .ref (a 0)), (1, .int (nI i)), (2, .int (nI j)), (3, .int x)] := hl
  obtain ⟨z, hz⟩ : ∃ z, z = f_X1_open G i j x := ⟨_, rfl⟩
  rw [← hz]
  refine lv_aload_n hx hb dX1_open_0 rfl (lv_at hl 0 rfl) ?_
  refine va_get (D := D) (ci := 4) (v := .int (nI (gS G))) (C := RX1) (T := TX1) (N := 16) hx hb hts hinX1 hown hK hP 0 rfl rfl 5 (by decide) (hts (.fieldLink RX1 28 "BridgeAuction$Game" "sites" "I") (by decide +kernel)) (fun _ h9 => h9) rfl dX1_open_1 ?_
  refine lv_istore (lv' := [(4, .int (nI (gS G))), (0, .ref (a 0)), (1, .int (nI i)), (2, .int (nI j)), (3, .int x)]) hx hb dX1_open_4 hl (by decide) rfl (fun ls hl => ?_)
  refine lv_aload_n hx hb dX1_open_6 rfl (lv_at hl 1 rfl) ?_
  refine va_get (D := D) (ci := 4) (v := .ref (a 3)) (C := RX1) (T := TX1) (N := 16) hx hb hts hinX1 hown hK hP 0 rfl rfl 6 (by decide) (hts (.fieldLink RX1 31 "BridgeAuction$Game" "lowers" "[I") (by decide +kernel)) (fun _ h9 => h9) rfl dX1_open_7 ?_
  refine lv_iload hx hb dX1_open_10 (lv_at hl 0 rfl) ?_
  refine lv_iload_n hx hb dX1_open_12 rfl (lv_at hl 2 rfl) ?_
  refine lv_iload_n hx hb dX1_open_13 rfl (lv_at hl 3 rfl) ?_
  refine va_mmin hx hb (hml.trans hl.1.symm) hown (hts (.methodLink RX1 127 Lib.Math.min.name) (by decide +kernel)) (hts (.static Lib.Math.min.name) (by decide +kernel)) (hts (.initialized "java/lang/Math") (by decide +kernel)) (hts (.code Lib.Math.min.name Lib.Math.min.code 2 (some .int)) (by decide +kernel)) (Nat.le_of_ble_eq_true rfl) (Nat.le_of_ble_eq_true rfl) (Nat.le_of_ble_eq_true rfl) (Nat.le_of_ble_eq_true rfl) dX1_open_14 ?_
  refine topI (y := (imin (nI i) (nI j))) rfl ?_
  obtain ⟨ehn_1, lhn_1⟩ := nat_of (x := (imin (nI i) (nI j))) (n := 8) (by exact imin_in h_i h_j) (by omega)
  refine topN ehn_1 ?_
  refine iastNN (tys := tyA C) hx hb hK hP hD hS 3 0 rfl rfl (i := (gS G)) (by omega) (by decide) dX1_open_17 (fun H locs hP hD hS => ?_)
  have hP : va_P D vwCl (gcells C a (mkG (gSuit G) (gTide G) (gP G) (gMon G) (gUsed G) (gS G) (updN (gLo G) (gS G) ((imin (nI i) (nI j))).toNatClampNeg) (gHi G) (gLen G) (gBld G) (gFer G) (gOff G) (gIni G) (gBank G) (gSet G) (gBlf G))) H := hP
  have hD : va_D A (gcells C a (mkG (gSuit G) (gTide G) (gP G) (gMon G) (gUsed G) (gS G) (updN (gLo G) (gS G) ((imin (nI i) (nI j))).toNatClampNeg) (gHi G) (gLen G) (gBld G) (gFer G) (gOff G) (gIni G) (gBank G) (gSet G) (gBlf G))) := hD
  refine lv_aload_n hx hb dX1_open_18 rfl (lv_at hl 1 rfl) ?_
  refine va_get (D := D) (ci := 4) (v := .ref (a 4)) (C := RX1) (T := TX1) (N := 16) hx hb hts hinX1 hown hK hP 0 rfl rfl 7 (by decide) (hts (.fieldLink RX1 34 "BridgeAuction$Game" "highers" "[I") (by decide +kernel)) (fun _ h9 => h9) rfl dX1_open_19 ?_
  refine lv_iload hx hb dX1_open_22 (lv_at hl 0 rfl) ?_
  refine lv_iload_n hx hb dX1_open_24 rfl (lv_at hl 2 rfl) ?_
  refine lv_iload_n hx hb dX1_open_25 rfl (lv_at hl 3 rfl) ?_
  refine va_mmax hx hb (hml.trans hl.1.symm) hown (hts (.methodLink RX1 133 Lib.Math.max.name) (by decide +kernel)) (hts (.static Lib.Math.max.name) (by decide +kernel)) (hts (.initialized "java/lang/Math") (by decide +kernel)) (hts (.code Lib.Math.max.name Lib.Math.max.code 2 (some .int)) (by decide +kernel)) (Nat.le_of_ble_eq_true rfl) (Nat.le_of_ble_eq_true rfl) (Nat.le_of_ble_eq_true rfl) (Nat.le_of_ble_eq_true rfl) dX1_open_26 ?_
  refine topI (y := (imax (nI i) (nI j))) rfl ?_
  obtain ⟨ehn_2, lhn_2⟩ := nat_of (x := (imax (nI i) (nI j))) (n := 8) (by exact imax_in h_i h_j) (by omega)
  refine topN ehn_2 ?_
  refine iastNN (tys := tyA C) hx hb hK hP hD hS 4 0 rfl rfl (i := (gS G)) (by omega) (by decide) dX1_open_29 (fun H locs hP hD hS => ?_)
  have hP : va_P D vwCl (gcells C a (mkG (gSuit G) (gTide G) (gP G) (gMon G) (gUsed G) (gS G) (updN (gLo G) (gS G) ((imin (nI i) (nI j))).toNatClampNeg) (updN (gHi G) (gS G) ((imax (nI i) (nI j))).toNatClampNeg) (gLen G) (gBld G) (gFer G) (gOff G) (gIni G) (gBank G) (gSet G) (gBlf G))) H := hP
  have hD : va_D A (gcells C a (mkG (gSuit G) (gTide G) (gP G) (gMon G) (gUsed G) (gS G) (updN (gLo G) (gS G) ((imin (nI i) (nI j))).toNatClampNeg) (updN (gHi G) (gS G) ((imax (nI i) (nI j))).toNatClampNeg) (gLen G) (gBld G) (gFer G) (gOff G) (gIni G) (gBank G) (gSet G) (gBlf G))) := hD
  refine lv_aload_n hx hb dX1_open_30 rfl (lv_at hl 1 rfl) ?_
  refine va_get (D := D) (ci := 4) (v := .ref (a 5)) (C := RX1) (T := TX1) (N := 16) hx hb hts hinX1 hown hK hP 0 rfl rfl 8 (by decide) (hts (.fieldLink RX1 37 "BridgeAuction$Game" "lengths" "[I") (by decide +kernel)) (fun _ h9 => h9) rfl dX1_open_31 ?_
  refine lv_iload hx hb dX1_open_34 (lv_at hl 0 rfl) ?_
  refine lv_iload_n hx hb dX1_open_36 rfl (lv_at hl 4 rfl) ?_
  refine iastN (tys := tyA C) hx hb hK hP hD hS 5 0 rfl rfl (i := (gS G)) (by omega) (by decide) dX1_open_37 (fun H locs hP hD hS => ?_)
  have hP : va_P D vwCl (gcells C a (mkG (gSuit G) (gTide G) (gP G) (gMon G) (gUsed G) (gS G) (updN (gLo G) (gS G) ((imin (nI i) (nI j))).toNatClampNeg) (updN (gHi G) (gS G) ((imax (nI i) (nI j))).toNatClampNeg) (upd (gLen G) (gS G) x) (gBld G) (gFer G) (gOff G) (gIni G) (gBank G) (gSet G) (gBlf G))) H := hP
  have hD : va_D A (gcells C a (mkG (gSuit G) (gTide G) (gP G) (gMon G) (gUsed G) (gS G) (updN (gLo G) (gS G) ((imin (nI i) (nI j))).toNatClampNeg) (updN (gHi G) (gS G) ((imax (nI i) (nI j))).toNatClampNeg) (upd (gLen G) (gS G) x) (gBld G) (gFer G) (gOff G) (gIni G) (gBank G) (gSet G) (gBlf G))) := hD
  refine lv_aload_n hx hb dX1_open_38 rfl (lv_at hl 1 rfl) ?_
  refine va_get (D := D) (ci := 4) (v := .ref (a 6)) (C := RX1) (T := TX1) (N := 16) hx hb hts hinX1 hown hK hP 0 rfl rfl 9 (by decide) (hts (.fieldLink RX1 40 "BridgeAuction$Game" "builders" "[I") (by decide +kernel)) (fun _ h9 => h9) rfl dX1_open_39 ?_
  refine lv_iload hx hb dX1_open_42 (lv_at hl 0 rfl) ?_
  refine lv_iconst (v := (-1)) hx hb dX1_open_44 (by decide) ?_
  refine iastN (tys := tyA C) hx hb hK hP hD hS 6 0 rfl rfl (i := (gS G)) (by omega) (by decide) dX1_open_45 (fun H locs hP hD hS => ?_)
  have hP : va_P D vwCl (gcells C a (mkG (gSuit G) (gTide G) (gP G) (gMon G) (gUsed G) (gS G) (updN (gLo G) (gS G) ((imin (nI i) (nI j))).toNatClampNeg) (updN (gHi G) (gS G) ((imax (nI i) (nI j))).toNatClampNeg) (upd (gLen G) (gS G) x) (upd (gBld G) (gS G) (-1)) (gFer G) (gOff G) (gIni G) (gBank G) (gSet G) (gBlf G))) H := hP
  have hD : va_D A (gcells C a (mkG (gSuit G) (gTide G) (gP G) (gMon G) (gUsed G) (gS G) (updN (gLo G) (gS G) ((imin (nI i) (nI j))).toNatClampNeg) (updN (gHi G) (gS G) ((imax (nI i) (nI j))).toNatClampNeg) (upd (gLen G) (gS G) x) (upd (gBld G) (gS G) (-1)) (gFer G) (gOff G) (gIni G) (gBank G) (gSet G) (gBlf G))) := hD
  refine lv_aload_n hx hb dX1_open_46 rfl (lv_at hl 1 rfl) ?_
  refine va_get (D := D) (ci := 4) (v := .ref (a 7)) (C := RX1) (T := TX1) (N := 16) hx hb hts hinX1 hown hK hP 0 rfl rfl 10 (by decide) (hts (.fieldLink RX1 43 "BridgeAuction$Game" "ferries" "[I") (by decide +kernel)) (fun _ h9 => h9) rfl dX1_open_47 ?_
  refine lv_iload hx hb dX1_open_50 (lv_at hl 0 rfl) ?_
  refine lv_iconst (v := (-1)) hx hb dX1_open_52 (by decide) ?_
  refine iastN (tys := tyA C) hx hb hK hP hD hS 7 0 rfl rfl (i := (gS G)) (by omega) (by decide) dX1_open_53 (fun H locs hP hD hS => ?_)
  have hP : va_P D vwCl (gcells C a (mkG (gSuit G) (gTide G) (gP G) (gMon G) (gUsed G) (gS G) (updN (gLo G) (gS G) ((imin (nI i) (nI j))).toNatClampNeg) (updN (gHi G) (gS G) ((imax (nI i) (nI j))).toNatClampNeg) (upd (gLen G) (gS G) x) (upd (gBld G) (gS G) (-1)) (upd (gFer G) (gS G) (-1)) (gOff G) (gIni G) (gBank G) (gSet G) (gBlf G))) H := hP
  have hD : va_D A (gcells C a (mkG (gSuit G) (gTide G) (gP G) (gMon G) (gUsed G) (gS G) (updN (gLo G) (gS G) ((imin (nI i) (nI j))).toNatClampNeg) (updN (gHi G) (gS G) ((imax (nI i) (nI j))).toNatClampNeg) (upd (gLen G) (gS G) x) (upd (gBld G) (gS G) (-1)) (upd (gFer G) (gS G) (-1)) (gOff G) (gIni G) (gBank G) (gSet G) (gBlf G))) := hD
  refine lv_aload_n hx hb dX1_open_54 rfl (lv_at hl 1 rfl) ?_
  refine lv_dup hx hb dX1_open_55 rfl ?_
  refine va_get (D := D) (ci := 4) (v := .int (nI (gS G))) (C := RX1) (T := TX1) (N := 16) hx hb hts hinX1 hown hK hP 0 rfl rfl 5 (by decide) (hts (.fieldLink RX1 28 "BridgeAuction$Game" "sites" "I") (by decide +kernel)) (fun _ h9 => h9) rfl dX1_open_56 ?_
  refine lv_iconst (v := 1) hx hb dX1_open_59 (by decide) ?_
  refine topN (k := 1) (by decide) ?_
  refine addN hx hb dX1_open_60 ?_
  refine va_put (D := D) (ci := 4) (v := .int (nI ((gS G) + 1))) (ty := .int) (C := RX1) (T := TX1) (N := 16) hx hb hts hinX1 tyX1 tyX1_ok nmX1 hown hK hP hD hS 0 rfl rfl 5 (by decide) (hts (.fieldLink RX1 28 "BridgeAuction$Game" "sites" "I") (by decide +kernel)) (fun _ h9 => h9) rfl (by decide +kernel) rfl rfl (Nat.le_of_ble_eq_true rfl) dX1_open_61 (fun H locs hP hD hS => ?_)
  have hP : va_P D vwCl (gcells C a (mkG (gSuit G) (gTide G) (gP G) (gMon G) (gUsed G) ((gS G) + 1) (updN (gLo G) (gS G) ((imin (nI i) (nI j))).toNatClampNeg) (updN (gHi G) (gS G) ((imax (nI i) (nI j))).toNatClampNeg) (upd (gLen G) (gS G) x) (upd (gBld G) (gS G) (-1)) (upd (gFer G) (gS G) (-1)) (gOff G) (gIni G) (gBank G) (gSet G) (gBlf G))) H := hP
  have hD : va_D A (gcells C a (mkG (gSuit G) (gTide G) (gP G) (gMon G) (gUsed G) ((gS G) + 1) (updN (gLo G) (gS G) ((imin (nI i) (nI j))).toNatClampNeg) (updN (gHi G) (gS G) ((imax (nI i) (nI j))).toNatClampNeg) (upd (gLen G) (gS G) x) (upd (gBld G) (gS G) (-1)) (upd (gFer G) (gS G) (-1)) (gOff G) (gIni G) (gBank G) (gSet G) (gBlf G))) := hD
  refine lv_iload hx hb dX1_open_64 (lv_at hl 0 rfl) ?_
  have hz : z = ((gS G), (mkG (gSuit G) (gTide G) (gP G) (gMon G) (gUsed G) ((gS G) + 1) (updN (gLo G) (gS G) ((imin (nI i) (nI j))).toNatClampNeg) (updN (gHi G) (gS G) ((imax (nI i) (nI j))).toNatClampNeg) (upd (gLen G) (gS G) x) (upd (gBld G) (gS G) (-1)) (upd (gFer G) (gS G) (-1)) (gOff G) (gIni G) (gBank G) (gSet G) (gBlf G))) := hz
  rw [hz]
  exact rw_ret hx hb hr hP hS rfl dX1_open_66 hlocks

def f_X1_sendFerry (G : GS) (q : Nat) (k : Nat) : Int32 × GS := ((f_X1_bidsAbove (mkG (gSuit G) (gTide G) (gP G) (gMon G) ((gUsed G) ||| (1 <<< ((nI q) &&& 31))) (gS G) (gLo G) (gHi G) (gLen G) (gBld G) (upd (gFer G) k (nI q)) (gOff G) (gIni G) (gBank G) (gSet G) (gBlf G)) (k) ((f_X1_amountOf (mkG (gSuit G) (gTide G) (gP G) (gMon G) ((gUsed G) ||| (1 <<< ((nI q) &&& 31))) (gS G) (gLo G) (gHi G) (gLen G) (gBld G) (upd (gFer G) k (nI q)) (gOff G) (gIni G) (gBank G) (gSet G) (gBlf G)) (q) (k)))), (mkG (gSuit G) (gTide G) (gP G) (gMon G) ((gUsed G) ||| (1 <<< ((nI q) &&& 31))) (gS G) (gLo G) (gHi G) (gLen G) (gBld G) (upd (gFer G) k (nI q)) (gOff G) (gIni G) (gBank G) (gSet G) (gBlf G)))
set_option maxHeartbeats 4000000 in
set_option maxRecDepth 100000 in
theorem c_X1_sendFerry (l : Launch) (D : va_G) (C : Nat → ClassId) (a : Nat → Nat) (G : GS) (q : Nat) (k : Nat) (sz : Nat) (hG : GSafe G) (h_q : q < 4) (h_k : k < 12) : Met l yX1_sendFerry wsX1_sendFerry ({ frames := 3, cells := 0, slots := 0, locals := 67 } : Room) (rwP [.ref (a 0), .int (nI q), .int (nI k)] D C (gcells C a G) sz) (rwO (some (.int (f_X1_sendFerry G q k).1)) D (gcells C a ((f_X1_sendFerry G q k).2)) (va_A (gcells C a G) sz)) 0 0 (va_A (gcells C a G) sz) := by
  refine Met.ofW (cc := cX1_sendFerry) (maxL := 3) (ret := (some .int)) (by decide) rfl ?_
  intro p e s m args below meth c s₁ B hml hv
  obtain ⟨rfl, hsz, hP, hK, hD0, hE⟩ := hv
  have hx := B.exec
  have hb := B.bytes
  have hr := B.returns
  have hts := atoms_spec (ws := wsX1_sendFerry) B.pre
  have hown : s.vm.findClass RX1 = some m.cls := findClass_of_methodNamed B.named
  have hlocks := B.notSynchronized
  subst hsz
  have hD := hD0.self (sz := s.heap.size)
  generalize hAe : va_A (gcells C a G) s.heap.size = A at hD ⊢
  have hA : ∀ q : Nat, s.heap.size ≤ q → A q := fun q h => by rw [← hAe]; exact Or.inr h
  have hS0 : va_S A s.heap s.heap [] := va_S.rf
  have hP : va_P D vwCl (gcells C a G) s.heap := hP
  have hS := hS0
  obtain ⟨hS12, hP4, hlo, hhi⟩ := id hG
  have hinX1 : ∀ w ∈ u_ws RX1 TX1 16, w ∈ wsX1_sendFerry := by decide +kernel
  have hl := lv_entry ([.ref (a 0), .int (nI q), .int (nI k)]) (n := 3) (Nat.le_of_ble_eq_true rfl)
  rw [lg_entry_eq]
  generalize (lg_sl ([.ref (a 0), .int (nI q), .int (nI k)]) ++ List.replicate (3 - (lg_sl ([.ref (a 0), .int (nI q), .int (nI k)])).length) Slot.unset).toArray = ls at hl ⊢
  have hl : lv_has ls 3 [(0, .ref (a 0)), (1, .int (nI q)), (2, .int (nI k))] := hl
  obtain ⟨z, hz⟩ : ∃ z, z = f_X1_sendFerry G q k := ⟨_, rfl⟩
  rw [← hz]
  refine lv_aload_n hx hb dX1_sendFerry_0 rfl (lv_at hl 0 rfl) ?_
  refine va_get (D := D) (ci := 4) (v := .ref (a 7)) (C := RX1) (T := TX1) (N := 16) hx hb hts hinX1 hown hK hP 0 rfl rfl 10 (by decide) (hts (.fieldLink RX1 43 "BridgeAuction$Game" "ferries" "[I") (by decide +kernel)) (fun _ h9 => h9) rfl dX1_sendFerry_1 ?_
  refine lv_iload_n hx hb dX1_sendFerry_4 rfl (lv_at hl 2 rfl) ?_
  refine lv_iload_n hx hb dX1_sendFerry_5 rfl (lv_at hl 1 rfl) ?_
  refine iastN (tys := tyA C) hx hb hK hP hD hS 7 0 rfl rfl (i := k) (by omega) (by decide) dX1_sendFerry_6 (fun H locs hP hD hS => ?_)
  have hP : va_P D vwCl (gcells C a (mkG (gSuit G) (gTide G) (gP G) (gMon G) (gUsed G) (gS G) (gLo G) (gHi G) (gLen G) (gBld G) (upd (gFer G) k (nI q)) (gOff G) (gIni G) (gBank G) (gSet G) (gBlf G))) H := hP
  have hD : va_D A (gcells C a (mkG (gSuit G) (gTide G) (gP G) (gMon G) (gUsed G) (gS G) (gLo G) (gHi G) (gLen G) (gBld G) (upd (gFer G) k (nI q)) (gOff G) (gIni G) (gBank G) (gSet G) (gBlf G))) := hD
  refine lv_aload_n hx hb dX1_sendFerry_7 rfl (lv_at hl 0 rfl) ?_
  refine lv_dup hx hb dX1_sendFerry_8 rfl ?_
  refine va_get (D := D) (ci := 4) (v := .int (gUsed G)) (C := RX1) (T := TX1) (N := 16) hx hb hts hinX1 hown hK hP 0 rfl rfl 4 (by decide) (hts (.fieldLink RX1 25 "BridgeAuction$Game" "usedFerries" "I") (by decide +kernel)) (fun _ h9 => h9) rfl dX1_sendFerry_9 ?_
  refine lv_iconst (v := 1) hx hb dX1_sendFerry_12 (by decide) ?_
  refine lv_iload_n hx hb dX1_sendFerry_13 rfl (lv_at hl 1 rfl) ?_
  refine lv_ishl hx hb dX1_sendFerry_14 ?_
  refine lv_ior hx hb dX1_sendFerry_15 ?_
  refine va_put (D := D) (ci := 4) (v := .int ((gUsed G) ||| (1 <<< ((nI q) &&& 31)))) (ty := .int) (C := RX1) (T := TX1) (N := 16) hx hb hts hinX1 tyX1 tyX1_ok nmX1 hown hK hP hD hS 0 rfl rfl 4 (by decide) (hts (.fieldLink RX1 25 "BridgeAuction$Game" "usedFerries" "I") (by decide +kernel)) (fun _ h9 => h9) rfl (by decide +kernel) rfl rfl (Nat.le_of_ble_eq_true rfl) dX1_sendFerry_16 (fun H locs hP hD hS => ?_)
  have hP : va_P D vwCl (gcells C a (mkG (gSuit G) (gTide G) (gP G) (gMon G) ((gUsed G) ||| (1 <<< ((nI q) &&& 31))) (gS G) (gLo G) (gHi G) (gLen G) (gBld G) (upd (gFer G) k (nI q)) (gOff G) (gIni G) (gBank G) (gSet G) (gBlf G))) H := hP
  have hD : va_D A (gcells C a (mkG (gSuit G) (gTide G) (gP G) (gMon G) ((gUsed G) ||| (1 <<< ((nI q) &&& 31))) (gS G) (gLo G) (gHi G) (gLen G) (gBld G) (upd (gFer G) k (nI q)) (gOff G) (gIni G) (gBank G) (gSet G) (gBlf G))) := hD
  refine lv_aload_n hx hb dX1_sendFerry_19 rfl (lv_at hl 0 rfl) ?_
  refine lv_iload_n hx hb dX1_sendFerry_20 rfl (lv_at hl 2 rfl) ?_
  refine lv_aload_n hx hb dX1_sendFerry_21 rfl (lv_at hl 0 rfl) ?_
  refine lv_iload_n hx hb dX1_sendFerry_22 rfl (lv_at hl 1 rfl) ?_
  refine lv_iload_n hx hb dX1_sendFerry_23 rfl (lv_at hl 2 rfl) ?_
  refine callRo (va_runV (As := [.int (nI q), .int (nI k)]) (rest := [.int (nI k), .ref (a 0)]) ⟨hx, hb, hml, hown, hts⟩ (c_X1_amountOf l D C a (mkG (gSuit G) (gTide G) (gP G) (gMon G) ((gUsed G) ||| (1 <<< ((nI q) &&& 31))) (gS G) (gLo G) (gHi G) (gLen G) (gBld G) (upd (gFer G) k (nI q)) (gOff G) (gIni G) (gBank G) (gSet G) (gBlf G)) (q) (k) (by first | exact hG | assumption) (by omega) (by omega)) (cwV 2 hts gX1_sendFerry_X1_amountOf rfl rfl rfl (by decide +kernel) ⟨Nat.le_of_ble_eq_true rfl, Nat.le_of_ble_eq_true rfl⟩) (roP_v hP hK hE (va_recv hK hP (ci := 4) (q0 := 0) rfl rfl)) rfl rfl hl.1 rfl (lv_room (Nat.le_of_ble_eq_true rfl)) dX1_sendFerry_24 ⟨Nat.le_refl _, Nat.le_refl _⟩) ?_
  refine callRo (va_runV (As := [.int (nI k), .int (f_X1_amountOf (mkG (gSuit G) (gTide G) (gP G) (gMon G) ((gUsed G) ||| (1 <<< ((nI q) &&& 31))) (gS G) (gLo G) (gHi G) (gLen G) (gBld G) (upd (gFer G) k (nI q)) (gOff G) (gIni G) (gBank G) (gSet G) (gBlf G)) (q) (k))]) (rest := []) ⟨hx, hb, hml, hown, hts⟩ (c_X1_bidsAbove l D C a (mkG (gSuit G) (gTide G) (gP G) (gMon G) ((gUsed G) ||| (1 <<< ((nI q) &&& 31))) (gS G) (gLo G) (gHi G) (gLen G) (gBld G) (upd (gFer G) k (nI q)) (gOff G) (gIni G) (gBank G) (gSet G) (gBlf G)) (k) ((f_X1_amountOf (mkG (gSuit G) (gTide G) (gP G) (gMon G) ((gUsed G) ||| (1 <<< ((nI q) &&& 31))) (gS G) (gLo G) (gHi G) (gLen G) (gBld G) (upd (gFer G) k (nI q)) (gOff G) (gIni G) (gBank G) (gSet G) (gBlf G)) (q) (k))) (by first | exact hG | assumption) (by omega)) (cwV 2 hts gX1_sendFerry_X1_bidsAbove rfl rfl rfl (by decide +kernel) ⟨Nat.le_of_ble_eq_true rfl, Nat.le_of_ble_eq_true rfl⟩) (roP_v hP hK hE (va_recv hK hP (ci := 4) (q0 := 0) rfl rfl)) rfl rfl hl.1 rfl (lv_room (Nat.le_of_ble_eq_true rfl)) dX1_sendFerry_27 ⟨Nat.le_refl _, Nat.le_refl _⟩) ?_
  have hz : z = ((f_X1_bidsAbove (mkG (gSuit G) (gTide G) (gP G) (gMon G) ((gUsed G) ||| (1 <<< ((nI q) &&& 31))) (gS G) (gLo G) (gHi G) (gLen G) (gBld G) (upd (gFer G) k (nI q)) (gOff G) (gIni G) (gBank G) (gSet G) (gBlf G)) (k) ((f_X1_amountOf (mkG (gSuit G) (gTide G) (gP G) (gMon G) ((gUsed G) ||| (1 <<< ((nI q) &&& 31))) (gS G) (gLo G) (gHi G) (gLen G) (gBld G) (upd (gFer G) k (nI q)) (gOff G) (gIni G) (gBank G) (gSet G) (gBlf G)) (q) (k)))), (mkG (gSuit G) (gTide G) (gP G) (gMon G) ((gUsed G) ||| (1 <<< ((nI q) &&& 31))) (gS G) (gLo G) (gHi G) (gLen G) (gBld G) (upd (gFer G) k (nI q)) (gOff G) (gIni G) (gBank G) (gSet G) (gBlf G))) := hz
  rw [hz]
  exact rw_ret hx hb hr hP hS rfl dX1_sendFerry_30 hlocks

def f_X1_drop (G : GS) (q : Nat) (k : Nat) : Int32 × GS := ((f_X1_amountOf G (q) (k)), (mkG (gSuit G) (gTide G) (gP G) (gMon G) (gUsed G) (gS G) (gLo G) (gHi G) (gLen G) (gBld G) (gFer G) (upd (gOff G) (k * 4 + q) 0) (gIni G) (gBank G) (gSet G) (gBlf G)))
set_option maxHeartbeats 4000000 in
set_option maxRecDepth 100000 in
theorem c_X1_drop (l : Launch) (D : va_G) (C : Nat → ClassId) (a : Nat → Nat) (G : GS) (q : Nat) (k : Nat) (sz : Nat) (hG : GSafe G) (h_q : q < 4) (h_k : k < 12) : Met l yX1_drop wsX1_drop ({ frames := 2, cells := 0, slots := 0, locals := 43 } : Room) (rwP [.ref (a 0), .int (nI q), .int (nI k)] D C (gcells C a G) sz) (rwO (some (.int (f_X1_drop G q k).1)) D (gcells C a ((f_X1_drop G q k).2)) (va_A (gcells C a G) sz)) 0 0 (va_A (gcells C a G) sz) := by
  refine Met.ofW (cc := cX1_drop) (maxL := 4) (ret := (some .int)) (by decide) rfl ?_
  intro p e s m args below meth c s₁ B hml hv
  obtain ⟨rfl, hsz, hP, hK, hD0, hE⟩ := hv
  have hx := B.exec
  have hb := B.bytes
  have hr := B.returns
  have hts := atoms_spec (ws := wsX1_drop) B.pre
  have hown : s.vm.findClass RX1 = some m.cls := findClass_of_methodNamed B.named
  have hlocks := B.notSynchronized
  subst hsz
  have hD := hD0.self (sz := s.heap.size)
  generalize hAe : va_A (gcells C a G) s.heap.size = A at hD ⊢
  have hA : ∀ q : Nat, s.heap.size ≤ q → A q := fun q h => by rw [← hAe]; exact Or.inr h
  have hS0 : va_S A s.heap s.heap [] := va_S.rf
  have hP : va_P D vwCl (gcells C a G) s.heap := hP
  have hS := hS0
  obtain ⟨hS12, hP4, hlo, hhi⟩ := id hG
  have hinX1 : ∀ w ∈ u_ws RX1 TX1 16, w ∈ wsX1_drop := by decide +kernel
  have hl := lv_entry ([.ref (a 0), .int (nI q), .int (nI k)]) (n := 4) (Nat.le_of_ble_eq_true rfl)
  rw [lg_entry_eq]
  generalize (lg_sl ([.ref (a 0), .int (nI q), .int (nI k)]) ++ List.replicate (4 - (lg_sl ([.ref (a 0), .int (nI q), .int (nI k)])).length) Slot.unset).toArray = ls at hl ⊢
  have hl : lv_has ls 4 [(0, .ref (a 0)), (1, .int (nI q)), (2, .int (nI k))] := hl
  obtain ⟨z, hz⟩ : ∃ z, z = f_X1_drop G q k := ⟨_, rfl⟩
  rw [← hz]
  refine lv_aload_n hx hb dX1_drop_0 rfl (lv_at hl 0 rfl) ?_
  refine lv_iload_n hx hb dX1_drop_1 rfl (lv_at hl 1 rfl) ?_
  refine lv_iload_n hx hb dX1_drop_2 rfl (lv_at hl 2 rfl) ?_
  refine callRo (va_runV (As := [.int (nI q), .int (nI k)]) (rest := []) ⟨hx, hb, hml, hown, hts⟩ (c_X1_amountOf l D C a G (q) (k) (by first | exact hG | assumption) (by omega) (by omega)) (cwV 2 hts gX1_drop_X1_amountOf rfl rfl rfl (by decide +kernel) ⟨Nat.le_of_ble_eq_true rfl, Nat.le_of_ble_eq_true rfl⟩) (roP_v hP hK hE (va_recv hK hP (ci := 4) (q0 := 0) rfl rfl)) rfl rfl hl.1 rfl (lv_room (Nat.le_of_ble_eq_true rfl)) dX1_drop_3 ⟨Nat.le_refl _, Nat.le_refl _⟩) ?_
  refine lv_istore_n (lv' := [(3, .int (f_X1_amountOf G (q) (k))), (0, .ref (a 0)), (1, .int (nI q)), (2, .int (nI k))]) hx hb dX1_drop_6 rfl hl (by decide) rfl (fun ls hl => ?_)
  refine lv_aload_n hx hb dX1_drop_7 rfl (lv_at hl 1 rfl) ?_
  refine va_get (D := D) (ci := 4) (v := .ref (a 8)) (C := RX1) (T := TX1) (N := 16) hx hb hts hinX1 hown hK hP 0 rfl rfl 11 (by decide) (hts (.fieldLink RX1 46 "BridgeAuction$Game" "offers" "[I") (by decide +kernel)) (fun _ h9 => h9) rfl dX1_drop_8 ?_
  refine lv_iload_n hx hb dX1_drop_11 rfl (lv_at hl 2 rfl) ?_
  refine lv_iload_n hx hb dX1_drop_12 rfl (lv_at hl 3 rfl) ?_
  refine callRo (va_runS (As := [.int (nI q), .int (nI k)]) (rest := [.ref (a 8)]) ⟨hx, hb, hml, hown, hts⟩ (c_X1_slot l D C (q) (k) (by omega) (by omega)) (va_cwS 2 hts gX1_drop_X1_slot rfl rfl rfl (by decide +kernel) ⟨Nat.le_of_ble_eq_true rfl, Nat.le_of_ble_eq_true rfl⟩) (roP_s (hP.sub (ws' := ([] : va_W)) [] rfl) hK hE) rfl rfl hl.1 rfl (lv_room (Nat.le_of_ble_eq_true rfl)) dX1_drop_13 ⟨Nat.le_refl _, Nat.le_refl _⟩) ?_
  refine topN (k := (k * 4 + q)) rfl ?_
  refine lv_iconst (v := 0) hx hb dX1_drop_16 (by decide) ?_
  refine iastN (tys := tyA C) hx hb hK hP hD hS 8 0 rfl rfl (i := (k * 4 + q)) (by omega) (by decide) dX1_drop_17 (fun H locs hP hD hS => ?_)
  have hP : va_P D vwCl (gcells C a (mkG (gSuit G) (gTide G) (gP G) (gMon G) (gUsed G) (gS G) (gLo G) (gHi G) (gLen G) (gBld G) (gFer G) (upd (gOff G) (k * 4 + q) 0) (gIni G) (gBank G) (gSet G) (gBlf G))) H := hP
  have hD : va_D A (gcells C a (mkG (gSuit G) (gTide G) (gP G) (gMon G) (gUsed G) (gS G) (gLo G) (gHi G) (gLen G) (gBld G) (gFer G) (upd (gOff G) (k * 4 + q) 0) (gIni G) (gBank G) (gSet G) (gBlf G))) := hD
  refine lv_iload_n hx hb dX1_drop_18 rfl (lv_at hl 0 rfl) ?_
  have hz : z = ((f_X1_amountOf G (q) (k)), (mkG (gSuit G) (gTide G) (gP G) (gMon G) (gUsed G) (gS G) (gLo G) (gHi G) (gLen G) (gBld G) (gFer G) (upd (gOff G) (k * 4 + q) 0) (gIni G) (gBank G) (gSet G) (gBlf G))) := hz
  rw [hz]
  exact rw_ret hx hb hr hP hS rfl dX1_drop_19 hlocks

def f_X1_clearBids_l2b (G : GS) (k : Nat) (k2 : Nat) (fer0_2 : (Nat → Int32)) (off0_2 : (Nat → Int32)) : Sum (GS) ((Nat → Int32) × (Nat → Int32)) := (Sum.inr (fer0_2, (upd off0_2 (k * 4 + k2) 0)))
def f_X1_clearBids_l2x (G : GS) (k : Nat) (fer0_2 : (Nat → Int32)) (off0_2 : (Nat → Int32)) : GS := (mkG (gSuit G) (gTide G) (gP G) (gMon G) (gUsed G) (gS G) (gLo G) (gHi G) (gLen G) (gBld G) (upd fer0_2 k (-1)) off0_2 (gIni G) (gBank G) (gSet G) (gBlf G))
def f_X1_clearBids_l2s (G : GS) (k : Nat) (k2 : Nat) (q_ : (Nat → Int32) × (Nat → Int32)) : Sum (GS) ((Nat → Int32) × (Nat → Int32)) := f_X1_clearBids_l2b G k k2 (q_.1) (q_.2)
def f_X1_clearBids_l2e (G : GS) (k : Nat) (q_ : (Nat → Int32) × (Nat → Int32)) : GS := f_X1_clearBids_l2x G k (q_.1) (q_.2)
def f_X1_clearBids_l2 (G : GS) (k : Nat) (n2 k2 : Nat) (fer0_2 : (Nat → Int32)) (off0_2 : (Nat → Int32)) : GS := lpF (f_X1_clearBids_l2s G k) (f_X1_clearBids_l2e G k) n2 k2 (fer0_2, off0_2)
def f_X1_clearBids (G : GS) (k : Nat) : GS := (f_X1_clearBids_l2 G k (4) 0 ((gFer G)) ((gOff G)))
set_option maxHeartbeats 4000000 in
set_option maxRecDepth 100000 in
theorem c_X1_clearBids (l : Launch) (D : va_G) (C : Nat → ClassId) (a : Nat → Nat) (G : GS) (k : Nat) (sz : Nat) (hG : GSafe G) (h_k : k < 12) : Met l yX1_clearBids wsX1_clearBids ({ frames := 1, cells := 0, slots := 0, locals := 21 } : Room) (rwP [.ref (a 0), .int (nI k)] D C (gcells C a G) sz) (rwO none D (gcells C a ((f_X1_clearBids G k))) (va_A (gcells C a G) sz)) 0 0 (va_A (gcells C a G) sz) := by
  refine Met.ofW (cc := cX1_clearBids) (maxL := 3) (ret := none) (by decide) rfl ?_
  intro p e s m args below meth c s₁ B hml hv
  obtain ⟨rfl, hsz, hP, hK, hD0, hE⟩ := hv
  have hx := B.exec
  have hb := B.bytes
  have hr := B.returns
  have hts := atoms_spec (ws := wsX1_clearBids) B.pre
  have hown : s.vm.findClass RX1 = some m.cls := findClass_of_methodNamed B.named
  have hlocks := B.notSynchronized
  subst hsz
  have hD := hD0.self (sz := s.heap.size)
  generalize hAe : va_A (gcells C a G) s.heap.size = A at hD ⊢
  have hA : ∀ q : Nat, s.heap.size ≤ q → A q := fun q h => by rw [← hAe]; exact Or.inr h
  have hS0 : va_S A s.heap s.heap [] := va_S.rf
  have hP : va_P D vwCl (gcells C a G) s.heap := hP
  have hS := hS0
  obtain ⟨hS12, hP4, hlo, hhi⟩ := id hG
  have hinX1 : ∀ w ∈ u_ws RX1 TX1 16, w ∈ wsX1_clearBids := by decide +kernel
  have hl := lv_entry ([.ref (a 0), .int (nI k)]) (n := 3) (Nat.le_of_ble_eq_true rfl)
  rw [lg_entry_eq]
  generalize (lg_sl ([.ref (a 0), .int (nI k)]) ++ List.replicate (3 - (lg_sl ([.ref (a 0), .int (nI k)])).length) Slot.unset).toArray = ls at hl ⊢
  have hl : lv_has ls 3 [(0, .ref (a 0)), (1, .int (nI k))] := hl
  obtain ⟨z, hz⟩ : ∃ z, z = f_X1_clearBids G k := ⟨_, rfl⟩
  rw [← hz]
  have J2 : ∀ (n2 k2 : Nat) (fer0_2 : (Nat → Int32)) (off0_2 : (Nat → Int32)) (H : Heap) (locs : List Loc) (ls : Array Slot), k2 + n2 = 4 → z = f_X1_clearBids_l2 G k n2 k2 fer0_2 off0_2 → va_P D vwCl (gcells C a (mkG (gSuit G) (gTide G) (gP G) (gMon G) (gUsed G) (gS G) (gLo G) (gHi G) (gLen G) (gBld G) fer0_2 off0_2 (gIni G) (gBank G) (gSet G) (gBlf G))) H → va_D A (gcells C a (mkG (gSuit G) (gTide G) (gP G) (gMon G) (gUsed G) (gS G) (gLo G) (gHi G) (gLen G) (gBld G) fer0_2 off0_2 (gIni G) (gBank G) (gSet G) (gBlf G))) → va_S A s.heap H locs → lv_has ls 3 [(0, .ref (a 0)), (1, .int (nI k)), (2, .int (nI k2))] → W p l e ({ frames := 1, cells := 0, slots := 0, locals := 21 } : Room) s m ([.ref (a 0), .int (nI k)] : List Value).toArray below meth c H locs 0 0 (MQ below (rwO none D (gcells C a z) A) ([.ref (a 0), .int (nI k)] : List Value).toArray s 0 0 A) (F0 m 2 ls []) := by
    intro n2
    induction n2 with
    | zero =>
      intro k2 fer0_2 off0_2 H locs ls hk2 hz  hP hD hS hl
      have hz : z = f_X1_clearBids_l2x G k fer0_2 off0_2 := hz
      refine lv_iload_n hx hb dX1_clearBids_2 rfl (lv_at hl 2 rfl) ?_
      refine lv_iconst (v := 4) hx hb dX1_clearBids_3 (by decide) ?_
      refine lv_icmp_ge (tgt := 24) hx hb dX1_clearBids_4 (by decide) (fun c_4 => ?_) (fun c_4 => absurd (by have e : (4 : Int32) = nI 4 := (by decide); rw [e]; exact nI_le (by omega) (by omega)) c_4)
      refine lv_aload_n hx hb dX1_clearBids_24 rfl (lv_at hl 0 rfl) ?_
      refine va_get (D := D) (ci := 4) (v := .ref (a 7)) (C := RX1) (T := TX1) (N := 16) hx hb hts hinX1 hown hK hP 0 rfl rfl 10 (by decide) (hts (.fieldLink RX1 43 "BridgeAuction$Game" "ferries" "[I") (by decide +kernel)) (fun _ h9 => h9) rfl dX1_clearBids_25 ?_
      refine lv_iload_n hx hb dX1_clearBids_28 rfl (lv_at hl 1 rfl) ?_
      refine lv_iconst (v := (-1)) hx hb dX1_clearBids_29 (by decide) ?_
      refine iastN (tys := tyA C) hx hb hK hP hD hS 7 0 rfl rfl (i := k) (by omega) (by decide) dX1_clearBids_30 (fun H locs hP hD hS => ?_)
      have hP : va_P D vwCl (gcells C a (mkG (gSuit G) (gTide G) (gP G) (gMon G) (gUsed G) (gS G) (gLo G) (gHi G) (gLen G) (gBld G) (upd fer0_2 k (-1)) off0_2 (gIni G) (gBank G) (gSet G) (gBlf G))) H := hP
      have hD : va_D A (gcells C a (mkG (gSuit G) (gTide G) (gP G) (gMon G) (gUsed G) (gS G) (gLo G) (gHi G) (gLen G) (gBld G) (upd fer0_2 k (-1)) off0_2 (gIni G) (gBank G) (gSet G) (gBlf G))) := hD
      have hz : z = (mkG (gSuit G) (gTide G) (gP G) (gMon G) (gUsed G) (gS G) (gLo G) (gHi G) (gLen G) (gBld G) (upd fer0_2 k (-1)) off0_2 (gIni G) (gBank G) (gSet G) (gBlf G)) := hz
      rw [hz]
      exact rw_retV hx hb hr hP hS dX1_clearBids_31 hlocks
    | succ n2 ih2 =>
      intro k2 fer0_2 off0_2 H locs ls hk2 hz2  hP hD hS hl
      obtain ⟨z2, hz⟩ : ∃ zz_, zz_ = f_X1_clearBids_l2b G k k2 fer0_2 off0_2 := ⟨_, rfl⟩
      have hq2 : z = sE id (fun q_ => lpF (f_X1_clearBids_l2s G k) (f_X1_clearBids_l2e G k) n2 (k2 + 1) q_) z2 := by rw [hz2, hz]; rfl
      refine lv_iload_n hx hb dX1_clearBids_2 rfl (lv_at hl 2 rfl) ?_
      refine lv_iconst (v := 4) hx hb dX1_clearBids_3 (by decide) ?_
      refine lv_icmp_ge (tgt := 24) hx hb dX1_clearBids_4 (by decide) (fun c_4 => absurd c_4 (by have e : (4 : Int32) = nI 4 := (by decide); rw [e]; exact nI_ge (by omega) (by omega))) (fun c_4 => ?_)
      refine lv_aload_n hx hb dX1_clearBids_7 rfl (lv_at hl 0 rfl) ?_
      refine va_get (D := D) (ci := 4) (v := .ref (a 8)) (C := RX1) (T := TX1) (N := 16) hx hb hts hinX1 hown hK hP 0 rfl rfl 11 (by decide) (hts (.fieldLink RX1 46 "BridgeAuction$Game" "offers" "[I") (by decide +kernel)) (fun _ h9 => h9) rfl dX1_clearBids_8 ?_
      refine lv_iload_n hx hb dX1_clearBids_11 rfl (lv_at hl 2 rfl) ?_
      refine lv_iload_n hx hb dX1_clearBids_12 rfl (lv_at hl 1 rfl) ?_
      refine callRo (va_runS (As := [.int (nI k2), .int (nI k)]) (rest := [.ref (a 8)]) ⟨hx, hb, hml, hown, hts⟩ (c_X1_slot l D C (k2) (k) (by omega) (by omega)) (va_cwS 2 hts gX1_clearBids_X1_slot rfl rfl rfl (by decide +kernel) ⟨Nat.le_of_ble_eq_true rfl, Nat.le_of_ble_eq_true rfl⟩) (roP_s (hP.sub (ws' := ([] : va_W)) [] rfl) hK hE) rfl rfl hl.1 rfl (lv_room (Nat.le_of_ble_eq_true rfl)) dX1_clearBids_13 ⟨Nat.le_refl _, Nat.le_refl _⟩) ?_
      refine topN (k := (k * 4 + k2)) rfl ?_
      refine lv_iconst (v := 0) hx hb dX1_clearBids_16 (by decide) ?_
      refine iastN (tys := tyA C) hx hb hK hP hD hS 8 0 rfl rfl (i := (k * 4 + k2)) (by omega) (by decide) dX1_clearBids_17 (fun H locs hP hD hS => ?_)
      have hP : va_P D vwCl (gcells C a (mkG (gSuit G) (gTide G) (gP G) (gMon G) (gUsed G) (gS G) (gLo G) (gHi G) (gLen G) (gBld G) fer0_2 (upd off0_2 (k * 4 + k2) 0) (gIni G) (gBank G) (gSet G) (gBlf G))) H := hP
      have hD : va_D A (gcells C a (mkG (gSuit G) (gTide G) (gP G) (gMon G) (gUsed G) (gS G) (gLo G) (gHi G) (gLen G) (gBld G) fer0_2 (upd off0_2 (k * 4 + k2) 0) (gIni G) (gBank G) (gSet G) (gBlf G))) := hD
      refine lv_iinc (v := (nI (k2 + 1))) (lv' := [(2, .int (nI (k2 + 1))), (0, .ref (a 0)), (1, .int (nI k))]) hx hb dX1_clearBids_18 hl (k := 2) rfl (by exact nI_1 _) (by decide) rfl (fun ls hl => ?_)
      refine lv_goto (tgt := 2) hx hb dX1_clearBids_21 (by decide) ?_
      exact ih2 (k2 + 1) (fer0_2) ((upd off0_2 (k * 4 + k2) 0)) _ _ ls (by omega) (by rw [hq2, hz]; rfl)  hP hD hS (lv_sub hl [1, 2, 0] rfl)
  refine lv_iconst (v := 0) hx hb dX1_clearBids_0 (by decide) ?_
  refine lv_istore_n (lv' := [(2, .int 0), (0, .ref (a 0)), (1, .int (nI k))]) hx hb dX1_clearBids_1 rfl hl (by decide) rfl (fun ls hl => ?_)
  exact J2 (4) 0 ((gFer G)) ((gOff G)) _ _ ls (by omega) hz  hP hD hS (lv_sub hl [1, 2, 0] rfl)

def f_X1_pay (G : GS) (q : Nat) (x : Int32) : GS := (mkG (gSuit G) (gTide G) (gP G) (upd (gMon G) q (((gMon G) q) - x)) (gUsed G) (gS G) (gLo G) (gHi G) (gLen G) (gBld G) (gFer G) (gOff G) (gIni G) ((gBank G) + x) (gSet G) (gBlf G))
set_option maxHeartbeats 4000000 in
set_option maxRecDepth 100000 in
theorem c_X1_pay (l : Launch) (D : va_G) (C : Nat → ClassId) (a : Nat → Nat) (G : GS) (q : Nat) (x : Int32) (sz : Nat) (hG : GSafe G) (h_q : q < 4) : Met l yX1_pay wsX1_pay ({ frames := 0, cells := 0, slots := 0, locals := 0 } : Room) (rwP [.ref (a 0), .int (nI q), .int x] D C (gcells C a G) sz) (rwO none D (gcells C a ((f_X1_pay G q x))) (va_A (gcells C a G) sz)) 0 0 (va_A (gcells C a G) sz) := by
  refine Met.ofW (cc := cX1_pay) (maxL := 3) (ret := none) (by decide) rfl ?_
  intro p e s m args below meth c s₁ B hml hv
  obtain ⟨rfl, hsz, hP, hK, hD0, hE⟩ := hv
  have hx := B.exec
  have hb := B.bytes
  have hr := B.returns
  have hts := atoms_spec (ws := wsX1_pay) B.pre
  have hown : s.vm.findClass RX1 = some m.cls := findClass_of_methodNamed B.named
  have hlocks := B.notSynchronized
  subst hsz
  have hD := hD0.self (sz := s.heap.size)
  generalize hAe : va_A (gcells C a G) s.heap.size = A at hD ⊢
  have hA : ∀ q : Nat, s.heap.size ≤ q → A q := fun q h => by rw [← hAe]; exact Or.inr h
  have hS0 : va_S A s.heap s.heap [] := va_S.rf
  have hP : va_P D vwCl (gcells C a G) s.heap := hP
  have hS := hS0
  obtain ⟨hS12, hP4, hlo, hhi⟩ := id hG
  have hinX1 : ∀ w ∈ u_ws RX1 TX1 16, w ∈ wsX1_pay := by decide +kernel
  have hl := lv_entry ([.ref (a 0), .int (nI q), .int x]) (n := 3) (Nat.le_of_ble_eq_true rfl)
  rw [lg_entry_eq]
  generalize (lg_sl ([.ref (a 0), .int (nI q), .int x]) ++ List.replicate (3 - (lg_sl ([.ref (a 0), .int (nI q), .int x])).length) Slot.unset).toArray = ls at hl ⊢
  have hl : lv_has ls 3 [(0, .ref (a 0)), (1, .int (nI q)), (2, .int x)] := hl
  obtain ⟨z, hz⟩ : ∃ z, z = f_X1_pay G q x := ⟨_, rfl⟩
  rw [← hz]
  refine lv_aload_n hx hb dX1_pay_0 rfl (lv_at hl 0 rfl) ?_
  refine va_get (D := D) (ci := 4) (v := .ref (a 2)) (C := RX1) (T := TX1) (N := 16) hx hb hts hinX1 hown hK hP 0 rfl rfl 3 (by decide) (hts (.fieldLink RX1 22 "BridgeAuction$Game" "moneys" "[I") (by decide +kernel)) (fun _ h9 => h9) rfl dX1_pay_1 ?_
  refine lv_iload_n hx hb dX1_pay_4 rfl (lv_at hl 1 rfl) ?_
  refine lv_dup2_11 hx hb dX1_pay_5 rfl rfl ?_
  refine ialdN (tys := tyA C) hx hb hK hP 2 0 rfl rfl (i := q) (by omega) (by decide) dX1_pay_6 ?_
  refine lv_iload_n hx hb dX1_pay_7 rfl (lv_at hl 2 rfl) ?_
  refine lv_isub hx hb dX1_pay_8 ?_
  refine iastN (tys := tyA C) hx hb hK hP hD hS 2 0 rfl rfl (i := q) (by omega) (by decide) dX1_pay_9 (fun H locs hP hD hS => ?_)
  have hP : va_P D vwCl (gcells C a (mkG (gSuit G) (gTide G) (gP G) (upd (gMon G) q (((gMon G) q) - x)) (gUsed G) (gS G) (gLo G) (gHi G) (gLen G) (gBld G) (gFer G) (gOff G) (gIni G) (gBank G) (gSet G) (gBlf G))) H := hP
  have hD : va_D A (gcells C a (mkG (gSuit G) (gTide G) (gP G) (upd (gMon G) q (((gMon G) q) - x)) (gUsed G) (gS G) (gLo G) (gHi G) (gLen G) (gBld G) (gFer G) (gOff G) (gIni G) (gBank G) (gSet G) (gBlf G))) := hD
  refine lv_aload_n hx hb dX1_pay_10 rfl (lv_at hl 0 rfl) ?_
  refine lv_dup hx hb dX1_pay_11 rfl ?_
  refine va_get (D := D) (ci := 4) (v := .int (gBank G)) (C := RX1) (T := TX1) (N := 16) hx hb hts hinX1 hown hK hP 0 rfl rfl 13 (by decide) (hts (.fieldLink RX1 52 "BridgeAuction$Game" "bank" "I") (by decide +kernel)) (fun _ h9 => h9) rfl dX1_pay_12 ?_
  refine lv_iload_n hx hb dX1_pay_15 rfl (lv_at hl 2 rfl) ?_
  refine lv_iadd hx hb dX1_pay_16 ?_
  refine va_put (D := D) (ci := 4) (v := .int ((gBank G) + x)) (ty := .int) (C := RX1) (T := TX1) (N := 16) hx hb hts hinX1 tyX1 tyX1_ok nmX1 hown hK hP hD hS 0 rfl rfl 13 (by decide) (hts (.fieldLink RX1 52 "BridgeAuction$Game" "bank" "I") (by decide +kernel)) (fun _ h9 => h9) rfl (by decide +kernel) rfl rfl (Nat.le_of_ble_eq_true rfl) dX1_pay_17 (fun H locs hP hD hS => ?_)
  have hP : va_P D vwCl (gcells C a (mkG (gSuit G) (gTide G) (gP G) (upd (gMon G) q (((gMon G) q) - x)) (gUsed G) (gS G) (gLo G) (gHi G) (gLen G) (gBld G) (gFer G) (gOff G) (gIni G) ((gBank G) + x) (gSet G) (gBlf G))) H := hP
  have hD : va_D A (gcells C a (mkG (gSuit G) (gTide G) (gP G) (upd (gMon G) q (((gMon G) q) - x)) (gUsed G) (gS G) (gLo G) (gHi G) (gLen G) (gBld G) (gFer G) (gOff G) (gIni G) ((gBank G) + x) (gSet G) (gBlf G))) := hD
  have hz : z = (mkG (gSuit G) (gTide G) (gP G) (upd (gMon G) q (((gMon G) q) - x)) (gUsed G) (gS G) (gLo G) (gHi G) (gLen G) (gBld G) (gFer G) (gOff G) (gIni G) ((gBank G) + x) (gSet G) (gBlf G)) := hz
  rw [hz]
  exact rw_retV hx hb hr hP hS dX1_pay_20 hlocks

theorem clearBids_safe {G : GS} (hG : GSafe G) (k : Nat) : GSafe (f_X1_clearBids G k) := hG

def f_X1_close_j94  (v4_94 : Bool) (G_94 : GS) : Bool × GS := (v4_94, G_94)
def f_X1_close_j82 (k : Nat) (v2_82 : Int32) (v4_82 : Bool) (G_82 : GS) : Bool × GS := (if v4_82 = true then (f_X1_close_j94 (v4_82) ((mkG (gSuit G_82) (gTide G_82) (gP G_82) (gMon G_82) (gUsed G_82) (gS G_82) (gLo G_82) (gHi G_82) (gLen G_82) (upd (gBld G_82) k v2_82) (gFer G_82) (gOff G_82) (gIni G_82) (gBank G_82) (gSet G_82) (gBlf G_82)))) else (f_X1_close_j94 (v4_82) (G_82)))
def f_X1_close (G : GS) (k : Nat) : Bool × GS := (if (f_X1_hasBluff G (((f_X1_winnerOf G (k))).toNatClampNeg) (k)) = true then (f_X1_close_j82 k ((f_X1_winnerOf G (k))) ((f_X1_buildsWith G (((f_X1_winnerOf G (k))).toNatClampNeg) (k))) ((f_X1_pay (mkG (gSuit (f_X1_clearBids G (k))) (gTide (f_X1_clearBids G (k))) (gP (f_X1_clearBids G (k))) (gMon (f_X1_clearBids G (k))) (gUsed (f_X1_clearBids G (k))) (gS (f_X1_clearBids G (k))) (gLo (f_X1_clearBids G (k))) (gHi (f_X1_clearBids G (k))) (gLen (f_X1_clearBids G (k))) (gBld (f_X1_clearBids G (k))) (gFer (f_X1_clearBids G (k))) (gOff (f_X1_clearBids G (k))) (gIni (f_X1_clearBids G (k))) (gBank (f_X1_clearBids G (k))) ((gSet (f_X1_clearBids G (k))) + 1) ((gBlf (f_X1_clearBids G (k))) + 1)) (((f_X1_winnerOf G (k))).toNatClampNeg) ((imin 5 (f_X1_availableTo (mkG (gSuit (f_X1_clearBids G (k))) (gTide (f_X1_clearBids G (k))) (gP (f_X1_clearBids G (k))) (gMon (f_X1_clearBids G (k))) (gUsed (f_X1_clearBids G (k))) (gS (f_X1_clearBids G (k))) (gLo (f_X1_clearBids G (k))) (gHi (f_X1_clearBids G (k))) (gLen (f_X1_clearBids G (k))) (gBld (f_X1_clearBids G (k))) (gFer (f_X1_clearBids G (k))) (gOff (f_X1_clearBids G (k))) (gIni (f_X1_clearBids G (k))) (gBank (f_X1_clearBids G (k))) ((gSet (f_X1_clearBids G (k))) + 1) ((gBlf (f_X1_clearBids G (k))) + 1)) (((f_X1_winnerOf G (k))).toNatClampNeg))))))) else (f_X1_close_j82 k ((f_X1_winnerOf G (k))) ((f_X1_buildsWith G (((f_X1_winnerOf G (k))).toNatClampNeg) (k))) ((f_X1_pay (mkG (gSuit (f_X1_clearBids G (k))) (gTide (f_X1_clearBids G (k))) (gP (f_X1_clearBids G (k))) (gMon (f_X1_clearBids G (k))) (gUsed (f_X1_clearBids G (k))) (gS (f_X1_clearBids G (k))) (gLo (f_X1_clearBids G (k))) (gHi (f_X1_clearBids G (k))) (gLen (f_X1_clearBids G (k))) (gBld (f_X1_clearBids G (k))) (gFer (f_X1_clearBids G (k))) (gOff (f_X1_clearBids G (k))) (gIni (f_X1_clearBids G (k))) (gBank (f_X1_clearBids G (k))) ((gSet (f_X1_clearBids G (k))) + 1) (gBlf (f_X1_clearBids G (k)))) (((f_X1_winnerOf G (k))).toNatClampNeg) ((f_X1_amountOf G (((f_X1_winnerOf G (k))).toNatClampNeg) (k)))))))
set_option maxHeartbeats 4000000 in
set_option maxRecDepth 100000 in
theorem c_X1_close (l : Launch) (D : va_G) (C : Nat → ClassId) (a : Nat → Nat) (G : GS) (k : Nat) (sz : Nat) (hG : GSafe G) (h_k : k < 12) (hw : vp_in (f_X1_winnerOf G k) 4) : Met l yX1_close wsX1_close ({ frames := 3, cells := 0, slots := 0, locals := 67 } : Room) (rwP [.ref (a 0), .int (nI k)] D C (gcells C a G) sz) (rwO (some (.int (bI (f_X1_close G k).1))) D (gcells C a ((f_X1_close G k).2)) (va_A (gcells C a G) sz)) 0 0 (va_A (gcells C a G) sz) := by
  refine Met.ofW (cc := cX1_close) (maxL := 6) (ret := (some .boolean)) (by decide) rfl ?_
  intro p e s m args below meth c s₁ B hml hv
  obtain ⟨rfl, hsz, hP, hK, hD0, hE⟩ := hv
  have hx := B.exec
  have hb := B.bytes
  have hr := B.returns
  have hts := atoms_spec (ws := wsX1_close) B.pre
  have hown : s.vm.findClass RX1 = some m.cls := findClass_of_methodNamed B.named
  have hlocks := B.notSynchronized
  subst hsz
  have hD := hD0.self (sz := s.heap.size)
  generalize hAe : va_A (gcells C a G) s.heap.size = A at hD ⊢
  have hA : ∀ q : Nat, s.heap.size ≤ q → A q := fun q h => by rw [← hAe]; exact Or.inr h
  have hS0 : va_S A s.heap s.heap [] := va_S.rf
  have hP : va_P D vwCl (gcells C a G) s.heap := hP
  have hS := hS0
  obtain ⟨hS12, hP4, hlo, hhi⟩ := id hG
  have hinX1 : ∀ w ∈ u_ws RX1 TX1 16, w ∈ wsX1_close := by decide +kernel
  have hl := lv_entry ([.ref (a 0), .int (nI k)]) (n := 6) (Nat.le_of_ble_eq_true rfl)
  rw [lg_entry_eq]
  generalize (lg_sl ([.ref (a 0), .int (nI k)]) ++ List.replicate (6 - (lg_sl ([.ref (a 0), .int (nI k)])).length) Slot.unset).toArray = ls at hl ⊢
  have hl : lv_has ls 6 [(0, .ref (a 0)), (1, .int (nI k))] := hl
  obtain ⟨z, hz⟩ : ∃ z, z = f_X1_close G k := ⟨_, rfl⟩
  rw [← hz]
  have J94 : ∀ (v4_94 : Bool) (G_94 : GS)  (H : Heap) (locs : List Loc) (ls : Array Slot), z = f_X1_close_j94 v4_94 G_94 → va_P D vwCl (gcells C a G_94) H → va_D A (gcells C a G_94) → va_S A s.heap H locs → lv_has ls 6 [(4, .int (bI v4_94))] → W p l e ({ frames := 3, cells := 0, slots := 0, locals := 67 } : Room) s m ([.ref (a 0), .int (nI k)] : List Value).toArray below meth c H locs 0 0 (MQ below (rwO (some (.int (bI z.1))) D (gcells C a z.2) A) ([.ref (a 0), .int (nI k)] : List Value).toArray s 0 0 A) (F0 m 94 ls []) := by
    intro v4_94 G_94 H locs ls hz  hP hD hS hl
    refine lv_iload hx hb dX1_close_94 (lv_at hl 0 rfl) ?_
    have hz : z = (v4_94, G_94) := hz
    rw [hz]
    exact rw_retB hx hb hr hP hS rfl dX1_close_96 hlocks
  have J82 : ∀ (v2_82 : Int32) (v4_82 : Bool) (G_82 : GS)  (H : Heap) (locs : List Loc) (ls : Array Slot), z = f_X1_close_j82 k v2_82 v4_82 G_82 → va_P D vwCl (gcells C a G_82) H → va_D A (gcells C a G_82) → va_S A s.heap H locs → lv_has ls 6 [(0, .ref (a 0)), (1, .int (nI k)), (2, .int v2_82), (4, .int (bI v4_82))] → W p l e ({ frames := 3, cells := 0, slots := 0, locals := 67 } : Room) s m ([.ref (a 0), .int (nI k)] : List Value).toArray below meth c H locs 0 0 (MQ below (rwO (some (.int (bI z.1))) D (gcells C a z.2) A) ([.ref (a 0), .int (nI k)] : List Value).toArray s 0 0 A) (F0 m 82 ls []) := by
    intro v2_82 v4_82 G_82 H locs ls hz  hP hD hS hl
    refine lv_iload hx hb dX1_close_82 (lv_at hl 3 rfl) ?_
    refine bif_eq (tgt := 94) hx hb dX1_close_84 (by decide) (fun c_84 => ?_) (fun c_84 => ?_)
    · have hz := hz.trans (ifB_f c_84)
      exact J94 (v4_82) (G_82) _ _ ls hz  hP hD hS (lv_sub hl [3] rfl)
    · have hz := hz.trans (ifB_t c_84)
      refine lv_aload_n hx hb dX1_close_87 rfl (lv_at hl 0 rfl) ?_
      refine va_get (D := D) (ci := 4) (v := .ref (a 6)) (C := RX1) (T := TX1) (N := 16) hx hb hts hinX1 hown hK hP 0 rfl rfl 9 (by decide) (hts (.fieldLink RX1 40 "BridgeAuction$Game" "builders" "[I") (by decide +kernel)) (fun _ h9 => h9) rfl dX1_close_88 ?_
      refine lv_iload_n hx hb dX1_close_91 rfl (lv_at hl 1 rfl) ?_
      refine lv_iload_n hx hb dX1_close_92 rfl (lv_at hl 2 rfl) ?_
      refine iastN (tys := tyA C) hx hb hK hP hD hS 6 0 rfl rfl (i := k) (by omega) (by decide) dX1_close_93 (fun H locs hP hD hS => ?_)
      have hP : va_P D vwCl (gcells C a (mkG (gSuit G_82) (gTide G_82) (gP G_82) (gMon G_82) (gUsed G_82) (gS G_82) (gLo G_82) (gHi G_82) (gLen G_82) (upd (gBld G_82) k v2_82) (gFer G_82) (gOff G_82) (gIni G_82) (gBank G_82) (gSet G_82) (gBlf G_82))) H := hP
      have hD : va_D A (gcells C a (mkG (gSuit G_82) (gTide G_82) (gP G_82) (gMon G_82) (gUsed G_82) (gS G_82) (gLo G_82) (gHi G_82) (gLen G_82) (upd (gBld G_82) k v2_82) (gFer G_82) (gOff G_82) (gIni G_82) (gBank G_82) (gSet G_82) (gBlf G_82))) := hD
      exact J94 (v4_82) ((mkG (gSuit G_82) (gTide G_82) (gP G_82) (gMon G_82) (gUsed G_82) (gS G_82) (gLo G_82) (gHi G_82) (gLen G_82) (upd (gBld G_82) k v2_82) (gFer G_82) (gOff G_82) (gIni G_82) (gBank G_82) (gSet G_82) (gBlf G_82))) _ _ ls hz  hP hD hS (lv_sub hl [3] rfl)
  refine lv_aload_n hx hb dX1_close_0 rfl (lv_at hl 0 rfl) ?_
  refine lv_iload_n hx hb dX1_close_1 rfl (lv_at hl 1 rfl) ?_
  refine callRo (va_runV (As := [.int (nI k)]) (rest := []) ⟨hx, hb, hml, hown, hts⟩ (c_X1_winnerOf l D C a G (k) (by first | exact hG | assumption) (by omega)) (cwV 1 hts gX1_close_X1_winnerOf rfl rfl rfl (by decide +kernel) ⟨Nat.le_of_ble_eq_true rfl, Nat.le_of_ble_eq_true rfl⟩) (roP_v hP hK hE (va_recv hK hP (ci := 4) (q0 := 0) rfl rfl)) rfl rfl hl.1 rfl (lv_room (Nat.le_of_ble_eq_true rfl)) dX1_close_2 ⟨Nat.le_refl _, Nat.le_refl _⟩) ?_
  refine lv_istore_n (lv' := [(2, .int (f_X1_winnerOf G (k))), (0, .ref (a 0)), (1, .int (nI k))]) hx hb dX1_close_5 rfl hl (by decide) rfl (fun ls hl => ?_)
  refine lv_aload_n hx hb dX1_close_6 rfl (lv_at hl 1 rfl) ?_
  refine lv_iload_n hx hb dX1_close_7 rfl (lv_at hl 0 rfl) ?_
  refine lv_iload_n hx hb dX1_close_8 rfl (lv_at hl 2 rfl) ?_
  obtain ⟨ehn_1, lhn_1⟩ := nat_of (x := (f_X1_winnerOf G (k))) (n := 4) (by exact hw) (by omega)
  refine topN2 ehn_1 ?_
  refine callRo (va_runV (As := [.int (nI ((f_X1_winnerOf G (k))).toNatClampNeg), .int (nI k)]) (rest := []) ⟨hx, hb, hml, hown, hts⟩ (c_X1_hasBluff l D C a G (((f_X1_winnerOf G (k))).toNatClampNeg) (k) (by first | exact hG | assumption) (by omega) (by omega)) (cwV 2 hts gX1_close_X1_hasBluff rfl rfl rfl (by decide +kernel) ⟨Nat.le_of_ble_eq_true rfl, Nat.le_of_ble_eq_true rfl⟩) (roP_v hP hK hE (va_recv hK hP (ci := 4) (q0 := 0) rfl rfl)) rfl rfl hl.1 rfl (lv_room (Nat.le_of_ble_eq_true rfl)) dX1_close_9 ⟨Nat.le_refl _, Nat.le_refl _⟩) ?_
  refine lv_istore_n (lv' := [(3, .int (bI (f_X1_hasBluff G (((f_X1_winnerOf G (k))).toNatClampNeg) (k)))), (2, .int (f_X1_winnerOf G (k))), (0, .ref (a 0)), (1, .int (nI k))]) hx hb dX1_close_12 rfl hl (by decide) rfl (fun ls hl => ?_)
  refine lv_aload_n hx hb dX1_close_13 rfl (lv_at hl 2 rfl) ?_
  refine lv_iload_n hx hb dX1_close_14 rfl (lv_at hl 1 rfl) ?_
  refine lv_iload_n hx hb dX1_close_15 rfl (lv_at hl 3 rfl) ?_
  obtain ⟨ehn_2, lhn_2⟩ := nat_of (x := (f_X1_winnerOf G (k))) (n := 4) (by exact hw) (by omega)
  refine topN2 ehn_2 ?_
  refine callRo (va_runV (As := [.int (nI ((f_X1_winnerOf G (k))).toNatClampNeg), .int (nI k)]) (rest := []) ⟨hx, hb, hml, hown, hts⟩ (c_X1_buildsWith l D C a G (((f_X1_winnerOf G (k))).toNatClampNeg) (k) (by first | exact hG | assumption) (by omega) (by omega)) (cwV 2 hts gX1_close_X1_buildsWith rfl rfl rfl (by decide +kernel) ⟨Nat.le_of_ble_eq_true rfl, Nat.le_of_ble_eq_true rfl⟩) (roP_v hP hK hE (va_recv hK hP (ci := 4) (q0 := 0) rfl rfl)) rfl rfl hl.1 rfl (lv_room (Nat.le_of_ble_eq_true rfl)) dX1_close_16 ⟨Nat.le_refl _, Nat.le_refl _⟩) ?_
  refine lv_istore (lv' := [(4, .int (bI (f_X1_buildsWith G (((f_X1_winnerOf G (k))).toNatClampNeg) (k)))), (3, .int (bI (f_X1_hasBluff G (((f_X1_winnerOf G (k))).toNatClampNeg) (k)))), (2, .int (f_X1_winnerOf G (k))), (0, .ref (a 0)), (1, .int (nI k))]) hx hb dX1_close_19 hl (by decide) rfl (fun ls hl => ?_)
  refine lv_aload_n hx hb dX1_close_21 rfl (lv_at hl 3 rfl) ?_
  refine lv_iload_n hx hb dX1_close_22 rfl (lv_at hl 2 rfl) ?_
  refine lv_iload_n hx hb dX1_close_23 rfl (lv_at hl 4 rfl) ?_
  obtain ⟨ehn_3, lhn_3⟩ := nat_of (x := (f_X1_winnerOf G (k))) (n := 4) (by exact hw) (by omega)
  refine topN2 ehn_3 ?_
  refine callRo (va_runV (As := [.int (nI ((f_X1_winnerOf G (k))).toNatClampNeg), .int (nI k)]) (rest := []) ⟨hx, hb, hml, hown, hts⟩ (c_X1_amountOf l D C a G (((f_X1_winnerOf G (k))).toNatClampNeg) (k) (by first | exact hG | assumption) (by omega) (by omega)) (cwV 2 hts gX1_close_X1_amountOf rfl rfl rfl (by decide +kernel) ⟨Nat.le_of_ble_eq_true rfl, Nat.le_of_ble_eq_true rfl⟩) (roP_v hP hK hE (va_recv hK hP (ci := 4) (q0 := 0) rfl rfl)) rfl rfl hl.1 rfl (lv_room (Nat.le_of_ble_eq_true rfl)) dX1_close_24 ⟨Nat.le_refl _, Nat.le_refl _⟩) ?_
  refine lv_istore (lv' := [(5, .int (f_X1_amountOf G (((f_X1_winnerOf G (k))).toNatClampNeg) (k))), (4, .int (bI (f_X1_buildsWith G (((f_X1_winnerOf G (k))).toNatClampNeg) (k)))), (3, .int (bI (f_X1_hasBluff G (((f_X1_winnerOf G (k))).toNatClampNeg) (k)))), (2, .int (f_X1_winnerOf G (k))), (0, .ref (a 0)), (1, .int (nI k))]) hx hb dX1_close_27 hl (by decide) rfl (fun ls hl => ?_)
  refine lv_aload_n hx hb dX1_close_29 rfl (lv_at hl 4 rfl) ?_
  refine lv_iload_n hx hb dX1_close_30 rfl (lv_at hl 5 rfl) ?_
  have hFc := va_free (wc := (gcells C a G)) hD hS hA [0, 1, 2, 3, 4, 5, 6, 7, 8] rfl
  refine callRw (va_runV (As := [.int (nI k)]) (rest := []) ⟨hx, hb, hml, hown, hts⟩ (c_X1_clearBids l D C a G (k) _ (by first | exact hG | assumption) (by omega)) (cwV 1 hts gX1_close_X1_clearBids rfl rfl rfl (by decide +kernel) ⟨Nat.le_of_ble_eq_true rfl, Nat.le_of_ble_eq_true rfl⟩) (rwP_v hP hK hE hD (va_recv hK hP (ci := 4) (q0 := 0) rfl rfl)) rfl rfl hl.1 rfl (lv_room (Nat.le_of_ble_eq_true rfl)) dX1_close_31 ⟨Nat.le_refl _, Nat.le_refl _⟩) hS hFc (fun H1 locs hPn hk hS => ?_)
  have hP : va_P D vwCl (gcells C a (f_X1_clearBids G (k))) H1 := hPn
  have hD : va_D A (gcells C a (f_X1_clearBids G (k))) := adr_D hD rfl
  generalize H1 = H at hP hS ⊢
  refine lv_aload_n hx hb dX1_close_34 rfl (lv_at hl 4 rfl) ?_
  refine lv_dup hx hb dX1_close_35 rfl ?_
  refine va_get (D := D) (ci := 4) (v := .int (gSet (f_X1_clearBids G (k)))) (C := RX1) (T := TX1) (N := 16) hx hb hts hinX1 hown hK hP 0 rfl rfl 14 (by decide) (hts (.fieldLink RX1 55 "BridgeAuction$Game" "settlings" "I") (by decide +kernel)) (fun _ h9 => h9) rfl dX1_close_36 ?_
  refine lv_iconst (v := 1) hx hb dX1_close_39 (by decide) ?_
  refine lv_iadd hx hb dX1_close_40 ?_
  refine va_put (D := D) (ci := 4) (v := .int ((gSet (f_X1_clearBids G (k))) + 1)) (ty := .int) (C := RX1) (T := TX1) (N := 16) hx hb hts hinX1 tyX1 tyX1_ok nmX1 hown hK hP hD hS 0 rfl rfl 14 (by decide) (hts (.fieldLink RX1 55 "BridgeAuction$Game" "settlings" "I") (by decide +kernel)) (fun _ h9 => h9) rfl (by decide +kernel) rfl rfl (Nat.le_of_ble_eq_true rfl) dX1_close_41 (fun H locs hP hD hS => ?_)
  have hP : va_P D vwCl (gcells C a (mkG (gSuit (f_X1_clearBids G (k))) (gTide (f_X1_clearBids G (k))) (gP (f_X1_clearBids G (k))) (gMon (f_X1_clearBids G (k))) (gUsed (f_X1_clearBids G (k))) (gS (f_X1_clearBids G (k))) (gLo (f_X1_clearBids G (k))) (gHi (f_X1_clearBids G (k))) (gLen (f_X1_clearBids G (k))) (gBld (f_X1_clearBids G (k))) (gFer (f_X1_clearBids G (k))) (gOff (f_X1_clearBids G (k))) (gIni (f_X1_clearBids G (k))) (gBank (f_X1_clearBids G (k))) ((gSet (f_X1_clearBids G (k))) + 1) (gBlf (f_X1_clearBids G (k))))) H := hP
  have hD : va_D A (gcells C a (mkG (gSuit (f_X1_clearBids G (k))) (gTide (f_X1_clearBids G (k))) (gP (f_X1_clearBids G (k))) (gMon (f_X1_clearBids G (k))) (gUsed (f_X1_clearBids G (k))) (gS (f_X1_clearBids G (k))) (gLo (f_X1_clearBids G (k))) (gHi (f_X1_clearBids G (k))) (gLen (f_X1_clearBids G (k))) (gBld (f_X1_clearBids G (k))) (gFer (f_X1_clearBids G (k))) (gOff (f_X1_clearBids G (k))) (gIni (f_X1_clearBids G (k))) (gBank (f_X1_clearBids G (k))) ((gSet (f_X1_clearBids G (k))) + 1) (gBlf (f_X1_clearBids G (k))))) := hD
  refine lv_iload_n hx hb dX1_close_44 rfl (lv_at hl 2 rfl) ?_
  refine bif_eq (tgt := 75) hx hb dX1_close_45 (by decide) (fun c_45 => ?_) (fun c_45 => ?_)
  · have hz := hz.trans (ifB_f c_45)
    refine lv_aload_n hx hb dX1_close_75 rfl (lv_at hl 4 rfl) ?_
    refine lv_iload_n hx hb dX1_close_76 rfl (lv_at hl 3 rfl) ?_
    refine lv_iload hx hb dX1_close_77 (lv_at hl 0 rfl) ?_
    obtain ⟨ehn_4, lhn_4⟩ := nat_of (x := (f_X1_winnerOf G (k))) (n := 4) (by exact hw) (by omega)
    refine topN2 ehn_4 ?_
    have hFc := va_free (wc := (gcells C a (mkG (gSuit (f_X1_clearBids G (k))) (gTide (f_X1_clearBids G (k))) (gP (f_X1_clearBids G (k))) (gMon (f_X1_clearBids G (k))) (gUsed (f_X1_clearBids G (k))) (gS (f_X1_clearBids G (k))) (gLo (f_X1_clearBids G (k))) (gHi (f_X1_clearBids G (k))) (gLen (f_X1_clearBids G (k))) (gBld (f_X1_clearBids G (k))) (gFer (f_X1_clearBids G (k))) (gOff (f_X1_clearBids G (k))) (gIni (f_X1_clearBids G (k))) (gBank (f_X1_clearBids G (k))) ((gSet (f_X1_clearBids G (k))) + 1) (gBlf (f_X1_clearBids G (k)))))) hD hS hA [0, 1, 2, 3, 4, 5, 6, 7, 8] rfl
    refine callRw (va_runV (As := [.int (nI ((f_X1_winnerOf G (k))).toNatClampNeg), .int (f_X1_amountOf G (((f_X1_winnerOf G (k))).toNatClampNeg) (k))]) (rest := []) ⟨hx, hb, hml, hown, hts⟩ (c_X1_pay l D C a (mkG (gSuit (f_X1_clearBids G (k))) (gTide (f_X1_clearBids G (k))) (gP (f_X1_clearBids G (k))) (gMon (f_X1_clearBids G (k))) (gUsed (f_X1_clearBids G (k))) (gS (f_X1_clearBids G (k))) (gLo (f_X1_clearBids G (k))) (gHi (f_X1_clearBids G (k))) (gLen (f_X1_clearBids G (k))) (gBld (f_X1_clearBids G (k))) (gFer (f_X1_clearBids G (k))) (gOff (f_X1_clearBids G (k))) (gIni (f_X1_clearBids G (k))) (gBank (f_X1_clearBids G (k))) ((gSet (f_X1_clearBids G (k))) + 1) (gBlf (f_X1_clearBids G (k)))) (((f_X1_winnerOf G (k))).toNatClampNeg) ((f_X1_amountOf G (((f_X1_winnerOf G (k))).toNatClampNeg) (k))) _ (by first | exact hG | assumption) (by omega)) (cwV 2 hts gX1_close_X1_pay rfl rfl rfl (by decide +kernel) ⟨Nat.le_of_ble_eq_true rfl, Nat.le_of_ble_eq_true rfl⟩) (rwP_v hP hK hE hD (va_recv hK hP (ci := 4) (q0 := 0) rfl rfl)) rfl rfl hl.1 rfl (lv_room (Nat.le_of_ble_eq_true rfl)) dX1_close_79 ⟨Nat.le_refl _, Nat.le_refl _⟩) hS hFc (fun H1 locs hPn hk hS => ?_)
    have hP : va_P D vwCl (gcells C a (f_X1_pay (mkG (gSuit (f_X1_clearBids G (k))) (gTide (f_X1_clearBids G (k))) (gP (f_X1_clearBids G (k))) (gMon (f_X1_clearBids G (k))) (gUsed (f_X1_clearBids G (k))) (gS (f_X1_clearBids G (k))) (gLo (f_X1_clearBids G (k))) (gHi (f_X1_clearBids G (k))) (gLen (f_X1_clearBids G (k))) (gBld (f_X1_clearBids G (k))) (gFer (f_X1_clearBids G (k))) (gOff (f_X1_clearBids G (k))) (gIni (f_X1_clearBids G (k))) (gBank (f_X1_clearBids G (k))) ((gSet (f_X1_clearBids G (k))) + 1) (gBlf (f_X1_clearBids G (k)))) (((f_X1_winnerOf G (k))).toNatClampNeg) ((f_X1_amountOf G (((f_X1_winnerOf G (k))).toNatClampNeg) (k))))) H1 := hPn
    have hD : va_D A (gcells C a (f_X1_pay (mkG (gSuit (f_X1_clearBids G (k))) (gTide (f_X1_clearBids G (k))) (gP (f_X1_clearBids G (k))) (gMon (f_X1_clearBids G (k))) (gUsed (f_X1_clearBids G (k))) (gS (f_X1_clearBids G (k))) (gLo (f_X1_clearBids G (k))) (gHi (f_X1_clearBids G (k))) (gLen (f_X1_clearBids G (k))) (gBld (f_X1_clearBids G (k))) (gFer (f_X1_clearBids G (k))) (gOff (f_X1_clearBids G (k))) (gIni (f_X1_clearBids G (k))) (gBank (f_X1_clearBids G (k))) ((gSet (f_X1_clearBids G (k))) + 1) (gBlf (f_X1_clearBids G (k)))) (((f_X1_winnerOf G (k))).toNatClampNeg) ((f_X1_amountOf G (((f_X1_winnerOf G (k))).toNatClampNeg) (k))))) := adr_D hD rfl
    generalize H1 = H at hP hS ⊢
    exact J82 ((f_X1_winnerOf G (k))) ((f_X1_buildsWith G (((f_X1_winnerOf G (k))).toNatClampNeg) (k))) ((f_X1_pay (mkG (gSuit (f_X1_clearBids G (k))) (gTide (f_X1_clearBids G (k))) (gP (f_X1_clearBids G (k))) (gMon (f_X1_clearBids G (k))) (gUsed (f_X1_clearBids G (k))) (gS (f_X1_clearBids G (k))) (gLo (f_X1_clearBids G (k))) (gHi (f_X1_clearBids G (k))) (gLen (f_X1_clearBids G (k))) (gBld (f_X1_clearBids G (k))) (gFer (f_X1_clearBids G (k))) (gOff (f_X1_clearBids G (k))) (gIni (f_X1_clearBids G (k))) (gBank (f_X1_clearBids G (k))) ((gSet (f_X1_clearBids G (k))) + 1) (gBlf (f_X1_clearBids G (k)))) (((f_X1_winnerOf G (k))).toNatClampNeg) ((f_X1_amountOf G (((f_X1_winnerOf G (k))).toNatClampNeg) (k))))) _ _ ls hz  hP hD hS (lv_sub hl [4, 5, 3, 1] rfl)
  · have hz := hz.trans (ifB_t c_45)
    refine lv_aload_n hx hb dX1_close_48 rfl (lv_at hl 4 rfl) ?_
    refine lv_dup hx hb dX1_close_49 rfl ?_
    refine va_get (D := D) (ci := 4) (v := .int (gBlf (f_X1_clearBids G (k)))) (C := RX1) (T := TX1) (N := 16) hx hb hts hinX1 hown hK hP 0 rfl rfl 15 (by decide) (hts (.fieldLink RX1 58 "BridgeAuction$Game" "wonBluffs" "I") (by decide +kernel)) (fun _ h9 => h9) rfl dX1_close_50 ?_
    refine lv_iconst (v := 1) hx hb dX1_close_53 (by decide) ?_
    refine lv_iadd hx hb dX1_close_54 ?_
    refine va_put (D := D) (ci := 4) (v := .int ((gBlf (f_X1_clearBids G (k))) + 1)) (ty := .int) (C := RX1) (T := TX1) (N := 16) hx hb hts hinX1 tyX1 tyX1_ok nmX1 hown hK hP hD hS 0 rfl rfl 15 (by decide) (hts (.fieldLink RX1 58 "BridgeAuction$Game" "wonBluffs" "I") (by decide +kernel)) (fun _ h9 => h9) rfl (by decide +kernel) rfl rfl (Nat.le_of_ble_eq_true rfl) dX1_close_55 (fun H locs hP hD hS => ?_)
    have hP : va_P D vwCl (gcells C a (mkG (gSuit (f_X1_clearBids G (k))) (gTide (f_X1_clearBids G (k))) (gP (f_X1_clearBids G (k))) (gMon (f_X1_clearBids G (k))) (gUsed (f_X1_clearBids G (k))) (gS (f_X1_clearBids G (k))) (gLo (f_X1_clearBids G (k))) (gHi (f_X1_clearBids G (k))) (gLen (f_X1_clearBids G (k))) (gBld (f_X1_clearBids G (k))) (gFer (f_X1_clearBids G (k))) (gOff (f_X1_clearBids G (k))) (gIni (f_X1_clearBids G (k))) (gBank (f_X1_clearBids G (k))) ((gSet (f_X1_clearBids G (k))) + 1) ((gBlf (f_X1_clearBids G (k))) + 1))) H := hP
    have hD : va_D A (gcells C a (mkG (gSuit (f_X1_clearBids G (k))) (gTide (f_X1_clearBids G (k))) (gP (f_X1_clearBids G (k))) (gMon (f_X1_clearBids G (k))) (gUsed (f_X1_clearBids G (k))) (gS (f_X1_clearBids G (k))) (gLo (f_X1_clearBids G (k))) (gHi (f_X1_clearBids G (k))) (gLen (f_X1_clearBids G (k))) (gBld (f_X1_clearBids G (k))) (gFer (f_X1_clearBids G (k))) (gOff (f_X1_clearBids G (k))) (gIni (f_X1_clearBids G (k))) (gBank (f_X1_clearBids G (k))) ((gSet (f_X1_clearBids G (k))) + 1) ((gBlf (f_X1_clearBids G (k))) + 1))) := hD
    refine lv_aload_n hx hb dX1_close_58 rfl (lv_at hl 4 rfl) ?_
    refine lv_iload_n hx hb dX1_close_59 rfl (lv_at hl 3 rfl) ?_
    refine lv_iconst (v := 5) hx hb dX1_close_60 (by decide) ?_
    refine lv_aload_n hx hb dX1_close_61 rfl (lv_at hl 4 rfl) ?_
    refine lv_iload_n hx hb dX1_close_62 rfl (lv_at hl 3 rfl) ?_
    obtain ⟨ehn_5, lhn_5⟩ := nat_of (x := (f_X1_winnerOf G (k))) (n := 4) (by exact hw) (by omega)
    refine topN ehn_5 ?_
    refine callRo (va_runV (As := [.int (nI ((f_X1_winnerOf G (k))).toNatClampNeg)]) (rest := [.int 5, .int (f_X1_winnerOf G (k)), .ref (a 0)]) ⟨hx, hb, hml, hown, hts⟩ (c_X1_availableTo l D C a (mkG (gSuit (f_X1_clearBids G (k))) (gTide (f_X1_clearBids G (k))) (gP (f_X1_clearBids G (k))) (gMon (f_X1_clearBids G (k))) (gUsed (f_X1_clearBids G (k))) (gS (f_X1_clearBids G (k))) (gLo (f_X1_clearBids G (k))) (gHi (f_X1_clearBids G (k))) (gLen (f_X1_clearBids G (k))) (gBld (f_X1_clearBids G (k))) (gFer (f_X1_clearBids G (k))) (gOff (f_X1_clearBids G (k))) (gIni (f_X1_clearBids G (k))) (gBank (f_X1_clearBids G (k))) ((gSet (f_X1_clearBids G (k))) + 1) ((gBlf (f_X1_clearBids G (k))) + 1)) (((f_X1_winnerOf G (k))).toNatClampNeg) (clearBids_safe hG k) (by omega)) (cwV 1 hts gX1_close_X1_availableTo rfl rfl rfl (by decide +kernel) ⟨Nat.le_of_ble_eq_true rfl, Nat.le_of_ble_eq_true rfl⟩) (roP_v hP hK hE (va_recv hK hP (ci := 4) (q0 := 0) rfl rfl)) rfl rfl hl.1 rfl (lv_room (Nat.le_of_ble_eq_true rfl)) dX1_close_63 ⟨Nat.le_refl _, Nat.le_refl _⟩) ?_
    refine va_mmin hx hb (hml.trans hl.1.symm) hown (hts (.methodLink RX1 127 Lib.Math.min.name) (by decide +kernel)) (hts (.static Lib.Math.min.name) (by decide +kernel)) (hts (.initialized "java/lang/Math") (by decide +kernel)) (hts (.code Lib.Math.min.name Lib.Math.min.code 2 (some .int)) (by decide +kernel)) (Nat.le_of_ble_eq_true rfl) (Nat.le_of_ble_eq_true rfl) (Nat.le_of_ble_eq_true rfl) (Nat.le_of_ble_eq_true rfl) dX1_close_66 ?_
    refine topI (y := (imin 5 (f_X1_availableTo (mkG (gSuit (f_X1_clearBids G (k))) (gTide (f_X1_clearBids G (k))) (gP (f_X1_clearBids G (k))) (gMon (f_X1_clearBids G (k))) (gUsed (f_X1_clearBids G (k))) (gS (f_X1_clearBids G (k))) (gLo (f_X1_clearBids G (k))) (gHi (f_X1_clearBids G (k))) (gLen (f_X1_clearBids G (k))) (gBld (f_X1_clearBids G (k))) (gFer (f_X1_clearBids G (k))) (gOff (f_X1_clearBids G (k))) (gIni (f_X1_clearBids G (k))) (gBank (f_X1_clearBids G (k))) ((gSet (f_X1_clearBids G (k))) + 1) ((gBlf (f_X1_clearBids G (k))) + 1)) (((f_X1_winnerOf G (k))).toNatClampNeg)))) rfl ?_
    obtain ⟨ehn_6, lhn_6⟩ := nat_of (x := (f_X1_winnerOf G (k))) (n := 4) (by exact hw) (by omega)
    refine topN2 ehn_6 ?_
    have hFc := va_free (wc := (gcells C a (mkG (gSuit (f_X1_clearBids G (k))) (gTide (f_X1_clearBids G (k))) (gP (f_X1_clearBids G (k))) (gMon (f_X1_clearBids G (k))) (gUsed (f_X1_clearBids G (k))) (gS (f_X1_clearBids G (k))) (gLo (f_X1_clearBids G (k))) (gHi (f_X1_clearBids G (k))) (gLen (f_X1_clearBids G (k))) (gBld (f_X1_clearBids G (k))) (gFer (f_X1_clearBids G (k))) (gOff (f_X1_clearBids G (k))) (gIni (f_X1_clearBids G (k))) (gBank (f_X1_clearBids G (k))) ((gSet (f_X1_clearBids G (k))) + 1) ((gBlf (f_X1_clearBids G (k))) + 1)))) hD hS hA [0, 1, 2, 3, 4, 5, 6, 7, 8] rfl
    refine callRw (va_runV (As := [.int (nI ((f_X1_winnerOf G (k))).toNatClampNeg), .int (imin 5 (f_X1_availableTo (mkG (gSuit (f_X1_clearBids G (k))) (gTide (f_X1_clearBids G (k))) (gP (f_X1_clearBids G (k))) (gMon (f_X1_clearBids G (k))) (gUsed (f_X1_clearBids G (k))) (gS (f_X1_clearBids G (k))) (gLo (f_X1_clearBids G (k))) (gHi (f_X1_clearBids G (k))) (gLen (f_X1_clearBids G (k))) (gBld (f_X1_clearBids G (k))) (gFer (f_X1_clearBids G (k))) (gOff (f_X1_clearBids G (k))) (gIni (f_X1_clearBids G (k))) (gBank (f_X1_clearBids G (k))) ((gSet (f_X1_clearBids G (k))) + 1) ((gBlf (f_X1_clearBids G (k))) + 1)) (((f_X1_winnerOf G (k))).toNatClampNeg)))]) (rest := []) ⟨hx, hb, hml, hown, hts⟩ (c_X1_pay l D C a (mkG (gSuit (f_X1_clearBids G (k))) (gTide (f_X1_clearBids G (k))) (gP (f_X1_clearBids G (k))) (gMon (f_X1_clearBids G (k))) (gUsed (f_X1_clearBids G (k))) (gS (f_X1_clearBids G (k))) (gLo (f_X1_clearBids G (k))) (gHi (f_X1_clearBids G (k))) (gLen (f_X1_clearBids G (k))) (gBld (f_X1_clearBids G (k))) (gFer (f_X1_clearBids G (k))) (gOff (f_X1_clearBids G (k))) (gIni (f_X1_clearBids G (k))) (gBank (f_X1_clearBids G (k))) ((gSet (f_X1_clearBids G (k))) + 1) ((gBlf (f_X1_clearBids G (k))) + 1)) (((f_X1_winnerOf G (k))).toNatClampNeg) ((imin 5 (f_X1_availableTo (mkG (gSuit (f_X1_clearBids G (k))) (gTide (f_X1_clearBids G (k))) (gP (f_X1_clearBids G (k))) (gMon (f_X1_clearBids G (k))) (gUsed (f_X1_clearBids G (k))) (gS (f_X1_clearBids G (k))) (gLo (f_X1_clearBids G (k))) (gHi (f_X1_clearBids G (k))) (gLen (f_X1_clearBids G (k))) (gBld (f_X1_clearBids G (k))) (gFer (f_X1_clearBids G (k))) (gOff (f_X1_clearBids G (k))) (gIni (f_X1_clearBids G (k))) (gBank (f_X1_clearBids G (k))) ((gSet (f_X1_clearBids G (k))) + 1) ((gBlf (f_X1_clearBids G (k))) + 1)) (((f_X1_winnerOf G (k))).toNatClampNeg)))) _ (by first | exact hG | assumption) (by omega)) (cwV 2 hts gX1_close_X1_pay rfl rfl rfl (by decide +kernel) ⟨Nat.le_of_ble_eq_true rfl, Nat.le_of_ble_eq_true rfl⟩) (rwP_v hP hK hE hD (va_recv hK hP (ci := 4) (q0 := 0) rfl rfl)) rfl rfl hl.1 rfl (lv_room (Nat.le_of_ble_eq_true rfl)) dX1_close_69 ⟨Nat.le_refl _, Nat.le_refl _⟩) hS hFc (fun H1 locs hPn hk hS => ?_)
    have hP : va_P D vwCl (gcells C a (f_X1_pay (mkG (gSuit (f_X1_clearBids G (k))) (gTide (f_X1_clearBids G (k))) (gP (f_X1_clearBids G (k))) (gMon (f_X1_clearBids G (k))) (gUsed (f_X1_clearBids G (k))) (gS (f_X1_clearBids G (k))) (gLo (f_X1_clearBids G (k))) (gHi (f_X1_clearBids G (k))) (gLen (f_X1_clearBids G (k))) (gBld (f_X1_clearBids G (k))) (gFer (f_X1_clearBids G (k))) (gOff (f_X1_clearBids G (k))) (gIni (f_X1_clearBids G (k))) (gBank (f_X1_clearBids G (k))) ((gSet (f_X1_clearBids G (k))) + 1) ((gBlf (f_X1_clearBids G (k))) + 1)) (((f_X1_winnerOf G (k))).toNatClampNeg) ((imin 5 (f_X1_availableTo (mkG (gSuit (f_X1_clearBids G (k))) (gTide (f_X1_clearBids G (k))) (gP (f_X1_clearBids G (k))) (gMon (f_X1_clearBids G (k))) (gUsed (f_X1_clearBids G (k))) (gS (f_X1_clearBids G (k))) (gLo (f_X1_clearBids G (k))) (gHi (f_X1_clearBids G (k))) (gLen (f_X1_clearBids G (k))) (gBld (f_X1_clearBids G (k))) (gFer (f_X1_clearBids G (k))) (gOff (f_X1_clearBids G (k))) (gIni (f_X1_clearBids G (k))) (gBank (f_X1_clearBids G (k))) ((gSet (f_X1_clearBids G (k))) + 1) ((gBlf (f_X1_clearBids G (k))) + 1)) (((f_X1_winnerOf G (k))).toNatClampNeg)))))) H1 := hPn
    have hD : va_D A (gcells C a (f_X1_pay (mkG (gSuit (f_X1_clearBids G (k))) (gTide (f_X1_clearBids G (k))) (gP (f_X1_clearBids G (k))) (gMon (f_X1_clearBids G (k))) (gUsed (f_X1_clearBids G (k))) (gS (f_X1_clearBids G (k))) (gLo (f_X1_clearBids G (k))) (gHi (f_X1_clearBids G (k))) (gLen (f_X1_clearBids G (k))) (gBld (f_X1_clearBids G (k))) (gFer (f_X1_clearBids G (k))) (gOff (f_X1_clearBids G (k))) (gIni (f_X1_clearBids G (k))) (gBank (f_X1_clearBids G (k))) ((gSet (f_X1_clearBids G (k))) + 1) ((gBlf (f_X1_clearBids G (k))) + 1)) (((f_X1_winnerOf G (k))).toNatClampNeg) ((imin 5 (f_X1_availableTo (mkG (gSuit (f_X1_clearBids G (k))) (gTide (f_X1_clearBids G (k))) (gP (f_X1_clearBids G (k))) (gMon (f_X1_clearBids G (k))) (gUsed (f_X1_clearBids G (k))) (gS (f_X1_clearBids G (k))) (gLo (f_X1_clearBids G (k))) (gHi (f_X1_clearBids G (k))) (gLen (f_X1_clearBids G (k))) (gBld (f_X1_clearBids G (k))) (gFer (f_X1_clearBids G (k))) (gOff (f_X1_clearBids G (k))) (gIni (f_X1_clearBids G (k))) (gBank (f_X1_clearBids G (k))) ((gSet (f_X1_clearBids G (k))) + 1) ((gBlf (f_X1_clearBids G (k))) + 1)) (((f_X1_winnerOf G (k))).toNatClampNeg)))))) := adr_D hD rfl
    generalize H1 = H at hP hS ⊢
    refine lv_goto (tgt := 82) hx hb dX1_close_72 (by decide) ?_
    exact J82 ((f_X1_winnerOf G (k))) ((f_X1_buildsWith G (((f_X1_winnerOf G (k))).toNatClampNeg) (k))) ((f_X1_pay (mkG (gSuit (f_X1_clearBids G (k))) (gTide (f_X1_clearBids G (k))) (gP (f_X1_clearBids G (k))) (gMon (f_X1_clearBids G (k))) (gUsed (f_X1_clearBids G (k))) (gS (f_X1_clearBids G (k))) (gLo (f_X1_clearBids G (k))) (gHi (f_X1_clearBids G (k))) (gLen (f_X1_clearBids G (k))) (gBld (f_X1_clearBids G (k))) (gFer (f_X1_clearBids G (k))) (gOff (f_X1_clearBids G (k))) (gIni (f_X1_clearBids G (k))) (gBank (f_X1_clearBids G (k))) ((gSet (f_X1_clearBids G (k))) + 1) ((gBlf (f_X1_clearBids G (k))) + 1)) (((f_X1_winnerOf G (k))).toNatClampNeg) ((imin 5 (f_X1_availableTo (mkG (gSuit (f_X1_clearBids G (k))) (gTide (f_X1_clearBids G (k))) (gP (f_X1_clearBids G (k))) (gMon (f_X1_clearBids G (k))) (gUsed (f_X1_clearBids G (k))) (gS (f_X1_clearBids G (k))) (gLo (f_X1_clearBids G (k))) (gHi (f_X1_clearBids G (k))) (gLen (f_X1_clearBids G (k))) (gBld (f_X1_clearBids G (k))) (gFer (f_X1_clearBids G (k))) (gOff (f_X1_clearBids G (k))) (gIni (f_X1_clearBids G (k))) (gBank (f_X1_clearBids G (k))) ((gSet (f_X1_clearBids G (k))) + 1) ((gBlf (f_X1_clearBids G (k))) + 1)) (((f_X1_winnerOf G (k))).toNatClampNeg)))))) _ _ ls hz  hP hD hS (lv_sub hl [4, 5, 3, 1] rfl)
