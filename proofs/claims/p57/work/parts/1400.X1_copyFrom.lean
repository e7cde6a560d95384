def f_X1_copyFrom (G : GS) (G2 : GS) : GS := (mkG (cpy 8 (gSuit G2) (gSuit G)) (gTide G2) (gP G2) (cpy 4 (gMon G2) (gMon G)) (gUsed G2) (gS G2) (cpyN 12 (gLo G2) (gLo G)) (cpyN 12 (gHi G2) (gHi G)) (cpy 12 (gLen G2) (gLen G)) (cpy 12 (gBld G2) (gBld G)) (cpy 12 (gFer G2) (gFer G)) (cpy 48 (gOff G2) (gOff G)) (gIni G2) (gBank G2) (gSet G2) (gBlf G2))
set_option maxHeartbeats 4000000 in
set_option maxRecDepth 100000 in
theorem c_X1_copyFrom (l : Launch) (D : va_G) (C : Nat → ClassId) (a : Nat → Nat) (G : GS) (b : Nat → Nat) (G2 : GS) (sz : Nat) : Met l yX1_copyFrom wsX1_copyFrom ({ frames := 1, cells := 0, slots := 0, locals := 20 } : Room) (rwP [.ref (a 0), .ref (b 0)] D C (gcells C a G ++ gcells C b G2) sz) (rwO none D (gcells C a ((f_X1_copyFrom G G2)) ++ gcells C b G2) (va_A (gcells C a G ++ gcells C b G2) sz)) 0 0 (va_A (gcells C a G ++ gcells C b G2) sz) := by
  refine Met.ofW (cc := cX1_copyFrom) (maxL := 2) (ret := none) (by decide) rfl ?_
  intro p e s m args below meth c s₁ B hml hv
  obtain ⟨rfl, hsz, hP, hK, hD0, hE⟩ := hv
  have hx := B.exec
  have hb := B.bytes
  have hr := B.returns
  have hts := atoms_spec (ws := wsX1_copyFrom) B.pre
  have hown : s.vm.findClass RX1 = some m.cls := findClass_of_methodNamed B.named
  have hlocks := B.notSynchronized
  subst hsz
  have hD := hD0.self (sz := s.heap.size)
  generalize hAe : va_A (gcells C a G ++ gcells C b G2) s.heap.size = A at hD ⊢
  have hA : ∀ q : Nat, s.heap.size ≤ q → A q := fun q h => by rw [← hAe]; exact Or.inr h
  have hS0 : va_S A s.heap s.heap [] := va_S.rf
  have hP : va_P D vwCl (gcells C a G ++ gcells C b G2) s.heap := hP
  have hS := hS0
  have hinX1 : ∀ w ∈ u_ws RX1 TX1 16, w ∈ wsX1_copyFrom := by decide +kernel
  have hl := lv_entry ([.ref (a 0), .ref (b 0)]) (n := 2) (Nat.le_of_ble_eq_true rfl)
  rw [lg_entry_eq]
  generalize (lg_sl ([.ref (a 0), .ref (b 0)]) ++ List.replicate (2 - (lg_sl ([.ref (a 0), .ref (b 0)])).length) Slot.unset).toArray = ls at hl ⊢
  have hl : lv_has ls 2 [(0, .ref (a 0)), (1, .ref (b 0))] := hl
  obtain ⟨z, hz⟩ : ∃ z, z = f_X1_copyFrom G G2 := ⟨_, rfl⟩
  rw [← hz]
  refine lv_aload_n hx hb dX1_copyFrom_0 rfl (lv_at hl 1 rfl) ?_
  refine va_get (D := D) (ci := 4) (v := .ref (b 1)) (C := RX1) (T := TX1) (N := 16) hx hb hts hinX1 hown hK hP 9 rfl rfl 0 (by decide) (hts (.fieldLink RX1 9 "BridgeAuction$Game" "suits" "[I") (by decide +kernel)) (fun _ h9 => h9) rfl dX1_copyFrom_1 ?_
  refine lv_iconst (v := 0) hx hb dX1_copyFrom_4 (by decide) ?_
  refine lv_aload_n hx hb dX1_copyFrom_5 rfl (lv_at hl 0 rfl) ?_
  refine va_get (D := D) (ci := 4) (v := .ref (a 1)) (C := RX1) (T := TX1) (N := 16) hx hb hts hinX1 hown hK hP 0 rfl rfl 0 (by decide) (hts (.fieldLink RX1 9 "BridgeAuction$Game" "suits" "[I") (by decide +kernel)) (fun _ h9 => h9) rfl dX1_copyFrom_6 ?_
  refine lv_iconst (v := 0) hx hb dX1_copyFrom_9 (by decide) ?_
  refine lv_bipush (v := 8) hx hb dX1_copyFrom_10 (by decide +kernel) ?_
  refine acpI (tys := tyA C) (N := 8) hx hb (hml.trans hl.1.symm) hown (hts (.methodLink RX1 61 arraycopyName) (by decide +kernel)) (hts (.native arraycopyName) (by decide +kernel)) (hts (.static arraycopyName) (by decide +kernel)) (hts (.initialized "java/lang/System") (by decide +kernel)) hK hP hD hS 10 1 rfl rfl rfl (by decide) (by decide) (Nat.le_of_ble_eq_true rfl) (Nat.le_of_ble_eq_true rfl) (Nat.le_of_ble_eq_true rfl) (Nat.le_of_ble_eq_true rfl) dX1_copyFrom_12 (fun H locs hP hD hS => ?_)
  have hP : va_P D vwCl (gcells C a (mkG (cpy 8 (gSuit G2) (gSuit G)) (gTide G) (gP G) (gMon G) (gUsed G) (gS G) (gLo G) (gHi G) (gLen G) (gBld G) (gFer G) (gOff G) (gIni G) (gBank G) (gSet G) (gBlf G)) ++ gcells C b G2) H := hP
  have hD : va_D A (gcells C a (mkG (cpy 8 (gSuit G2) (gSuit G)) (gTide G) (gP G) (gMon G) (gUsed G) (gS G) (gLo G) (gHi G) (gLen G) (gBld G) (gFer G) (gOff G) (gIni G) (gBank G) (gSet G) (gBlf G)) ++ gcells C b G2) := hD
  refine lv_aload_n hx hb dX1_copyFrom_15 rfl (lv_at hl 0 rfl) ?_
  refine lv_aload_n hx hb dX1_copyFrom_16 rfl (lv_at hl 1 rfl) ?_
  refine va_get (D := D) (ci := 4) (v := .int (gTide G2)) (C := RX1) (T := TX1) (N := 16) hx hb hts hinX1 hown hK hP 9 rfl rfl 1 (by decide) (hts (.fieldLink RX1 15 "BridgeAuction$Game" "tideLevel" "I") (by decide +kernel)) (fun _ h9 => h9) rfl dX1_copyFrom_17 ?_
  refine va_put (D := D) (ci := 4) (v := .int (gTide G2)) (ty := .int) (C := RX1) (T := TX1) (N := 16) hx hb hts hinX1 tyX1 tyX1_ok nmX1 hown hK hP hD hS 0 rfl rfl 1 (by decide) (hts (.fieldLink RX1 15 "BridgeAuction$Game" "tideLevel" "I") (by decide +kernel)) (fun _ h9 => h9) rfl (by decide +kernel) rfl rfl (Nat.le_of_ble_eq_true rfl) dX1_copyFrom_20 (fun H locs hP hD hS => ?_)
  have hP : va_P D vwCl (gcells C a (mkG (cpy 8 (gSuit G2) (gSuit G)) (gTide G2) (gP G) (gMon G) (gUsed G) (gS G) (gLo G) (gHi G) (gLen G) (gBld G) (gFer G) (gOff G) (gIni G) (gBank G) (gSet G) (gBlf G)) ++ gcells C b G2) H := hP
  have hD : va_D A (gcells C a (mkG (cpy 8 (gSuit G2) (gSuit G)) (gTide G2) (gP G) (gMon G) (gUsed G) (gS G) (gLo G) (gHi G) (gLen G) (gBld G) (gFer G) (gOff G) (gIni G) (gBank G) (gSet G) (gBlf G)) ++ gcells C b G2) := hD
  refine lv_aload_n hx hb dX1_copyFrom_23 rfl (lv_at hl 0 rfl) ?_
  refine lv_aload_n hx hb dX1_copyFrom_24 rfl (lv_at hl 1 rfl) ?_
  refine va_get (D := D) (ci := 4) (v := .int (nI (gP G2))) (C := RX1) (T := TX1) (N := 16) hx hb hts hinX1 hown hK hP 9 rfl rfl 2 (by decide) (hts (.fieldLink RX1 19 "BridgeAuction$Game" "players" "I") (by decide +kernel)) (fun _ h9 => h9) rfl dX1_copyFrom_25 ?_
  refine va_put (D := D) (ci := 4) (v := .int (nI (gP G2))) (ty := .int) (C := RX1) (T := TX1) (N := 16) hx hb hts hinX1 tyX1 tyX1_ok nmX1 hown hK hP hD hS 0 rfl rfl 2 (by decide) (hts (.fieldLink RX1 19 "BridgeAuction$Game" "players" "I") (by decide +kernel)) (fun _ h9 => h9) rfl (by decide +kernel) rfl rfl (Nat.le_of_ble_eq_true rfl) dX1_copyFrom_28 (fun H locs hP hD hS => ?_)
  have hP : va_P D vwCl (gcells C a (mkG (cpy 8 (gSuit G2) (gSuit G)) (gTide G2) (gP G2) (gMon G) (gUsed G) (gS G) (gLo G) (gHi G) (gLen G) (gBld G) (gFer G) (gOff G) (gIni G) (gBank G) (gSet G) (gBlf G)) ++ gcells C b G2) H := hP
  have hD : va_D A (gcells C a (mkG (cpy 8 (gSuit G2) (gSuit G)) (gTide G2) (gP G2) (gMon G) (gUsed G) (gS G) (gLo G) (gHi G) (gLen G) (gBld G) (gFer G) (gOff G) (gIni G) (gBank G) (gSet G) (gBlf G)) ++ gcells C b G2) := hD
  refine lv_aload_n hx hb dX1_copyFrom_31 rfl (lv_at hl 1 rfl) ?_
  refine va_get (D := D) (ci := 4) (v := .ref (b 2)) (C := RX1) (T := TX1) (N := 16) hx hb hts hinX1 hown hK hP 9 rfl rfl 3 (by decide) (hts (.fieldLink RX1 22 "BridgeAuction$Game" "moneys" "[I") (by decide +kernel)) (fun _ h9 => h9) rfl dX1_copyFrom_32 ?_
  refine lv_iconst (v := 0) hx hb dX1_copyFrom_35 (by decide) ?_
  refine lv_aload_n hx hb dX1_copyFrom_36 rfl (lv_at hl 0 rfl) ?_
  refine va_get (D := D) (ci := 4) (v := .ref (a 2)) (C := RX1) (T := TX1) (N := 16) hx hb hts hinX1 hown hK hP 0 rfl rfl 3 (by decide) (hts (.fieldLink RX1 22 "BridgeAuction$Game" "moneys" "[I") (by decide +kernel)) (fun _ h9 => h9) rfl dX1_copyFrom_37 ?_
  refine lv_iconst (v := 0) hx hb dX1_copyFrom_40 (by decide) ?_
  refine lv_iconst (v := 4) hx hb dX1_copyFrom_41 (by decide) ?_
  refine acpI (tys := tyA C) (N := 4) hx hb (hml.trans hl.1.symm) hown (hts (.methodLink RX1 61 arraycopyName) (by decide +kernel)) (hts (.native arraycopyName) (by decide +kernel)) (hts (.static arraycopyName) (by decide +kernel)) (hts (.initialized "java/lang/System") (by decide +kernel)) hK hP hD hS 11 2 rfl rfl rfl (by decide) (by decide) (Nat.le_of_ble_eq_true rfl) (Nat.le_of_ble_eq_true rfl) (Nat.le_of_ble_eq_true rfl) (Nat.le_of_ble_eq_true rfl) dX1_copyFrom_42 (fun H locs hP hD hS => ?_)
  have hP : va_P D vwCl (gcells C a (mkG (cpy 8 (gSuit G2) (gSuit G)) (gTide G2) (gP G2) (cpy 4 (gMon G2) (gMon G)) (gUsed G) (gS G) (gLo G) (gHi G) (gLen G) (gBld G) (gFer G) (gOff G) (gIni G) (gBank G) (gSet G) (gBlf G)) ++ gcells C b G2) H := hP
  have hD : va_D A (gcells C a (mkG (cpy 8 (gSuit G2) (gSuit G)) (gTide G2) (gP G2) (cpy 4 (gMon G2) (gMon G)) (gUsed G) (gS G) (gLo G) (gHi G) (gLen G) (gBld G) (gFer G) (gOff G) (gIni G) (gBank G) (gSet G) (gBlf G)) ++ gcells C b G2) := hD
  refine lv_aload_n hx hb dX1_copyFrom_45 rfl (lv_at hl 0 rfl) ?_
  refine lv_aload_n hx hb dX1_copyFrom_46 rfl (lv_at hl 1 rfl) ?_
  refine va_get (D := D) (ci := 4) (v := .int (gUsed G2)) (C := RX1) (T := TX1) (N := 16) hx hb hts hinX1 hown hK hP 9 rfl rfl 4 (by decide) (hts (.fieldLink RX1 25 "BridgeAuction$Game" "usedFerries" "I") (by decide +kernel)) (fun _ h9 => h9) rfl dX1_copyFrom_47 ?_
  refine va_put (D := D) (ci := 4) (v := .int (gUsed G2)) (ty := .int) (C := RX1) (T := TX1) (N := 16) hx hb hts hinX1 tyX1 tyX1_ok nmX1 hown hK hP hD hS 0 rfl rfl 4 (by decide) (hts (.fieldLink RX1 25 "BridgeAuction$Game" "usedFerries" "I") (by decide +kernel)) (fun _ h9 => h9) rfl (by decide +kernel) rfl rfl (Nat.le_of_ble_eq_true rfl) dX1_copyFrom_50 (fun H locs hP hD hS => ?_)
  have hP : va_P D vwCl (gcells C a (mkG (cpy 8 (gSuit G2) (gSuit G)) (gTide G2) (gP G2) (cpy 4 (gMon G2) (gMon G)) (gUsed G2) (gS G) (gLo G) (gHi G) (gLen G) (gBld G) (gFer G) (gOff G) (gIni G) (gBank G) (gSet G) (gBlf G)) ++ gcells C b G2) H := hP
  have hD : va_D A (gcells C a (mkG (cpy 8 (gSuit G2) (gSuit G)) (gTide G2) (gP G2) (cpy 4 (gMon G2) (gMon G)) (gUsed G2) (gS G) (gLo G) (gHi G) (gLen G) (gBld G) (gFer G) (gOff G) (gIni G) (gBank G) (gSet G) (gBlf G)) ++ gcells C b G2) := hD
  refine lv_aload_n hx hb dX1_copyFrom_53 rfl (lv_at hl 0 rfl) ?_
  refine lv_aload_n hx hb dX1_copyFrom_54 rfl (lv_at hl 1 rfl) ?_
  refine va_get (D := D) (ci := 4) (v := .int (nI (gS G2))) (C := RX1) (T := TX1) (N := 16) hx hb hts hinX1 hown hK hP 9 rfl rfl 5 (by decide) (hts (.fieldLink RX1 28 "BridgeAuction$Game" "sites" "I") (by decide +kernel)) (fun _ h9 => h9) rfl dX1_copyFrom_55 ?_
  refine va_put (D := D) (ci := 4) (v := .int (nI (gS G2))) (ty := .int) (C := RX1) (T := TX1) (N := 16) hx hb hts hinX1 tyX1 tyX1_ok nmX1 hown hK hP hD hS 0 rfl rfl 5 (by decide) (hts (.fieldLink RX1 28 "BridgeAuction$Game" "sites" "I") (by decide +kernel)) (fun _ h9 => h9) rfl (by decide +kernel) rfl rfl (Nat.le_of_ble_eq_true rfl) dX1_copyFrom_58 (fun H locs hP hD hS => ?_)
  have hP : va_P D vwCl (gcells C a (mkG (cpy 8 (gSuit G2) (gSuit G)) (gTide G2) (gP G2) (cpy 4 (gMon G2) (gMon G)) (gUsed G2) (gS G2) (gLo G) (gHi G) (gLen G) (gBld G) (gFer G) (gOff G) (gIni G) (gBank G) (gSet G) (gBlf G)) ++ gcells C b G2) H := hP
  have hD : va_D A (gcells C a (mkG (cpy 8 (gSuit G2) (gSuit G)) (gTide G2) (gP G2) (cpy 4 (gMon G2) (gMon G)) (gUsed G2) (gS G2) (gLo G) (gHi G) (gLen G) (gBld G) (gFer G) (gOff G) (gIni G) (gBank G) (gSet G) (gBlf G)) ++ gcells C b G2) := hD
  refine lv_aload_n hx hb dX1_copyFrom_61 rfl (lv_at hl 1 rfl) ?_
  refine va_get (D := D) (ci := 4) (v := .ref (b 3)) (C := RX1) (T := TX1) (N := 16) hx hb hts hinX1 hown hK hP 9 rfl rfl 6 (by decide) (hts (.fieldLink RX1 31 "BridgeAuction$Game" "lowers" "[I") (by decide +kernel)) (fun _ h9 => h9) rfl dX1_copyFrom_62 ?_
  refine lv_iconst (v := 0) hx hb dX1_copyFrom_65 (by decide) ?_
  refine lv_aload_n hx hb dX1_copyFrom_66 rfl (lv_at hl 0 rfl) ?_
  refine va_get (D := D) (ci := 4) (v := .ref (a 3)) (C := RX1) (T := TX1) (N := 16) hx hb hts hinX1 hown hK hP 0 rfl rfl 6 (by decide) (hts (.fieldLink RX1 31 "BridgeAuction$Game" "lowers" "[I") (by decide +kernel)) (fun _ h9 => h9) rfl dX1_copyFrom_67 ?_
  refine lv_iconst (v := 0) hx hb dX1_copyFrom_70 (by decide) ?_
  refine lv_bipush (v := 12) hx hb dX1_copyFrom_71 (by decide +kernel) ?_
  refine acpN (tys := tyA C) (N := 12) hx hb (hml.trans hl.1.symm) hown (hts (.methodLink RX1 61 arraycopyName) (by decide +kernel)) (hts (.native arraycopyName) (by decide +kernel)) (hts (.static arraycopyName) (by decide +kernel)) (hts (.initialized "java/lang/System") (by decide +kernel)) hK hP hD hS 12 3 rfl rfl rfl (by decide) (by decide) (Nat.le_of_ble_eq_true rfl) (Nat.le_of_ble_eq_true rfl) (Nat.le_of_ble_eq_true rfl) (Nat.le_of_ble_eq_true rfl) dX1_copyFrom_73 (fun H locs hP hD hS => ?_)
  have hP : va_P D vwCl (gcells C a (mkG (cpy 8 (gSuit G2) (gSuit G)) (gTide G2) (gP G2) (cpy 4 (gMon G2) (gMon G)) (gUsed G2) (gS G2) (cpyN 12 (gLo G2) (gLo G)) (gHi G) (gLen G) (gBld G) (gFer G) (gOff G) (gIni G) (gBank G) (gSet G) (gBlf G)) ++ gcells C b G2) H := hP
  have hD : va_D A (gcells C a (mkG (cpy 8 (gSuit G2) (gSuit G)) (gTide G2) (gP G2) (cpy 4 (gMon G2) (gMon G)) (gUsed G2) (gS G2) (cpyN 12 (gLo G2) (gLo G)) (gHi G) (gLen G) (gBld G) (gFer G) (gOff G) (gIni G) (gBank G) (gSet G) (gBlf G)) ++ gcells C b G2) := hD
  refine lv_aload_n hx hb dX1_copyFrom_76 rfl (lv_at hl 1 rfl) ?_
  refine va_get (D := D) (ci := 4) (v := .ref (b 4)) (C := RX1) (T := TX1) (N := 16) hx hb hts hinX1 hown hK hP 9 rfl rfl 7 (by decide) (hts (.fieldLink RX1 34 "BridgeAuction$Game" "highers" "[I") (by decide +kernel)) (fun _ h9 => h9) rfl dX1_copyFrom_77 ?_
  refine lv_iconst (v := 0) hx hb dX1_copyFrom_80 (by decide) ?_
  refine lv_aload_n hx hb dX1_copyFrom_81 rfl (lv_at hl 0 rfl) ?_
  refine va_get (D := D) (ci := 4) (v := .ref (a 4)) (C := RX1) (T := TX1) (N := 16) hx hb hts hinX1 hown hK hP 0 rfl rfl 7 (by decide) (hts (.fieldLink RX1 34 "BridgeAuction$Game" "highers" "[I") (by decide +kernel)) (fun _ h9 => h9) rfl dX1_copyFrom_82 ?_
  refine lv_iconst (v := 0) hx hb dX1_copyFrom_85 (by decide) ?_
  refine lv_bipush (v := 12) hx hb dX1_copyFrom_86 (by decide +kernel) ?_
  refine acpN (tys := tyA C) (N := 12) hx hb (hml.trans hl.1.symm) hown (hts (.methodLink RX1 61 arraycopyName) (by decide +kernel)) (hts (.native arraycopyName) (by decide +kernel)) (hts (.static arraycopyName) (by decide +kernel)) (hts (.initialized "java/lang/System") (by decide +kernel)) hK hP hD hS 13 4 rfl rfl rfl (by decide) (by decide) (Nat.le_of_ble_eq_true rfl) (Nat.le_of_ble_eq_true rfl) (Nat.le_of_ble_eq_true rfl) (Nat.le_of_ble_eq_true rfl) dX1_copyFrom_88 (fun H locs hP hD hS => ?_)
  have hP : va_P D vwCl (gcells C a (mkG (cpy 8 (gSuit G2) (gSuit G)) (gTide G2) (gP G2) (cpy 4 (gMon G2) (gMon G)) (gUsed G2) (gS G2) (cpyN 12 (gLo G2) (gLo G)) (cpyN 12 (gHi G2) (gHi G)) (gLen G) (gBld G) (gFer G) (gOff G) (gIni G) (gBank G) (gSet G) (gBlf G)) ++ gcells C b G2) H := hP
  have hD : va_D A (gcells C a (mkG (cpy 8 (gSuit G2) (gSuit G)) (gTide G2) (gP G2) (cpy 4 (gMon G2) (gMon G)) (gUsed G2) (gS G2) (cpyN 12 (gLo G2) (gLo G)) (cpyN 12 (gHi G2) (gHi G)) (gLen G) (gBld G) (gFer G) (gOff G) (gIni G) (gBank G) (gSet G) (gBlf G)) ++ gcells C b G2) := hD
  refine lv_aload_n hx hb dX1_copyFrom_91 rfl (lv_at hl 1 rfl) ?_
  refine va_get (D := D) (ci := 4) (v := .ref (b 5)) (C := RX1) (T := TX1) (N := 16) hx hb hts hinX1 hown hK hP 9 rfl rfl 8 (by decide) (hts (.fieldLink RX1 37 "BridgeAuction$Game" "lengths" "[I") (by decide +kernel)) (fun _ h9 => h9) rfl dX1_copyFrom_92 ?_
  refine lv_iconst (v := 0) hx hb dX1_copyFrom_95 (by decide) ?_
  refine lv_aload_n hx hb dX1_copyFrom_96 rfl (lv_at hl 0 rfl) ?_
  refine va_get (D := D) (ci := 4) (v := .ref (a 5)) (C := RX1) (T := TX1) (N := 16) hx hb hts hinX1 hown hK hP 0 rfl rfl 8 (by decide) (hts (.fieldLink RX1 37 "BridgeAuction$Game" "lengths" "[I") (by decide +kernel)) (fun _ h9 => h9) rfl dX1_copyFrom_97 ?_
  refine lv_iconst (v := 0) hx hb dX1_copyFrom_100 (by decide) ?_
  refine lv_bipush (v := 12) hx hb dX1_copyFrom_101 (by decide +kernel) ?_
  refine acpI (tys := tyA C) (N := 12) hx hb (hml.trans hl.1.symm) hown (hts (.methodLink RX1 61 arraycopyName) (by decide +kernel)) (hts (.native arraycopyName) (by decide +kernel)) (hts (.static arraycopyName) (by decide +kernel)) (hts (.initialized "java/lang/System") (by decide +kernel)) hK hP hD hS 14 5 rfl rfl rfl (by decide) (by decide) (Nat.le_of_ble_eq_true rfl) (Nat.le_of_ble_eq_true rfl) (Nat.le_of_ble_eq_true rfl) (Nat.le_of_ble_eq_true rfl) dX1_copyFrom_103 (fun H locs hP hD hS => ?_)
  have hP : va_P D vwCl (gcells C a (mkG (cpy 8 (gSuit G2) (gSuit G)) (gTide G2) (gP G2) (cpy 4 (gMon G2) (gMon G)) (gUsed G2) (gS G2) (cpyN 12 (gLo G2) (gLo G)) (cpyN 12 (gHi G2) (gHi G)) (cpy 12 (gLen G2) (gLen G)) (gBld G) (gFer G) (gOff G) (gIni G) (gBank G) (gSet G) (gBlf G)) ++ gcells C b G2) H := hP
  have hD : va_D A (gcells C a (mkG (cpy 8 (gSuit G2) (gSuit G)) (gTide G2) (gP G2) (cpy 4 (gMon G2) (gMon G)) (gUsed G2) (gS G2) (cpyN 12 (gLo G2) (gLo G)) (cpyN 12 (gHi G2) (gHi G)) (cpy 12 (gLen G2) (gLen G)) (gBld G) (gFer G) (gOff G) (gIni G) (gBank G) (gSet G) (gBlf G)) ++ gcells C b G2) := hD
  refine lv_aload_n hx hb dX1_copyFrom_106 rfl (lv_at hl 1 rfl) ?_
  refine va_get (D := D) (ci := 4) (v := .ref (b 6)) (C := RX1) (T := TX1) (N := 16) hx hb hts hinX1 hown hK hP 9 rfl rfl 9 (by decide) (hts (.fieldLink RX1 40 "BridgeAuction$Game" "builders" "[I") (by decide +kernel)) (fun _ h9 => h9) rfl dX1_copyFrom_107 ?_
  refine lv_iconst (v := 0) hx hb dX1_copyFrom_110 (by decide) ?_
  refine lv_aload_n hx hb dX1_copyFrom_111 rfl (lv_at hl 0 rfl) ?_
  refine va_get (D := D) (ci := 4) (v := .ref (a 6)) (C := RX1) (T := TX1) (N := 16) hx hb hts hinX1 hown hK hP 0 rfl rfl 9 (by decide) (hts (.fieldLink RX1 40 "BridgeAuction$Game" "builders" "[I") (by decide +kernel)) (fun _ h9 => h9) rfl dX1_copyFrom_112 ?_
  refine lv_iconst (v := 0) hx hb dX1_copyFrom_115 (by decide) ?_
  refine lv_bipush (v := 12) hx hb dX1_copyFrom_116 (by decide +kernel) ?_
  refine acpI (tys := tyA C) (N := 12) hx hb (hml.trans hl.1.symm) hown (hts (.methodLink RX1 61 arraycopyName) (by decide +kernel)) (hts (.native arraycopyName) (by decide +kernel)) (hts (.static arraycopyName) (by decide +kernel)) (hts (.initialized "java/lang/System") (by decide +kernel)) hK hP hD hS 15 6 rfl rfl rfl (by decide) (by decide) (Nat.le_of_ble_eq_true rfl) (Nat.le_of_ble_eq_true rfl) (Nat.le_of_ble_eq_true rfl) (Nat.le_of_ble_eq_true rfl) dX1_copyFrom_118 (fun H locs hP hD hS => ?_)
  have hP : va_P D vwCl (gcells C a (mkG (cpy 8 (gSuit G2) (gSuit G)) (gTide G2) (gP G2) (cpy 4 (gMon G2) (gMon G)) (gUsed G2) (gS G2) (cpyN 12 (gLo G2) (gLo G)) (cpyN 12 (gHi G2) (gHi G)) (cpy 12 (gLen G2) (gLen G)) (cpy 12 (gBld G2) (gBld G)) (gFer G) (gOff G) (gIni G) (gBank G) (gSet G) (gBlf G)) ++ gcells C b G2) H := hP
  have hD : va_D A (gcells C a (mkG (cpy 8 (gSuit G2) (gSuit G)) (gTide G2) (gP G2) (cpy 4 (gMon G2) (gMon G)) (gUsed G2) (gS G2) (cpyN 12 (gLo G2) (gLo G)) (cpyN 12 (gHi G2) (gHi G)) (cpy 12 (gLen G2) (gLen G)) (cpy 12 (gBld G2) (gBld G)) (gFer G) (gOff G) (gIni G) (gBank G) (gSet G) (gBlf G)) ++ gcells C b G2) := hD
  refine lv_aload_n hx hb dX1_copyFrom_121 rfl (lv_at hl 1 rfl) ?_
  refine va_get (D := D) (ci := 4) (v := .ref (b 7)) (C := RX1) (T := TX1) (N := 16) hx hb hts hinX1 hown hK hP 9 rfl rfl 10 (by decide) (hts (.fieldLink RX1 43 "BridgeAuction$Game" "ferries" "[I") (by decide +kernel)) (fun _ h9 => h9) rfl dX1_copyFrom_122 ?_
  refine lv_iconst (v := 0) hx hb dX1_copyFrom_125 (by decide) ?_
  refine lv_aload_n hx hb dX1_copyFrom_126 rfl (lv_at hl 0 rfl) ?_
  refine va_get (D := D) (ci := 4) (v := .ref (a 7)) (C := RX1) (T := TX1) (N := 16) hx hb hts hinX1 hown hK hP 0 rfl rfl 10 (by decide) (hts (.fieldLink RX1 43 "BridgeAuction$Game" "ferries" "[I") (by decide +kernel)) (fun _ h9 => h9) rfl dX1_copyFrom_127 ?_
  refine lv_iconst (v := 0) hx hb dX1_copyFrom_130 (by decide) ?_
  refine lv_bipush (v := 12) hx hb dX1_copyFrom_131 (by decide +kernel) ?_
  refine acpI (tys := tyA C) (N := 12) hx hb (hml.trans hl.1.symm) hown (hts (.methodLink RX1 61 arraycopyName) (by decide +kernel)) (hts (.native arraycopyName) (by decide +kernel)) (hts (.static arraycopyName) (by decide +kernel)) (hts (.initialized "java/lang/System") (by decide +kernel)) hK hP hD hS 16 7 rfl rfl rfl (by decide) (by decide) (Nat.le_of_ble_eq_true rfl) (Nat.le_of_ble_eq_true rfl) (Nat.le_of_ble_eq_true rfl) (Nat.le_of_ble_eq_true rfl) dX1_copyFrom_133 (fun H locs hP hD hS => ?_)
  have hP : va_P D vwCl (gcells C a (mkG (cpy 8 (gSuit G2) (gSuit G)) (gTide G2) (gP G2) (cpy 4 (gMon G2) (gMon G)) (gUsed G2) (gS G2) (cpyN 12 (gLo G2) (gLo G)) (cpyN 12 (gHi G2) (gHi G)) (cpy 12 (gLen G2) (gLen G)) (cpy 12 (gBld G2) (gBld G)) (cpy 12 (gFer G2) (gFer G)) (gOff G) (gIni G) (gBank G) (gSet G) (gBlf G)) ++ gcells C b G2) H := hP
  have hD : va_D A (gcells C a (mkG (cpy 8 (gSuit G2) (gSuit G)) (gTide G2) (gP G2) (cpy 4 (gMon G2) (gMon G)) (gUsed G2) (gS G2) (cpyN 12 (gLo G2) (gLo G)) (cpyN 12 (gHi G2) (gHi G)) (cpy 12 (gLen G2) (gLen G)) (cpy 12 (gBld G2) (gBld G)) (cpy 12 (gFer G2) (gFer G)) (gOff G) (gIni G) (gBank G) (gSet G) (gBlf G)) ++ gcells C b G2) := hD
  refine lv_aload_n hx hb dX1_copyFrom_136 rfl (lv_at hl 1 rfl) ?_
  refine va_get (D := D) (ci := 4) (v := .ref (b 8)) (C := RX1) (T := TX1) (N := 16) hx hb hts hinX1 hown hK hP 9 rfl rfl 11 (by decide) (hts (.fieldLink RX1 46 "BridgeAuction$Game" "offers" "[I") (by decide +kernel)) (fun _ h9 => h9) rfl dX1_copyFrom_137 ?_
  refine lv_iconst (v := 0) hx hb dX1_copyFrom_140 (by decide) ?_
  refine lv_aload_n hx hb dX1_copyFrom_141 rfl (lv_at hl 0 rfl) ?_
  refine va_get (D := D) (ci := 4) (v := .ref (a 8)) (C := RX1) (T := TX1) (N := 16) hx hb hts hinX1 hown hK hP 0 rfl rfl 11 (by decide) (hts (.fieldLink RX1 46 "BridgeAuction$Game" "offers" "[I") (by decide +kernel)) (fun _ h9 => h9) rfl dX1_copyFrom_142 ?_
  refine lv_iconst (v := 0) hx hb dX1_copyFrom_145 (by decide) ?_
  refine lv_bipush (v := 48) hx hb dX1_copyFrom_146 (by decide +kernel) ?_
  refine acpI (tys := tyA C) (N := 48) hx hb (hml.trans hl.1.symm) hown (hts (.methodLink RX1 61 arraycopyName) (by decide +kernel)) (hts (.native arraycopyName) (by decide +kernel)) (hts (.static arraycopyName) (by decide +kernel)) (hts (.initialized "java/lang/System") (by decide +kernel)) hK hP hD hS 17 8 rfl rfl rfl (by decide) (by decide) (Nat.le_of_ble_eq_true rfl) (Nat.le_of_ble_eq_true rfl) (Nat.le_of_ble_eq_true rfl) (Nat.le_of_ble_eq_true rfl) dX1_copyFrom_148 (fun H locs hP hD hS => ?_)
  have hP : va_P D vwCl (gcells C a (mkG (cpy 8 (gSuit G2) (gSuit G)) (gTide G2) (gP G2) (cpy 4 (gMon G2) (gMon G)) (gUsed G2) (gS G2) (cpyN 12 (gLo G2) (gLo G)) (cpyN 12 (gHi G2) (gHi G)) (cpy 12 (gLen G2) (gLen G)) (cpy 12 (gBld G2) (gBld G)) (cpy 12 (gFer G2) (gFer G)) (cpy 48 (gOff G2) (gOff G)) (gIni G) (gBank G) (gSet G) (gBlf G)) ++ gcells C b G2) H := hP
  have hD : va_D A (gcells C a (mkG (cpy 8 (gSuit G2) (gSuit G)) (gTide G2) (gP G2) (cpy 4 (gMon G2) (gMon G)) (gUsed G2) (gS G2) (cpyN 12 (gLo G2) (gLo G)) (cpyN 12 (gHi G2) (gHi G)) (cpy 12 (gLen G2) (gLen G)) (cpy 12 (gBld G2) (gBld G)) (cpy 12 (gFer G2) (gFer G)) (cpy 48 (gOff G2) (gOff G)) (gIni G) (gBank G) (gSet G) (gBlf G)) ++ gcells C b G2) := hD
  refine lv_aload_n hx hb dX1_copyFrom_151 rfl (lv_at hl 0 rfl) ?_
  refine lv_aload_n hx hb dX1_copyFrom_152 rfl (lv_at hl 1 rfl) ?_
  refine va_get (D := D) (ci := 4) (v := .int (gIni G2)) (C := RX1) (T := TX1) (N := 16) hx hb hts hinX1 hown hK hP 9 rfl rfl 12 (by decide) (hts (.fieldLink RX1 49 "BridgeAuction$Game" "initialMoney" "I") (by decide +kernel)) (fun _ h9 => h9) rfl dX1_copyFrom_153 ?_
  refine va_put (D := D) (ci := 4) (v := .int (gIni G2)) (ty := .int) (C := RX1) (T := TX1) (N := 16) hx hb hts hinX1 tyX1 tyX1_ok nmX1 hown hK hP hD hS 0 rfl rfl 12 (by decide) (hts (.fieldLink RX1 49 "BridgeAuction$Game" "initialMoney" "I") (by decide +kernel)) (fun _ h9 => h9) rfl (by decide +kernel) rfl rfl (Nat.le_of_ble_eq_true rfl) dX1_copyFrom_156 (fun H locs hP hD hS => ?_)
  have hP : va_P D vwCl (gcells C a (mkG (cpy 8 (gSuit G2) (gSuit G)) (gTide G2) (gP G2) (cpy 4 (gMon G2) (gMon G)) (gUsed G2) (gS G2) (cpyN 12 (gLo G2) (gLo G)) (cpyN 12 (gHi G2) (gHi G)) (cpy 12 (gLen G2) (gLen G)) (cpy 12 (gBld G2) (gBld G)) (cpy 12 (gFer G2) (gFer G)) (cpy 48 (gOff G2) (gOff G)) (gIni G2) (gBank G) (gSet G) (gBlf G)) ++ gcells C b G2) H := hP
  have hD : va_D A (gcells C a (mkG (cpy 8 (gSuit G2) (gSuit G)) (gTide G2) (gP G2) (cpy 4 (gMon G2) (gMon G)) (gUsed G2) (gS G2) (cpyN 12 (gLo G2) (gLo G)) (cpyN 12 (gHi G2) (gHi G)) (cpy 12 (gLen G2) (gLen G)) (cpy 12 (gBld G2) (gBld G)) (cpy 12 (gFer G2) (gFer G)) (cpy 48 (gOff G2) (gOff G)) (gIni G2) (gBank G) (gSet G) (gBlf G)) ++ gcells C b G2) := hD
  refine lv_aload_n hx hb dX1_copyFrom_159 rfl (lv_at hl 0 rfl) ?_
  refine lv_aload_n hx hb dX1_copyFrom_160 rfl (lv_at hl 1 rfl) ?_
  refine va_get (D := D) (ci := 4) (v := .int (gBank G2)) (C := RX1) (T := TX1) (N := 16) hx hb hts hinX1 hown hK hP 9 rfl rfl 13 (by decide) (hts (.fieldLink RX1 52 "BridgeAuction$Game" "bank" "I") (by decide +kernel)) (fun _ h9 => h9) rfl dX1_copyFrom_161 ?_
  refine va_put (D := D) (ci := 4) (v := .int (gBank G2)) (ty := .int) (C := RX1) (T := TX1) (N := 16) hx hb hts hinX1 tyX1 tyX1_ok nmX1 hown hK hP hD hS 0 rfl rfl 13 (by decide) (hts (.fieldLink RX1 52 "BridgeAuction$Game" "bank" "I") (by decide +kernel)) (fun _ h9 => h9) rfl (by decide +kernel) rfl rfl (Nat.le_of_ble_eq_true rfl) dX1_copyFrom_164 (fun H locs hP hD hS => ?_)
  have hP : va_P D vwCl (gcells C a (mkG (cpy 8 (gSuit G2) (gSuit G)) (gTide G2) (gP G2) (cpy 4 (gMon G2) (gMon G)) (gUsed G2) (gS G2) (cpyN 12 (gLo G2) (gLo G)) (cpyN 12 (gHi G2) (gHi G)) (cpy 12 (gLen G2) (gLen G)) (cpy 12 (gBld G2) (gBld G)) (cpy 12 (gFer G2) (gFer G)) (cpy 48 (gOff G2) (gOff G)) (gIni G2) (gBank G2) (gSet G) (gBlf G)) ++ gcells C b G2) H := hP
  have hD : va_D A (gcells C a (mkG (cpy 8 (gSuit G2) (gSuit G)) (gTide G2) (gP G2) (cpy 4 (gMon G2) (gMon G)) (gUsed G2) (gS G2) (cpyN 12 (gLo G2) (gLo G)) (cpyN 12 (gHi G2) (gHi G)) (cpy 12 (gLen G2) (gLen G)) (cpy 12 (gBld G2) (gBld G)) (cpy 12 (gFer G2) (gFer G)) (cpy 48 (gOff G2) (gOff G)) (gIni G2) (gBank G2) (gSet G) (gBlf G)) ++ gcells C b G2) := hD
  refine lv_aload_n hx hb dX1_copyFrom_167 rfl (lv_at hl 0 rfl) ?_
  refine lv_aload_n hx hb dX1_copyFrom_168 rfl (lv_at hl 1 rfl) ?_
  refine va_get (D := D) (ci := 4) (v := .int (gSet G2)) (C := RX1) (T := TX1) (N := 16) hx hb hts hinX1 hown hK hP 9 rfl rfl 14 (by decide) (hts (.fieldLink RX1 55 "BridgeAuction$Game" "settlings" "I") (by decide +kernel)) (fun _ h9 => h9) rfl dX1_copyFrom_169 ?_
  refine va_put (D := D) (ci := 4) (v := .int (gSet G2)) (ty := .int) (C := RX1) (T := TX1) (N := 16) hx hb hts hinX1 tyX1 tyX1_ok nmX1 hown hK hP hD hS 0 rfl rfl 14 (by decide) (hts (.fieldLink RX1 55 "BridgeAuction$Game" "settlings" "I") (by decide +kernel)) (fun _ h9 => h9) rfl (by decide +kernel) rfl rfl (Nat.le_of_ble_eq_true rfl) dX1_copyFrom_172 (fun H locs hP hD hS => ?_)
  have hP : va_P D vwCl (gcells C a (mkG (cpy 8 (gSuit G2) (gSuit G)) (gTide G2) (gP G2) (cpy 4 (gMon G2) (gMon G)) (gUsed G2) (gS G2) (cpyN 12 (gLo G2) (gLo G)) (cpyN 12 (gHi G2) (gHi G)) (cpy 12 (gLen G2) (gLen G)) (cpy 12 (gBld G2) (gBld G)) (cpy 12 (gFer G2) (gFer G)) (cpy 48 (gOff G2) (gOff G)) (gIni G2) (gBank G2) (gSet G2) (gBlf G)) ++ gcells C b G2) H := hP
  have hD : va_D A (gcells C a (mkG (cpy 8 (gSuit G2) (gSuit G)) (gTide G2) (gP G2) (cpy 4 (gMon G2) (gMon G)) (gUsed G2) (gS G2) (cpyN 12 (gLo G2) (gLo G)) (cpyN 12 (gHi G2) (gHi G)) (cpy 12 (gLen G2) (gLen G)) (cpy 12 (gBld G2) (gBld G)) (cpy 12 (gFer G2) (gFer G)) (cpy 48 (gOff G2) (gOff G)) (gIni G2) (gBank G2) (gSet G2) (gBlf G)) ++ gcells C b G2) := hD
  refine lv_aload_n hx hb dX1_copyFrom_175 rfl (lv_at hl 0 rfl) ?_
  refine lv_aload_n hx hb dX1_copyFrom_176 rfl (lv_at hl 1 rfl) ?_
  refine va_get (D := D) (ci := 4) (v := .int (gBlf G2)) (C := RX1) (T := TX1) (N := 16) hx hb hts hinX1 hown hK hP 9 rfl rfl 15 (by decide) (hts (.fieldLink RX1 58 "BridgeAuction$Game" "wonBluffs" "I") (by decide +kernel)) (fun _ h9 => h9) rfl dX1_copyFrom_177 ?_
  refine va_put (D := D) (ci := 4) (v := .int (gBlf G2)) (ty := .int) (C := RX1) (T := TX1) (N := 16) hx hb hts hinX1 tyX1 tyX1_ok nmX1 hown hK hP hD hS 0 rfl rfl 15 (by decide) (hts (.fieldLink RX1 58 "BridgeAuction$Game" "wonBluffs" "I") (by decide +kernel)) (fun _ h9 => h9) rfl (by decide +kernel) rfl rfl (Nat.le_of_ble_eq_true rfl) dX1_copyFrom_180 (fun H locs hP hD hS => ?_)
  have hP : va_P D vwCl (gcells C a (mkG (cpy 8 (gSuit G2) (gSuit G)) (gTide G2) (gP G2) (cpy 4 (gMon G2) (gMon G)) (gUsed G2) (gS G2) (cpyN 12 (gLo G2) (gLo G)) (cpyN 12 (gHi G2) (gHi G)) (cpy 12 (gLen G2) (gLen G)) (cpy 12 (gBld G2) (gBld G)) (cpy 12 (gFer G2) (gFer G)) (cpy 48 (gOff G2) (gOff G)) (gIni G2) (gBank G2) (gSet G2) (gBlf G2)) ++ gcells C b G2) H := hP
  have hD : va_D A (gcells C a (mkG (cpy 8 (gSuit G2) (gSuit G)) (gTide G2) (gP G2) (cpy 4 (gMon G2) (gMon G)) (gUsed G2) (gS G2) (cpyN 12 (gLo G2) (gLo G)) (cpyN 12 (gHi G2) (gHi G)) (cpy 12 (gLen G2) (gLen G)) (cpy 12 (gBld G2) (gBld G)) (cpy 12 (gFer G2) (gFer G)) (cpy 48 (gOff G2) (gOff G)) (gIni G2) (gBank G2) (gSet G2) (gBlf G2)) ++ gcells C b G2) := hD
  have hz : z = (mkG (cpy 8 (gSuit G2) (gSuit G)) (gTide G2) (gP G2) (cpy 4 (gMon G2) (gMon G)) (gUsed G2) (gS G2) (cpyN 12 (gLo G2) (gLo G)) (cpyN 12 (gHi G2) (gHi G)) (cpy 12 (gLen G2) (gLen G)) (cpy 12 (gBld G2) (gBld G)) (cpy 12 (gFer G2) (gFer G)) (cpy 48 (gOff G2) (gOff G)) (gIni G2) (gBank G2) (gSet G2) (gBlf G2)) := hz
  rw [hz]
  exact rw_retV hx hb hr hP hS dX1_copyFrom_183 hlocks

