abbrev bX4 : List Value := [.null, .int 0, .int 0, .null, .null]
theorem cls_char {D : va_G} {tys : List (ClassId × FieldType)} {U : State} {i j : Nat} {x y : ClassId} (hK : va_K D vwCl tys U) (hi : tys[i]? = some (x, .char)) (hj : tys[j]? = some (y, .char)) : x = y := by
  have h1 : U.vm.findClass ("[" ++ (FieldType.char).toString) = some x := (hK.2 i _ hi).2
  have h2 : U.vm.findClass ("[" ++ (FieldType.char).toString) = some y := (hK.2 j _ hj).2
  exact Option.some.inj (h1.symm.trans h2)
def S0 : SS := mkS (fun _ => 0) 0 0 0 (fun _ => 0)
set_option maxHeartbeats 4000000 in
set_option maxRecDepth 100000 in
theorem c_X4_init (l : Launch) (D : va_G) (C : Nat → ClassId) (ev : Nat → Nat) (a0 : Nat) (sz : Nat) : Met l yX4_init wsX4_init ({ frames := 1, cells := 2, slots := 63, locals := 40 } : Room) (rwPE [.ref a0] D C ev [(a0, .inr (7, bX4))] sz) (eO (fun _ : Nat → Nat => none) D (fun a => a 0 = a0) (fun a => scells C ev a S0) (va_A [(a0, .inr (7, bX4))] sz)) 2 63 (va_A [(a0, .inr (7, bX4))] sz) := by
  refine Met.ofW (cc := cX4_init) (maxL := 1) (ret := none) (by decide) rfl ?_
  intro p e s m args below meth c s₁ B hml hv
  obtain ⟨rfl, hsz, hP, hK, hD0, hE, hR9, hX⟩ := hv
  have hx := B.exec
  have hb := B.bytes
  have hr := B.returns
  have hts := atoms_spec (ws := wsX4_init) B.pre
  have hown : s.vm.findClass RX4 = some m.cls := findClass_of_methodNamed B.named
  have hin2 : meth.name = "<init>" := (name_of_methodNamed B.named B.method).1
  have hlocks := B.notSynchronized
  subst hsz
  have hD := hD0.self (sz := s.heap.size)
  generalize hAe : va_A [(a0, .inr (7, bX4))] s.heap.size = A at hD hX ⊢
  have hA : ∀ q : Nat, s.heap.size ≤ q → A q := fun q h => by rw [← hAe]; exact Or.inr h
  have hS : va_S A s.heap s.heap [] := va_S.rf
  have hinX : ∀ w ∈ u_ws RX4 TX4 5, w ∈ wsX4_init := by decide +kernel
  have hl := lv_entry ([.ref a0]) (n := 1) (Nat.le_of_ble_eq_true rfl)
  rw [lg_entry_eq]
  generalize (lg_sl ([.ref a0]) ++ List.replicate (1 - (lg_sl ([.ref a0])).length) Slot.unset).toArray = ls at hl ⊢
  have hl : lv_has ls 1 [(0, .ref a0)] := hl
  have hP : va_P D vwCl [(a0, .inr (7, [.null, .int 0, .int 0, .null, .null]))] s.heap := hP
  have hD : va_D A [(a0, .inr (7, [.null, .int 0, .int 0, .null, .null]))] := hD
  refine lv_aload_n hx hb dX4_init_0 rfl (lv_at hl 0 rfl) ?_
  refine W.objInit hx hb hown (hts (.methodLink RX4 3 objectInit) (by decide +kernel)) (hts (.instanceMethod objectInit) (by decide +kernel)) (hts (.code objectInit ⟨#[0xb1]⟩ 1 none) (by decide +kernel)) rfl (hl.1.trans hml.symm) rfl dX4_init_1 (Nat.le_of_ble_eq_true rfl) (Nat.le_of_ble_eq_true rfl) ?_
  refine lv_aload_n hx hb dX4_init_4 rfl (lv_at hl 0 rfl) ?_
  refine lv_bipush (v := 60) hx hb dX4_init_5 (by decide) ?_
  refine va_newa (atype := .char) (ty := .char) (N' := 60) (a0 := (60, .inl (fun _ => 0))) hx hb (hts (.arrayClass .char) (by decide +kernel)) rfl hK hP hD hS hA (fun _ => rfl) (by decide) (by decide) (by decide) (Nat.le_of_ble_eq_true rfl) (Nat.le_of_ble_eq_true rfl) dX4_init_7 (fun q1 cA H hK9 hP hD hS => ?_)
  obtain rfl : cA = C 1 := cls_char hK9 (i := 6) (j := 1) rfl rfl
  have hP : va_P D vwCl [(a0, .inr (7, [.null, .int 0, .int 0, .null, .null])), (q1, .inl (C 1, 60, .inl (fun _ => 0)))] H := hP
  have hD : va_D A [(a0, .inr (7, [.null, .int 0, .int 0, .null, .null])), (q1, .inl (C 1, 60, .inl (fun _ => 0)))] := hD
  refine va_putF (D := D) (ci := 7) (v := .ref q1) (ty := (.array .char)) (C := RX4) (T := TX4) (N := 5) hx hb hts hinX tyX4 tyX4_ok nmX4 hown hK hP hD hS 0 rfl rfl 0 (by decide) (hts (.fieldLink RX4 9 "BridgeAuction$Script" "signs" "[C") (by decide +kernel)) (fun _ h9 => h9) rfl hin2 rfl (by decide +kernel) rfl rfl (Nat.le_of_ble_eq_true rfl) dX4_init_9 (fun H locs hP hD hS => ?_)
  have hP : va_P D vwCl [(a0, .inr (7, [.ref q1, .int 0, .int 0, .null, .null])), (q1, .inl (C 1, 60, .inl (fun _ => 0)))] H := hP
  have hD : va_D A [(a0, .inr (7, [.ref q1, .int 0, .int 0, .null, .null])), (q1, .inl (C 1, 60, .inl (fun _ => 0)))] := hD
  refine lv_aload_n hx hb dX4_init_12 rfl (lv_at hl 0 rfl) ?_
  refine lv_iconst (v := 0) hx hb dX4_init_13 (by decide) ?_
  refine va_put (D := D) (ci := 7) (v := .int 0) (ty := .int) (C := RX4) (T := TX4) (N := 5) hx hb hts hinX tyX4 tyX4_ok nmX4 hown hK hP hD hS 0 rfl rfl 1 (by decide) (hts (.fieldLink RX4 15 "BridgeAuction$Script" "size" "I") (by decide +kernel)) (fun _ h9 => h9) rfl (by decide +kernel) rfl rfl (Nat.le_of_ble_eq_true rfl) dX4_init_14 (fun H locs hP hD hS => ?_)
  have hP : va_P D vwCl [(a0, .inr (7, [.ref q1, .int 0, .int 0, .null, .null])), (q1, .inl (C 1, 60, .inl (fun _ => 0)))] H := hP
  have hD : va_D A [(a0, .inr (7, [.ref q1, .int 0, .int 0, .null, .null])), (q1, .inl (C 1, 60, .inl (fun _ => 0)))] := hD
  refine lv_aload_n hx hb dX4_init_17 rfl (lv_at hl 0 rfl) ?_
  refine lv_iconst (v := 0) hx hb dX4_init_18 (by decide) ?_
  refine va_put (D := D) (ci := 7) (v := .int 0) (ty := .int) (C := RX4) (T := TX4) (N := 5) hx hb hts hinX tyX4 tyX4_ok nmX4 hown hK hP hD hS 0 rfl rfl 2 (by decide) (hts (.fieldLink RX4 19 "BridgeAuction$Script" "at" "I") (by decide +kernel)) (fun _ h9 => h9) rfl (by decide +kernel) rfl rfl (Nat.le_of_ble_eq_true rfl) dX4_init_19 (fun H locs hP hD hS => ?_)
  have hP : va_P D vwCl [(a0, .inr (7, [.ref q1, .int 0, .int 0, .null, .null])), (q1, .inl (C 1, 60, .inl (fun _ => 0)))] H := hP
  have hD : va_D A [(a0, .inr (7, [.ref q1, .int 0, .int 0, .null, .null])), (q1, .inl (C 1, 60, .inl (fun _ => 0)))] := hD
  refine lv_aload_n hx hb dX4_init_22 rfl (lv_at hl 0 rfl) ?_
  obtain ⟨⟨hV, hB, hMV, hMB, hAL, hEk, hEa, hTX, hXZ⟩, hCS, hSF⟩ := id hX
  refine va_gets (v := .ref (ev (10 + 0))) (C := "BridgeAuction$Verb") (n := "PLAYER") (d := "LBridgeAuction$Verb;") hx hb (hB.1 0 (by decide)).1 hS hown (hts (.fieldLink RX4 22 "BridgeAuction$Verb" "PLAYER" "LBridgeAuction$Verb;") (by decide +kernel)) (fun _ h9 => h9) dX4_init_23 ?_
  refine va_put (D := D) (ci := 7) (v := .ref (ev (10 + 0))) (ty := (.object "BridgeAuction$Verb")) (C := RX4) (T := TX4) (N := 5) hx hb hts hinX tyX4 tyX4_ok nmX4 hown hK hP hD hS 0 rfl rfl 3 (by decide) (hts (.fieldLink RX4 28 "BridgeAuction$Script" "verb" "LBridgeAuction$Verb;") (by decide +kernel)) (fun _ h9 => h9) rfl (by decide +kernel) rfl rfl (Nat.le_of_ble_eq_true rfl) dX4_init_26 (fun H locs hP hD hS => ?_)
  have hP : va_P D vwCl [(a0, .inr (7, [.ref q1, .int 0, .int 0, .ref (ev (10 + 0)), .null])), (q1, .inl (C 1, 60, .inl (fun _ => 0)))] H := hP
  have hD : va_D A [(a0, .inr (7, [.ref q1, .int 0, .int 0, .ref (ev (10 + 0)), .null])), (q1, .inl (C 1, 60, .inl (fun _ => 0)))] := hD
  refine lv_aload_n hx hb dX4_init_29 rfl (lv_at hl 0 rfl) ?_
  refine lv_iconst (v := 3) hx hb dX4_init_30 (by decide) ?_
  refine va_newa (atype := .int) (ty := .int) (N' := 3) (a0 := (3, .inl (fun _ => 0))) hx hb (hts (.arrayClass .int) (by decide +kernel)) rfl hK hP hD hS hA (fun _ => rfl) (by decide) (by decide) (by decide) (Nat.le_of_ble_eq_true rfl) (Nat.le_of_ble_eq_true rfl) dX4_init_31 (fun q2 cA H hK9 hP hD hS => ?_)
  obtain rfl : cA = C 0 := cls_int hK9 (i := 6) (j := 0) rfl rfl
  have hP : va_P D vwCl [(a0, .inr (7, [.ref q1, .int 0, .int 0, .ref (ev (10 + 0)), .null])), (q1, .inl (C 1, 60, .inl (fun _ => 0))), (q2, .inl (C 0, 3, .inl (fun _ => 0)))] H := hP
  have hD : va_D A [(a0, .inr (7, [.ref q1, .int 0, .int 0, .ref (ev (10 + 0)), .null])), (q1, .inl (C 1, 60, .inl (fun _ => 0))), (q2, .inl (C 0, 3, .inl (fun _ => 0)))] := hD
  refine va_putF (D := D) (ci := 7) (v := .ref q2) (ty := (.array .int)) (C := RX4) (T := TX4) (N := 5) hx hb hts hinX tyX4 tyX4_ok nmX4 hown hK hP hD hS 0 rfl rfl 4 (by decide) (hts (.fieldLink RX4 31 "BridgeAuction$Script" "numbers" "[I") (by decide +kernel)) (fun _ h9 => h9) rfl hin2 rfl (by decide +kernel) rfl rfl (Nat.le_of_ble_eq_true rfl) dX4_init_33 (fun H locs hP hD hS => ?_)
  have hP : va_P D vwCl [(a0, .inr (7, [.ref q1, .int 0, .int 0, .ref (ev (10 + 0)), .ref q2])), (q1, .inl (C 1, 60, .inl (fun _ => 0))), (q2, .inl (C 0, 3, .inl (fun _ => 0)))] H := hP
  have hD : va_D A [(a0, .inr (7, [.ref q1, .int 0, .int 0, .ref (ev (10 + 0)), .ref q2])), (q1, .inl (C 1, 60, .inl (fun _ => 0))), (q2, .inl (C 0, 3, .inl (fun _ => 0)))] := hD
  exact e_retN (fun i => [a0, q1, q2].getD i 0) rfl hx hb hr rfl hP hD hS (Nat.le_of_ble_eq_true rfl) (Nat.le_of_ble_eq_true rfl) dX4_init_36 hlocks
