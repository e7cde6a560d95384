/-! a new game -/
abbrev gBlank : List Value := [.null, .int 0, .int 0, .null, .int 0, .int 0, .null, .null, .null, .null, .null, .null, .int 0, .int 0, .int 0, .int 0]
theorem cls_int {D : va_G} {tys : List (ClassId × FieldType)} {U : State} {i j : Nat} {x y : ClassId} (hK : va_K D vwCl tys U) (hi : tys[i]? = some (x, .int)) (hj : tys[j]? = some (y, .int)) : x = y := by
  have h1 : U.vm.findClass ("[" ++ (FieldType.int).toString) = some x := (hK.2 i _ hi).2
  have h2 : U.vm.findClass ("[" ++ (FieldType.int).toString) = some y := (hK.2 j _ hj).2
  exact Option.some.inj (h1.symm.trans h2)
def suits0 (n : Nat) : Nat → Int32 := itF (fun k f => upd f k (nI (k % 4))) n 0 (fun _ => 0)
def G0 : GS := mkG (suits0 8) 0 0 (fun _ => 0) 0 0 (fun _ => 0) (fun _ => 0) (fun _ => 0) (fun _ => 0) (fun _ => 0) (fun _ => 0) 0 0 0 0
theorem nI_rem4 {k : Nat} (hk : k < 100) : nI k - nI k / 4 * 4 = nI (k % 4) := by
  revert k; decide +kernel
section
variable {p : Program} {l : Launch} {e : Env} {R : Room} {s : State} {m : MethodId} {args : Array Value} {below : List Frame} {meth : Method} {c : Code} {H : Heap} {locs : List Loc} {cells slots mc ms : Nat} {cc : ByteArray} {pc : Nat} {ls : Array Slot} {A0 : Nat → Prop} {D : va_G} {α : Type} {F : α → Prop} {w : α → va_W} {v : α → Option Value}
theorem e_retN (x : α) (hv : v x = none) (hx : p.tables.exec = Jvm.exec) (hb : c.code = cc) (hr : meth.sig.returnType = none) (hF : F x) (hP : va_P D vwCl (w x) H) (hD : va_D A0 (w x)) (hS : va_S A0 s.heap H locs) (h1 : cells ≤ mc) (h2 : slots ≤ ms) (hdg : decode cc pc = .ok (.return_, 1)) (hlocks : meth.locks = false) : W p l e R s m args below meth c H locs cells slots (MQ below (eO v D F w A0) args s mc ms A0) (F0 m pc ls []) :=
  W.widen h1 h2 (W.vret hx hb hr (fun t ht hW => ⟨⟨x, by rw [hv], hF, by rw [ht]; exact hP, hD⟩, hS.F ht⟩) hS.2.2 hdg hlocks)
end
set_option maxHeartbeats 4000000 in
set_option maxRecDepth 100000 in
theorem c_X1_init (l : Launch) (D : va_G) (C : Nat → ClassId) (a0 : Nat) (sz : Nat) : Met l yX1_init wsX1_init ({ frames := 1, cells := 8, slots := 120, locals := 40 } : Room) (rwP [.ref a0] D C [(a0, .inr (4, gBlank))] sz) (eO (fun _ : Nat → Nat => none) D (fun a => a 0 = a0) (fun a => gcells C a G0) (va_A [(a0, .inr (4, gBlank))] sz)) 8 120 (va_A [(a0, .inr (4, gBlank))] sz) := by
  refine Met.ofW (cc := cX1_init) (maxL := 2) (ret := none) (by decide) rfl ?_
  intro p e s m args below meth c s₁ B hml hv
  obtain ⟨rfl, hsz, hP, hK, hD0, hE⟩ := hv
  have hx := B.exec
  have hb := B.bytes
  have hr := B.returns
  have hts := atoms_spec (ws := wsX1_init) B.pre
  have hown : s.vm.findClass RX1 = some m.cls := findClass_of_methodNamed B.named
  have hin2 : meth.name = "<init>" := (name_of_methodNamed B.named B.method).1
  have hlocks := B.notSynchronized
  subst hsz
  have hD := hD0.self (sz := s.heap.size)
  generalize hAe : va_A [(a0, .inr (4, gBlank))] s.heap.size = A at hD ⊢
  have hA : ∀ q : Nat, s.heap.size ≤ q → A q := fun q h => by rw [← hAe]; exact Or.inr h
  have hS : va_S A s.heap s.heap [] := va_S.rf
  have hinX1 : ∀ w ∈ u_ws RX1 TX1 16, w ∈ wsX1_init := by decide +kernel
  have hl := lv_entry ([.ref a0]) (n := 2) (Nat.le_of_ble_eq_true rfl)
  rw [lg_entry_eq]
  generalize (lg_sl ([.ref a0]) ++ List.replicate (2 - (lg_sl ([.ref a0])).length) Slot.unset).toArray = ls at hl ⊢
  have hl : lv_has ls 2 [(0, .ref a0)] := hl
  have hP : va_P D vwCl [(a0, .inr (4, [.null, .int 0, .int 0, .null, .int 0, .int 0, .null, .null, .null, .null, .null, .null, .int 0, .int 0, .int 0, .int 0]))] s.heap := hP
  have hD : va_D A [(a0, .inr (4, [.null, .int 0, .int 0, .null, .int 0, .int 0, .null, .null, .null, .null, .null, .null, .int 0, .int 0, .int 0, .int 0]))] := hD
  refine lv_aload_n hx hb dX1_init_0 rfl (lv_at hl 0 rfl) ?_
  refine W.objInit hx hb hown (hts (.methodLink RX1 3 objectInit) (by decide +kernel)) (hts (.instanceMethod objectInit) (by decide +kernel)) (hts (.code objectInit ⟨#[0xb1]⟩ 1 none) (by decide +kernel)) rfl (hl.1.trans hml.symm) rfl dX1_init_1 (Nat.le_of_ble_eq_true rfl) (Nat.le_of_ble_eq_true rfl) ?_
  refine lv_aload_n hx hb dX1_init_4 rfl (lv_at hl 0 rfl) ?_
  refine lv_bipush (v := 8) hx hb dX1_init_5 (by decide) ?_
  refine va_newa (atype := .int) (ty := .int) (N' := 8) (a0 := (8, .inl (fun _ => 0))) hx hb (hts (.arrayClass .int) (by decide +kernel)) rfl hK hP hD hS hA (fun _ => rfl) (by decide) (by decide) (by decide) (Nat.le_of_ble_eq_true rfl) (Nat.le_of_ble_eq_true rfl) dX1_init_7 (fun q1 cA H hK9 hP hD hS => ?_)
  obtain rfl : cA = C 0 := cls_int hK9 (i := 6) (j := 0) rfl rfl
  have hP : va_P D vwCl [(a0, .inr (4, [.null, .int 0, .int 0, .null, .int 0, .int 0, .null, .null, .null, .null, .null, .null, .int 0, .int 0, .int 0, .int 0])), (q1, .inl (C 0, 8, .inl (fun _ => 0)))] H := hP
  have hD : va_D A [(a0, .inr (4, [.null, .int 0, .int 0, .null, .int 0, .int 0, .null, .null, .null, .null, .null, .null, .int 0, .int 0, .int 0, .int 0])), (q1, .inl (C 0, 8, .inl (fun _ => 0)))] := hD
  refine va_putF (D := D) (ci := 4) (v := .ref q1) (ty := (.array .int)) (C := RX1) (T := TX1) (N := 16) hx hb hts hinX1 tyX1 tyX1_ok nmX1 hown hK hP hD hS 0 rfl rfl 0 (by decide) (hts (.fieldLink RX1 9 "BridgeAuction$Game" "suits" "[I") (by decide +kernel)) (fun _ h9 => h9) rfl hin2 rfl (by decide +kernel) rfl rfl (Nat.le_of_ble_eq_true rfl) dX1_init_9 (fun H locs hP hD hS => ?_)
  have hP : va_P D vwCl [(a0, .inr (4, [.ref q1, .int 0, .int 0, .null, .int 0, .int 0, .null, .null, .null, .null, .null, .null, .int 0, .int 0, .int 0, .int 0])), (q1, .inl (C 0, 8, .inl (fun _ => 0)))] H := hP
  have hD : va_D A [(a0, .inr (4, [.ref q1, .int 0, .int 0, .null, .int 0, .int 0, .null, .null, .null, .null, .null, .null, .int 0, .int 0, .int 0, .int 0])), (q1, .inl (C 0, 8, .inl (fun _ => 0)))] := hD
  refine lv_aload_n hx hb dX1_init_12 rfl (lv_at hl 0 rfl) ?_
  refine lv_iconst (v := 0) hx hb dX1_init_13 (by decide) ?_
  refine va_put (D := D) (ci := 4) (v := .int 0) (ty := .int) (C := RX1) (T := TX1) (N := 16) hx hb hts hinX1 tyX1 tyX1_ok nmX1 hown hK hP hD hS 0 rfl rfl 1 (by decide) (hts (.fieldLink RX1 15 "BridgeAuction$Game" "tideLevel" "I") (by decide +kernel)) (fun _ h9 => h9) rfl (by decide +kernel) rfl rfl (Nat.le_of_ble_eq_true rfl) dX1_init_14 (fun H locs hP hD hS => ?_)
  have hP : va_P D vwCl [(a0, .inr (4, [.ref q1, .int 0, .int 0, .null, .int 0, .int 0, .null, .null, .null, .null, .null, .null, .int 0, .int 0, .int 0, .int 0])), (q1, .inl (C 0, 8, .inl (fun _ => 0)))] H := hP
  have hD : va_D A [(a0, .inr (4, [.ref q1, .int 0, .int 0, .null, .int 0, .int 0, .null, .null, .null, .null, .null, .null, .int 0, .int 0, .int 0, .int 0])), (q1, .inl (C 0, 8, .inl (fun _ => 0)))] := hD
  refine lv_aload_n hx hb dX1_init_17 rfl (lv_at hl 0 rfl) ?_
  refine lv_iconst (v := 0) hx hb dX1_init_18 (by decide) ?_
  refine va_put (D := D) (ci := 4) (v := .int 0) (ty := .int) (C := RX1) (T := TX1) (N := 16) hx hb hts hinX1 tyX1 tyX1_ok nmX1 hown hK hP hD hS 0 rfl rfl 2 (by decide) (hts (.fieldLink RX1 19 "BridgeAuction$Game" "players" "I") (by decide +kernel)) (fun _ h9 => h9) rfl (by decide +kernel) rfl rfl (Nat.le_of_ble_eq_true rfl) dX1_init_19 (fun H locs hP hD hS => ?_)
  have hP : va_P D vwCl [(a0, .inr (4, [.ref q1, .int 0, .int 0, .null, .int 0, .int 0, .null, .null, .null, .null, .null, .null, .int 0, .int 0, .int 0, .int 0])), (q1, .inl (C 0, 8, .inl (fun _ => 0)))] H := hP
  have hD : va_D A [(a0, .inr (4, [.ref q1, .int 0, .int 0, .null, .int 0, .int 0, .null, .null, .null, .null, .null, .null, .int 0, .int 0, .int 0, .int 0])), (q1, .inl (C 0, 8, .inl (fun _ => 0)))] := hD
  refine lv_aload_n hx hb dX1_init_22 rfl (lv_at hl 0 rfl) ?_
  refine lv_iconst (v := 4) hx hb dX1_init_23 (by decide) ?_
  refine va_newa (atype := .int) (ty := .int) (N' := 4) (a0 := (4, .inl (fun _ => 0))) hx hb (hts (.arrayClass .int) (by decide +kernel)) rfl hK hP hD hS hA (fun _ => rfl) (by decide) (by decide) (by decide) (Nat.le_of_ble_eq_true rfl) (Nat.le_of_ble_eq_true rfl) dX1_init_24 (fun q2 cA H hK9 hP hD hS => ?_)
  obtain rfl : cA = C 0 := cls_int hK9 (i := 6) (j := 0) rfl rfl
  have hP : va_P D vwCl [(a0, .inr (4, [.ref q1, .int 0, .int 0, .null, .int 0, .int 0, .null, .null, .null, .null, .null, .null, .int 0, .int 0, .int 0, .int 0])), (q1, .inl (C 0, 8, .inl (fun _ => 0))), (q2, .inl (C 0, 4, .inl (fun _ => 0)))] H := hP
  have hD : va_D A [(a0, .inr (4, [.ref q1, .int 0, .int 0, .null, .int 0, .int 0, .null, .null, .null, .null, .null, .null, .int 0, .int 0, .int 0, .int 0])), (q1, .inl (C 0, 8, .inl (fun _ => 0))), (q2, .inl (C 0, 4, .inl (fun _ => 0)))] := hD
  refine va_putF (D := D) (ci := 4) (v := .ref q2) (ty := (.array .int)) (C := RX1) (T := TX1) (N := 16) hx hb hts hinX1 tyX1 tyX1_ok nmX1 hown hK hP hD hS 0 rfl rfl 3 (by decide) (hts (.fieldLink RX1 22 "BridgeAuction$Game" "moneys" "[I") (by decide +kernel)) (fun _ h9 => h9) rfl hin2 rfl (by decide +kernel) rfl rfl (Nat.le_of_ble_eq_true rfl) dX1_init_26 (fun H locs hP hD hS => ?_)
  have hP : va_P D vwCl [(a0, .inr (4, [.ref q1, .int 0, .int 0, .ref q2, .int 0, .int 0, .null, .null, .null, .null, .null, .null, .int 0, .int 0, .int 0, .int 0])), (q1, .inl (C 0, 8, .inl (fun _ => 0))), (q2, .inl (C 0, 4, .inl (fun _ => 0)))] H := hP
  have hD : va_D A [(a0, .inr (4, [.ref q1, .int 0, .int 0, .ref q2, .int 0, .int 0, .null, .null, .null, .null, .null, .null, .int 0, .int 0, .int 0, .int 0])), (q1, .inl (C 0, 8, .inl (fun _ => 0))), (q2, .inl (C 0, 4, .inl (fun _ => 0)))] := hD
  refine lv_aload_n hx hb dX1_init_29 rfl (lv_at hl 0 rfl) ?_
  refine lv_iconst (v := 0) hx hb dX1_init_30 (by decide) ?_
  refine va_put (D := D) (ci := 4) (v := .int 0) (ty := .int) (C := RX1) (T := TX1) (N := 16) hx hb hts hinX1 tyX1 tyX1_ok nmX1 hown hK hP hD hS 0 rfl rfl 4 (by decide) (hts (.fieldLink RX1 25 "BridgeAuction$Game" "usedFerries" "I") (by decide +kernel)) (fun _ h9 => h9) rfl (by decide +kernel) rfl rfl (Nat.le_of_ble_eq_true rfl) dX1_init_31 (fun H locs hP hD hS => ?_)
  have hP : va_P D vwCl [(a0, .inr (4, [.ref q1, .int 0, .int 0, .ref q2, .int 0, .int 0, .null, .null, .null, .null, .null, .null, .int 0, .int 0, .int 0, .int 0])), (q1, .inl (C 0, 8, .inl (fun _ => 0))), (q2, .inl (C 0, 4, .inl (fun _ => 0)))] H := hP
  have hD : va_D A [(a0, .inr (4, [.ref q1, .int 0, .int 0, .ref q2, .int 0, .int 0, .null, .null, .null, .null, .null, .null, .int 0, .int 0, .int 0, .int 0])), (q1, .inl (C 0, 8, .inl (fun _ => 0))), (q2, .inl (C 0, 4, .inl (fun _ => 0)))] := hD
  refine lv_aload_n hx hb dX1_init_34 rfl (lv_at hl 0 rfl) ?_
  refine lv_iconst (v := 0) hx hb dX1_init_35 (by decide) ?_
  refine va_put (D := D) (ci := 4) (v := .int 0) (ty := .int) (C := RX1) (T := TX1) (N := 16) hx hb hts hinX1 tyX1 tyX1_ok nmX1 hown hK hP hD hS 0 rfl rfl 5 (by decide) (hts (.fieldLink RX1 28 "BridgeAuction$Game" "sites" "I") (by decide +kernel)) (fun _ h9 => h9) rfl (by decide +kernel) rfl rfl (Nat.le_of_ble_eq_true rfl) dX1_init_36 (fun H locs hP hD hS => ?_)
  have hP : va_P D vwCl [(a0, .inr (4, [.ref q1, .int 0, .int 0, .ref q2, .int 0, .int 0, .null, .null, .null, .null, .null, .null, .int 0, .int 0, .int 0, .int 0])), (q1, .inl (C 0, 8, .inl (fun _ => 0))), (q2, .inl (C 0, 4, .inl (fun _ => 0)))] H := hP
  have hD : va_D A [(a0, .inr (4, [.ref q1, .int 0, .int 0, .ref q2, .int 0, .int 0, .null, .null, .null, .null, .null, .null, .int 0, .int 0, .int 0, .int 0])), (q1, .inl (C 0, 8, .inl (fun _ => 0))), (q2, .inl (C 0, 4, .inl (fun _ => 0)))] := hD
  refine lv_aload_n hx hb dX1_init_39 rfl (lv_at hl 0 rfl) ?_
  refine lv_bipush (v := 12) hx hb dX1_init_40 (by decide) ?_
  refine va_newa (atype := .int) (ty := .int) (N' := 12) (a0 := (12, .inl (fun _ => 0))) hx hb (hts (.arrayClass .int) (by decide +kernel)) rfl hK hP hD hS hA (fun _ => rfl) (by decide) (by decide) (by decide) (Nat.le_of_ble_eq_true rfl) (Nat.le_of_ble_eq_true rfl) dX1_init_42 (fun q3 cA H hK9 hP hD hS => ?_)
  obtain rfl : cA = C 0 := cls_int hK9 (i := 6) (j := 0) rfl rfl
  have hP : va_P D vwCl [(a0, .inr (4, [.ref q1, .int 0, .int 0, .ref q2, .int 0, .int 0, .null, .null, .null, .null, .null, .null, .int 0, .int 0, .int 0, .int 0])), (q1, .inl (C 0, 8, .inl (fun _ => 0))), (q2, .inl (C 0, 4, .inl (fun _ => 0))), (q3, .inl (C 0, 12, .inl (fun _ => 0)))] H := hP
  have hD : va_D A [(a0, .inr (4, [.ref q1, .int 0, .int 0, .ref q2, .int 0, .int 0, .null, .null, .null, .null, .null, .null, .int 0, .int 0, .int 0, .int 0])), (q1, .inl (C 0, 8, .inl (fun _ => 0))), (q2, .inl (C 0, 4, .inl (fun _ => 0))), (q3, .inl (C 0, 12, .inl (fun _ => 0)))] := hD
  refine va_putF (D := D) (ci := 4) (v := .ref q3) (ty := (.array .int)) (C := RX1) (T := TX1) (N := 16) hx hb hts hinX1 tyX1 tyX1_ok nmX1 hown hK hP hD hS 0 rfl rfl 6 (by decide) (hts (.fieldLink RX1 31 "BridgeAuction$Game" "lowers" "[I") (by decide +kernel)) (fun _ h9 => h9) rfl hin2 rfl (by decide +kernel) rfl rfl (Nat.le_of_ble_eq_true rfl) dX1_init_44 (fun H locs hP hD hS => ?_)
  have hP : va_P D vwCl [(a0, .inr (4, [.ref q1, .int 0, .int 0, .ref q2, .int 0, .int 0, .ref q3, .null, .null, .null, .null, .null, .int 0, .int 0, .int 0, .int 0])), (q1, .inl (C 0, 8, .inl (fun _ => 0))), (q2, .inl (C 0, 4, .inl (fun _ => 0))), (q3, .inl (C 0, 12, .inl (fun _ => 0)))] H := hP
  have hD : va_D A [(a0, .inr (4, [.ref q1, .int 0, .int 0, .ref q2, .int 0, .int 0, .ref q3, .null, .null, .null, .null, .null, .int 0, .int 0, .int 0, .int 0])), (q1, .inl (C 0, 8, .inl (fun _ => 0))), (q2, .inl (C 0, 4, .inl (fun _ => 0))), (q3, .inl (C 0, 12, .inl (fun _ => 0)))] := hD
  refine lv_aload_n hx hb dX1_init_47 rfl (lv_at hl 0 rfl) ?_
  refine lv_bipush (v := 12) hx hb dX1_init_48 (by decide) ?_
  refine va_newa (atype := .int) (ty := .int) (N' := 12) (a0 := (12, .inl (fun _ => 0))) hx hb (hts (.arrayClass .int) (by decide +kernel)) rfl hK hP hD hS hA (fun _ => rfl) (by decide) (by decide) (by decide) (Nat.le_of_ble_eq_true rfl) (Nat.le_of_ble_eq_true rfl) dX1_init_50 (fun q4 cA H hK9 hP hD hS => ?_)
  obtain rfl : cA = C 0 := cls_int hK9 (i := 6) (j := 0) rfl rfl
  have hP : va_P D vwCl [(a0, .inr (4, [.ref q1, .int 0, .int 0, .ref q2, .int 0, .int 0, .ref q3, .null, .null, .null, .null, .null, .int 0, .int 0, .int 0, .int 0])), (q1, .inl (C 0, 8, .inl (fun _ => 0))), (q2, .inl (C 0, 4, .inl (fun _ => 0))), (q3, .inl (C 0, 12, .inl (fun _ => 0))), (q4, .inl (C 0, 12, .inl (fun _ => 0)))] H := hP
  have hD : va_D A [(a0, .inr (4, [.ref q1, .int 0, .int 0, .ref q2, .int 0, .int 0, .ref q3, .null, .null, .null, .null, .null, .int 0, .int 0, .int 0, .int 0])), (q1, .inl (C 0, 8, .inl (fun _ => 0))), (q2, .inl (C 0, 4, .inl (fun _ => 0))), (q3, .inl (C 0, 12, .inl (fun _ => 0))), (q4, .inl (C 0, 12, .inl (fun _ => 0)))] := hD
  refine va_putF (D := D) (ci := 4) (v := .ref q4) (ty := (.array .int)) (C := RX1) (T := TX1) (N := 16) hx hb hts hinX1 tyX1 tyX1_ok nmX1 hown hK hP hD hS 0 rfl rfl 7 (by decide) (hts (.fieldLink RX1 34 "BridgeAuction$Game" "highers" "[I") (by decide +kernel)) (fun _ h9 => h9) rfl hin2 rfl (by decide +kernel) rfl rfl (Nat.le_of_ble_eq_true rfl) dX1_init_52 (fun H locs hP hD hS => ?_)
  have hP : va_P D vwCl [(a0, .inr (4, [.ref q1, .int 0, .int 0, .ref q2, .int 0, .int 0, .ref q3, .ref q4, .null, .null, .null, .null, .int 0, .int 0, .int 0, .int 0])), (q1, .inl (C 0, 8, .inl (fun _ => 0))), (q2, .inl (C 0, 4, .inl (fun _ => 0))), (q3, .inl (C 0, 12, .inl (fun _ => 0))), (q4, .inl (C 0, 12, .inl (fun _ => 0)))] H := hP
  have hD : va_D A [(a0, .inr (4, [.ref q1, .int 0, .int 0, .ref q2, .int 0, .int 0, .ref q3, .ref q4, .null, .null, .null, .null, .int 0, .int 0, .int 0, .int 0])), (q1, .inl (C 0, 8, .inl (fun _ => 0))), (q2, .inl (C 0, 4, .inl (fun _ => 0))), (q3, .inl (C 0, 12, .inl (fun _ => 0))), (q4, .inl (C 0, 12, .inl (fun _ => 0)))] := hD
  refine lv_aload_n hx hb dX1_init_55 rfl (lv_at hl 0 rfl) ?_
  refine lv_bipush (v := 12) hx hb dX1_init_56 (by decide) ?_
  refine va_newa (atype := .int) (ty := .int) (N' := 12) (a0 := (12, .inl (fun _ => 0))) hx hb (hts (.arrayClass .int) (by decide +kernel)) rfl hK hP hD hS hA (fun _ => rfl) (by decide) (by decide) (by decide) (Nat.le_of_ble_eq_true rfl) (Nat.le_of_ble_eq_true rfl) dX1_init_58 (fun q5 cA H hK9 hP hD hS => ?_)
  obtain rfl : cA = C 0 := cls_int hK9 (i := 6) (j := 0) rfl rfl
  have hP : va_P D vwCl [(a0, .inr (4, [.ref q1, .int 0, .int 0, .ref q2, .int 0, .int 0, .ref q3, .ref q4, .null, .null, .null, .null, .int 0, .int 0, .int 0, .int 0])), (q1, .inl (C 0, 8, .inl (fun _ => 0))), (q2, .inl (C 0, 4, .inl (fun _ => 0))), (q3, .inl (C 0, 12, .inl (fun _ => 0))), (q4, .inl (C 0, 12, .inl (fun _ => 0))), (q5, .inl (C 0, 12, .inl (fun _ => 0)))] H := hP
  have hD : va_D A [(a0, .inr (4, [.ref q1, .int 0, .int 0, .ref q2, .int 0, .int 0, .ref q3, .ref q4, .null, .null, .null, .null, .int 0, .int 0, .int 0, .int 0])), (q1, .inl (C 0, 8, .inl (fun _ => 0))), (q2, .inl (C 0, 4, .inl (fun _ => 0))), (q3, .inl (C 0, 12, .inl (fun _ => 0))), (q4, .inl (C 0, 12, .inl (fun _ => 0))), (q5, .inl (C 0, 12, .inl (fun _ => 0)))] := hD
  refine va_putF (D := D) (ci := 4) (v := .ref q5) (ty := (.array .int)) (C := RX1) (T := TX1) (N := 16) hx hb hts hinX1 tyX1 tyX1_ok nmX1 hown hK hP hD hS 0 rfl rfl 8 (by decide) (hts (.fieldLink RX1 37 "BridgeAuction$Game" "lengths" "[I") (by decide +kernel)) (fun _ h9 => h9) rfl hin2 rfl (by decide +kernel) rfl rfl (Nat.le_of_ble_eq_true rfl) dX1_init_60 (fun H locs hP hD hS => ?_)
  have hP : va_P D vwCl [(a0, .inr (4, [.ref q1, .int 0, .int 0, .ref q2, .int 0, .int 0, .ref q3, .ref q4, .ref q5, .null, .null, .null, .int 0, .int 0, .int 0, .int 0])), (q1, .inl (C 0, 8, .inl (fun _ => 0))), (q2, .inl (C 0, 4, .inl (fun _ => 0))), (q3, .inl (C 0, 12, .inl (fun _ => 0))), (q4, .inl (C 0, 12, .inl (fun _ => 0))), (q5, .inl (C 0, 12, .inl (fun _ => 0)))] H := hP
  have hD : va_D A [(a0, .inr (4, [.ref q1, .int 0, .int 0, .ref q2, .int 0, .int 0, .ref q3, .ref q4, .ref q5, .null, .null, .null, .int 0, .int 0, .int 0, .int 0])), (q1, .inl (C 0, 8, .inl (fun _ => 0))), (q2, .inl (C 0, 4, .inl (fun _ => 0))), (q3, .inl (C 0, 12, .inl (fun _ => 0))), (q4, .inl (C 0, 12, .inl (fun _ => 0))), (q5, .inl (C 0, 12, .inl (fun _ => 0)))] := hD
  refine lv_aload_n hx hb dX1_init_63 rfl (lv_at hl 0 rfl) ?_
  refine lv_bipush (v := 12) hx hb dX1_init_64 (by decide) ?_
  refine va_newa (atype := .int) (ty := .int) (N' := 12) (a0 := (12, .inl (fun _ => 0))) hx hb (hts (.arrayClass .int) (by decide +kernel)) rfl hK hP hD hS hA (fun _ => rfl) (by decide) (by decide) (by decide) (Nat.le_of_ble_eq_true rfl) (Nat.le_of_ble_eq_true rfl) dX1_init_66 (fun q6 cA H hK9 hP hD hS => ?_)
  obtain rfl : cA = C 0 := cls_int hK9 (i := 6) (j := 0) rfl rfl
  have hP : va_P D vwCl [(a0, .inr (4, [.ref q1, .int 0, .int 0, .ref q2, .int 0, .int 0, .ref q3, .ref q4, .ref q5, .null, .null, .null, .int 0, .int 0, .int 0, .int 0])), (q1, .inl (C 0, 8, .inl (fun _ => 0))), (q2, .inl (C 0, 4, .inl (fun _ => 0))), (q3, .inl (C 0, 12, .inl (fun _ => 0))), (q4, .inl (C 0, 12, .inl (fun _ => 0))), (q5, .inl (C 0, 12, .inl (fun _ => 0))), (q6, .inl (C 0, 12, .inl (fun _ => 0)))] H := hP
  have hD : va_D A [(a0, .inr (4, [.ref q1, .int 0, .int 0, .ref q2, .int 0, .int 0, .ref q3, .ref q4, .ref q5, .null, .null, .null, .int 0, .int 0, .int 0, .int 0])), (q1, .inl (C 0, 8, .inl (fun _ => 0))), (q2, .inl (C 0, 4, .inl (fun _ => 0))), (q3, .inl (C 0, 12, .inl (fun _ => 0))), (q4, .inl (C 0, 12, .inl (fun _ => 0))), (q5, .inl (C 0, 12, .inl (fun _ => 0))), (q6, .inl (C 0, 12, .inl (fun _ => 0)))] := hD
  refine va_putF (D := D) (ci := 4) (v := .ref q6) (ty := (.array .int)) (C := RX1) (T := TX1) (N := 16) hx hb hts hinX1 tyX1 tyX1_ok nmX1 hown hK hP hD hS 0 rfl rfl 9 (by decide) (hts (.fieldLink RX1 40 "BridgeAuction$Game" "builders" "[I") (by decide +kernel)) (fun _ h9 => h9) rfl hin2 rfl (by decide +kernel) rfl rfl (Nat.le_of_ble_eq_true rfl) dX1_init_68 (fun H locs hP hD hS => ?_)
  have hP : va_P D vwCl [(a0, .inr (4, [.ref q1, .int 0, .int 0, .ref q2, .int 0, .int 0, .ref q3, .ref q4, .ref q5, .ref q6, .null, .null, .int 0, .int 0, .int 0, .int 0])), (q1, .inl (C 0, 8, .inl (fun _ => 0))), (q2, .inl (C 0, 4, .inl (fun _ => 0))), (q3, .inl (C 0, 12, .inl (fun _ => 0))), (q4, .inl (C 0, 12, .inl (fun _ => 0))), (q5, .inl (C 0, 12, .inl (fun _ => 0))), (q6, .inl (C 0, 12, .inl (fun _ => 0)))] H := hP
  have hD : va_D A [(a0, .inr (4, [.ref q1, .int 0, .int 0, .ref q2, .int 0, .int 0, .ref q3, .ref q4, .ref q5, .ref q6, .null, .null, .int 0, .int 0, .int 0, .int 0])), (q1, .inl (C 0, 8, .inl (fun _ => 0))), (q2, .inl (C 0, 4, .inl (fun _ => 0))), (q3, .inl (C 0, 12, .inl (fun _ => 0))), (q4, .inl (C 0, 12, .inl (fun _ => 0))), (q5, .inl (C 0, 12, .inl (fun _ => 0))), (q6, .inl (C 0, 12, .inl (fun _ => 0)))] := hD
  refine lv_aload_n hx hb dX1_init_71 rfl (lv_at hl 0 rfl) ?_
  refine lv_bipush (v := 12) hx hb dX1_init_72 (by decide) ?_
  refine va_newa (atype := .int) (ty := .int) (N' := 12) (a0 := (12, .inl (fun _ => 0))) hx hb (hts (.arrayClass .int) (by decide +kernel)) rfl hK hP hD hS hA (fun _ => rfl) (by decide) (by decide) (by decide) (Nat.le_of_ble_eq_true rfl) (Nat.le_of_ble_eq_true rfl) dX1_init_74 (fun q7 cA H hK9 hP hD hS => ?_)
  obtain rfl : cA = C 0 := cls_int hK9 (i := 6) (j := 0) rfl rfl
  have hP : va_P D vwCl [(a0, .inr (4, [.ref q1, .int 0, .int 0, .ref q2, .int 0, .int 0, .ref q3, .ref q4, .ref q5, .ref q6, .null, .null, .int 0, .int 0, .int 0, .int 0])), (q1, .inl (C 0, 8, .inl (fun _ => 0))), (q2, .inl (C 0, 4, .inl (fun _ => 0))), (q3, .inl (C 0, 12, .inl (fun _ => 0))), (q4, .inl (C 0, 12, .inl (fun _ => 0))), (q5, .inl (C 0, 12, .inl (fun _ => 0))), (q6, .inl (C 0, 12, .inl (fun _ => 0))), (q7, .inl (C 0, 12, .inl (fun _ => 0)))] H := hP
  have hD : va_D A [(a0, .inr (4, [.ref q1, .int 0, .int 0, .ref q2, .int 0, .int 0, .ref q3, .ref q4, .ref q5, .ref q6, .null, .null, .int 0, .int 0, .int 0, .int 0])), (q1, .inl (C 0, 8, .inl (fun _ => 0))), (q2, .inl (C 0, 4, .inl (fun _ => 0))), (q3, .inl (C 0, 12, .inl (fun _ => 0))), (q4, .inl (C 0, 12, .inl (fun _ => 0))), (q5, .inl (C 0, 12, .inl (fun _ => 0))), (q6, .inl (C 0, 12, .inl (fun _ => 0))), (q7, .inl (C 0, 12, .inl (fun _ => 0)))] := hD
  refine va_putF (D := D) (ci := 4) (v := .ref q7) (ty := (.array .int)) (C := RX1) (T := TX1) (N := 16) hx hb hts hinX1 tyX1 tyX1_ok nmX1 hown hK hP hD hS 0 rfl rfl 10 (by decide) (hts (.fieldLink RX1 43 "BridgeAuction$Game" "ferries" "[I") (by decide +kernel)) (fun _ h9 => h9) rfl hin2 rfl (by decide +kernel) rfl rfl (Nat.le_of_ble_eq_true rfl) dX1_init_76 (fun H locs hP hD hS => ?_)
  have hP : va_P D vwCl [(a0, .inr (4, [.ref q1, .int 0, .int 0, .ref q2, .int 0, .int 0, .ref q3, .ref q4, .ref q5, .ref q6, .ref q7, .null, .int 0, .int 0, .int 0, .int 0])), (q1, .inl (C 0, 8, .inl (fun _ => 0))), (q2, .inl (C 0, 4, .inl (fun _ => 0))), (q3, .inl (C 0, 12, .inl (fun _ => 0))), (q4, .inl (C 0, 12, .inl (fun _ => 0))), (q5, .inl (C 0, 12, .inl (fun _ => 0))), (q6, .inl (C 0, 12, .inl (fun _ => 0))), (q7, .inl (C 0, 12, .inl (fun _ => 0)))] H := hP
  have hD : va_D A [(a0, .inr (4, [.ref q1, .int 0, .int 0, .ref q2, .int 0, .int 0, .ref q3, .ref q4, .ref q5, .ref q6, .ref q7, .null, .int 0, .int 0, .int 0, .int 0])), (q1, .inl (C 0, 8, .inl (fun _ => 0))), (q2, .inl (C 0, 4, .inl (fun _ => 0))), (q3, .inl (C 0, 12, .inl (fun _ => 0))), (q4, .inl (C 0, 12, .inl (fun _ => 0))), (q5, .inl (C 0, 12, .inl (fun _ => 0))), (q6, .inl (C 0, 12, .inl (fun _ => 0))), (q7, .inl (C 0, 12, .inl (fun _ => 0)))] := hD
  refine lv_aload_n hx hb dX1_init_79 rfl (lv_at hl 0 rfl) ?_
  refine lv_bipush (v := 48) hx hb dX1_init_80 (by decide) ?_
  refine va_newa (atype := .int) (ty := .int) (N' := 48) (a0 := (48, .inl (fun _ => 0))) hx hb (hts (.arrayClass .int) (by decide +kernel)) rfl hK hP hD hS hA (fun _ => rfl) (by decide) (by decide) (by decide) (Nat.le_of_ble_eq_true rfl) (Nat.le_of_ble_eq_true rfl) dX1_init_82 (fun q8 cA H hK9 hP hD hS => ?_)
  obtain rfl : cA = C 0 := cls_int hK9 (i := 6) (j := 0) rfl rfl
  have hP : va_P D vwCl [(a0, .inr (4, [.ref q1, .int 0, .int 0, .ref q2, .int 0, .int 0, .ref q3, .ref q4, .ref q5, .ref q6, .ref q7, .null, .int 0, .int 0, .int 0, .int 0])), (q1, .inl (C 0, 8, .inl (fun _ => 0))), (q2, .inl (C 0, 4, .inl (fun _ => 0))), (q3, .inl (C 0, 12, .inl (fun _ => 0))), (q4, .inl (C 0, 12, .inl (fun _ => 0))), (q5, .inl (C 0, 12, .inl (fun _ => 0))), (q6, .inl (C 0, 12, .inl (fun _ => 0))), (q7, .inl (C 0, 12, .inl (fun _ => 0))), (q8, .inl (C 0, 48, .inl (fun _ => 0)))] H := hP
  have hD : va_D A [(a0, .inr (4, [.ref q1, .int 0, .int 0, .ref q2, .int 0, .int 0, .ref q3, .ref q4, .ref q5, .ref q6, .ref q7, .null, .int 0, .int 0, .int 0, .int 0])), (q1, .inl (C 0, 8, .inl (fun _ => 0))), (q2, .inl (C 0, 4, .inl (fun _ => 0))), (q3, .inl (C 0, 12, .inl (fun _ => 0))), (q4, .inl (C 0, 12, .inl (fun _ => 0))), (q5, .inl (C 0, 12, .inl (fun _ => 0))), (q6, .inl (C 0, 12, .inl (fun _ => 0))), (q7, .inl (C 0, 12, .inl (fun _ => 0))), (q8, .inl (C 0, 48, .inl (fun _ => 0)))] := hD
  refine va_putF (D := D) (ci := 4) (v := .ref q8) (ty := (.array .int)) (C := RX1) (T := TX1) (N := 16) hx hb hts hinX1 tyX1 tyX1_ok nmX1 hown hK hP hD hS 0 rfl rfl 11 (by decide) (hts (.fieldLink RX1 46 "BridgeAuction$Game" "offers" "[I") (by decide +kernel)) (fun _ h9 => h9) rfl hin2 rfl (by decide +kernel) rfl rfl (Nat.le_of_ble_eq_true rfl) dX1_init_84 (fun H locs hP hD hS => ?_)
  have hP : va_P D vwCl [(a0, .inr (4, [.ref q1, .int 0, .int 0, .ref q2, .int 0, .int 0, .ref q3, .ref q4, .ref q5, .ref q6, .ref q7, .ref q8, .int 0, .int 0, .int 0, .int 0])), (q1, .inl (C 0, 8, .inl (fun _ => 0))), (q2, .inl (C 0, 4, .inl (fun _ => 0))), (q3, .inl (C 0, 12, .inl (fun _ => 0))), (q4, .inl (C 0, 12, .inl (fun _ => 0))), (q5, .inl (C 0, 12, .inl (fun _ => 0))), (q6, .inl (C 0, 12, .inl (fun _ => 0))), (q7, .inl (C 0, 12, .inl (fun _ => 0))), (q8, .inl (C 0, 48, .inl (fun _ => 0)))] H := hP
  have hD : va_D A [(a0, .inr (4, [.ref q1, .int 0, .int 0, .ref q2, .int 0, .int 0, .ref q3, .ref q4, .ref q5, .ref q6, .ref q7, .ref q8, .int 0, .int 0, .int 0, .int 0])), (q1, .inl (C 0, 8, .inl (fun _ => 0))), (q2, .inl (C 0, 4, .inl (fun _ => 0))), (q3, .inl (C 0, 12, .inl (fun _ => 0))), (q4, .inl (C 0, 12, .inl (fun _ => 0))), (q5, .inl (C 0, 12, .inl (fun _ => 0))), (q6, .inl (C 0, 12, .inl (fun _ => 0))), (q7, .inl (C 0, 12, .inl (fun _ => 0))), (q8, .inl (C 0, 48, .inl (fun _ => 0)))] := hD
  refine lv_aload_n hx hb dX1_init_87 rfl (lv_at hl 0 rfl) ?_
  refine lv_iconst (v := 0) hx hb dX1_init_88 (by decide) ?_
  refine va_put (D := D) (ci := 4) (v := .int 0) (ty := .int) (C := RX1) (T := TX1) (N := 16) hx hb hts hinX1 tyX1 tyX1_ok nmX1 hown hK hP hD hS 0 rfl rfl 12 (by decide) (hts (.fieldLink RX1 49 "BridgeAuction$Game" "initialMoney" "I") (by decide +kernel)) (fun _ h9 => h9) rfl (by decide +kernel) rfl rfl (Nat.le_of_ble_eq_true rfl) dX1_init_89 (fun H locs hP hD hS => ?_)
  have hP : va_P D vwCl [(a0, .inr (4, [.ref q1, .int 0, .int 0, .ref q2, .int 0, .int 0, .ref q3, .ref q4, .ref q5, .ref q6, .ref q7, .ref q8, .int 0, .int 0, .int 0, .int 0])), (q1, .inl (C 0, 8, .inl (fun _ => 0))), (q2, .inl (C 0, 4, .inl (fun _ => 0))), (q3, .inl (C 0, 12, .inl (fun _ => 0))), (q4, .inl (C 0, 12, .inl (fun _ => 0))), (q5, .inl (C 0, 12, .inl (fun _ => 0))), (q6, .inl (C 0, 12, .inl (fun _ => 0))), (q7, .inl (C 0, 12, .inl (fun _ => 0))), (q8, .inl (C 0, 48, .inl (fun _ => 0)))] H := hP
  have hD : va_D A [(a0, .inr (4, [.ref q1, .int 0, .int 0, .ref q2, .int 0, .int 0, .ref q3, .ref q4, .ref q5, .ref q6, .ref q7, .ref q8, .int 0, .int 0, .int 0, .int 0])), (q1, .inl (C 0, 8, .inl (fun _ => 0))), (q2, .inl (C 0, 4, .inl (fun _ => 0))), (q3, .inl (C 0, 12, .inl (fun _ => 0))), (q4, .inl (C 0, 12, .inl (fun _ => 0))), (q5, .inl (C 0, 12, .inl (fun _ => 0))), (q6, .inl (C 0, 12, .inl (fun _ => 0))), (q7, .inl (C 0, 12, .inl (fun _ => 0))), (q8, .inl (C 0, 48, .inl (fun _ => 0)))] := hD
  refine lv_aload_n hx hb dX1_init_92 rfl (lv_at hl 0 rfl) ?_
  refine lv_iconst (v := 0) hx hb dX1_init_93 (by decide) ?_
  refine va_put (D := D) (ci := 4) (v := .int 0) (ty := .int) (C := RX1) (T := TX1) (N := 16) hx hb hts hinX1 tyX1 tyX1_ok nmX1 hown hK hP hD hS 0 rfl rfl 13 (by decide) (hts (.fieldLink RX1 52 "BridgeAuction$Game" "bank" "I") (by decide +kernel)) (fun _ h9 => h9) rfl (by decide +kernel) rfl rfl (Nat.le_of_ble_eq_true rfl) dX1_init_94 (fun H locs hP hD hS => ?_)
  have hP : va_P D vwCl [(a0, .inr (4, [.ref q1, .int 0, .int 0, .ref q2, .int 0, .int 0, .ref q3, .ref q4, .ref q5, .ref q6, .ref q7, .ref q8, .int 0, .int 0, .int 0, .int 0])), (q1, .inl (C 0, 8, .inl (fun _ => 0))), (q2, .inl (C 0, 4, .inl (fun _ => 0))), (q3, .inl (C 0, 12, .inl (fun _ => 0))), (q4, .inl (C 0, 12, .inl (fun _ => 0))), (q5, .inl (C 0, 12, .inl (fun _ => 0))), (q6, .inl (C 0, 12, .inl (fun _ => 0))), (q7, .inl (C 0, 12, .inl (fun _ => 0))), (q8, .inl (C 0, 48, .inl (fun _ => 0)))] H := hP
  have hD : va_D A [(a0, .inr (4, [.ref q1, .int 0, .int 0, .ref q2, .int 0, .int 0, .ref q3, .ref q4, .ref q5, .ref q6, .ref q7, .ref q8, .int 0, .int 0, .int 0, .int 0])), (q1, .inl (C 0, 8, .inl (fun _ => 0))), (q2, .inl (C 0, 4, .inl (fun _ => 0))), (q3, .inl (C 0, 12, .inl (fun _ => 0))), (q4, .inl (C 0, 12, .inl (fun _ => 0))), (q5, .inl (C 0, 12, .inl (fun _ => 0))), (q6, .inl (C 0, 12, .inl (fun _ => 0))), (q7, .inl (C 0, 12, .inl (fun _ => 0))), (q8, .inl (C 0, 48, .inl (fun _ => 0)))] := hD
  refine lv_aload_n hx hb dX1_init_97 rfl (lv_at hl 0 rfl) ?_
  refine lv_iconst (v := 0) hx hb dX1_init_98 (by decide) ?_
  refine va_put (D := D) (ci := 4) (v := .int 0) (ty := .int) (C := RX1) (T := TX1) (N := 16) hx hb hts hinX1 tyX1 tyX1_ok nmX1 hown hK hP hD hS 0 rfl rfl 14 (by decide) (hts (.fieldLink RX1 55 "BridgeAuction$Game" "settlings" "I") (by decide +kernel)) (fun _ h9 => h9) rfl (by decide +kernel) rfl rfl (Nat.le_of_ble_eq_true rfl) dX1_init_99 (fun H locs hP hD hS => ?_)
  have hP : va_P D vwCl [(a0, .inr (4, [.ref q1, .int 0, .int 0, .ref q2, .int 0, .int 0, .ref q3, .ref q4, .ref q5, .ref q6, .ref q7, .ref q8, .int 0, .int 0, .int 0, .int 0])), (q1, .inl (C 0, 8, .inl (fun _ => 0))), (q2, .inl (C 0, 4, .inl (fun _ => 0))), (q3, .inl (C 0, 12, .inl (fun _ => 0))), (q4, .inl (C 0, 12, .inl (fun _ => 0))), (q5, .inl (C 0, 12, .inl (fun _ => 0))), (q6, .inl (C 0, 12, .inl (fun _ => 0))), (q7, .inl (C 0, 12, .inl (fun _ => 0))), (q8, .inl (C 0, 48, .inl (fun _ => 0)))] H := hP
  have hD : va_D A [(a0, .inr (4, [.ref q1, .int 0, .int 0, .ref q2, .int 0, .int 0, .ref q3, .ref q4, .ref q5, .ref q6, .ref q7, .ref q8, .int 0, .int 0, .int 0, .int 0])), (q1, .inl (C 0, 8, .inl (fun _ => 0))), (q2, .inl (C 0, 4, .inl (fun _ => 0))), (q3, .inl (C 0, 12, .inl (fun _ => 0))), (q4, .inl (C 0, 12, .inl (fun _ => 0))), (q5, .inl (C 0, 12, .inl (fun _ => 0))), (q6, .inl (C 0, 12, .inl (fun _ => 0))), (q7, .inl (C 0, 12, .inl (fun _ => 0))), (q8, .inl (C 0, 48, .inl (fun _ => 0)))] := hD
  refine lv_aload_n hx hb dX1_init_102 rfl (lv_at hl 0 rfl) ?_
  refine lv_iconst (v := 0) hx hb dX1_init_103 (by decide) ?_
  refine va_put (D := D) (ci := 4) (v := .int 0) (ty := .int) (C := RX1) (T := TX1) (N := 16) hx hb hts hinX1 tyX1 tyX1_ok nmX1 hown hK hP hD hS 0 rfl rfl 15 (by decide) (hts (.fieldLink RX1 58 "BridgeAuction$Game" "wonBluffs" "I") (by decide +kernel)) (fun _ h9 => h9) rfl (by decide +kernel) rfl rfl (Nat.le_of_ble_eq_true rfl) dX1_init_104 (fun H locs hP hD hS => ?_)
  have hP : va_P D vwCl [(a0, .inr (4, [.ref q1, .int 0, .int 0, .ref q2, .int 0, .int 0, .ref q3, .ref q4, .ref q5, .ref q6, .ref q7, .ref q8, .int 0, .int 0, .int 0, .int 0])), (q1, .inl (C 0, 8, .inl (fun _ => 0))), (q2, .inl (C 0, 4, .inl (fun _ => 0))), (q3, .inl (C 0, 12, .inl (fun _ => 0))), (q4, .inl (C 0, 12, .inl (fun _ => 0))), (q5, .inl (C 0, 12, .inl (fun _ => 0))), (q6, .inl (C 0, 12, .inl (fun _ => 0))), (q7, .inl (C 0, 12, .inl (fun _ => 0))), (q8, .inl (C 0, 48, .inl (fun _ => 0)))] H := hP
  have hD : va_D A [(a0, .inr (4, [.ref q1, .int 0, .int 0, .ref q2, .int 0, .int 0, .ref q3, .ref q4, .ref q5, .ref q6, .ref q7, .ref q8, .int 0, .int 0, .int 0, .int 0])), (q1, .inl (C 0, 8, .inl (fun _ => 0))), (q2, .inl (C 0, 4, .inl (fun _ => 0))), (q3, .inl (C 0, 12, .inl (fun _ => 0))), (q4, .inl (C 0, 12, .inl (fun _ => 0))), (q5, .inl (C 0, 12, .inl (fun _ => 0))), (q6, .inl (C 0, 12, .inl (fun _ => 0))), (q7, .inl (C 0, 12, .inl (fun _ => 0))), (q8, .inl (C 0, 48, .inl (fun _ => 0)))] := hD
  refine lv_iconst (v := 0) hx hb dX1_init_107 (by decide) ?_
  refine lv_istore_n (i := 1) hx hb dX1_init_108 rfl hl (Nat.le_of_ble_eq_true rfl) rfl (fun ls hl => ?_)
  have loop : ∀ n k, k + n = 8 → ∀ (ls : Array Slot) (H : Heap) (locs : List Loc), lv_has ls 2 [(1, .int (nI k)), (0, .ref a0)] → va_P D vwCl [(a0, .inr (4, [.ref q1, .int 0, .int 0, .ref q2, .int 0, .int 0, .ref q3, .ref q4, .ref q5, .ref q6, .ref q7, .ref q8, .int 0, .int 0, .int 0, .int 0])), (q1, .inl (C 0, 8, .inl (suits0 k))), (q2, .inl (C 0, 4, .inl (fun _ => 0))), (q3, .inl (C 0, 12, .inl (fun _ => 0))), (q4, .inl (C 0, 12, .inl (fun _ => 0))), (q5, .inl (C 0, 12, .inl (fun _ => 0))), (q6, .inl (C 0, 12, .inl (fun _ => 0))), (q7, .inl (C 0, 12, .inl (fun _ => 0))), (q8, .inl (C 0, 48, .inl (fun _ => 0)))] H → va_D A [(a0, .inr (4, [.ref q1, .int 0, .int 0, .ref q2, .int 0, .int 0, .ref q3, .ref q4, .ref q5, .ref q6, .ref q7, .ref q8, .int 0, .int 0, .int 0, .int 0])), (q1, .inl (C 0, 8, .inl (suits0 k))), (q2, .inl (C 0, 4, .inl (fun _ => 0))), (q3, .inl (C 0, 12, .inl (fun _ => 0))), (q4, .inl (C 0, 12, .inl (fun _ => 0))), (q5, .inl (C 0, 12, .inl (fun _ => 0))), (q6, .inl (C 0, 12, .inl (fun _ => 0))), (q7, .inl (C 0, 12, .inl (fun _ => 0))), (q8, .inl (C 0, 48, .inl (fun _ => 0)))] → va_S A s.heap H locs → W p l e (headSpec wsX1_init ({ frames := 1, cells := 8, slots := 120, locals := 40 } : Room)).room s m #[.ref a0] below meth c H locs 8 120 (MQ below (eO (fun _ : Nat → Nat => none) D (fun a => a 0 = a0) (fun a => gcells C a G0) A) #[.ref a0] s 8 120 A) (F0 m 109 ls []) := by
    intro n
    induction n with
    | zero =>
      intro k hk ls H locs hl hP hD hS
      obtain rfl : k = 8 := by omega
      refine lv_iload_n hx hb dX1_init_109 rfl (lv_at hl 0 rfl) ?_
      refine lv_bipush (v := 8) hx hb dX1_init_110 (by decide) ?_
      refine lv_icmp_ge (tgt := 130) hx hb dX1_init_112 (by decide) (fun _ => ?_) (fun c_1 => absurd (show (8 : Int32) ≤ nI 8 from by decide) c_1)
      exact e_retN (fun i => [a0, q1, q2, q3, q4, q5, q6, q7, q8].getD i 0) rfl hx hb hr rfl hP hD hS (Nat.le_of_ble_eq_true rfl) (Nat.le_of_ble_eq_true rfl) dX1_init_130 hlocks
    | succ n ih =>
      intro k hk ls H locs hl hP hD hS
      refine lv_iload_n hx hb dX1_init_109 rfl (lv_at hl 0 rfl) ?_
      refine lv_bipush (v := 8) hx hb dX1_init_110 (by decide) ?_
      refine lv_icmp_ge (tgt := 130) hx hb dX1_init_112 (by decide) (fun c_1 => absurd c_1 (nI_ge (b := 8) (by omega) (by decide))) (fun _ => ?_)
      refine lv_aload_n hx hb dX1_init_115 rfl (lv_at hl 1 rfl) ?_
      refine va_get (D := D) (ci := 4) (v := .ref q1) (C := RX1) (T := TX1) (N := 16) hx hb hts hinX1 hown hK hP 0 rfl rfl 0 (by decide) (hts (.fieldLink RX1 9 "BridgeAuction$Game" "suits" "[I") (by decide +kernel)) (fun _ h9 => h9) rfl dX1_init_116 ?_
      refine lv_iload_n hx hb dX1_init_119 rfl (lv_at hl 0 rfl) ?_
      refine lv_iload_n hx hb dX1_init_120 rfl (lv_at hl 0 rfl) ?_
      refine lv_iconst (v := 4) hx hb dX1_init_121 (by decide) ?_
      refine lv_irem hx hb dX1_init_122 (by decide) ?_
      refine topI (nI_rem4 (by omega)) ?_
      refine va_iast hx hb hK hP hD hS 1 0 rfl rfl (vp_in_nI (by omega) (by decide)) dX1_init_123 (fun H locs hP hD hS => ?_)
      refine lv_iinc (v := nI (k + 1)) (lv' := [(1, .int (nI (k + 1))), (0, .ref a0)]) hx hb dX1_init_124 hl (k := 0) rfl (nI_1 k) (by decide) rfl (fun ls hl => ?_)
      refine lv_goto (tgt := 109) hx hb dX1_init_127 (by decide) ?_
      have es : upd (suits0 k) (nI k).toNatClampNeg (nI (k % 4)) = suits0 (k + 1) := by
        unfold suits0
        rw [itF_snoc, Nat.zero_add, nI_clamp (by omega)]
      have hP : va_P D vwCl [(a0, .inr (4, [.ref q1, .int 0, .int 0, .ref q2, .int 0, .int 0, .ref q3, .ref q4, .ref q5, .ref q6, .ref q7, .ref q8, .int 0, .int 0, .int 0, .int 0])), (q1, .inl (C 0, 8, .inl (suits0 (k + 1)))), (q2, .inl (C 0, 4, .inl (fun _ => 0))), (q3, .inl (C 0, 12, .inl (fun _ => 0))), (q4, .inl (C 0, 12, .inl (fun _ => 0))), (q5, .inl (C 0, 12, .inl (fun _ => 0))), (q6, .inl (C 0, 12, .inl (fun _ => 0))), (q7, .inl (C 0, 12, .inl (fun _ => 0))), (q8, .inl (C 0, 48, .inl (fun _ => 0)))] H := by rw [← es]; exact hP
      have hD : va_D A [(a0, .inr (4, [.ref q1, .int 0, .int 0, .ref q2, .int 0, .int 0, .ref q3, .ref q4, .ref q5, .ref q6, .ref q7, .ref q8, .int 0, .int 0, .int 0, .int 0])), (q1, .inl (C 0, 8, .inl (suits0 (k + 1)))), (q2, .inl (C 0, 4, .inl (fun _ => 0))), (q3, .inl (C 0, 12, .inl (fun _ => 0))), (q4, .inl (C 0, 12, .inl (fun _ => 0))), (q5, .inl (C 0, 12, .inl (fun _ => 0))), (q6, .inl (C 0, 12, .inl (fun _ => 0))), (q7, .inl (C 0, 12, .inl (fun _ => 0))), (q8, .inl (C 0, 48, .inl (fun _ => 0)))] := by rw [← es]; exact hD
      exact ih (k + 1) (by omega) ls H locs hl hP hD hS
  exact loop 8 0 rfl ls _ _ hl hP hD hS
