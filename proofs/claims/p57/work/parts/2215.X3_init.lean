abbrev bX3 : List Value := [.null, .int 0, .int 0]
def H0S : HS := mkHS (fun _ => G0) 0 0
theorem cls_obj {D : va_G} {tys : List (ClassId × FieldType)} {U : State} {i j : Nat} {x y : ClassId} {n : String} (hK : va_K D vwCl tys U) (hi : tys[i]? = some (x, .object n)) (hj : tys[j]? = some (y, .object n)) : x = y := by
  obtain ⟨-, -, -, -, -, h1⟩ := (hK.2 i _ hi).2
  obtain ⟨-, -, -, -, -, h2⟩ := (hK.2 j _ hj).2
  exact Option.some.inj (h1.symm.trans h2)
def rgF (as : List (Nat → Nat)) : Nat → Option Nat := fun j => (as[j]?).map (fun a => a 0)
def hAd (a0 r : Nat) (as : List (Nat → Nat)) : Nat → Nat := fun i => if i = 0 then a0 else if i = 1 then r else (as.getD ((i - 10) / 10) (fun _ => 0)) ((i - 10) % 10)
theorem ring_P {D : va_G} {x : Nat × va_E} {r n : Nat} {c : ClassId} {f g : Nat → Option Nat} {rest : va_W} {H : Heap} (h : va_P D vwCl (x :: (r, .inl (c, n, .inr (.inr (.inr (.inr f))))) :: rest) H) (e : ∀ j, j < n → f j = g j) : va_P D vwCl (x :: (r, .inl (c, n, .inr (.inr (.inr (.inr g))))) :: rest) H := by
  intro k q hk
  match k, hk with
  | 0, hk => exact h 0 q hk
  | 1, hk =>
    have h1 : H[r]? = some (vp_cell c (n, .inr (.inr (.inr (.inr f))))) := h 1 _ rfl
    cases hk
    show H[r]? = some (vp_cell c (n, .inr (.inr (.inr (.inr g)))))
    rw [h1, ring_cg e]
  | k + 2, hk => exact h (k + 2) q hk
theorem ring_D {A : Nat → Prop} {x : Nat × va_E} {r : Nat} {e0 e1 : va_E} {rest : va_W} (h : va_D A (x :: (r, e0) :: rest)) : va_D A (x :: (r, e1) :: rest) := va_D.set h (p := 1) rfl
def i3P (av : List Value) (D : va_G) (C : Nat → ClassId) (ws : va_W) (sz : Nat) : Array Value → State → Prop := fun a U => rwP av D C ws sz a U ∧ va_AO "BridgeAuction$Game" U
set_option maxHeartbeats 8000000 in
set_option maxRecDepth 100000 in
theorem c_X3_init (l : Launch) (D : va_G) (C : Nat → ClassId) (a0 : Nat) (sz : Nat) : Met l yX3_init wsX3_init ({ frames := 2, cells := 73, slots := 1096, locals := 90 } : Room) (i3P [.ref a0] D C [(a0, .inr (6, bX3))] sz) (eO (fun _ : Nat → Nat => none) D (fun a => a 0 = a0) (fun a => hcells C a H0S) (va_A [(a0, .inr (6, bX3))] sz)) 73 1096 (va_A [(a0, .inr (6, bX3))] sz) := by
  refine Met.ofW (cc := cX3_init) (maxL := 2) (ret := none) (by decide) rfl ?_
  intro p e s m args below meth c s₁ B hml hv
  obtain ⟨⟨rfl, hsz, hP, hK, hD0, hE⟩, hAO⟩ := hv
  have hx := B.exec
  have hb := B.bytes
  have hr := B.returns
  have hts := atoms_spec (ws := wsX3_init) B.pre
  have hown : s.vm.findClass RX3 = some m.cls := findClass_of_methodNamed B.named
  have hin2 : meth.name = "<init>" := (name_of_methodNamed B.named B.method).1
  have hlocks := B.notSynchronized
  subst hsz
  have hD := hD0.self (sz := s.heap.size)
  generalize hAe : va_A [(a0, .inr (6, bX3))] s.heap.size = A at hD ⊢
  have hA : ∀ q : Nat, s.heap.size ≤ q → A q := fun q h => by rw [← hAe]; exact Or.inr h
  have hS : va_S A s.heap s.heap [] := va_S.rf
  have hinX : ∀ w ∈ u_ws RX3 TX3 3, w ∈ wsX3_init := by decide +kernel
  have hinX1 : ∀ w ∈ u_ws RX1 TX1 16, w ∈ wsX3_init := by decide +kernel
  have hl := lv_entry ([.ref a0]) (n := 2) (Nat.le_of_ble_eq_true rfl)
  rw [lg_entry_eq]
  generalize (lg_sl ([.ref a0]) ++ List.replicate (2 - (lg_sl ([.ref a0])).length) Slot.unset).toArray = ls at hl ⊢
  have hl : lv_has ls 2 [(0, .ref a0)] := hl
  refine lv_aload_n hx hb dX3_init_0 rfl (lv_at hl 0 rfl) ?_
  refine W.objInit hx hb hown (hts (.methodLink RX3 3 objectInit) (by decide +kernel)) (hts (.instanceMethod objectInit) (by decide +kernel)) (hts (.code objectInit ⟨#[0xb1]⟩ 1 none) (by decide +kernel)) rfl (hl.1.trans hml.symm) rfl dX3_init_1 (Nat.le_of_ble_eq_true rfl) (Nat.le_of_ble_eq_true rfl) ?_
  refine lv_aload_n hx hb dX3_init_4 rfl (lv_at hl 0 rfl) ?_
  refine lv_bipush (v := 8) hx hb dX3_init_5 (by decide) ?_
  refine va_newq (C := "BridgeAuction$Game") (N' := 8) hx hb hown (hts (.classLink RX3 9 RX1) (by decide +kernel)) hAO hK hP hD hS hA (by decide) (by decide) (by decide) (Nat.le_of_ble_eq_true rfl) (Nat.le_of_ble_eq_true rfl) dX3_init_7 (fun r cA H hK9 hP hD hS => ?_)
  obtain rfl : cA = C 2 := cls_obj hK9 (i := 6) (j := 2) rfl rfl
  refine va_putF (D := D) (ci := 6) (v := .ref r) (ty := (.array (.object "BridgeAuction$Game"))) (C := RX3) (T := TX3) (N := 3) hx hb hts hinX tyX3 tyX3_ok nmX3 hown hK hP hD hS 0 rfl rfl 0 (by decide) (hts (.fieldLink RX3 11 "BridgeAuction$History" "ring" "[LBridgeAuction$Game;") (by decide +kernel)) (fun _ h9 => h9) rfl hin2 rfl (by decide +kernel) rfl rfl (Nat.le_of_ble_eq_true rfl) dX3_init_10 (fun H locs hP hD hS => ?_)
  refine lv_aload_n hx hb dX3_init_13 rfl (lv_at hl 0 rfl) ?_
  refine lv_iconst (v := 0) hx hb dX3_init_14 (by decide) ?_
  refine va_put (D := D) (ci := 6) (v := .int 0) (ty := .int) (C := RX3) (T := TX3) (N := 3) hx hb hts hinX tyX3 tyX3_ok nmX3 hown hK hP hD hS 0 rfl rfl 1 (by decide) (hts (.fieldLink RX3 17 "BridgeAuction$History" "next" "I") (by decide +kernel)) (fun _ h9 => h9) rfl (by decide +kernel) rfl rfl (Nat.le_of_ble_eq_true rfl) dX3_init_15 (fun H locs hP hD hS => ?_)
  refine lv_aload_n hx hb dX3_init_18 rfl (lv_at hl 0 rfl) ?_
  refine lv_iconst (v := 0) hx hb dX3_init_19 (by decide) ?_
  refine va_put (D := D) (ci := 6) (v := .int 0) (ty := .int) (C := RX3) (T := TX3) (N := 3) hx hb hts hinX tyX3 tyX3_ok nmX3 hown hK hP hD hS 0 rfl rfl 2 (by decide) (hts (.fieldLink RX3 21 "BridgeAuction$History" "count" "I") (by decide +kernel)) (fun _ h9 => h9) rfl (by decide +kernel) rfl rfl (Nat.le_of_ble_eq_true rfl) dX3_init_20 (fun H locs hP hD hS => ?_)
  refine lv_iconst (v := nI 0) hx hb dX3_init_23 (by decide) ?_
  refine lv_istore_n (i := 1) (lv' := [(1, .int (nI 0)), (0, .ref a0)]) hx hb dX3_init_24 rfl hl (Nat.le_of_ble_eq_true rfl) rfl (fun ls hl => ?_)
  have hP : va_P D vwCl (wj [[(a0, .inr (6, [.ref r, .int 0, .int 0])), (r, .inl (C 2, 8, .inr (.inr (.inr (.inr (fun _ => none))))))]]) H := hP
  have hD : va_D A (wj [[(a0, .inr (6, [.ref r, .int 0, .int 0])), (r, .inl (C 2, 8, .inr (.inr (.inr (.inr (fun _ => none))))))]]) := hD
  refine lv_iload_n hx hb dX3_init_25 rfl (lv_at hl 0 rfl) ?_
  refine lv_bipush (v := 8) hx hb dX3_init_26 (by decide) ?_
  refine lv_icmp_ge (tgt := 50) hx hb dX3_init_28 rfl (fun c_1 => absurd c_1 (by decide)) (fun _ => ?_)
  refine lv_aload_n hx hb dX3_init_31 rfl (lv_at hl 1 rfl) ?_
  refine va_get (D := D) (ci := 6) (v := .ref r) (C := RX3) (T := TX3) (N := 3) hx hb hts hinX hown hK hP 0 rfl rfl 0 (by decide) (hts (.fieldLink RX3 11 "BridgeAuction$History" "ring" "[LBridgeAuction$Game;") (by decide +kernel)) (fun _ h9 => h9) rfl dX3_init_32 ?_
  refine lv_iload_n hx hb dX3_init_35 rfl (lv_at hl 0 rfl) ?_
  refine va_new (C := RX1) (T := TX1) (N := 16) (ci := 4) (fs := gBlank) hx hb hts hinX1 tyX1 tyX1_ok hown (hts (.classLink RX3 9 RX1) (by decide +kernel)) (hts (.instantiable RX1 16) (by decide +kernel)) (hts (.initialized RX1) (by decide +kernel)) hK hP hD hS hA rfl (by decide) (Nat.le_of_ble_eq_true rfl) (Nat.le_of_ble_eq_true rfl) dX3_init_36 (fun q H hP hD hS => ?_)
  have hP : va_P D vwCl (wj [[(a0, .inr (6, [.ref r, .int 0, .int 0])), (r, .inl (C 2, 8, .inr (.inr (.inr (.inr (fun _ => none))))))], [(q, .inr (4, gBlank))]]) H := hP
  have hD : va_D A (wj [[(a0, .inr (6, [.ref r, .int 0, .int 0])), (r, .inl (C 2, 8, .inr (.inr (.inr (.inr (fun _ => none))))))], [(q, .inr (4, gBlank))]]) := hD
  refine lv_dup hx hb dX3_init_39 rfl ?_
  have hPc : va_P D vwCl [(q, .inr (4, gBlank))] _ := wj_P (cs := [[(q, .inr (4, gBlank))]]) hP [1] rfl
  have hDc : va_D A [(q, .inr (4, gBlank))] := wj_D (cs := [[(q, .inr (4, gBlank))]]) hD [1] (by decide) rfl
  have hFc := all_F hDc hS hA
  refine callE (va_runI (As := []) (rest := [.ref q, .int (nI 0), .ref r]) (b := q) ⟨hx, hb, hml, hown, hts⟩ (c_X1_init l D C q _) (cwI 0 hts gX3_init_X1_init rfl rfl rfl (hts (.initialized RX1) (by decide +kernel)) (hts (.methodLink RX3 24 yX1_init) (by decide +kernel)) (hts (.instanceMethod yX1_init) (by decide +kernel)) rfl (by decide +kernel) ⟨Nat.le_of_ble_eq_true rfl, Nat.le_of_ble_eq_true rfl⟩) (rwP_s (As := [.ref q]) hPc hK hE hDc) rfl rfl hl.1 rfl (lv_room (Nat.le_of_ble_eq_true rfl)) dX3_init_40 ⟨Nat.le_of_ble_eq_true rfl, Nat.le_of_ble_eq_true rfl⟩) hS hFc (fun g0 H1 locs hF1 hPn hDn hk hS => ?_)
  have hD1 : va_D A (wj [[(a0, .inr (6, [.ref r, .int 0, .int 0])), (r, .inl (C 2, 8, .inr (.inr (.inr (.inr (fun _ => none))))))], gcells C g0 G0]) := jbD (bs := [[(a0, .inr (6, [.ref r, .int 0, .int 0])), (r, .inl (C 2, 8, .inr (.inr (.inr (.inr (fun _ => none))))))], [(q, .inr (4, gBlank))]]) (cs := [[(q, .inr (4, gBlank))]]) (rs := [[(a0, .inr (6, [.ref r, .int 0, .int 0])), (r, .inl (C 2, 8, .inr (.inr (.inr (.inr (fun _ => none))))))]]) (cs' := [gcells C g0 G0]) (bs' := [[(a0, .inr (6, [.ref r, .int 0, .int 0])), (r, .inl (C 2, 8, .inr (.inr (.inr (.inr (fun _ => none))))))], gcells C g0 G0]) hP hD (bsP 2 [1, 0] rfl (by decide) rfl) (bsP 2 [1, 0] rfl (by decide) rfl) hFc hDn
  have hP1 : va_P D vwCl (wj [[(a0, .inr (6, [.ref r, .int 0, .int 0])), (r, .inl (C 2, 8, .inr (.inr (.inr (.inr (fun _ => none))))))], gcells C g0 G0]) H1 := jb (bs := [[(a0, .inr (6, [.ref r, .int 0, .int 0])), (r, .inl (C 2, 8, .inr (.inr (.inr (.inr (fun _ => none))))))], [(q, .inr (4, gBlank))]]) (cs := [[(q, .inr (4, gBlank))]]) (rs := [[(a0, .inr (6, [.ref r, .int 0, .int 0])), (r, .inl (C 2, 8, .inr (.inr (.inr (.inr (fun _ => none))))))]]) (cs' := [gcells C g0 G0]) (bs' := [[(a0, .inr (6, [.ref r, .int 0, .int 0])), (r, .inl (C 2, 8, .inr (.inr (.inr (.inr (fun _ => none))))))], gcells C g0 G0]) hP hD (bsP 2 [1, 0] rfl (by decide) rfl) (bsP 2 [1, 0] rfl (by decide) rfl) hk hPn
  clear hP hD hPc hDc hFc hPn hDn hk
  have hF1 : g0 0 = q := hF1
  subst hF1
  have hP := hP1
  have hD := hD1
  clear hP1 hD1
  refine va_astq hx hb hK hP hD hS 1 2 2 4 rfl rfl rfl rfl (vp_in_nI (by decide) (by decide)) dX3_init_43 (fun H locs hP hD hS => ?_)
  have hP1 := ring_P (g := (rgF [g0])) hP (fun j hj => by
    rcases (by omega : j = 0 ∨ j = 1 ∨ j = 2 ∨ j = 3 ∨ j = 4 ∨ j = 5 ∨ j = 6 ∨ j = 7) with h | h | h | h | h | h | h | h <;> subst h <;> rfl)
  have hD1 := ring_D (e1 := (.inl (C 2, 8, .inr (.inr (.inr (.inr (rgF [g0]))))))) hD
  clear hP hD
  have hP := hP1
  have hD := hD1
  clear hP1 hD1
  have hP : va_P D vwCl (wj [[(a0, .inr (6, [.ref r, .int 0, .int 0])), (r, .inl (C 2, 8, .inr (.inr (.inr (.inr (rgF [g0]))))))], gcells C g0 G0]) H := hP
  have hD : va_D A (wj [[(a0, .inr (6, [.ref r, .int 0, .int 0])), (r, .inl (C 2, 8, .inr (.inr (.inr (.inr (rgF [g0]))))))], gcells C g0 G0]) := hD
  refine lv_iinc (v := nI 1) (lv' := [(1, .int (nI 1)), (0, .ref a0)]) hx hb dX3_init_44 hl (k := 0) rfl (nI_1 0) (by decide) rfl (fun ls hl => ?_)
  refine lv_goto (tgt := 25) hx hb dX3_init_47 rfl ?_
  refine lv_iload_n hx hb dX3_init_25 rfl (lv_at hl 0 rfl) ?_
  refine lv_bipush (v := 8) hx hb dX3_init_26 (by decide) ?_
  refine lv_icmp_ge (tgt := 50) hx hb dX3_init_28 rfl (fun c_1 => absurd c_1 (by decide)) (fun _ => ?_)
  refine lv_aload_n hx hb dX3_init_31 rfl (lv_at hl 1 rfl) ?_
  refine va_get (D := D) (ci := 6) (v := .ref r) (C := RX3) (T := TX3) (N := 3) hx hb hts hinX hown hK hP 0 rfl rfl 0 (by decide) (hts (.fieldLink RX3 11 "BridgeAuction$History" "ring" "[LBridgeAuction$Game;") (by decide +kernel)) (fun _ h9 => h9) rfl dX3_init_32 ?_
  refine lv_iload_n hx hb dX3_init_35 rfl (lv_at hl 0 rfl) ?_
  refine va_new (C := RX1) (T := TX1) (N := 16) (ci := 4) (fs := gBlank) hx hb hts hinX1 tyX1 tyX1_ok hown (hts (.classLink RX3 9 RX1) (by decide +kernel)) (hts (.instantiable RX1 16) (by decide +kernel)) (hts (.initialized RX1) (by decide +kernel)) hK hP hD hS hA rfl (by decide) (Nat.le_of_ble_eq_true rfl) (Nat.le_of_ble_eq_true rfl) dX3_init_36 (fun q H hP hD hS => ?_)
  have hP : va_P D vwCl (wj [[(a0, .inr (6, [.ref r, .int 0, .int 0])), (r, .inl (C 2, 8, .inr (.inr (.inr (.inr (rgF [g0]))))))], gcells C g0 G0, [(q, .inr (4, gBlank))]]) H := hP
  have hD : va_D A (wj [[(a0, .inr (6, [.ref r, .int 0, .int 0])), (r, .inl (C 2, 8, .inr (.inr (.inr (.inr (rgF [g0]))))))], gcells C g0 G0, [(q, .inr (4, gBlank))]]) := hD
  refine lv_dup hx hb dX3_init_39 rfl ?_
  have hPc : va_P D vwCl [(q, .inr (4, gBlank))] _ := wj_P (cs := [[(q, .inr (4, gBlank))]]) hP [2] rfl
  have hDc : va_D A [(q, .inr (4, gBlank))] := wj_D (cs := [[(q, .inr (4, gBlank))]]) hD [2] (by decide) rfl
  have hFc := all_F hDc hS hA
  refine callE (va_runI (As := []) (rest := [.ref q, .int (nI 1), .ref r]) (b := q) ⟨hx, hb, hml, hown, hts⟩ (c_X1_init l D C q _) (cwI 0 hts gX3_init_X1_init rfl rfl rfl (hts (.initialized RX1) (by decide +kernel)) (hts (.methodLink RX3 24 yX1_init) (by decide +kernel)) (hts (.instanceMethod yX1_init) (by decide +kernel)) rfl (by decide +kernel) ⟨Nat.le_of_ble_eq_true rfl, Nat.le_of_ble_eq_true rfl⟩) (rwP_s (As := [.ref q]) hPc hK hE hDc) rfl rfl hl.1 rfl (lv_room (Nat.le_of_ble_eq_true rfl)) dX3_init_40 ⟨Nat.le_of_ble_eq_true rfl, Nat.le_of_ble_eq_true rfl⟩) hS hFc (fun g1 H1 locs hF1 hPn hDn hk hS => ?_)
  have hD1 : va_D A (wj [[(a0, .inr (6, [.ref r, .int 0, .int 0])), (r, .inl (C 2, 8, .inr (.inr (.inr (.inr (rgF [g0]))))))], gcells C g0 G0, gcells C g1 G0]) := jbD (bs := [[(a0, .inr (6, [.ref r, .int 0, .int 0])), (r, .inl (C 2, 8, .inr (.inr (.inr (.inr (rgF [g0]))))))], gcells C g0 G0, [(q, .inr (4, gBlank))]]) (cs := [[(q, .inr (4, gBlank))]]) (rs := [[(a0, .inr (6, [.ref r, .int 0, .int 0])), (r, .inl (C 2, 8, .inr (.inr (.inr (.inr (rgF [g0]))))))], gcells C g0 G0]) (cs' := [gcells C g1 G0]) (bs' := [[(a0, .inr (6, [.ref r, .int 0, .int 0])), (r, .inl (C 2, 8, .inr (.inr (.inr (.inr (rgF [g0]))))))], gcells C g0 G0, gcells C g1 G0]) hP hD (bsP 3 [2, 0, 1] rfl (by decide) rfl) (bsP 3 [1, 2, 0] rfl (by decide) rfl) hFc hDn
  have hP1 : va_P D vwCl (wj [[(a0, .inr (6, [.ref r, .int 0, .int 0])), (r, .inl (C 2, 8, .inr (.inr (.inr (.inr (rgF [g0]))))))], gcells C g0 G0, gcells C g1 G0]) H1 := jb (bs := [[(a0, .inr (6, [.ref r, .int 0, .int 0])), (r, .inl (C 2, 8, .inr (.inr (.inr (.inr (rgF [g0]))))))], gcells C g0 G0, [(q, .inr (4, gBlank))]]) (cs := [[(q, .inr (4, gBlank))]]) (rs := [[(a0, .inr (6, [.ref r, .int 0, .int 0])), (r, .inl (C 2, 8, .inr (.inr (.inr (.inr (rgF [g0]))))))], gcells C g0 G0]) (cs' := [gcells C g1 G0]) (bs' := [[(a0, .inr (6, [.ref r, .int 0, .int 0])), (r, .inl (C 2, 8, .inr (.inr (.inr (.inr (rgF [g0]))))))], gcells C g0 G0, gcells C g1 G0]) hP hD (bsP 3 [2, 0, 1] rfl (by decide) rfl) (bsP 3 [1, 2, 0] rfl (by decide) rfl) hk hPn
  clear hP hD hPc hDc hFc hPn hDn hk
  have hF1 : g1 0 = q := hF1
  subst hF1
  have hP := hP1
  have hD := hD1
  clear hP1 hD1
  refine va_astq hx hb hK hP hD hS 1 2 11 4 rfl rfl rfl rfl (vp_in_nI (by decide) (by decide)) dX3_init_43 (fun H locs hP hD hS => ?_)
  have hP1 := ring_P (g := (rgF [g0, g1])) hP (fun j hj => by
    rcases (by omega : j = 0 ∨ j = 1 ∨ j = 2 ∨ j = 3 ∨ j = 4 ∨ j = 5 ∨ j = 6 ∨ j = 7) with h | h | h | h | h | h | h | h <;> subst h <;> rfl)
  have hD1 := ring_D (e1 := (.inl (C 2, 8, .inr (.inr (.inr (.inr (rgF [g0, g1]))))))) hD
  clear hP hD
  have hP := hP1
  have hD := hD1
  clear hP1 hD1
  have hP : va_P D vwCl (wj [[(a0, .inr (6, [.ref r, .int 0, .int 0])), (r, .inl (C 2, 8, .inr (.inr (.inr (.inr (rgF [g0, g1]))))))], gcells C g0 G0, gcells C g1 G0]) H := hP
  have hD : va_D A (wj [[(a0, .inr (6, [.ref r, .int 0, .int 0])), (r, .inl (C 2, 8, .inr (.inr (.inr (.inr (rgF [g0, g1]))))))], gcells C g0 G0, gcells C g1 G0]) := hD
  refine lv_iinc (v := nI 2) (lv' := [(1, .int (nI 2)), (0, .ref a0)]) hx hb dX3_init_44 hl (k := 0) rfl (nI_1 1) (by decide) rfl (fun ls hl => ?_)
  refine lv_goto (tgt := 25) hx hb dX3_init_47 rfl ?_
  refine lv_iload_n hx hb dX3_init_25 rfl (lv_at hl 0 rfl) ?_
  refine lv_bipush (v := 8) hx hb dX3_init_26 (by decide) ?_
  refine lv_icmp_ge (tgt := 50) hx hb dX3_init_28 rfl (fun c_1 => absurd c_1 (by decide)) (fun _ => ?_)
  refine lv_aload_n hx hb dX3_init_31 rfl (lv_at hl 1 rfl) ?_
  refine va_get (D := D) (ci := 6) (v := .ref r) (C := RX3) (T := TX3) (N := 3) hx hb hts hinX hown hK hP 0 rfl rfl 0 (by decide) (hts (.fieldLink RX3 11 "BridgeAuction$History" "ring" "[LBridgeAuction$Game;") (by decide +kernel)) (fun _ h9 => h9) rfl dX3_init_32 ?_
  refine lv_iload_n hx hb dX3_init_35 rfl (lv_at hl 0 rfl) ?_
  refine va_new (C := RX1) (T := TX1) (N := 16) (ci := 4) (fs := gBlank) hx hb hts hinX1 tyX1 tyX1_ok hown (hts (.classLink RX3 9 RX1) (by decide +kernel)) (hts (.instantiable RX1 16) (by decide +kernel)) (hts (.initialized RX1) (by decide +kernel)) hK hP hD hS hA rfl (by decide) (Nat.le_of_ble_eq_true rfl) (Nat.le_of_ble_eq_true rfl) dX3_init_36 (fun q H hP hD hS => ?_)
  have hP : va_P D vwCl (wj [[(a0, .inr (6, [.ref r, .int 0, .int 0])), (r, .inl (C 2, 8, .inr (.inr (.inr (.inr (rgF [g0, g1]))))))], gcells C g0 G0, gcells C g1 G0, [(q, .inr (4, gBlank))]]) H := hP
  have hD : va_D A (wj [[(a0, .inr (6, [.ref r, .int 0, .int 0])), (r, .inl (C 2, 8, .inr (.inr (.inr (.inr (rgF [g0, g1]))))))], gcells C g0 G0, gcells C g1 G0, [(q, .inr (4, gBlank))]]) := hD
  refine lv_dup hx hb dX3_init_39 rfl ?_
  have hPc : va_P D vwCl [(q, .inr (4, gBlank))] _ := wj_P (cs := [[(q, .inr (4, gBlank))]]) hP [3] rfl
  have hDc : va_D A [(q, .inr (4, gBlank))] := wj_D (cs := [[(q, .inr (4, gBlank))]]) hD [3] (by decide) rfl
  have hFc := all_F hDc hS hA
  refine callE (va_runI (As := []) (rest := [.ref q, .int (nI 2), .ref r]) (b := q) ⟨hx, hb, hml, hown, hts⟩ (c_X1_init l D C q _) (cwI 0 hts gX3_init_X1_init rfl rfl rfl (hts (.initialized RX1) (by decide +kernel)) (hts (.methodLink RX3 24 yX1_init) (by decide +kernel)) (hts (.instanceMethod yX1_init) (by decide +kernel)) rfl (by decide +kernel) ⟨Nat.le_of_ble_eq_true rfl, Nat.le_of_ble_eq_true rfl⟩) (rwP_s (As := [.ref q]) hPc hK hE hDc) rfl rfl hl.1 rfl (lv_room (Nat.le_of_ble_eq_true rfl)) dX3_init_40 ⟨Nat.le_of_ble_eq_true rfl, Nat.le_of_ble_eq_true rfl⟩) hS hFc (fun g2 H1 locs hF1 hPn hDn hk hS => ?_)
  have hD1 : va_D A (wj [[(a0, .inr (6, [.ref r, .int 0, .int 0])), (r, .inl (C 2, 8, .inr (.inr (.inr (.inr (rgF [g0, g1]))))))], gcells C g0 G0, gcells C g1 G0, gcells C g2 G0]) := jbD (bs := [[(a0, .inr (6, [.ref r, .int 0, .int 0])), (r, .inl (C 2, 8, .inr (.inr (.inr (.inr (rgF [g0, g1]))))))], gcells C g0 G0, gcells C g1 G0, [(q, .inr (4, gBlank))]]) (cs := [[(q, .inr (4, gBlank))]]) (rs := [[(a0, .inr (6, [.ref r, .int 0, .int 0])), (r, .inl (C 2, 8, .inr (.inr (.inr (.inr (rgF [g0, g1]))))))], gcells C g0 G0, gcells C g1 G0]) (cs' := [gcells C g2 G0]) (bs' := [[(a0, .inr (6, [.ref r, .int 0, .int 0])), (r, .inl (C 2, 8, .inr (.inr (.inr (.inr (rgF [g0, g1]))))))], gcells C g0 G0, gcells C g1 G0, gcells C g2 G0]) hP hD (bsP 4 [3, 0, 1, 2] rfl (by decide) rfl) (bsP 4 [1, 2, 3, 0] rfl (by decide) rfl) hFc hDn
  have hP1 : va_P D vwCl (wj [[(a0, .inr (6, [.ref r, .int 0, .int 0])), (r, .inl (C 2, 8, .inr (.inr (.inr (.inr (rgF [g0, g1]))))))], gcells C g0 G0, gcells C g1 G0, gcells C g2 G0]) H1 := jb (bs := [[(a0, .inr (6, [.ref r, .int 0, .int 0])), (r, .inl (C 2, 8, .inr (.inr (.inr (.inr (rgF [g0, g1]))))))], gcells C g0 G0, gcells C g1 G0, [(q, .inr (4, gBlank))]]) (cs := [[(q, .inr (4, gBlank))]]) (rs := [[(a0, .inr (6, [.ref r, .int 0, .int 0])), (r, .inl (C 2, 8, .inr (.inr (.inr (.inr (rgF [g0, g1]))))))], gcells C g0 G0, gcells C g1 G0]) (cs' := [gcells C g2 G0]) (bs' := [[(a0, .inr (6, [.ref r, .int 0, .int 0])), (r, .inl (C 2, 8, .inr (.inr (.inr (.inr (rgF [g0, g1]))))))], gcells C g0 G0, gcells C g1 G0, gcells C g2 G0]) hP hD (bsP 4 [3, 0, 1, 2] rfl (by decide) rfl) (bsP 4 [1, 2, 3, 0] rfl (by decide) rfl) hk hPn
  clear hP hD hPc hDc hFc hPn hDn hk
  have hF1 : g2 0 = q := hF1
  subst hF1
  have hP := hP1
  have hD := hD1
  clear hP1 hD1
  refine va_astq hx hb hK hP hD hS 1 2 20 4 rfl rfl rfl rfl (vp_in_nI (by decide) (by decide)) dX3_init_43 (fun H locs hP hD hS => ?_)
  have hP1 := ring_P (g := (rgF [g0, g1, g2])) hP (fun j hj => by
    rcases (by omega : j = 0 ∨ j = 1 ∨ j = 2 ∨ j = 3 ∨ j = 4 ∨ j = 5 ∨ j = 6 ∨ j = 7) with h | h | h | h | h | h | h | h <;> subst h <;> rfl)
  have hD1 := ring_D (e1 := (.inl (C 2, 8, .inr (.inr (.inr (.inr (rgF [g0, g1, g2]))))))) hD
  clear hP hD
  have hP := hP1
  have hD := hD1
  clear hP1 hD1
  have hP : va_P D vwCl (wj [[(a0, .inr (6, [.ref r, .int 0, .int 0])), (r, .inl (C 2, 8, .inr (.inr (.inr (.inr (rgF [g0, g1, g2]))))))], gcells C g0 G0, gcells C g1 G0, gcells C g2 G0]) H := hP
  have hD : va_D A (wj [[(a0, .inr (6, [.ref r, .int 0, .int 0])), (r, .inl (C 2, 8, .inr (.inr (.inr (.inr (rgF [g0, g1, g2]))))))], gcells C g0 G0, gcells C g1 G0, gcells C g2 G0]) := hD
  refine lv_iinc (v := nI 3) (lv' := [(1, .int (nI 3)), (0, .ref a0)]) hx hb dX3_init_44 hl (k := 0) rfl (nI_1 2) (by decide) rfl (fun ls hl => ?_)
  refine lv_goto (tgt := 25) hx hb dX3_init_47 rfl ?_
  refine lv_iload_n hx hb dX3_init_25 rfl (lv_at hl 0 rfl) ?_
  refine lv_bipush (v := 8) hx hb dX3_init_26 (by decide) ?_
  refine lv_icmp_ge (tgt := 50) hx hb dX3_init_28 rfl (fun c_1 => absurd c_1 (by decide)) (fun _ => ?_)
  refine lv_aload_n hx hb dX3_init_31 rfl (lv_at hl 1 rfl) ?_
  refine va_get (D := D) (ci := 6) (v := .ref r) (C := RX3) (T := TX3) (N := 3) hx hb hts hinX hown hK hP 0 rfl rfl 0 (by decide) (hts (.fieldLink RX3 11 "BridgeAuction$History" "ring" "[LBridgeAuction$Game;") (by decide +kernel)) (fun _ h9 => h9) rfl dX3_init_32 ?_
  refine lv_iload_n hx hb dX3_init_35 rfl (lv_at hl 0 rfl) ?_
  refine va_new (C := RX1) (T := TX1) (N := 16) (ci := 4) (fs := gBlank) hx hb hts hinX1 tyX1 tyX1_ok hown (hts (.classLink RX3 9 RX1) (by decide +kernel)) (hts (.instantiable RX1 16) (by decide +kernel)) (hts (.initialized RX1) (by decide +kernel)) hK hP hD hS hA rfl (by decide) (Nat.le_of_ble_eq_true rfl) (Nat.le_of_ble_eq_true rfl) dX3_init_36 (fun q H hP hD hS => ?_)
  have hP : va_P D vwCl (wj [[(a0, .inr (6, [.ref r, .int 0, .int 0])), (r, .inl (C 2, 8, .inr (.inr (.inr (.inr (rgF [g0, g1, g2]))))))], gcells C g0 G0, gcells C g1 G0, gcells C g2 G0, [(q, .inr (4, gBlank))]]) H := hP
  have hD : va_D A (wj [[(a0, .inr (6, [.ref r, .int 0, .int 0])), (r, .inl (C 2, 8, .inr (.inr (.inr (.inr (rgF [g0, g1, g2]))))))], gcells C g0 G0, gcells C g1 G0, gcells C g2 G0, [(q, .inr (4, gBlank))]]) := hD
  refine lv_dup hx hb dX3_init_39 rfl ?_
  have hPc : va_P D vwCl [(q, .inr (4, gBlank))] _ := wj_P (cs := [[(q, .inr (4, gBlank))]]) hP [4] rfl
  have hDc : va_D A [(q, .inr (4, gBlank))] := wj_D (cs := [[(q, .inr (4, gBlank))]]) hD [4] (by decide) rfl
  have hFc := all_F hDc hS hA
  refine callE (va_runI (As := []) (rest := [.ref q, .int (nI 3), .ref r]) (b := q) ⟨hx, hb, hml, hown, hts⟩ (c_X1_init l D C q _) (cwI 0 hts gX3_init_X1_init rfl rfl rfl (hts (.initialized RX1) (by decide +kernel)) (hts (.methodLink RX3 24 yX1_init) (by decide +kernel)) (hts (.instanceMethod yX1_init) (by decide +kernel)) rfl (by decide +kernel) ⟨Nat.le_of_ble_eq_true rfl, Nat.le_of_ble_eq_true rfl⟩) (rwP_s (As := [.ref q]) hPc hK hE hDc) rfl rfl hl.1 rfl (lv_room (Nat.le_of_ble_eq_true rfl)) dX3_init_40 ⟨Nat.le_of_ble_eq_true rfl, Nat.le_of_ble_eq_true rfl⟩) hS hFc (fun g3 H1 locs hF1 hPn hDn hk hS => ?_)
  have hD1 : va_D A (wj [[(a0, .inr (6, [.ref r, .int 0, .int 0])), (r, .inl (C 2, 8, .inr (.inr (.inr (.inr (rgF [g0, g1, g2]))))))], gcells C g0 G0, gcells C g1 G0, gcells C g2 G0, gcells C g3 G0]) := jbD (bs := [[(a0, .inr (6, [.ref r, .int 0, .int 0])), (r, .inl (C 2, 8, .inr (.inr (.inr (.inr (rgF [g0, g1, g2]))))))], gcells C g0 G0, gcells C g1 G0, gcells C g2 G0, [(q, .inr (4, gBlank))]]) (cs := [[(q, .inr (4, gBlank))]]) (rs := [[(a0, .inr (6, [.ref r, .int 0, .int 0])), (r, .inl (C 2, 8, .inr (.inr (.inr (.inr (rgF [g0, g1, g2]))))))], gcells C g0 G0, gcells C g1 G0, gcells C g2 G0]) (cs' := [gcells C g3 G0]) (bs' := [[(a0, .inr (6, [.ref r, .int 0, .int 0])), (r, .inl (C 2, 8, .inr (.inr (.inr (.inr (rgF [g0, g1, g2]))))))], gcells C g0 G0, gcells C g1 G0, gcells C g2 G0, gcells C g3 G0]) hP hD (bsP 5 [4, 0, 1, 2, 3] rfl (by decide) rfl) (bsP 5 [1, 2, 3, 4, 0] rfl (by decide) rfl) hFc hDn
  have hP1 : va_P D vwCl (wj [[(a0, .inr (6, [.ref r, .int 0, .int 0])), (r, .inl (C 2, 8, .inr (.inr (.inr (.inr (rgF [g0, g1, g2]))))))], gcells C g0 G0, gcells C g1 G0, gcells C g2 G0, gcells C g3 G0]) H1 := jb (bs := [[(a0, .inr (6, [.ref r, .int 0, .int 0])), (r, .inl (C 2, 8, .inr (.inr (.inr (.inr (rgF [g0, g1, g2]))))))], gcells C g0 G0, gcells C g1 G0, gcells C g2 G0, [(q, .inr (4, gBlank))]]) (cs := [[(q, .inr (4, gBlank))]]) (rs := [[(a0, .inr (6, [.ref r, .int 0, .int 0])), (r, .inl (C 2, 8, .inr (.inr (.inr (.inr (rgF [g0, g1, g2]))))))], gcells C g0 G0, gcells C g1 G0, gcells C g2 G0]) (cs' := [gcells C g3 G0]) (bs' := [[(a0, .inr (6, [.ref r, .int 0, .int 0])), (r, .inl (C 2, 8, .inr (.inr (.inr (.inr (rgF [g0, g1, g2]))))))], gcells C g0 G0, gcells C g1 G0, gcells C g2 G0, gcells C g3 G0]) hP hD (bsP 5 [4, 0, 1, 2, 3] rfl (by decide) rfl) (bsP 5 [1, 2, 3, 4, 0] rfl (by decide) rfl) hk hPn
  clear hP hD hPc hDc hFc hPn hDn hk
  have hF1 : g3 0 = q := hF1
  subst hF1
  have hP := hP1
  have hD := hD1
  clear hP1 hD1
  refine va_astq hx hb hK hP hD hS 1 2 29 4 rfl rfl rfl rfl (vp_in_nI (by decide) (by decide)) dX3_init_43 (fun H locs hP hD hS => ?_)
  have hP1 := ring_P (g := (rgF [g0, g1, g2, g3])) hP (fun j hj => by
    rcases (by omega : j = 0 ∨ j = 1 ∨ j = 2 ∨ j = 3 ∨ j = 4 ∨ j = 5 ∨ j = 6 ∨ j = 7) with h | h | h | h | h | h | h | h <;> subst h <;> rfl)
  have hD1 := ring_D (e1 := (.inl (C 2, 8, .inr (.inr (.inr (.inr (rgF [g0, g1, g2, g3]))))))) hD
  clear hP hD
  have hP := hP1
  have hD := hD1
  clear hP1 hD1
  have hP : va_P D vwCl (wj [[(a0, .inr (6, [.ref r, .int 0, .int 0])), (r, .inl (C 2, 8, .inr (.inr (.inr (.inr (rgF [g0, g1, g2, g3]))))))], gcells C g0 G0, gcells C g1 G0, gcells C g2 G0, gcells C g3 G0]) H := hP
  have hD : va_D A (wj [[(a0, .inr (6, [.ref r, .int 0, .int 0])), (r, .inl (C 2, 8, .inr (.inr (.inr (.inr (rgF [g0, g1, g2, g3]))))))], gcells C g0 G0, gcells C g1 G0, gcells C g2 G0, gcells C g3 G0]) := hD
  refine lv_iinc (v := nI 4) (lv' := [(1, .int (nI 4)), (0, .ref a0)]) hx hb dX3_init_44 hl (k := 0) rfl (nI_1 3) (by decide) rfl (fun ls hl => ?_)
  refine lv_goto (tgt := 25) hx hb dX3_init_47 rfl ?_
  refine lv_iload_n hx hb dX3_init_25 rfl (lv_at hl 0 rfl) ?_
  refine lv_bipush (v := 8) hx hb dX3_init_26 (by decide) ?_
  refine lv_icmp_ge (tgt := 50) hx hb dX3_init_28 rfl (fun c_1 => absurd c_1 (by decide)) (fun _ => ?_)
  refine lv_aload_n hx hb dX3_init_31 rfl (lv_at hl 1 rfl) ?_
  refine va_get (D := D) (ci := 6) (v := .ref r) (C := RX3) (T := TX3) (N := 3) hx hb hts hinX hown hK hP 0 rfl rfl 0 (by decide) (hts (.fieldLink RX3 11 "BridgeAuction$History" "ring" "[LBridgeAuction$Game;") (by decide +kernel)) (fun _ h9 => h9) rfl dX3_init_32 ?_
  refine lv_iload_n hx hb dX3_init_35 rfl (lv_at hl 0 rfl) ?_
  refine va_new (C := RX1) (T := TX1) (N := 16) (ci := 4) (fs := gBlank) hx hb hts hinX1 tyX1 tyX1_ok hown (hts (.classLink RX3 9 RX1) (by decide +kernel)) (hts (.instantiable RX1 16) (by decide +kernel)) (hts (.initialized RX1) (by decide +kernel)) hK hP hD hS hA rfl (by decide) (Nat.le_of_ble_eq_true rfl) (Nat.le_of_ble_eq_true rfl) dX3_init_36 (fun q H hP hD hS => ?_)
  have hP : va_P D vwCl (wj [[(a0, .inr (6, [.ref r, .int 0, .int 0])), (r, .inl (C 2, 8, .inr (.inr (.inr (.inr (rgF [g0, g1, g2, g3]))))))], gcells C g0 G0, gcells C g1 G0, gcells C g2 G0, gcells C g3 G0, [(q, .inr (4, gBlank))]]) H := hP
  have hD : va_D A (wj [[(a0, .inr (6, [.ref r, .int 0, .int 0])), (r, .inl (C 2, 8, .inr (.inr (.inr (.inr (rgF [g0, g1, g2, g3]))))))], gcells C g0 G0, gcells C g1 G0, gcells C g2 G0, gcells C g3 G0, [(q, .inr (4, gBlank))]]) := hD
  refine lv_dup hx hb dX3_init_39 rfl ?_
  have hPc : va_P D vwCl [(q, .inr (4, gBlank))] _ := wj_P (cs := [[(q, .inr (4, gBlank))]]) hP [5] rfl
  have hDc : va_D A [(q, .inr (4, gBlank))] := wj_D (cs := [[(q, .inr (4, gBlank))]]) hD [5] (by decide) rfl
  have hFc := all_F hDc hS hA
  refine callE (va_runI (As := []) (rest := [.ref q, .int (nI 4), .ref r]) (b := q) ⟨hx, hb, hml, hown, hts⟩ (c_X1_init l D C q _) (cwI 0 hts gX3_init_X1_init rfl rfl rfl (hts (.initialized RX1) (by decide +kernel)) (hts (.methodLink RX3 24 yX1_init) (by decide +kernel)) (hts (.instanceMethod yX1_init) (by decide +kernel)) rfl (by decide +kernel) ⟨Nat.le_of_ble_eq_true rfl, Nat.le_of_ble_eq_true rfl⟩) (rwP_s (As := [.ref q]) hPc hK hE hDc) rfl rfl hl.1 rfl (lv_room (Nat.le_of_ble_eq_true rfl)) dX3_init_40 ⟨Nat.le_of_ble_eq_true rfl, Nat.le_of_ble_eq_true rfl⟩) hS hFc (fun g4 H1 locs hF1 hPn hDn hk hS => ?_)
  have hD1 : va_D A (wj [[(a0, .inr (6, [.ref r, .int 0, .int 0])), (r, .inl (C 2, 8, .inr (.inr (.inr (.inr (rgF [g0, g1, g2, g3]))))))], gcells C g0 G0, gcells C g1 G0, gcells C g2 G0, gcells C g3 G0, gcells C g4 G0]) := jbD (bs := [[(a0, .inr (6, [.ref r, .int 0, .int 0])), (r, .inl (C 2, 8, .inr (.inr (.inr (.inr (rgF [g0, g1, g2, g3]))))))], gcells C g0 G0, gcells C g1 G0, gcells C g2 G0, gcells C g3 G0, [(q, .inr (4, gBlank))]]) (cs := [[(q, .inr (4, gBlank))]]) (rs := [[(a0, .inr (6, [.ref r, .int 0, .int 0])), (r, .inl (C 2, 8, .inr (.inr (.inr (.inr (rgF [g0, g1, g2, g3]))))))], gcells C g0 G0, gcells C g1 G0, gcells C g2 G0, gcells C g3 G0]) (cs' := [gcells C g4 G0]) (bs' := [[(a0, .inr (6, [.ref r, .int 0, .int 0])), (r, .inl (C 2, 8, .inr (.inr (.inr (.inr (rgF [g0, g1, g2, g3]))))))], gcells C g0 G0, gcells C g1 G0, gcells C g2 G0, gcells C g3 G0, gcells C g4 G0]) hP hD (bsP 6 [5, 0, 1, 2, 3, 4] rfl (by decide) rfl) (bsP 6 [1, 2, 3, 4, 5, 0] rfl (by decide) rfl) hFc hDn
  have hP1 : va_P D vwCl (wj [[(a0, .inr (6, [.ref r, .int 0, .int 0])), (r, .inl (C 2, 8, .inr (.inr (.inr (.inr (rgF [g0, g1, g2, g3]))))))], gcells C g0 G0, gcells C g1 G0, gcells C g2 G0, gcells C g3 G0, gcells C g4 G0]) H1 := jb (bs := [[(a0, .inr (6, [.ref r, .int 0, .int 0])), (r, .inl (C 2, 8, .inr (.inr (.inr (.inr (rgF [g0, g1, g2, g3]))))))], gcells C g0 G0, gcells C g1 G0, gcells C g2 G0, gcells C g3 G0, [(q, .inr (4, gBlank))]]) (cs := [[(q, .inr (4, gBlank))]]) (rs := [[(a0, .inr (6, [.ref r, .int 0, .int 0])), (r, .inl (C 2, 8, .inr (.inr (.inr (.inr (rgF [g0, g1, g2, g3]))))))], gcells C g0 G0, gcells C g1 G0, gcells C g2 G0, gcells C g3 G0]) (cs' := [gcells C g4 G0]) (bs' := [[(a0, .inr (6, [.ref r, .int 0, .int 0])), (r, .inl (C 2, 8, .inr (.inr (.inr (.inr (rgF [g0, g1, g2, g3]))))))], gcells C g0 G0, gcells C g1 G0, gcells C g2 G0, gcells C g3 G0, gcells C g4 G0]) hP hD (bsP 6 [5, 0, 1, 2, 3, 4] rfl (by decide) rfl) (bsP 6 [1, 2, 3, 4, 5, 0] rfl (by decide) rfl) hk hPn
  clear hP hD hPc hDc hFc hPn hDn hk
  have hF1 : g4 0 = q := hF1
  subst hF1
  have hP := hP1
  have hD := hD1
  clear hP1 hD1
  refine va_astq hx hb hK hP hD hS 1 2 38 4 rfl rfl rfl rfl (vp_in_nI (by decide) (by decide)) dX3_init_43 (fun H locs hP hD hS => ?_)
  have hP1 := ring_P (g := (rgF [g0, g1, g2, g3, g4])) hP (fun j hj => by
    rcases (by omega : j = 0 ∨ j = 1 ∨ j = 2 ∨ j = 3 ∨ j = 4 ∨ j = 5 ∨ j = 6 ∨ j = 7) with h | h | h | h | h | h | h | h <;> subst h <;> rfl)
  have hD1 := ring_D (e1 := (.inl (C 2, 8, .inr (.inr (.inr (.inr (rgF [g0, g1, g2, g3, g4]))))))) hD
  clear hP hD
  have hP := hP1
  have hD := hD1
  clear hP1 hD1
  have hP : va_P D vwCl (wj [[(a0, .inr (6, [.ref r, .int 0, .int 0])), (r, .inl (C 2, 8, .inr (.inr (.inr (.inr (rgF [g0, g1, g2, g3, g4]))))))], gcells C g0 G0, gcells C g1 G0, gcells C g2 G0, gcells C g3 G0, gcells C g4 G0]) H := hP
  have hD : va_D A (wj [[(a0, .inr (6, [.ref r, .int 0, .int 0])), (r, .inl (C 2, 8, .inr (.inr (.inr (.inr (rgF [g0, g1, g2, g3, g4]))))))], gcells C g0 G0, gcells C g1 G0, gcells C g2 G0, gcells C g3 G0, gcells C g4 G0]) := hD
  refine lv_iinc (v := nI 5) (lv' := [(1, .int (nI 5)), (0, .ref a0)]) hx hb dX3_init_44 hl (k := 0) rfl (nI_1 4) (by decide) rfl (fun ls hl => ?_)
  refine lv_goto (tgt := 25) hx hb dX3_init_47 rfl ?_
  refine lv_iload_n hx hb dX3_init_25 rfl (lv_at hl 0 rfl) ?_
  refine lv_bipush (v := 8) hx hb dX3_init_26 (by decide) ?_
  refine lv_icmp_ge (tgt := 50) hx hb dX3_init_28 rfl (fun c_1 => absurd c_1 (by decide)) (fun _ => ?_)
  refine lv_aload_n hx hb dX3_init_31 rfl (lv_at hl 1 rfl) ?_
  refine va_get (D := D) (ci := 6) (v := .ref r) (C := RX3) (T := TX3) (N := 3) hx hb hts hinX hown hK hP 0 rfl rfl 0 (by decide) (hts (.fieldLink RX3 11 "BridgeAuction$History" "ring" "[LBridgeAuction$Game;") (by decide +kernel)) (fun _ h9 => h9) rfl dX3_init_32 ?_
  refine lv_iload_n hx hb dX3_init_35 rfl (lv_at hl 0 rfl) ?_
  refine va_new (C := RX1) (T := TX1) (N := 16) (ci := 4) (fs := gBlank) hx hb hts hinX1 tyX1 tyX1_ok hown (hts (.classLink RX3 9 RX1) (by decide +kernel)) (hts (.instantiable RX1 16) (by decide +kernel)) (hts (.initialized RX1) (by decide +kernel)) hK hP hD hS hA rfl (by decide) (Nat.le_of_ble_eq_true rfl) (Nat.le_of_ble_eq_true rfl) dX3_init_36 (fun q H hP hD hS => ?_)
  have hP : va_P D vwCl (wj [[(a0, .inr (6, [.ref r, .int 0, .int 0])), (r, .inl (C 2, 8, .inr (.inr (.inr (.inr (rgF [g0, g1, g2, g3, g4]))))))], gcells C g0 G0, gcells C g1 G0, gcells C g2 G0, gcells C g3 G0, gcells C g4 G0, [(q, .inr (4, gBlank))]]) H := hP
  have hD : va_D A (wj [[(a0, .inr (6, [.ref r, .int 0, .int 0])), (r, .inl (C 2, 8, .inr (.inr (.inr (.inr (rgF [g0, g1, g2, g3, g4]))))))], gcells C g0 G0, gcells C g1 G0, gcells C g2 G0, gcells C g3 G0, gcells C g4 G0, [(q, .inr (4, gBlank))]]) := hD
  refine lv_dup hx hb dX3_init_39 rfl ?_
  have hPc : va_P D vwCl [(q, .inr (4, gBlank))] _ := wj_P (cs := [[(q, .inr (4, gBlank))]]) hP [6] rfl
  have hDc : va_D A [(q, .inr (4, gBlank))] := wj_D (cs := [[(q, .inr (4, gBlank))]]) hD [6] (by decide) rfl
  have hFc := all_F hDc hS hA
  refine callE (va_runI (As := []) (rest := [.ref q, .int (nI 5), .ref r]) (b := q) ⟨hx, hb, hml, hown, hts⟩ (c_X1_init l D C q _) (cwI 0 hts gX3_init_X1_init rfl rfl rfl (hts (.initialized RX1) (by decide +kernel)) (hts (.methodLink RX3 24 yX1_init) (by decide +kernel)) (hts (.instanceMethod yX1_init) (by decide +kernel)) rfl (by decide +kernel) ⟨Nat.le_of_ble_eq_true rfl, Nat.le_of_ble_eq_true rfl⟩) (rwP_s (As := [.ref q]) hPc hK hE hDc) rfl rfl hl.1 rfl (lv_room (Nat.le_of_ble_eq_true rfl)) dX3_init_40 ⟨Nat.le_of_ble_eq_true rfl, Nat.le_of_ble_eq_true rfl⟩) hS hFc (fun g5 H1 locs hF1 hPn hDn hk hS => ?_)
  have hD1 : va_D A (wj [[(a0, .inr (6, [.ref r, .int 0, .int 0])), (r, .inl (C 2, 8, .inr (.inr (.inr (.inr (rgF [g0, g1, g2, g3, g4]))))))], gcells C g0 G0, gcells C g1 G0, gcells C g2 G0, gcells C g3 G0, gcells C g4 G0, gcells C g5 G0]) := jbD (bs := [[(a0, .inr (6, [.ref r, .int 0, .int 0])), (r, .inl (C 2, 8, .inr (.inr (.inr (.inr (rgF [g0, g1, g2, g3, g4]))))))], gcells C g0 G0, gcells C g1 G0, gcells C g2 G0, gcells C g3 G0, gcells C g4 G0, [(q, .inr (4, gBlank))]]) (cs := [[(q, .inr (4, gBlank))]]) (rs := [[(a0, .inr (6, [.ref r, .int 0, .int 0])), (r, .inl (C 2, 8, .inr (.inr (.inr (.inr (rgF [g0, g1, g2, g3, g4]))))))], gcells C g0 G0, gcells C g1 G0, gcells C g2 G0, gcells C g3 G0, gcells C g4 G0]) (cs' := [gcells C g5 G0]) (bs' := [[(a0, .inr (6, [.ref r, .int 0, .int 0])), (r, .inl (C 2, 8, .inr (.inr (.inr (.inr (rgF [g0, g1, g2, g3, g4]))))))], gcells C g0 G0, gcells C g1 G0, gcells C g2 G0, gcells C g3 G0, gcells C g4 G0, gcells C g5 G0]) hP hD (bsP 7 [6, 0, 1, 2, 3, 4, 5] rfl (by decide) rfl) (bsP 7 [1, 2, 3, 4, 5, 6, 0] rfl (by decide) rfl) hFc hDn
  have hP1 : va_P D vwCl (wj [[(a0, .inr (6, [.ref r, .int 0, .int 0])), (r, .inl (C 2, 8, .inr (.inr (.inr (.inr (rgF [g0, g1, g2, g3, g4]))))))], gcells C g0 G0, gcells C g1 G0, gcells C g2 G0, gcells C g3 G0, gcells C g4 G0, gcells C g5 G0]) H1 := jb (bs := [[(a0, .inr (6, [.ref r, .int 0, .int 0])), (r, .inl (C 2, 8, .inr (.inr (.inr (.inr (rgF [g0, g1, g2, g3, g4]))))))], gcells C g0 G0, gcells C g1 G0, gcells C g2 G0, gcells C g3 G0, gcells C g4 G0, [(q, .inr (4, gBlank))]]) (cs := [[(q, .inr (4, gBlank))]]) (rs := [[(a0, .inr (6, [.ref r, .int 0, .int 0])), (r, .inl (C 2, 8, .inr (.inr (.inr (.inr (rgF [g0, g1, g2, g3, g4]))))))], gcells C g0 G0, gcells C g1 G0, gcells C g2 G0, gcells C g3 G0, gcells C g4 G0]) (cs' := [gcells C g5 G0]) (bs' := [[(a0, .inr (6, [.ref r, .int 0, .int 0])), (r, .inl (C 2, 8, .inr (.inr (.inr (.inr (rgF [g0, g1, g2, g3, g4]))))))], gcells C g0 G0, gcells C g1 G0, gcells C g2 G0, gcells C g3 G0, gcells C g4 G0, gcells C g5 G0]) hP hD (bsP 7 [6, 0, 1, 2, 3, 4, 5] rfl (by decide) rfl) (bsP 7 [1, 2, 3, 4, 5, 6, 0] rfl (by decide) rfl) hk hPn
  clear hP hD hPc hDc hFc hPn hDn hk
  have hF1 : g5 0 = q := hF1
  subst hF1
  have hP := hP1
  have hD := hD1
  clear hP1 hD1
  refine va_astq hx hb hK hP hD hS 1 2 47 4 rfl rfl rfl rfl (vp_in_nI (by decide) (by decide)) dX3_init_43 (fun H locs hP hD hS => ?_)
  have hP1 := ring_P (g := (rgF [g0, g1, g2, g3, g4, g5])) hP (fun j hj => by
    rcases (by omega : j = 0 ∨ j = 1 ∨ j = 2 ∨ j = 3 ∨ j = 4 ∨ j = 5 ∨ j = 6 ∨ j = 7) with h | h | h | h | h | h | h | h <;> subst h <;> rfl)
  have hD1 := ring_D (e1 := (.inl (C 2, 8, .inr (.inr (.inr (.inr (rgF [g0, g1, g2, g3, g4, g5]))))))) hD
  clear hP hD
  have hP := hP1
  have hD := hD1
  clear hP1 hD1
  have hP : va_P D vwCl (wj [[(a0, .inr (6, [.ref r, .int 0, .int 0])), (r, .inl (C 2, 8, .inr (.inr (.inr (.inr (rgF [g0, g1, g2, g3, g4, g5]))))))], gcells C g0 G0, gcells C g1 G0, gcells C g2 G0, gcells C g3 G0, gcells C g4 G0, gcells C g5 G0]) H := hP
  have hD : va_D A (wj [[(a0, .inr (6, [.ref r, .int 0, .int 0])), (r, .inl (C 2, 8, .inr (.inr (.inr (.inr (rgF [g0, g1, g2, g3, g4, g5]))))))], gcells C g0 G0, gcells C g1 G0, gcells C g2 G0, gcells C g3 G0, gcells C g4 G0, gcells C g5 G0]) := hD
  refine lv_iinc (v := nI 6) (lv' := [(1, .int (nI 6)), (0, .ref a0)]) hx hb dX3_init_44 hl (k := 0) rfl (nI_1 5) (by decide) rfl (fun ls hl => ?_)
  refine lv_goto (tgt := 25) hx hb dX3_init_47 rfl ?_
  refine lv_iload_n hx hb dX3_init_25 rfl (lv_at hl 0 rfl) ?_
  refine lv_bipush (v := 8) hx hb dX3_init_26 (by decide) ?_
  refine lv_icmp_ge (tgt := 50) hx hb dX3_init_28 rfl (fun c_1 => absurd c_1 (by decide)) (fun _ => ?_)
  refine lv_aload_n hx hb dX3_init_31 rfl (lv_at hl 1 rfl) ?_
  refine va_get (D := D) (ci := 6) (v := .ref r) (C := RX3) (T := TX3) (N := 3) hx hb hts hinX hown hK hP 0 rfl rfl 0 (by decide) (hts (.fieldLink RX3 11 "BridgeAuction$History" "ring" "[LBridgeAuction$Game;") (by decide +kernel)) (fun _ h9 => h9) rfl dX3_init_32 ?_
  refine lv_iload_n hx hb dX3_init_35 rfl (lv_at hl 0 rfl) ?_
  refine va_new (C := RX1) (T := TX1) (N := 16) (ci := 4) (fs := gBlank) hx hb hts hinX1 tyX1 tyX1_ok hown (hts (.classLink RX3 9 RX1) (by decide +kernel)) (hts (.instantiable RX1 16) (by decide +kernel)) (hts (.initialized RX1) (by decide +kernel)) hK hP hD hS hA rfl (by decide) (Nat.le_of_ble_eq_true rfl) (Nat.le_of_ble_eq_true rfl) dX3_init_36 (fun q H hP hD hS => ?_)
  have hP : va_P D vwCl (wj [[(a0, .inr (6, [.ref r, .int 0, .int 0])), (r, .inl (C 2, 8, .inr (.inr (.inr (.inr (rgF [g0, g1, g2, g3, g4, g5]))))))], gcells C g0 G0, gcells C g1 G0, gcells C g2 G0, gcells C g3 G0, gcells C g4 G0, gcells C g5 G0, [(q, .inr (4, gBlank))]]) H := hP
  have hD : va_D A (wj [[(a0, .inr (6, [.ref r, .int 0, .int 0])), (r, .inl (C 2, 8, .inr (.inr (.inr (.inr (rgF [g0, g1, g2, g3, g4, g5]))))))], gcells C g0 G0, gcells C g1 G0, gcells C g2 G0, gcells C g3 G0, gcells C g4 G0, gcells C g5 G0, [(q, .inr (4, gBlank))]]) := hD
  refine lv_dup hx hb dX3_init_39 rfl ?_
  have hPc : va_P D vwCl [(q, .inr (4, gBlank))] _ := wj_P (cs := [[(q, .inr (4, gBlank))]]) hP [7] rfl
  have hDc : va_D A [(q, .inr (4, gBlank))] := wj_D (cs := [[(q, .inr (4, gBlank))]]) hD [7] (by decide) rfl
  have hFc := all_F hDc hS hA
  refine callE (va_runI (As := []) (rest := [.ref q, .int (nI 6), .ref r]) (b := q) ⟨hx, hb, hml, hown, hts⟩ (c_X1_init l D C q _) (cwI 0 hts gX3_init_X1_init rfl rfl rfl (hts (.initialized RX1) (by decide +kernel)) (hts (.methodLink RX3 24 yX1_init) (by decide +kernel)) (hts (.instanceMethod yX1_init) (by decide +kernel)) rfl (by decide +kernel) ⟨Nat.le_of_ble_eq_true rfl, Nat.le_of_ble_eq_true rfl⟩) (rwP_s (As := [.ref q]) hPc hK hE hDc) rfl rfl hl.1 rfl (lv_room (Nat.le_of_ble_eq_true rfl)) dX3_init_40 ⟨Nat.le_of_ble_eq_true rfl, Nat.le_of_ble_eq_true rfl⟩) hS hFc (fun g6 H1 locs hF1 hPn hDn hk hS => ?_)
  have hD1 : va_D A (wj [[(a0, .inr (6, [.ref r, .int 0, .int 0])), (r, .inl (C 2, 8, .inr (.inr (.inr (.inr (rgF [g0, g1, g2, g3, g4, g5]))))))], gcells C g0 G0, gcells C g1 G0, gcells C g2 G0, gcells C g3 G0, gcells C g4 G0, gcells C g5 G0, gcells C g6 G0]) := jbD (bs := [[(a0, .inr (6, [.ref r, .int 0, .int 0])), (r, .inl (C 2, 8, .inr (.inr (.inr (.inr (rgF [g0, g1, g2, g3, g4, g5]))))))], gcells C g0 G0, gcells C g1 G0, gcells C g2 G0, gcells C g3 G0, gcells C g4 G0, gcells C g5 G0, [(q, .inr (4, gBlank))]]) (cs := [[(q, .inr (4, gBlank))]]) (rs := [[(a0, .inr (6, [.ref r, .int 0, .int 0])), (r, .inl (C 2, 8, .inr (.inr (.inr (.inr (rgF [g0, g1, g2, g3, g4, g5]))))))], gcells C g0 G0, gcells C g1 G0, gcells C g2 G0, gcells C g3 G0, gcells C g4 G0, gcells C g5 G0]) (cs' := [gcells C g6 G0]) (bs' := [[(a0, .inr (6, [.ref r, .int 0, .int 0])), (r, .inl (C 2, 8, .inr (.inr (.inr (.inr (rgF [g0, g1, g2, g3, g4, g5]))))))], gcells C g0 G0, gcells C g1 G0, gcells C g2 G0, gcells C g3 G0, gcells C g4 G0, gcells C g5 G0, gcells C g6 G0]) hP hD (bsP 8 [7, 0, 1, 2, 3, 4, 5, 6] rfl (by decide) rfl) (bsP 8 [1, 2, 3, 4, 5, 6, 7, 0] rfl (by decide) rfl) hFc hDn
  have hP1 : va_P D vwCl (wj [[(a0, .inr (6, [.ref r, .int 0, .int 0])), (r, .inl (C 2, 8, .inr (.inr (.inr (.inr (rgF [g0, g1, g2, g3, g4, g5]))))))], gcells C g0 G0, gcells C g1 G0, gcells C g2 G0, gcells C g3 G0, gcells C g4 G0, gcells C g5 G0, gcells C g6 G0]) H1 := jb (bs := [[(a0, .inr (6, [.ref r, .int 0, .int 0])), (r, .inl (C 2, 8, .inr (.inr (.inr (.inr (rgF [g0, g1, g2, g3, g4, g5]))))))], gcells C g0 G0, gcells C g1 G0, gcells C g2 G0, gcells C g3 G0, gcells C g4 G0, gcells C g5 G0, [(q, .inr (4, gBlank))]]) (cs := [[(q, .inr (4, gBlank))]]) (rs := [[(a0, .inr (6, [.ref r, .int 0, .int 0])), (r, .inl (C 2, 8, .inr (.inr (.inr (.inr (rgF [g0, g1, g2, g3, g4, g5]))))))], gcells C g0 G0, gcells C g1 G0, gcells C g2 G0, gcells C g3 G0, gcells C g4 G0, gcells C g5 G0]) (cs' := [gcells C g6 G0]) (bs' := [[(a0, .inr (6, [.ref r, .int 0, .int 0])), (r, .inl (C 2, 8, .inr (.inr (.inr (.inr (rgF [g0, g1, g2, g3, g4, g5]))))))], gcells C g0 G0, gcells C g1 G0, gcells C g2 G0, gcells C g3 G0, gcells C g4 G0, gcells C g5 G0, gcells C g6 G0]) hP hD (bsP 8 [7, 0, 1, 2, 3, 4, 5, 6] rfl (by decide) rfl) (bsP 8 [1, 2, 3, 4, 5, 6, 7, 0] rfl (by decide) rfl) hk hPn
  clear hP hD hPc hDc hFc hPn hDn hk
  have hF1 : g6 0 = q := hF1
  subst hF1
  have hP := hP1
  have hD := hD1
  clear hP1 hD1
  refine va_astq hx hb hK hP hD hS 1 2 56 4 rfl rfl rfl rfl (vp_in_nI (by decide) (by decide)) dX3_init_43 (fun H locs hP hD hS => ?_)
  have hP1 := ring_P (g := (rgF [g0, g1, g2, g3, g4, g5, g6])) hP (fun j hj => by
    rcases (by omega : j = 0 ∨ j = 1 ∨ j = 2 ∨ j = 3 ∨ j = 4 ∨ j = 5 ∨ j = 6 ∨ j = 7) with h | h | h | h | h | h | h | h <;> subst h <;> rfl)
  have hD1 := ring_D (e1 := (.inl (C 2, 8, .inr (.inr (.inr (.inr (rgF [g0, g1, g2, g3, g4, g5, g6]))))))) hD
  clear hP hD
  have hP := hP1
  have hD := hD1
  clear hP1 hD1
  have hP : va_P D vwCl (wj [[(a0, .inr (6, [.ref r, .int 0, .int 0])), (r, .inl (C 2, 8, .inr (.inr (.inr (.inr (rgF [g0, g1, g2, g3, g4, g5, g6]))))))], gcells C g0 G0, gcells C g1 G0, gcells C g2 G0, gcells C g3 G0, gcells C g4 G0, gcells C g5 G0, gcells C g6 G0]) H := hP
  have hD : va_D A (wj [[(a0, .inr (6, [.ref r, .int 0, .int 0])), (r, .inl (C 2, 8, .inr (.inr (.inr (.inr (rgF [g0, g1, g2, g3, g4, g5, g6]))))))], gcells C g0 G0, gcells C g1 G0, gcells C g2 G0, gcells C g3 G0, gcells C g4 G0, gcells C g5 G0, gcells C g6 G0]) := hD
  refine lv_iinc (v := nI 7) (lv' := [(1, .int (nI 7)), (0, .ref a0)]) hx hb dX3_init_44 hl (k := 0) rfl (nI_1 6) (by decide) rfl (fun ls hl => ?_)
  refine lv_goto (tgt := 25) hx hb dX3_init_47 rfl ?_
  refine lv_iload_n hx hb dX3_init_25 rfl (lv_at hl 0 rfl) ?_
  refine lv_bipush (v := 8) hx hb dX3_init_26 (by decide) ?_
  refine lv_icmp_ge (tgt := 50) hx hb dX3_init_28 rfl (fun c_1 => absurd c_1 (by decide)) (fun _ => ?_)
  refine lv_aload_n hx hb dX3_init_31 rfl (lv_at hl 1 rfl) ?_
  refine va_get (D := D) (ci := 6) (v := .ref r) (C := RX3) (T := TX3) (N := 3) hx hb hts hinX hown hK hP 0 rfl rfl 0 (by decide) (hts (.fieldLink RX3 11 "BridgeAuction$History" "ring" "[LBridgeAuction$Game;") (by decide +kernel)) (fun _ h9 => h9) rfl dX3_init_32 ?_
  refine lv_iload_n hx hb dX3_init_35 rfl (lv_at hl 0 rfl) ?_
  refine va_new (C := RX1) (T := TX1) (N := 16) (ci := 4) (fs := gBlank) hx hb hts hinX1 tyX1 tyX1_ok hown (hts (.classLink RX3 9 RX1) (by decide +kernel)) (hts (.instantiable RX1 16) (by decide +kernel)) (hts (.initialized RX1) (by decide +kernel)) hK hP hD hS hA rfl (by decide) (Nat.le_of_ble_eq_true rfl) (Nat.le_of_ble_eq_true rfl) dX3_init_36 (fun q H hP hD hS => ?_)
  have hP : va_P D vwCl (wj [[(a0, .inr (6, [.ref r, .int 0, .int 0])), (r, .inl (C 2, 8, .inr (.inr (.inr (.inr (rgF [g0, g1, g2, g3, g4, g5, g6]))))))], gcells C g0 G0, gcells C g1 G0, gcells C g2 G0, gcells C g3 G0, gcells C g4 G0, gcells C g5 G0, gcells C g6 G0, [(q, .inr (4, gBlank))]]) H := hP
  have hD : va_D A (wj [[(a0, .inr (6, [.ref r, .int 0, .int 0])), (r, .inl (C 2, 8, .inr (.inr (.inr (.inr (rgF [g0, g1, g2, g3, g4, g5, g6]))))))], gcells C g0 G0, gcells C g1 G0, gcells C g2 G0, gcells C g3 G0, gcells C g4 G0, gcells C g5 G0, gcells C g6 G0, [(q, .inr (4, gBlank))]]) := hD
  refine lv_dup hx hb dX3_init_39 rfl ?_
  have hPc : va_P D vwCl [(q, .inr (4, gBlank))] _ := wj_P (cs := [[(q, .inr (4, gBlank))]]) hP [8] rfl
  have hDc : va_D A [(q, .inr (4, gBlank))] := wj_D (cs := [[(q, .inr (4, gBlank))]]) hD [8] (by decide) rfl
  have hFc := all_F hDc hS hA
  refine callE (va_runI (As := []) (rest := [.ref q, .int (nI 7), .ref r]) (b := q) ⟨hx, hb, hml, hown, hts⟩ (c_X1_init l D C q _) (cwI 0 hts gX3_init_X1_init rfl rfl rfl (hts (.initialized RX1) (by decide +kernel)) (hts (.methodLink RX3 24 yX1_init) (by decide +kernel)) (hts (.instanceMethod yX1_init) (by decide +kernel)) rfl (by decide +kernel) ⟨Nat.le_of_ble_eq_true rfl, Nat.le_of_ble_eq_true rfl⟩) (rwP_s (As := [.ref q]) hPc hK hE hDc) rfl rfl hl.1 rfl (lv_room (Nat.le_of_ble_eq_true rfl)) dX3_init_40 ⟨Nat.le_of_ble_eq_true rfl, Nat.le_of_ble_eq_true rfl⟩) hS hFc (fun g7 H1 locs hF1 hPn hDn hk hS => ?_)
  have hD1 : va_D A (wj [[(a0, .inr (6, [.ref r, .int 0, .int 0])), (r, .inl (C 2, 8, .inr (.inr (.inr (.inr (rgF [g0, g1, g2, g3, g4, g5, g6]))))))], gcells C g0 G0, gcells C g1 G0, gcells C g2 G0, gcells C g3 G0, gcells C g4 G0, gcells C g5 G0, gcells C g6 G0, gcells C g7 G0]) := jbD (bs := [[(a0, .inr (6, [.ref r, .int 0, .int 0])), (r, .inl (C 2, 8, .inr (.inr (.inr (.inr (rgF [g0, g1, g2, g3, g4, g5, g6]))))))], gcells C g0 G0, gcells C g1 G0, gcells C g2 G0, gcells C g3 G0, gcells C g4 G0, gcells C g5 G0, gcells C g6 G0, [(q, .inr (4, gBlank))]]) (cs := [[(q, .inr (4, gBlank))]]) (rs := [[(a0, .inr (6, [.ref r, .int 0, .int 0])), (r, .inl (C 2, 8, .inr (.inr (.inr (.inr (rgF [g0, g1, g2, g3, g4, g5, g6]))))))], gcells C g0 G0, gcells C g1 G0, gcells C g2 G0, gcells C g3 G0, gcells C g4 G0, gcells C g5 G0, gcells C g6 G0]) (cs' := [gcells C g7 G0]) (bs' := [[(a0, .inr (6, [.ref r, .int 0, .int 0])), (r, .inl (C 2, 8, .inr (.inr (.inr (.inr (rgF [g0, g1, g2, g3, g4, g5, g6]))))))], gcells C g0 G0, gcells C g1 G0, gcells C g2 G0, gcells C g3 G0, gcells C g4 G0, gcells C g5 G0, gcells C g6 G0, gcells C g7 G0]) hP hD (bsP 9 [8, 0, 1, 2, 3, 4, 5, 6, 7] rfl (by decide) rfl) (bsP 9 [1, 2, 3, 4, 5, 6, 7, 8, 0] rfl (by decide) rfl) hFc hDn
  have hP1 : va_P D vwCl (wj [[(a0, .inr (6, [.ref r, .int 0, .int 0])), (r, .inl (C 2, 8, .inr (.inr (.inr (.inr (rgF [g0, g1, g2, g3, g4, g5, g6]))))))], gcells C g0 G0, gcells C g1 G0, gcells C g2 G0, gcells C g3 G0, gcells C g4 G0, gcells C g5 G0, gcells C g6 G0, gcells C g7 G0]) H1 := jb (bs := [[(a0, .inr (6, [.ref r, .int 0, .int 0])), (r, .inl (C 2, 8, .inr (.inr (.inr (.inr (rgF [g0, g1, g2, g3, g4, g5, g6]))))))], gcells C g0 G0, gcells C g1 G0, gcells C g2 G0, gcells C g3 G0, gcells C g4 G0, gcells C g5 G0, gcells C g6 G0, [(q, .inr (4, gBlank))]]) (cs := [[(q, .inr (4, gBlank))]]) (rs := [[(a0, .inr (6, [.ref r, .int 0, .int 0])), (r, .inl (C 2, 8, .inr (.inr (.inr (.inr (rgF [g0, g1, g2, g3, g4, g5, g6]))))))], gcells C g0 G0, gcells C g1 G0, gcells C g2 G0, gcells C g3 G0, gcells C g4 G0, gcells C g5 G0, gcells C g6 G0]) (cs' := [gcells C g7 G0]) (bs' := [[(a0, .inr (6, [.ref r, .int 0, .int 0])), (r, .inl (C 2, 8, .inr (.inr (.inr (.inr (rgF [g0, g1, g2, g3, g4, g5, g6]))))))], gcells C g0 G0, gcells C g1 G0, gcells C g2 G0, gcells C g3 G0, gcells C g4 G0, gcells C g5 G0, gcells C g6 G0, gcells C g7 G0]) hP hD (bsP 9 [8, 0, 1, 2, 3, 4, 5, 6, 7] rfl (by decide) rfl) (bsP 9 [1, 2, 3, 4, 5, 6, 7, 8, 0] rfl (by decide) rfl) hk hPn
  clear hP hD hPc hDc hFc hPn hDn hk
  have hF1 : g7 0 = q := hF1
  subst hF1
  have hP := hP1
  have hD := hD1
  clear hP1 hD1
  refine va_astq hx hb hK hP hD hS 1 2 65 4 rfl rfl rfl rfl (vp_in_nI (by decide) (by decide)) dX3_init_43 (fun H locs hP hD hS => ?_)
  have hP1 := ring_P (g := (rgF [g0, g1, g2, g3, g4, g5, g6, g7])) hP (fun j hj => by
    rcases (by omega : j = 0 ∨ j = 1 ∨ j = 2 ∨ j = 3 ∨ j = 4 ∨ j = 5 ∨ j = 6 ∨ j = 7) with h | h | h | h | h | h | h | h <;> subst h <;> rfl)
  have hD1 := ring_D (e1 := (.inl (C 2, 8, .inr (.inr (.inr (.inr (rgF [g0, g1, g2, g3, g4, g5, g6, g7]))))))) hD
  clear hP hD
  have hP := hP1
  have hD := hD1
  clear hP1 hD1
  have hP : va_P D vwCl (wj [[(a0, .inr (6, [.ref r, .int 0, .int 0])), (r, .inl (C 2, 8, .inr (.inr (.inr (.inr (rgF [g0, g1, g2, g3, g4, g5, g6, g7]))))))], gcells C g0 G0, gcells C g1 G0, gcells C g2 G0, gcells C g3 G0, gcells C g4 G0, gcells C g5 G0, gcells C g6 G0, gcells C g7 G0]) H := hP
  have hD : va_D A (wj [[(a0, .inr (6, [.ref r, .int 0, .int 0])), (r, .inl (C 2, 8, .inr (.inr (.inr (.inr (rgF [g0, g1, g2, g3, g4, g5, g6, g7]))))))], gcells C g0 G0, gcells C g1 G0, gcells C g2 G0, gcells C g3 G0, gcells C g4 G0, gcells C g5 G0, gcells C g6 G0, gcells C g7 G0]) := hD
  refine lv_iinc (v := nI 8) (lv' := [(1, .int (nI 8)), (0, .ref a0)]) hx hb dX3_init_44 hl (k := 0) rfl (nI_1 7) (by decide) rfl (fun ls hl => ?_)
  refine lv_goto (tgt := 25) hx hb dX3_init_47 rfl ?_
  refine lv_iload_n hx hb dX3_init_25 rfl (lv_at hl 0 rfl) ?_
  refine lv_bipush (v := 8) hx hb dX3_init_26 (by decide) ?_
  refine lv_icmp_ge (tgt := 50) hx hb dX3_init_28 rfl (fun _ => ?_) (fun c_1 => absurd (show (8 : Int32) ≤ nI 8 from by decide) c_1)
  have hP1 := ring_P (g := fun k => some (hG (hAd a0 r [g0, g1, g2, g3, g4, g5, g6, g7]) k 0)) hP (fun j hj => by
    rcases (by omega : j = 0 ∨ j = 1 ∨ j = 2 ∨ j = 3 ∨ j = 4 ∨ j = 5 ∨ j = 6 ∨ j = 7) with h | h | h | h | h | h | h | h <;> subst h <;> rfl)
  have hD1 := ring_D (e1 := (.inl (C 2, 8, .inr (.inr (.inr (.inr (fun k => some (hG (hAd a0 r [g0, g1, g2, g3, g4, g5, g6, g7]) k 0)))))))) hD
  have hP2 : va_P D vwCl (hcells C (hAd a0 r [g0, g1, g2, g3, g4, g5, g6, g7]) H0S) H := hP1
  have hD2 : va_D A (hcells C (hAd a0 r [g0, g1, g2, g3, g4, g5, g6, g7]) H0S) := hD1
  exact e_retN (hAd a0 r [g0, g1, g2, g3, g4, g5, g6, g7]) rfl hx hb hr rfl hP2 hD2 hS (Nat.le_of_ble_eq_true rfl) (Nat.le_of_ble_eq_true rfl) dX3_init_50 hlocks
