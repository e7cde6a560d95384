/-! a new auction -/
abbrev bX7 : List Value := [.null, .null, .null, .null, .null, .null, .null, .int 0, .int 0, .int 0]
def Q0 : QS := mkQ false (-1) (-1)
def uAd (a0 : Nat) (gA gB gC g s h : Nat → Nat) (o : Nat) : Nat → Nat := fun i => if i < 10 then a0 else if i < 30 then gA (i - 10) else if i < 50 then gB (i - 30) else if i < 70 then gC (i - 50) else if i < 80 then g (i - 70) else if i < 90 then s (i - 80) else if i < 100 then o else h (i - 100)
theorem uAd_h (a0 : Nat) (gA gB gC g s h : Nat → Nat) (o : Nat) : uH (uAd a0 gA gB gC g s h o) = h := by
  funext i
  show uAd a0 gA gB gC g s h o (100 + i) = h i
  unfold uAd
  rw [if_neg (by omega), if_neg (by omega), if_neg (by omega), if_neg (by omega), if_neg (by omega), if_neg (by omega), if_neg (by omega)]
  congr 1
  omega
/-- the class's own world -/
abbrev kbl (C : Nat → ClassId) (ev u : Nat → Nat) (Q : QS) (G G1 G2 : GS) (Rr : GR) (S : HS) (Sc : SS) (O : OS) : List va_W := [acells C u Q, gcells C (uA u) G, gcells C (uB u) G1, gcells C (uC u) G2, grcells C (uG u) Rr, hcells C (uH u) S, scells C ev (uS u) Sc, ocells C (uO u) O]
def i7P (av : List Value) (D : va_G) (C : Nat → ClassId) (ev : Nat → Nat) (ws : va_W) (sz : Nat) : Array Value → State → Prop := fun a U => rwPE av D C ev ws sz a U ∧ va_AO "BridgeAuction$Game" U
theorem i3P_s {s : State} {H : Heap} {D : va_G} {C : Nat → ClassId} {ws : va_W} {As : List Value} {A : Nat → Prop} (hP : va_P D vwCl ws H) (hK : va_K D vwCl (tyA C) s) (hE : EN s) (hD : va_D A ws) (hO : va_AO "BridgeAuction$Game" s) : PreS s H (i3P As D C ws H.size) As := by
  obtain ⟨p1, p2⟩ := rwP_s (As := As) hP hK hE hD
  exact ⟨fun a U g mk q => ⟨p1 a U g mk q.1, va_AO.moved (u := U) (U := U.calling g mk a) (Vm.Alike.refl U.vm) q.2⟩, fun U hU hW => ⟨p2 U hU hW, va_AO.moved hW.alike hO⟩⟩
theorem i7P_s {s : State} {H : Heap} {D : va_G} {C : Nat → ClassId} {v : Nat → Nat} {ws : va_W} {As : List Value} {A : Nat → Prop} {locs : List Loc} (hP : va_P D vwCl ws H) (hK : va_K D vwCl (tyA C) s) (hE : EN s) (hD : va_D A ws) (hR : RVs v s) (hX : EVs v A s s.heap) (hO : va_AO "BridgeAuction$Game" s) (hS : va_S A s.heap H locs) (hF : ∀ q, va_A ws H.size q → A q) : PreS s H (i7P As D C v ws H.size) As := by
  obtain ⟨p1, p2⟩ := rwPE_s (As := As) hP hK hE hD hR hX hS hF
  exact ⟨fun a U g mk q => ⟨p1 a U g mk q.1, va_AO.moved (u := U) (U := U.calling g mk a) (Vm.Alike.refl U.vm) q.2⟩, fun U hU hW => ⟨p2 U hU hW, va_AO.moved hW.alike hO⟩⟩
set_option maxHeartbeats 8000000 in
set_option maxRecDepth 100000 in
theorem c_X7_init (l : Launch) (D : va_G) (C : Nat → ClassId) (ev : Nat → Nat) (a0 : Nat) (sz : Nat) : Met l yX7_init wsX7_init ({ frames := 3, cells := 110, slots := 1623, locals := 120 } : Room) (i7P [.ref a0] D C ev [(a0, .inr (8, bX7))] sz) (eO (fun _ : (Nat → Nat) × OS => none) D (fun x => x.1 0 = a0 ∧ OT T0 x.2) (fun x => wj (kbl C ev x.1 Q0 G0 G0 G0 R0 H0S S0 x.2)) (va_A [(a0, .inr (8, bX7))] sz)) 110 1623 (va_A [(a0, .inr (8, bX7))] sz) := by
  refine Met.ofW (cc := cX7_init) (maxL := 1) (ret := none) (by decide) rfl ?_
  intro p e s m args below meth c s₁ B hml hv
  obtain ⟨⟨rfl, hsz, hP, hK, hD0, hE, hR9, hX⟩, hAO⟩ := hv
  have hx := B.exec
  have hb := B.bytes
  have hr := B.returns
  have hts := atoms_spec (ws := wsX7_init) B.pre
  have hown : s.vm.findClass RX7 = some m.cls := findClass_of_methodNamed B.named
  have hin2 : meth.name = "<init>" := (name_of_methodNamed B.named B.method).1
  have hlocks := B.notSynchronized
  subst hsz
  have hD := hD0.self (sz := s.heap.size)
  generalize hAe : va_A [(a0, .inr (8, bX7))] s.heap.size = A at hD hX ⊢
  have hA : ∀ q : Nat, s.heap.size ≤ q → A q := fun q h => by rw [← hAe]; exact Or.inr h
  have hS : va_S A s.heap s.heap [] := va_S.rf
  have hinX : ∀ w ∈ u_ws RX7 TX7 10, w ∈ wsX7_init := by decide +kernel
  have hin1 : ∀ w ∈ u_ws RX1 TX1 16, w ∈ wsX7_init := by decide +kernel
  have hin2' : ∀ w ∈ u_ws RX2 TX2 3, w ∈ wsX7_init := by decide +kernel
  have hin3 : ∀ w ∈ u_ws RX3 TX3 3, w ∈ wsX7_init := by decide +kernel
  have hin4 : ∀ w ∈ u_ws RX4 TX4 5, w ∈ wsX7_init := by decide +kernel
  have hinJ : ∀ w ∈ u_ws RJ4 TJ4 4, w ∈ wsX7_init := by decide +kernel
  have hl := lv_entry ([.ref a0]) (n := 1) (Nat.le_of_ble_eq_true rfl)
  rw [lg_entry_eq]
  generalize (lg_sl ([.ref a0]) ++ List.replicate (1 - (lg_sl ([.ref a0])).length) Slot.unset).toArray = ls at hl ⊢
  have hl : lv_has ls 1 [(0, .ref a0)] := hl
  refine lv_aload_n hx hb dX7_init_0 rfl (lv_at hl 0 rfl) ?_
  refine W.objInit hx hb hown (hts (.methodLink RX7 1 objectInit) (by decide +kernel)) (hts (.instanceMethod objectInit) (by decide +kernel)) (hts (.code objectInit ⟨#[0xb1]⟩ 1 none) (by decide +kernel)) rfl (hl.1.trans hml.symm) rfl dX7_init_1 (Nat.le_of_ble_eq_true rfl) (Nat.le_of_ble_eq_true rfl) ?_
  have hP : va_P D vwCl (wj [[(a0, .inr (8, bX7))]]) s.heap := hP
  have hD : va_D A (wj [[(a0, .inr (8, bX7))]]) := hD
  refine lv_aload_n hx hb dX7_init_4 rfl (lv_at hl 0 rfl) ?_
  refine va_new (C := RX1) (T := TX1) (N := 16) (ci := 4) (fs := gBlank) hx hb hts hin1 tyX1 tyX1_ok hown (hts (.classLink RX7 7 RX1) (by decide +kernel)) (hts (.instantiable RX1 16) (by decide +kernel)) (hts (.initialized RX1) (by decide +kernel)) hK hP hD hS hA rfl (by decide) (Nat.le_of_ble_eq_true rfl) (Nat.le_of_ble_eq_true rfl) dX7_init_5 (fun q H hP hD hS => ?_)
  have hP : va_P D vwCl (wj [[(a0, .inr (8, [.null, .null, .null, .null, .null, .null, .null, .int 0, .int 0, .int 0]))], [(q, .inr (4, gBlank))]]) H := hP
  have hD : va_D A (wj [[(a0, .inr (8, [.null, .null, .null, .null, .null, .null, .null, .int 0, .int 0, .int 0]))], [(q, .inr (4, gBlank))]]) := hD
  refine lv_dup hx hb dX7_init_8 rfl ?_
  have hPc : va_P D vwCl [(q, .inr (4, gBlank))] _ := wj_P (cs := [[(q, .inr (4, gBlank))]]) hP [1] rfl
  have hDc : va_D A [(q, .inr (4, gBlank))] := wj_D (cs := [[(q, .inr (4, gBlank))]]) hD [1] (by decide) rfl
  have hFc := all_F hDc hS hA
  refine callE (va_runI (As := []) (rest := [.ref q, .ref a0]) (b := q) ⟨hx, hb, hml, hown, hts⟩ (c_X1_init l D C q _) (cwI 0 hts gX7_init_X1_init rfl rfl rfl (hts (.initialized RX1) (by decide +kernel)) (hts (.methodLink RX7 9 yX1_init) (by decide +kernel)) (hts (.instanceMethod yX1_init) (by decide +kernel)) rfl (by decide +kernel) ⟨Nat.le_of_ble_eq_true rfl, Nat.le_of_ble_eq_true rfl⟩) (rwP_s (As := [.ref q]) hPc hK hE hDc) rfl rfl hl.1 rfl (lv_room (Nat.le_of_ble_eq_true rfl)) dX7_init_9 ⟨Nat.le_of_ble_eq_true rfl, Nat.le_of_ble_eq_true rfl⟩) hS hFc (fun gA H1 locs hF1 hPn hDn hk hS => ?_)
  have hD1 : va_D A (wj [[(a0, .inr (8, [.null, .null, .null, .null, .null, .null, .null, .int 0, .int 0, .int 0]))], gcells C gA G0]) := jbD (bs := [[(a0, .inr (8, [.null, .null, .null, .null, .null, .null, .null, .int 0, .int 0, .int 0]))], [(q, .inr (4, gBlank))]]) (cs := [[(q, .inr (4, gBlank))]]) (rs := [[(a0, .inr (8, [.null, .null, .null, .null, .null, .null, .null, .int 0, .int 0, .int 0]))]]) (cs' := [gcells C gA G0]) (bs' := [[(a0, .inr (8, [.null, .null, .null, .null, .null, .null, .null, .int 0, .int 0, .int 0]))], gcells C gA G0]) hP hD (bsP 2 [1, 0] rfl (by decide) rfl) (bsP 2 [1, 0] rfl (by decide) rfl) hFc hDn
  have hP1 : va_P D vwCl (wj [[(a0, .inr (8, [.null, .null, .null, .null, .null, .null, .null, .int 0, .int 0, .int 0]))], gcells C gA G0]) H1 := jb (bs := [[(a0, .inr (8, [.null, .null, .null, .null, .null, .null, .null, .int 0, .int 0, .int 0]))], [(q, .inr (4, gBlank))]]) (cs := [[(q, .inr (4, gBlank))]]) (rs := [[(a0, .inr (8, [.null, .null, .null, .null, .null, .null, .null, .int 0, .int 0, .int 0]))]]) (cs' := [gcells C gA G0]) (bs' := [[(a0, .inr (8, [.null, .null, .null, .null, .null, .null, .null, .int 0, .int 0, .int 0]))], gcells C gA G0]) hP hD (bsP 2 [1, 0] rfl (by decide) rfl) (bsP 2 [1, 0] rfl (by decide) rfl) hk hPn
  clear hP hD hPc hDc hFc hPn hDn hk
  have hF1 : gA 0 = q := hF1
  subst hF1
  have hP := hP1
  have hD := hD1
  clear hP1 hD1
  refine va_putF (D := D) (ci := 8) (v := .ref (gA 0)) (ty := (.object "BridgeAuction$Game")) (C := RX7) (T := TX7) (N := 10) hx hb hts hinX tyX7 tyX7_ok nmX7 hown hK hP hD hS 0 rfl rfl 0 (by decide) (hts (.fieldLink RX7 10 "BridgeAuction" "game" "LBridgeAuction$Game;") (by decide +kernel)) (fun _ h9 => h9) rfl hin2 rfl (by decide +kernel) rfl rfl (Nat.le_of_ble_eq_true rfl) dX7_init_12 (fun H locs hP hD hS => ?_)
  have hP : va_P D vwCl (wj [[(a0, .inr (8, [.ref (gA 0), .null, .null, .null, .null, .null, .null, .int 0, .int 0, .int 0]))], gcells C gA G0]) H := hP
  have hD : va_D A (wj [[(a0, .inr (8, [.ref (gA 0), .null, .null, .null, .null, .null, .null, .int 0, .int 0, .int 0]))], gcells C gA G0]) := hD
  refine lv_aload_n hx hb dX7_init_15 rfl (lv_at hl 0 rfl) ?_
  refine va_new (C := RX1) (T := TX1) (N := 16) (ci := 4) (fs := gBlank) hx hb hts hin1 tyX1 tyX1_ok hown (hts (.classLink RX7 7 RX1) (by decide +kernel)) (hts (.instantiable RX1 16) (by decide +kernel)) (hts (.initialized RX1) (by decide +kernel)) hK hP hD hS hA rfl (by decide) (Nat.le_of_ble_eq_true rfl) (Nat.le_of_ble_eq_true rfl) dX7_init_16 (fun q H hP hD hS => ?_)
  have hP : va_P D vwCl (wj [[(a0, .inr (8, [.ref (gA 0), .null, .null, .null, .null, .null, .null, .int 0, .int 0, .int 0]))], gcells C gA G0, [(q, .inr (4, gBlank))]]) H := hP
  have hD : va_D A (wj [[(a0, .inr (8, [.ref (gA 0), .null, .null, .null, .null, .null, .null, .int 0, .int 0, .int 0]))], gcells C gA G0, [(q, .inr (4, gBlank))]]) := hD
  refine lv_dup hx hb dX7_init_19 rfl ?_
  have hPc : va_P D vwCl [(q, .inr (4, gBlank))] _ := wj_P (cs := [[(q, .inr (4, gBlank))]]) hP [2] rfl
  have hDc : va_D A [(q, .inr (4, gBlank))] := wj_D (cs := [[(q, .inr (4, gBlank))]]) hD [2] (by decide) rfl
  have hFc := all_F hDc hS hA
  refine callE (va_runI (As := []) (rest := [.ref q, .ref a0]) (b := q) ⟨hx, hb, hml, hown, hts⟩ (c_X1_init l D C q _) (cwI 0 hts gX7_init_X1_init rfl rfl rfl (hts (.initialized RX1) (by decide +kernel)) (hts (.methodLink RX7 9 yX1_init) (by decide +kernel)) (hts (.instanceMethod yX1_init) (by decide +kernel)) rfl (by decide +kernel) ⟨Nat.le_of_ble_eq_true rfl, Nat.le_of_ble_eq_true rfl⟩) (rwP_s (As := [.ref q]) hPc hK hE hDc) rfl rfl hl.1 rfl (lv_room (Nat.le_of_ble_eq_true rfl)) dX7_init_20 ⟨Nat.le_of_ble_eq_true rfl, Nat.le_of_ble_eq_true rfl⟩) hS hFc (fun gB H1 locs hF1 hPn hDn hk hS => ?_)
  have hD1 : va_D A (wj [[(a0, .inr (8, [.ref (gA 0), .null, .null, .null, .null, .null, .null, .int 0, .int 0, .int 0]))], gcells C gA G0, gcells C gB G0]) := jbD (bs := [[(a0, .inr (8, [.ref (gA 0), .null, .null, .null, .null, .null, .null, .int 0, .int 0, .int 0]))], gcells C gA G0, [(q, .inr (4, gBlank))]]) (cs := [[(q, .inr (4, gBlank))]]) (rs := [[(a0, .inr (8, [.ref (gA 0), .null, .null, .null, .null, .null, .null, .int 0, .int 0, .int 0]))], gcells C gA G0]) (cs' := [gcells C gB G0]) (bs' := [[(a0, .inr (8, [.ref (gA 0), .null, .null, .null, .null, .null, .null, .int 0, .int 0, .int 0]))], gcells C gA G0, gcells C gB G0]) hP hD (bsP 3 [2, 0, 1] rfl (by decide) rfl) (bsP 3 [1, 2, 0] rfl (by decide) rfl) hFc hDn
  have hP1 : va_P D vwCl (wj [[(a0, .inr (8, [.ref (gA 0), .null, .null, .null, .null, .null, .null, .int 0, .int 0, .int 0]))], gcells C gA G0, gcells C gB G0]) H1 := jb (bs := [[(a0, .inr (8, [.ref (gA 0), .null, .null, .null, .null, .null, .null, .int 0, .int 0, .int 0]))], gcells C gA G0, [(q, .inr (4, gBlank))]]) (cs := [[(q, .inr (4, gBlank))]]) (rs := [[(a0, .inr (8, [.ref (gA 0), .null, .null, .null, .null, .null, .null, .int 0, .int 0, .int 0]))], gcells C gA G0]) (cs' := [gcells C gB G0]) (bs' := [[(a0, .inr (8, [.ref (gA 0), .null, .null, .null, .null, .null, .null, .int 0, .int 0, .int 0]))], gcells C gA G0, gcells C gB G0]) hP hD (bsP 3 [2, 0, 1] rfl (by decide) rfl) (bsP 3 [1, 2, 0] rfl (by decide) rfl) hk hPn
  clear hP hD hPc hDc hFc hPn hDn hk
  have hF1 : gB 0 = q := hF1
  subst hF1
  have hP := hP1
  have hD := hD1
  clear hP1 hD1
  refine va_putF (D := D) (ci := 8) (v := .ref (gB 0)) (ty := (.object "BridgeAuction$Game")) (C := RX7) (T := TX7) (N := 10) hx hb hts hinX tyX7 tyX7_ok nmX7 hown hK hP hD hS 0 rfl rfl 1 (by decide) (hts (.fieldLink RX7 16 "BridgeAuction" "snapshot" "LBridgeAuction$Game;") (by decide +kernel)) (fun _ h9 => h9) rfl hin2 rfl (by decide +kernel) rfl rfl (Nat.le_of_ble_eq_true rfl) dX7_init_23 (fun H locs hP hD hS => ?_)
  have hP : va_P D vwCl (wj [[(a0, .inr (8, [.ref (gA 0), .ref (gB 0), .null, .null, .null, .null, .null, .int 0, .int 0, .int 0]))], gcells C gA G0, gcells C gB G0]) H := hP
  have hD : va_D A (wj [[(a0, .inr (8, [.ref (gA 0), .ref (gB 0), .null, .null, .null, .null, .null, .int 0, .int 0, .int 0]))], gcells C gA G0, gcells C gB G0]) := hD
  refine lv_aload_n hx hb dX7_init_26 rfl (lv_at hl 0 rfl) ?_
  refine va_new (C := RX1) (T := TX1) (N := 16) (ci := 4) (fs := gBlank) hx hb hts hin1 tyX1 tyX1_ok hown (hts (.classLink RX7 7 RX1) (by decide +kernel)) (hts (.instantiable RX1 16) (by decide +kernel)) (hts (.initialized RX1) (by decide +kernel)) hK hP hD hS hA rfl (by decide) (Nat.le_of_ble_eq_true rfl) (Nat.le_of_ble_eq_true rfl) dX7_init_27 (fun q H hP hD hS => ?_)
  have hP : va_P D vwCl (wj [[(a0, .inr (8, [.ref (gA 0), .ref (gB 0), .null, .null, .null, .null, .null, .int 0, .int 0, .int 0]))], gcells C gA G0, gcells C gB G0, [(q, .inr (4, gBlank))]]) H := hP
  have hD : va_D A (wj [[(a0, .inr (8, [.ref (gA 0), .ref (gB 0), .null, .null, .null, .null, .null, .int 0, .int 0, .int 0]))], gcells C gA G0, gcells C gB G0, [(q, .inr (4, gBlank))]]) := hD
  refine lv_dup hx hb dX7_init_30 rfl ?_
  have hPc : va_P D vwCl [(q, .inr (4, gBlank))] _ := wj_P (cs := [[(q, .inr (4, gBlank))]]) hP [3] rfl
  have hDc : va_D A [(q, .inr (4, gBlank))] := wj_D (cs := [[(q, .inr (4, gBlank))]]) hD [3] (by decide) rfl
  have hFc := all_F hDc hS hA
  refine callE (va_runI (As := []) (rest := [.ref q, .ref a0]) (b := q) ⟨hx, hb, hml, hown, hts⟩ (c_X1_init l D C q _) (cwI 0 hts gX7_init_X1_init rfl rfl rfl (hts (.initialized RX1) (by decide +kernel)) (hts (.methodLink RX7 9 yX1_init) (by decide +kernel)) (hts (.instanceMethod yX1_init) (by decide +kernel)) rfl (by decide +kernel) ⟨Nat.le_of_ble_eq_true rfl, Nat.le_of_ble_eq_true rfl⟩) (rwP_s (As := [.ref q]) hPc hK hE hDc) rfl rfl hl.1 rfl (lv_room (Nat.le_of_ble_eq_true rfl)) dX7_init_31 ⟨Nat.le_of_ble_eq_true rfl, Nat.le_of_ble_eq_true rfl⟩) hS hFc (fun gC H1 locs hF1 hPn hDn hk hS => ?_)
  have hD1 : va_D A (wj [[(a0, .inr (8, [.ref (gA 0), .ref (gB 0), .null, .null, .null, .null, .null, .int 0, .int 0, .int 0]))], gcells C gA G0, gcells C gB G0, gcells C gC G0]) := jbD (bs := [[(a0, .inr (8, [.ref (gA 0), .ref (gB 0), .null, .null, .null, .null, .null, .int 0, .int 0, .int 0]))], gcells C gA G0, gcells C gB G0, [(q, .inr (4, gBlank))]]) (cs := [[(q, .inr (4, gBlank))]]) (rs := [[(a0, .inr (8, [.ref (gA 0), .ref (gB 0), .null, .null, .null, .null, .null, .int 0, .int 0, .int 0]))], gcells C gA G0, gcells C gB G0]) (cs' := [gcells C gC G0]) (bs' := [[(a0, .inr (8, [.ref (gA 0), .ref (gB 0), .null, .null, .null, .null, .null, .int 0, .int 0, .int 0]))], gcells C gA G0, gcells C gB G0, gcells C gC G0]) hP hD (bsP 4 [3, 0, 1, 2] rfl (by decide) rfl) (bsP 4 [1, 2, 3, 0] rfl (by decide) rfl) hFc hDn
  have hP1 : va_P D vwCl (wj [[(a0, .inr (8, [.ref (gA 0), .ref (gB 0), .null, .null, .null, .null, .null, .int 0, .int 0, .int 0]))], gcells C gA G0, gcells C gB G0, gcells C gC G0]) H1 := jb (bs := [[(a0, .inr (8, [.ref (gA 0), .ref (gB 0), .null, .null, .null, .null, .null, .int 0, .int 0, .int 0]))], gcells C gA G0, gcells C gB G0, [(q, .inr (4, gBlank))]]) (cs := [[(q, .inr (4, gBlank))]]) (rs := [[(a0, .inr (8, [.ref (gA 0), .ref (gB 0), .null, .null, .null, .null, .null, .int 0, .int 0, .int 0]))], gcells C gA G0, gcells C gB G0]) (cs' := [gcells C gC G0]) (bs' := [[(a0, .inr (8, [.ref (gA 0), .ref (gB 0), .null, .null, .null, .null, .null, .int 0, .int 0, .int 0]))], gcells C gA G0, gcells C gB G0, gcells C gC G0]) hP hD (bsP 4 [3, 0, 1, 2] rfl (by decide) rfl) (bsP 4 [1, 2, 3, 0] rfl (by decide) rfl) hk hPn
  clear hP hD hPc hDc hFc hPn hDn hk
  have hF1 : gC 0 = q := hF1
  subst hF1
  have hP := hP1
  have hD := hD1
  clear hP1 hD1
  refine va_putF (D := D) (ci := 8) (v := .ref (gC 0)) (ty := (.object "BridgeAuction$Game")) (C := RX7) (T := TX7) (N := 10) hx hb hts hinX tyX7 tyX7_ok nmX7 hown hK hP hD hS 0 rfl rfl 2 (by decide) (hts (.fieldLink RX7 19 "BridgeAuction" "trial" "LBridgeAuction$Game;") (by decide +kernel)) (fun _ h9 => h9) rfl hin2 rfl (by decide +kernel) rfl rfl (Nat.le_of_ble_eq_true rfl) dX7_init_34 (fun H locs hP hD hS => ?_)
  have hP : va_P D vwCl (wj [[(a0, .inr (8, [.ref (gA 0), .ref (gB 0), .ref (gC 0), .null, .null, .null, .null, .int 0, .int 0, .int 0]))], gcells C gA G0, gcells C gB G0, gcells C gC G0]) H := hP
  have hD : va_D A (wj [[(a0, .inr (8, [.ref (gA 0), .ref (gB 0), .ref (gC 0), .null, .null, .null, .null, .int 0, .int 0, .int 0]))], gcells C gA G0, gcells C gB G0, gcells C gC G0]) := hD
  refine lv_aload_n hx hb dX7_init_37 rfl (lv_at hl 0 rfl) ?_
  refine va_new (C := RX2) (T := TX2) (N := 3) (ci := 5) (fs := bX2) hx hb hts hin2' tyX2 tyX2_ok hown (hts (.classLink RX7 22 RX2) (by decide +kernel)) (hts (.instantiable RX2 3) (by decide +kernel)) (hts (.initialized RX2) (by decide +kernel)) hK hP hD hS hA rfl (by decide) (Nat.le_of_ble_eq_true rfl) (Nat.le_of_ble_eq_true rfl) dX7_init_38 (fun q H hP hD hS => ?_)
  have hP : va_P D vwCl (wj [[(a0, .inr (8, [.ref (gA 0), .ref (gB 0), .ref (gC 0), .null, .null, .null, .null, .int 0, .int 0, .int 0]))], gcells C gA G0, gcells C gB G0, gcells C gC G0, [(q, .inr (5, bX2))]]) H := hP
  have hD : va_D A (wj [[(a0, .inr (8, [.ref (gA 0), .ref (gB 0), .ref (gC 0), .null, .null, .null, .null, .int 0, .int 0, .int 0]))], gcells C gA G0, gcells C gB G0, gcells C gC G0, [(q, .inr (5, bX2))]]) := hD
  refine lv_dup hx hb dX7_init_41 rfl ?_
  have hPc : va_P D vwCl [(q, .inr (5, bX2))] _ := wj_P (cs := [[(q, .inr (5, bX2))]]) hP [4] rfl
  have hDc : va_D A [(q, .inr (5, bX2))] := wj_D (cs := [[(q, .inr (5, bX2))]]) hD [4] (by decide) rfl
  have hFc := all_F hDc hS hA
  refine callE (va_runIN (As := []) (rest := [.ref q, .ref a0]) (b := q) ⟨hx, hb, hml, hown, hts⟩ (c_X2_init l D C q _) (⟨va_cnB 0 hts gX7_init_X2_init_n24 rfl rfl rfl hE.2.2 (hts (.initialized RX2) (by decide +kernel)) (by decide +kernel) ⟨Nat.le_of_ble_eq_true rfl, Nat.le_of_ble_eq_true rfl⟩, rfl, hts (.instanceMethod yX2_init) (by decide +kernel)⟩) (rwP_s (As := [.ref q]) hPc hK hE hDc) rfl rfl hl.1 rfl (lv_room (Nat.le_of_ble_eq_true rfl)) dX7_init_42 ⟨Nat.le_of_ble_eq_true rfl, Nat.le_of_ble_eq_true rfl⟩) hS hFc (fun g H1 locs hF1 hPn hDn hk hS => ?_)
  have hD1 : va_D A (wj [[(a0, .inr (8, [.ref (gA 0), .ref (gB 0), .ref (gC 0), .null, .null, .null, .null, .int 0, .int 0, .int 0]))], gcells C gA G0, gcells C gB G0, gcells C gC G0, grcells C g R0]) := jbD (bs := [[(a0, .inr (8, [.ref (gA 0), .ref (gB 0), .ref (gC 0), .null, .null, .null, .null, .int 0, .int 0, .int 0]))], gcells C gA G0, gcells C gB G0, gcells C gC G0, [(q, .inr (5, bX2))]]) (cs := [[(q, .inr (5, bX2))]]) (rs := [[(a0, .inr (8, [.ref (gA 0), .ref (gB 0), .ref (gC 0), .null, .null, .null, .null, .int 0, .int 0, .int 0]))], gcells C gA G0, gcells C gB G0, gcells C gC G0]) (cs' := [grcells C g R0]) (bs' := [[(a0, .inr (8, [.ref (gA 0), .ref (gB 0), .ref (gC 0), .null, .null, .null, .null, .int 0, .int 0, .int 0]))], gcells C gA G0, gcells C gB G0, gcells C gC G0, grcells C g R0]) hP hD (bsP 5 [4, 0, 1, 2, 3] rfl (by decide) rfl) (bsP 5 [1, 2, 3, 4, 0] rfl (by decide) rfl) hFc hDn
  have hP1 : va_P D vwCl (wj [[(a0, .inr (8, [.ref (gA 0), .ref (gB 0), .ref (gC 0), .null, .null, .null, .null, .int 0, .int 0, .int 0]))], gcells C gA G0, gcells C gB G0, gcells C gC G0, grcells C g R0]) H1 := jb (bs := [[(a0, .inr (8, [.ref (gA 0), .ref (gB 0), .ref (gC 0), .null, .null, .null, .null, .int 0, .int 0, .int 0]))], gcells C gA G0, gcells C gB G0, gcells C gC G0, [(q, .inr (5, bX2))]]) (cs := [[(q, .inr (5, bX2))]]) (rs := [[(a0, .inr (8, [.ref (gA 0), .ref (gB 0), .ref (gC 0), .null, .null, .null, .null, .int 0, .int 0, .int 0]))], gcells C gA G0, gcells C gB G0, gcells C gC G0]) (cs' := [grcells C g R0]) (bs' := [[(a0, .inr (8, [.ref (gA 0), .ref (gB 0), .ref (gC 0), .null, .null, .null, .null, .int 0, .int 0, .int 0]))], gcells C gA G0, gcells C gB G0, gcells C gC G0, grcells C g R0]) hP hD (bsP 5 [4, 0, 1, 2, 3] rfl (by decide) rfl) (bsP 5 [1, 2, 3, 4, 0] rfl (by decide) rfl) hk hPn
  clear hP hD hPc hDc hFc hPn hDn hk
  have hF1 : g 0 = q := hF1
  subst hF1
  have hP := hP1
  have hD := hD1
  clear hP1 hD1
  refine va_putF (D := D) (ci := 8) (v := .ref (g 0)) (ty := (.object "BridgeAuction$Graph")) (C := RX7) (T := TX7) (N := 10) hx hb hts hinX tyX7 tyX7_ok nmX7 hown hK hP hD hS 0 rfl rfl 3 (by decide) (hts (.fieldLink RX7 25 "BridgeAuction" "graph" "LBridgeAuction$Graph;") (by decide +kernel)) (fun _ h9 => h9) rfl hin2 rfl (by decide +kernel) rfl rfl (Nat.le_of_ble_eq_true rfl) dX7_init_45 (fun H locs hP hD hS => ?_)
  have hP : va_P D vwCl (wj [[(a0, .inr (8, [.ref (gA 0), .ref (gB 0), .ref (gC 0), .ref (g 0), .null, .null, .null, .int 0, .int 0, .int 0]))], gcells C gA G0, gcells C gB G0, gcells C gC G0, grcells C g R0]) H := hP
  have hD : va_D A (wj [[(a0, .inr (8, [.ref (gA 0), .ref (gB 0), .ref (gC 0), .ref (g 0), .null, .null, .null, .int 0, .int 0, .int 0]))], gcells C gA G0, gcells C gB G0, gcells C gC G0, grcells C g R0]) := hD
  refine lv_aload_n hx hb dX7_init_48 rfl (lv_at hl 0 rfl) ?_
  refine va_new (C := RX3) (T := TX3) (N := 3) (ci := 6) (fs := bX3) hx hb hts hin3 tyX3 tyX3_ok hown (hts (.classLink RX7 29 RX3) (by decide +kernel)) (hts (.instantiable RX3 3) (by decide +kernel)) (hts (.initialized RX3) (by decide +kernel)) hK hP hD hS hA rfl (by decide) (Nat.le_of_ble_eq_true rfl) (Nat.le_of_ble_eq_true rfl) dX7_init_49 (fun q H hP hD hS => ?_)
  have hP : va_P D vwCl (wj [[(a0, .inr (8, [.ref (gA 0), .ref (gB 0), .ref (gC 0), .ref (g 0), .null, .null, .null, .int 0, .int 0, .int 0]))], gcells C gA G0, gcells C gB G0, gcells C gC G0, grcells C g R0, [(q, .inr (6, bX3))]]) H := hP
  have hD : va_D A (wj [[(a0, .inr (8, [.ref (gA 0), .ref (gB 0), .ref (gC 0), .ref (g 0), .null, .null, .null, .int 0, .int 0, .int 0]))], gcells C gA G0, gcells C gB G0, gcells C gC G0, grcells C g R0, [(q, .inr (6, bX3))]]) := hD
  refine lv_dup hx hb dX7_init_52 rfl ?_
  have hPc : va_P D vwCl [(q, .inr (6, bX3))] _ := wj_P (cs := [[(q, .inr (6, bX3))]]) hP [5] rfl
  have hDc : va_D A [(q, .inr (6, bX3))] := wj_D (cs := [[(q, .inr (6, bX3))]]) hD [5] (by decide) rfl
  have hFc := all_F hDc hS hA
  refine callE (va_runI (As := []) (rest := [.ref q, .ref a0]) (b := q) ⟨hx, hb, hml, hown, hts⟩ (c_X3_init l D C q _) (cwI 0 hts gX7_init_X3_init rfl rfl rfl (hts (.initialized RX3) (by decide +kernel)) (hts (.methodLink RX7 31 yX3_init) (by decide +kernel)) (hts (.instanceMethod yX3_init) (by decide +kernel)) rfl (by decide +kernel) ⟨Nat.le_of_ble_eq_true rfl, Nat.le_of_ble_eq_true rfl⟩) (i3P_s (As := [.ref q]) hPc hK hE hDc hAO) rfl rfl hl.1 rfl (lv_room (Nat.le_of_ble_eq_true rfl)) dX7_init_53 ⟨Nat.le_of_ble_eq_true rfl, Nat.le_of_ble_eq_true rfl⟩) hS hFc (fun h H1 locs hF1 hPn hDn hk hS => ?_)
  have hD1 : va_D A (wj [[(a0, .inr (8, [.ref (gA 0), .ref (gB 0), .ref (gC 0), .ref (g 0), .null, .null, .null, .int 0, .int 0, .int 0]))], gcells C gA G0, gcells C gB G0, gcells C gC G0, grcells C g R0, hcells C h H0S]) := jbD (bs := [[(a0, .inr (8, [.ref (gA 0), .ref (gB 0), .ref (gC 0), .ref (g 0), .null, .null, .null, .int 0, .int 0, .int 0]))], gcells C gA G0, gcells C gB G0, gcells C gC G0, grcells C g R0, [(q, .inr (6, bX3))]]) (cs := [[(q, .inr (6, bX3))]]) (rs := [[(a0, .inr (8, [.ref (gA 0), .ref (gB 0), .ref (gC 0), .ref (g 0), .null, .null, .null, .int 0, .int 0, .int 0]))], gcells C gA G0, gcells C gB G0, gcells C gC G0, grcells C g R0]) (cs' := [hcells C h H0S]) (bs' := [[(a0, .inr (8, [.ref (gA 0), .ref (gB 0), .ref (gC 0), .ref (g 0), .null, .null, .null, .int 0, .int 0, .int 0]))], gcells C gA G0, gcells C gB G0, gcells C gC G0, grcells C g R0, hcells C h H0S]) hP hD (bsP 6 [5, 0, 1, 2, 3, 4] rfl (by decide) rfl) (bsP 6 [1, 2, 3, 4, 5, 0] rfl (by decide) rfl) hFc hDn
  have hP1 : va_P D vwCl (wj [[(a0, .inr (8, [.ref (gA 0), .ref (gB 0), .ref (gC 0), .ref (g 0), .null, .null, .null, .int 0, .int 0, .int 0]))], gcells C gA G0, gcells C gB G0, gcells C gC G0, grcells C g R0, hcells C h H0S]) H1 := jb (bs := [[(a0, .inr (8, [.ref (gA 0), .ref (gB 0), .ref (gC 0), .ref (g 0), .null, .null, .null, .int 0, .int 0, .int 0]))], gcells C gA G0, gcells C gB G0, gcells C gC G0, grcells C g R0, [(q, .inr (6, bX3))]]) (cs := [[(q, .inr (6, bX3))]]) (rs := [[(a0, .inr (8, [.ref (gA 0), .ref (gB 0), .ref (gC 0), .ref (g 0), .null, .null, .null, .int 0, .int 0, .int 0]))], gcells C gA G0, gcells C gB G0, gcells C gC G0, grcells C g R0]) (cs' := [hcells C h H0S]) (bs' := [[(a0, .inr (8, [.ref (gA 0), .ref (gB 0), .ref (gC 0), .ref (g 0), .null, .null, .null, .int 0, .int 0, .int 0]))], gcells C gA G0, gcells C gB G0, gcells C gC G0, grcells C g R0, hcells C h H0S]) hP hD (bsP 6 [5, 0, 1, 2, 3, 4] rfl (by decide) rfl) (bsP 6 [1, 2, 3, 4, 5, 0] rfl (by decide) rfl) hk hPn
  clear hP hD hPc hDc hFc hPn hDn hk
  have hF1 : h 0 = q := hF1
  subst hF1
  have hP := hP1
  have hD := hD1
  clear hP1 hD1
  refine va_putF (D := D) (ci := 8) (v := .ref (h 0)) (ty := (.object "BridgeAuction$History")) (C := RX7) (T := TX7) (N := 10) hx hb hts hinX tyX7 tyX7_ok nmX7 hown hK hP hD hS 0 rfl rfl 4 (by decide) (hts (.fieldLink RX7 32 "BridgeAuction" "history" "LBridgeAuction$History;") (by decide +kernel)) (fun _ h9 => h9) rfl hin2 rfl (by decide +kernel) rfl rfl (Nat.le_of_ble_eq_true rfl) dX7_init_56 (fun H locs hP hD hS => ?_)
  have hP : va_P D vwCl (wj [[(a0, .inr (8, [.ref (gA 0), .ref (gB 0), .ref (gC 0), .ref (g 0), .ref (h 0), .null, .null, .int 0, .int 0, .int 0]))], gcells C gA G0, gcells C gB G0, gcells C gC G0, grcells C g R0, hcells C h H0S]) H := hP
  have hD : va_D A (wj [[(a0, .inr (8, [.ref (gA 0), .ref (gB 0), .ref (gC 0), .ref (g 0), .ref (h 0), .null, .null, .int 0, .int 0, .int 0]))], gcells C gA G0, gcells C gB G0, gcells C gC G0, grcells C g R0, hcells C h H0S]) := hD
  refine lv_aload_n hx hb dX7_init_59 rfl (lv_at hl 0 rfl) ?_
  refine va_new (C := RX4) (T := TX4) (N := 5) (ci := 7) (fs := bX4) hx hb hts hin4 tyX4 tyX4_ok hown (hts (.classLink RX7 36 RX4) (by decide +kernel)) (hts (.instantiable RX4 5) (by decide +kernel)) (hts (.initialized RX4) (by decide +kernel)) hK hP hD hS hA rfl (by decide) (Nat.le_of_ble_eq_true rfl) (Nat.le_of_ble_eq_true rfl) dX7_init_60 (fun q H hP hD hS => ?_)
  have hP : va_P D vwCl (wj [[(a0, .inr (8, [.ref (gA 0), .ref (gB 0), .ref (gC 0), .ref (g 0), .ref (h 0), .null, .null, .int 0, .int 0, .int 0]))], gcells C gA G0, gcells C gB G0, gcells C gC G0, grcells C g R0, hcells C h H0S, [(q, .inr (7, bX4))]]) H := hP
  have hD : va_D A (wj [[(a0, .inr (8, [.ref (gA 0), .ref (gB 0), .ref (gC 0), .ref (g 0), .ref (h 0), .null, .null, .int 0, .int 0, .int 0]))], gcells C gA G0, gcells C gB G0, gcells C gC G0, grcells C g R0, hcells C h H0S, [(q, .inr (7, bX4))]]) := hD
  refine lv_dup hx hb dX7_init_63 rfl ?_
  have hPc : va_P D vwCl [(q, .inr (7, bX4))] _ := wj_P (cs := [[(q, .inr (7, bX4))]]) hP [6] rfl
  have hDc : va_D A [(q, .inr (7, bX4))] := wj_D (cs := [[(q, .inr (7, bX4))]]) hD [6] (by decide) rfl
  have hFc := all_F hDc hS hA
  refine callE (va_runIN (As := []) (rest := [.ref q, .ref a0]) (b := q) ⟨hx, hb, hml, hown, hts⟩ (c_X4_init l D C ev q _) (⟨va_cnB 0 hts gX7_init_X4_init_n38 rfl rfl rfl hE.2.1 (hts (.initialized RX4) (by decide +kernel)) (by decide +kernel) ⟨Nat.le_of_ble_eq_true rfl, Nat.le_of_ble_eq_true rfl⟩, rfl, hts (.instanceMethod yX4_init) (by decide +kernel)⟩) (rwPE_s (As := [.ref q]) hPc hK hE hDc hR9 hX hS hFc) rfl rfl hl.1 rfl (lv_room (Nat.le_of_ble_eq_true rfl)) dX7_init_64 ⟨Nat.le_of_ble_eq_true rfl, Nat.le_of_ble_eq_true rfl⟩) hS hFc (fun sc H1 locs hF1 hPn hDn hk hS => ?_)
  have hD1 : va_D A (wj [[(a0, .inr (8, [.ref (gA 0), .ref (gB 0), .ref (gC 0), .ref (g 0), .ref (h 0), .null, .null, .int 0, .int 0, .int 0]))], gcells C gA G0, gcells C gB G0, gcells C gC G0, grcells C g R0, hcells C h H0S, scells C ev sc S0]) := jbD (bs := [[(a0, .inr (8, [.ref (gA 0), .ref (gB 0), .ref (gC 0), .ref (g 0), .ref (h 0), .null, .null, .int 0, .int 0, .int 0]))], gcells C gA G0, gcells C gB G0, gcells C gC G0, grcells C g R0, hcells C h H0S, [(q, .inr (7, bX4))]]) (cs := [[(q, .inr (7, bX4))]]) (rs := [[(a0, .inr (8, [.ref (gA 0), .ref (gB 0), .ref (gC 0), .ref (g 0), .ref (h 0), .null, .null, .int 0, .int 0, .int 0]))], gcells C gA G0, gcells C gB G0, gcells C gC G0, grcells C g R0, hcells C h H0S]) (cs' := [scells C ev sc S0]) (bs' := [[(a0, .inr (8, [.ref (gA 0), .ref (gB 0), .ref (gC 0), .ref (g 0), .ref (h 0), .null, .null, .int 0, .int 0, .int 0]))], gcells C gA G0, gcells C gB G0, gcells C gC G0, grcells C g R0, hcells C h H0S, scells C ev sc S0]) hP hD (bsP 7 [6, 0, 1, 2, 3, 4, 5] rfl (by decide) rfl) (bsP 7 [1, 2, 3, 4, 5, 6, 0] rfl (by decide) rfl) hFc hDn
  have hP1 : va_P D vwCl (wj [[(a0, .inr (8, [.ref (gA 0), .ref (gB 0), .ref (gC 0), .ref (g 0), .ref (h 0), .null, .null, .int 0, .int 0, .int 0]))], gcells C gA G0, gcells C gB G0, gcells C gC G0, grcells C g R0, hcells C h H0S, scells C ev sc S0]) H1 := jb (bs := [[(a0, .inr (8, [.ref (gA 0), .ref (gB 0), .ref (gC 0), .ref (g 0), .ref (h 0), .null, .null, .int 0, .int 0, .int 0]))], gcells C gA G0, gcells C gB G0, gcells C gC G0, grcells C g R0, hcells C h H0S, [(q, .inr (7, bX4))]]) (cs := [[(q, .inr (7, bX4))]]) (rs := [[(a0, .inr (8, [.ref (gA 0), .ref (gB 0), .ref (gC 0), .ref (g 0), .ref (h 0), .null, .null, .int 0, .int 0, .int 0]))], gcells C gA G0, gcells C gB G0, gcells C gC G0, grcells C g R0, hcells C h H0S]) (cs' := [scells C ev sc S0]) (bs' := [[(a0, .inr (8, [.ref (gA 0), .ref (gB 0), .ref (gC 0), .ref (g 0), .ref (h 0), .null, .null, .int 0, .int 0, .int 0]))], gcells C gA G0, gcells C gB G0, gcells C gC G0, grcells C g R0, hcells C h H0S, scells C ev sc S0]) hP hD (bsP 7 [6, 0, 1, 2, 3, 4, 5] rfl (by decide) rfl) (bsP 7 [1, 2, 3, 4, 5, 6, 0] rfl (by decide) rfl) hk hPn
  clear hP hD hPc hDc hFc hPn hDn hk
  have hF1 : sc 0 = q := hF1
  subst hF1
  have hP := hP1
  have hD := hD1
  clear hP1 hD1
  refine va_putF (D := D) (ci := 8) (v := .ref (sc 0)) (ty := (.object "BridgeAuction$Script")) (C := RX7) (T := TX7) (N := 10) hx hb hts hinX tyX7 tyX7_ok nmX7 hown hK hP hD hS 0 rfl rfl 5 (by decide) (hts (.fieldLink RX7 39 "BridgeAuction" "script" "LBridgeAuction$Script;") (by decide +kernel)) (fun _ h9 => h9) rfl hin2 rfl (by decide +kernel) rfl rfl (Nat.le_of_ble_eq_true rfl) dX7_init_67 (fun H locs hP hD hS => ?_)
  have hP : va_P D vwCl (wj [[(a0, .inr (8, [.ref (gA 0), .ref (gB 0), .ref (gC 0), .ref (g 0), .ref (h 0), .ref (sc 0), .null, .int 0, .int 0, .int 0]))], gcells C gA G0, gcells C gB G0, gcells C gC G0, grcells C g R0, hcells C h H0S, scells C ev sc S0]) H := hP
  have hD : va_D A (wj [[(a0, .inr (8, [.ref (gA 0), .ref (gB 0), .ref (gC 0), .ref (g 0), .ref (h 0), .ref (sc 0), .null, .int 0, .int 0, .int 0]))], gcells C gA G0, gcells C gB G0, gcells C gC G0, grcells C g R0, hcells C h H0S, scells C ev sc S0]) := hD
  refine lv_aload_n hx hb dX7_init_70 rfl (lv_at hl 0 rfl) ?_
  refine va_new (C := RJ4) (T := TJ4) (N := 4) (ci := 1) (fs := bJ4) hx hb hts hinJ tyJ4 tyJ4_ok hown (hts (.classLink RX7 43 RJ4) (by decide +kernel)) (hts (.instantiable RJ4 4) (by decide +kernel)) (hts (.initialized RJ4) (by decide +kernel)) hK hP hD hS hA rfl (by decide) (Nat.le_of_ble_eq_true rfl) (Nat.le_of_ble_eq_true rfl) dX7_init_71 (fun q H hP hD hS => ?_)
  have hP : va_P D vwCl (wj [[(a0, .inr (8, [.ref (gA 0), .ref (gB 0), .ref (gC 0), .ref (g 0), .ref (h 0), .ref (sc 0), .null, .int 0, .int 0, .int 0]))], gcells C gA G0, gcells C gB G0, gcells C gC G0, grcells C g R0, hcells C h H0S, scells C ev sc S0, [(q, .inr (1, bJ4))]]) H := hP
  have hD : va_D A (wj [[(a0, .inr (8, [.ref (gA 0), .ref (gB 0), .ref (gC 0), .ref (g 0), .ref (h 0), .ref (sc 0), .null, .int 0, .int 0, .int 0]))], gcells C gA G0, gcells C gB G0, gcells C gC G0, grcells C g R0, hcells C h H0S, scells C ev sc S0, [(q, .inr (1, bJ4))]]) := hD
  refine lv_dup hx hb dX7_init_74 rfl ?_
  have hPc : va_P D vwCl [(q, .inr (1, bJ4))] _ := wj_P (cs := [[(q, .inr (1, bJ4))]]) hP [7] rfl
  have hDc : va_D A [(q, .inr (1, bJ4))] := wj_D (cs := [[(q, .inr (1, bJ4))]]) hD [7] (by decide) rfl
  have hFc := all_F hDc hS hA
  refine callE (va_runI (As := []) (rest := [.ref q, .ref a0]) (b := q) ⟨hx, hb, hml, hown, hts⟩ (c_J4_init_da8c8 l D C ev q _) (cwI 0 hts gX7_init_J4_init_da8c8 rfl rfl rfl (hts (.initialized RJ4) (by decide +kernel)) (hts (.methodLink RX7 45 yJ4_init_da8c8) (by decide +kernel)) (hts (.instanceMethod yJ4_init_da8c8) (by decide +kernel)) rfl (by decide +kernel) ⟨Nat.le_of_ble_eq_true rfl, Nat.le_of_ble_eq_true rfl⟩) (rwPE_s (As := [.ref q]) hPc hK hE hDc hR9 hX hS hFc) rfl rfl hl.1 rfl (lv_room (Nat.le_of_ble_eq_true rfl)) dX7_init_75 ⟨Nat.le_of_ble_eq_true rfl, Nat.le_of_ble_eq_true rfl⟩) hS hFc (fun O1 H1 locs hF1 hPn hDn hk hS => ?_)
  have hD1 : va_D A (wj [[(a0, .inr (8, [.ref (gA 0), .ref (gB 0), .ref (gC 0), .ref (g 0), .ref (h 0), .ref (sc 0), .null, .int 0, .int 0, .int 0]))], gcells C gA G0, gcells C gB G0, gcells C gC G0, grcells C g R0, hcells C h H0S, scells C ev sc S0, ocells C (fun _ => q) O1]) := jbD (bs := [[(a0, .inr (8, [.ref (gA 0), .ref (gB 0), .ref (gC 0), .ref (g 0), .ref (h 0), .ref (sc 0), .null, .int 0, .int 0, .int 0]))], gcells C gA G0, gcells C gB G0, gcells C gC G0, grcells C g R0, hcells C h H0S, scells C ev sc S0, [(q, .inr (1, bJ4))]]) (cs := [[(q, .inr (1, bJ4))]]) (rs := [[(a0, .inr (8, [.ref (gA 0), .ref (gB 0), .ref (gC 0), .ref (g 0), .ref (h 0), .ref (sc 0), .null, .int 0, .int 0, .int 0]))], gcells C gA G0, gcells C gB G0, gcells C gC G0, grcells C g R0, hcells C h H0S, scells C ev sc S0]) (cs' := [ocells C (fun _ => q) O1]) (bs' := [[(a0, .inr (8, [.ref (gA 0), .ref (gB 0), .ref (gC 0), .ref (g 0), .ref (h 0), .ref (sc 0), .null, .int 0, .int 0, .int 0]))], gcells C gA G0, gcells C gB G0, gcells C gC G0, grcells C g R0, hcells C h H0S, scells C ev sc S0, ocells C (fun _ => q) O1]) hP hD (bsP 8 [7, 0, 1, 2, 3, 4, 5, 6] rfl (by decide) rfl) (bsP 8 [1, 2, 3, 4, 5, 6, 7, 0] rfl (by decide) rfl) hFc hDn
  have hP1 : va_P D vwCl (wj [[(a0, .inr (8, [.ref (gA 0), .ref (gB 0), .ref (gC 0), .ref (g 0), .ref (h 0), .ref (sc 0), .null, .int 0, .int 0, .int 0]))], gcells C gA G0, gcells C gB G0, gcells C gC G0, grcells C g R0, hcells C h H0S, scells C ev sc S0, ocells C (fun _ => q) O1]) H1 := jb (bs := [[(a0, .inr (8, [.ref (gA 0), .ref (gB 0), .ref (gC 0), .ref (g 0), .ref (h 0), .ref (sc 0), .null, .int 0, .int 0, .int 0]))], gcells C gA G0, gcells C gB G0, gcells C gC G0, grcells C g R0, hcells C h H0S, scells C ev sc S0, [(q, .inr (1, bJ4))]]) (cs := [[(q, .inr (1, bJ4))]]) (rs := [[(a0, .inr (8, [.ref (gA 0), .ref (gB 0), .ref (gC 0), .ref (g 0), .ref (h 0), .ref (sc 0), .null, .int 0, .int 0, .int 0]))], gcells C gA G0, gcells C gB G0, gcells C gC G0, grcells C g R0, hcells C h H0S, scells C ev sc S0]) (cs' := [ocells C (fun _ => q) O1]) (bs' := [[(a0, .inr (8, [.ref (gA 0), .ref (gB 0), .ref (gC 0), .ref (g 0), .ref (h 0), .ref (sc 0), .null, .int 0, .int 0, .int 0]))], gcells C gA G0, gcells C gB G0, gcells C gC G0, grcells C g R0, hcells C h H0S, scells C ev sc S0, ocells C (fun _ => q) O1]) hP hD (bsP 8 [7, 0, 1, 2, 3, 4, 5, 6] rfl (by decide) rfl) (bsP 8 [1, 2, 3, 4, 5, 6, 7, 0] rfl (by decide) rfl) hk hPn
  clear hP hD hPc hDc hFc hPn hDn hk
  have hP := hP1
  have hD := hD1
  clear hP1 hD1
  refine va_putF (D := D) (ci := 8) (v := .ref q) (ty := (.object "java/lang/StringBuilder")) (C := RX7) (T := TX7) (N := 10) hx hb hts hinX tyX7 tyX7_ok nmX7 hown hK hP hD hS 0 rfl rfl 6 (by decide) (hts (.fieldLink RX7 46 "BridgeAuction" "output" "Ljava/lang/StringBuilder;") (by decide +kernel)) (fun _ h9 => h9) rfl hin2 rfl (by decide +kernel) rfl rfl (Nat.le_of_ble_eq_true rfl) dX7_init_78 (fun H locs hP hD hS => ?_)
  have hP : va_P D vwCl (wj [[(a0, .inr (8, [.ref (gA 0), .ref (gB 0), .ref (gC 0), .ref (g 0), .ref (h 0), .ref (sc 0), .ref q, .int 0, .int 0, .int 0]))], gcells C gA G0, gcells C gB G0, gcells C gC G0, grcells C g R0, hcells C h H0S, scells C ev sc S0, ocells C (fun _ => q) O1]) H := hP
  have hD : va_D A (wj [[(a0, .inr (8, [.ref (gA 0), .ref (gB 0), .ref (gC 0), .ref (g 0), .ref (h 0), .ref (sc 0), .ref q, .int 0, .int 0, .int 0]))], gcells C gA G0, gcells C gB G0, gcells C gC G0, grcells C g R0, hcells C h H0S, scells C ev sc S0, ocells C (fun _ => q) O1]) := hD
  refine lv_aload_n hx hb dX7_init_81 rfl (lv_at hl 0 rfl) ?_
  refine lv_iconst (v := 0) hx hb dX7_init_82 (by decide) ?_
  refine va_put (D := D) (ci := 8) (v := .int 0) (ty := .boolean) (C := RX7) (T := TX7) (N := 10) hx hb hts hinX tyX7 tyX7_ok nmX7 hown hK hP hD hS 0 rfl rfl 7 (by decide) (hts (.fieldLink RX7 50 "BridgeAuction" "hasSnapshot" "Z") (by decide +kernel)) (fun _ h9 => h9) rfl (by decide +kernel) rfl rfl (Nat.le_of_ble_eq_true rfl) dX7_init_83 (fun H locs hP hD hS => ?_)
  have hP : va_P D vwCl (wj [[(a0, .inr (8, [.ref (gA 0), .ref (gB 0), .ref (gC 0), .ref (g 0), .ref (h 0), .ref (sc 0), .ref q, .int 0, .int 0, .int 0]))], gcells C gA G0, gcells C gB G0, gcells C gC G0, grcells C g R0, hcells C h H0S, scells C ev sc S0, ocells C (fun _ => q) O1]) H := hP
  have hD : va_D A (wj [[(a0, .inr (8, [.ref (gA 0), .ref (gB 0), .ref (gC 0), .ref (g 0), .ref (h 0), .ref (sc 0), .ref q, .int 0, .int 0, .int 0]))], gcells C gA G0, gcells C gB G0, gcells C gC G0, grcells C g R0, hcells C h H0S, scells C ev sc S0, ocells C (fun _ => q) O1]) := hD
  refine lv_aload_n hx hb dX7_init_86 rfl (lv_at hl 0 rfl) ?_
  refine lv_iconst (v := (-1)) hx hb dX7_init_87 (by decide) ?_
  refine va_put (D := D) (ci := 8) (v := .int (-1)) (ty := .int) (C := RX7) (T := TX7) (N := 10) hx hb hts hinX tyX7 tyX7_ok nmX7 hown hK hP hD hS 0 rfl rfl 8 (by decide) (hts (.fieldLink RX7 54 "BridgeAuction" "errorPosition" "I") (by decide +kernel)) (fun _ h9 => h9) rfl (by decide +kernel) rfl rfl (Nat.le_of_ble_eq_true rfl) dX7_init_88 (fun H locs hP hD hS => ?_)
  have hP : va_P D vwCl (wj [[(a0, .inr (8, [.ref (gA 0), .ref (gB 0), .ref (gC 0), .ref (g 0), .ref (h 0), .ref (sc 0), .ref q, .int 0, .int (-1), .int 0]))], gcells C gA G0, gcells C gB G0, gcells C gC G0, grcells C g R0, hcells C h H0S, scells C ev sc S0, ocells C (fun _ => q) O1]) H := hP
  have hD : va_D A (wj [[(a0, .inr (8, [.ref (gA 0), .ref (gB 0), .ref (gC 0), .ref (g 0), .ref (h 0), .ref (sc 0), .ref q, .int 0, .int (-1), .int 0]))], gcells C gA G0, gcells C gB G0, gcells C gC G0, grcells C g R0, hcells C h H0S, scells C ev sc S0, ocells C (fun _ => q) O1]) := hD
  refine lv_aload_n hx hb dX7_init_91 rfl (lv_at hl 0 rfl) ?_
  refine lv_iconst (v := (-1)) hx hb dX7_init_92 (by decide) ?_
  refine va_put (D := D) (ci := 8) (v := .int (-1)) (ty := .int) (C := RX7) (T := TX7) (N := 10) hx hb hts hinX tyX7 tyX7_ok nmX7 hown hK hP hD hS 0 rfl rfl 9 (by decide) (hts (.fieldLink RX7 58 "BridgeAuction" "failedCommand" "I") (by decide +kernel)) (fun _ h9 => h9) rfl (by decide +kernel) rfl rfl (Nat.le_of_ble_eq_true rfl) dX7_init_93 (fun H locs hP hD hS => ?_)
  have hP : va_P D vwCl (wj [[(a0, .inr (8, [.ref (gA 0), .ref (gB 0), .ref (gC 0), .ref (g 0), .ref (h 0), .ref (sc 0), .ref q, .int 0, .int (-1), .int (-1)]))], gcells C gA G0, gcells C gB G0, gcells C gC G0, grcells C g R0, hcells C h H0S, scells C ev sc S0, ocells C (fun _ => q) O1]) H := hP
  have hD : va_D A (wj [[(a0, .inr (8, [.ref (gA 0), .ref (gB 0), .ref (gC 0), .ref (g 0), .ref (h 0), .ref (sc 0), .ref q, .int 0, .int (-1), .int (-1)]))], gcells C gA G0, gcells C gB G0, gcells C gC G0, grcells C g R0, hcells C h H0S, scells C ev sc S0, ocells C (fun _ => q) O1]) := hD
  have hu : uH (uAd a0 gA gB gC g sc h q) = h := uAd_h ..
  have hP2 : va_P D vwCl (wj (kbl C ev (uAd a0 gA gB gC g sc h q) Q0 G0 G0 G0 R0 H0S S0 O1)) H := by
    have e : kbl C ev (uAd a0 gA gB gC g sc h q) Q0 G0 G0 G0 R0 H0S S0 O1 = [acells C (uAd a0 gA gB gC g sc h q) Q0, gcells C gA G0, gcells C gB G0, gcells C gC G0, grcells C g R0, hcells C h H0S, scells C ev sc S0, ocells C (fun _ => q) O1] := by
      show [_, _, _, _, _, hcells C (uH (uAd a0 gA gB gC g sc h q)) H0S, _, _] = _
      rw [hu]
      rfl
    rw [e]
    exact hP
  have hD2 : va_D A (wj (kbl C ev (uAd a0 gA gB gC g sc h q) Q0 G0 G0 G0 R0 H0S S0 O1)) := by
    have e : kbl C ev (uAd a0 gA gB gC g sc h q) Q0 G0 G0 G0 R0 H0S S0 O1 = [acells C (uAd a0 gA gB gC g sc h q) Q0, gcells C gA G0, gcells C gB G0, gcells C gC G0, grcells C g R0, hcells C h H0S, scells C ev sc S0, ocells C (fun _ => q) O1] := by
      show [_, _, _, _, _, hcells C (uH (uAd a0 gA gB gC g sc h q)) H0S, _, _] = _
      rw [hu]
      rfl
    rw [e]
    exact hD
  exact e_retN (α := (Nat → Nat) × OS) ((uAd a0 gA gB gC g sc h q), O1) rfl hx hb hr ⟨rfl, hF1⟩ hP2 hD2 hS (Nat.le_of_ble_eq_true rfl) (Nat.le_of_ble_eq_true rfl) dX7_init_96 hlocks
