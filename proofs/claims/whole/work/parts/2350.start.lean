theorem cls_lng {D : va_G} {tys : List (ClassId × FieldType)} {U : State} {i j : Nat} {x y : ClassId} (hK : va_K D vwCl tys U) (hi : tys[i]? = some (x, .long)) (hj : tys[j]? = some (y, .long)) : x = y := by
  have h1 : U.vm.findClass ("[" ++ (FieldType.long).toString) = some x := (hK.2 i _ hi).2
  have h2 : U.vm.findClass ("[" ++ (FieldType.long).toString) = some y := (hK.2 j _ hj).2
  exact Option.some.inj (h1.symm.trans h2)
theorem cls_dbl {D : va_G} {tys : List (ClassId × FieldType)} {U : State} {i j : Nat} {x y : ClassId} (hK : va_K D vwCl tys U) (hi : tys[i]? = some (x, .double)) (hj : tys[j]? = some (y, .double)) : x = y := by
  have h1 : U.vm.findClass ("[" ++ (FieldType.double).toString) = some x := (hK.2 i _ hi).2
  have h2 : U.vm.findClass ("[" ++ (FieldType.double).toString) = some y := (hK.2 j _ hj).2
  exact Option.some.inj (h1.symm.trans h2)
set_option maxHeartbeats 8000000 in
set_option maxRecDepth 100000 in
/-- from the entry, for every script of at most 2048 ints, the law comes to its end with true -/
theorem whole_start {p : Program} {e : Env} {s : State} {m : MethodId} {below : List Frame} {meth : Method} {c : Code} (l : Launch) (hflags : l.flags = flags0) {b L : Nat} {xs : Nat → Int32} (hL : L ≤ 2048) (C0 : lw_At p s m meth c b L xs) : W p l e room_1 s m #[Value.ref b] below meth c s.heap [] 0 0 (lw_Z below #[Value.ref b] s) (entryFrame m ([Value.ref b] : List Value).toArray 9) := by
  obtain ⟨hx, hb, hr, hml, hown, hts0, hXs, hbl, hlocks, hgv⟩ := id C0
  have hs : ∀ w ∈ nwL, w.before #[Value.ref b] s = true := flat_of_before _ hgv
  obtain ⟨D, hD0⟩ := prem_D hts0
  obtain ⟨C, hC0⟩ := prem_C hts0
  obtain ⟨ev, hR9, hX9, hDV9⟩ := prem_ev hts0 hs
  have hK : va_K D vwCl (tyA C) s := ⟨hD0, hC0⟩
  have hE := prem_EN hts0
  have hT := prem_XR hts0 hs
  have hV := prem_XV hts0 hs
  have hN := prem_NC hs
  have hCL := prem_CL hts0
  have hAO := prem_AO hts0
  have hts : ∀ w ∈ wsL_law, w.before #[Value.ref b] s = true := fun w h => lw_tb2_ok hts0 w (wsL_law_in w h)
  have hl9 : l.stackTraces = false := by
    unfold Launch.stackTraces
    rw [hflags]
    decide
  have hret : ∀ (H : Heap) (locs : List Loc) (cells slots : Nat) (ls : Array Slot), va_S (AH s) s.heap H locs → cells ≤ 603072 → slots ≤ 7202922 → W p l e room_1 s m #[Value.ref b] below meth c H locs cells slots (lw_Z below #[Value.ref b] s) (F0 m 2950 ls [.int 1]) := fun H locs cells slots ls hS h1 h2 =>
    W.widen h1 h2 (va_forget (fun q hq => hS.2.2 q hq) (W.base (lw_ret (Drawn.sameBut.refl s.drawn lw_cs) hx hb hr hlocks dL_law_2950)))
  obtain ⟨A, hAe⟩ : ∃ A, A = AH s := ⟨_, rfl⟩
  rw [← hAe] at hX9 hDV9 hV hret
  have hA : ∀ q : Nat, s.heap.size ≤ q → A q := fun q h => by rw [hAe]; exact h
  have hbA : ¬ A b := by rw [hAe]; exact Nat.not_le.mpr hbl
  have X : LX p l s m c b L xs D C ev A := ⟨hx, hb, hml, hown, hts, hK, hE, hR9, hX9, hT, hV, hDV9, hN, hCL, hXs, hbl, hbA, hA, hl9⟩
  have hin7 : ∀ w ∈ u_ws RX7 TX7 10, w ∈ wsL_law := inlX7
  have hin8 : ∀ w ∈ u_ws RX8 TX8 20, w ∈ wsL_law := inlX8
  have hS : va_S A s.heap s.heap [] := va_S.rf
  have hP : va_P D vwCl [] s.heap := fun k q h => by simp at h
  have hD : va_D A [] := ⟨fun i j p q h => by simp at h, fun k q h => by simp at h⟩
  have hl := lv_entry ([.ref b]) (n := 9) (Nat.le_of_ble_eq_true rfl)
  rw [lg_entry_eq]
  generalize (lg_sl ([.ref b]) ++ List.replicate (9 - (lg_sl ([.ref b])).length) Slot.unset).toArray = ls at hl ⊢
  have hl : lv_has ls 9 [(0, .ref b)] := hl
  refine va_new (C := RX7) (T := TX7) (N := 10) (ci := 8) (fs := bX7) hx hb hts hin7 tyX7 tyX7_ok hown (hts (.classLink RL 8 RX7) (by decide +kernel)) (hts (.instantiable RX7 10) (by decide +kernel)) (hts (.initialized RX7) (by decide +kernel)) hK hP hD hS hA rfl (by decide) (Nat.le_of_ble_eq_true rfl) (Nat.le_of_ble_eq_true rfl) dL_law_0 (fun q H hP hD hS => ?_)
  have hP : va_P D vwCl [(q, .inr (8, bX7))] H := hP
  have hD : va_D A [(q, .inr (8, bX7))] := hD
  refine lv_dup hx hb dL_law_3 rfl ?_
  have hF := all_F hD hS hA
  refine callE (va_runI (As := []) (rest := [.ref q]) (b := q) ⟨hx, hb, hml, hown, hts⟩ (c_X7_init l D C ev q _) (cwI 0 hts gL_law_X7_init rfl rfl rfl (hts (.initialized RX7) (by decide +kernel)) (hts (.methodLink RL 157 yX7_init) (by decide +kernel)) (hts (.instanceMethod yX7_init) (by decide +kernel)) rfl (by decide +kernel) ⟨Nat.le_of_ble_eq_true rfl, Nat.le_of_ble_eq_true rfl⟩) (i7P_s (As := [.ref q]) hP hK hE hD hR9 hX9 hAO hS hF) rfl rfl hl.1 rfl (lv_room (Nat.le_of_ble_eq_true rfl)) dL_law_4 ⟨Nat.le_of_ble_eq_true rfl, Nat.le_of_ble_eq_true rfl⟩) hS hF (fun y H1 locs hF1 hPn hDn hk hS => ?_)
  obtain ⟨u, O⟩ := y
  obtain ⟨hu, hO⟩ := hF1
  have hu : u 0 = q := hu
  have hO : OT T0 O := hO
  subst hu
  have hP : va_P D vwCl (wj (kbl C ev u Q0 G0 G0 G0 R0 H0S S0 O)) H1 := hPn
  have hD1 : va_D A (wj (kbl C ev u Q0 G0 G0 G0 R0 H0S S0 O)) := ⟨hDn.1, fun k q hq => hF _ (hDn.2 k q hq)⟩
  have hD := hD1
  clear hPn hDn hF hk hD1
  refine lv_astore_n (i := 1) (lv' := [(1, .ref (u 0)), (0, .ref b)]) hx hb dL_law_7 rfl hl (Nat.le_of_ble_eq_true rfl) rfl (fun ls hl => ?_)
  refine va_new (C := RX8) (T := TX8) (N := 20) (ci := 9) (fs := bX8) hx hb hts hin8 tyX8 tyX8_ok hown (hts (.classLink RL 158 RX8) (by decide +kernel)) (hts (.instantiable RX8 20) (by decide +kernel)) (hts (.initialized RX8) (by decide +kernel)) hK hP hD hS hA rfl (by decide) (Nat.le_of_ble_eq_true rfl) (Nat.le_of_ble_eq_true rfl) dL_law_8 (fun q H hP hD hS => ?_)
  have hP : va_P D vwCl (wj (kbl C ev u Q0 G0 G0 G0 R0 H0S S0 O ++ [[(q, .inr (9, bX8))]])) H := hP
  have hD : va_D A (wj (kbl C ev u Q0 G0 G0 G0 R0 H0S S0 O ++ [[(q, .inr (9, bX8))]])) := hD
  refine lv_dup hx hb dL_law_11 rfl ?_
  have hPc : va_P D vwCl [(q, .inr (9, bX8))] _ := wj_P (cs := [[(q, .inr (9, bX8))]]) hP [8] rfl
  have hDc : va_D A [(q, .inr (9, bX8))] := wj_D (cs := [[(q, .inr (9, bX8))]]) hD [8] (by decide) rfl
  have hFc := all_F hDc hS hA
  refine callE (va_runI (As := []) (rest := [.ref q]) (b := q) ⟨hx, hb, hml, hown, hts⟩ (c_X8_init l D C q _) (cwI 0 hts gL_law_X8_init rfl rfl rfl (hts (.initialized RX8) (by decide +kernel)) (hts (.methodLink RL 160 yX8_init) (by decide +kernel)) (hts (.instanceMethod yX8_init) (by decide +kernel)) rfl (by decide +kernel) ⟨Nat.le_of_ble_eq_true rfl, Nat.le_of_ble_eq_true rfl⟩) (rwP_s (As := [.ref q]) hPc hK hE hDc) rfl rfl hl.1 rfl (lv_room (Nat.le_of_ble_eq_true rfl)) dL_law_12 ⟨Nat.le_of_ble_eq_true rfl, Nat.le_of_ble_eq_true rfl⟩) hS hFc (fun bm H1 locs hF1 hPn hDn hk hS => ?_)
  have hD1 : va_D A (wj (kbl C ev u Q0 G0 G0 G0 R0 H0S S0 O ++ [mcells C bm M0])) := jbD (bs := kbl C ev u Q0 G0 G0 G0 R0 H0S S0 O ++ [[(q, .inr (9, bX8))]]) (cs := [[(q, .inr (9, bX8))]]) (rs := kbl C ev u Q0 G0 G0 G0 R0 H0S S0 O) (cs' := [mcells C bm M0]) (bs' := kbl C ev u Q0 G0 G0 G0 R0 H0S S0 O ++ [mcells C bm M0]) hP hD (bsP 9 [8, 0, 1, 2, 3, 4, 5, 6, 7] rfl (by decide) rfl) (bsP 9 [1, 2, 3, 4, 5, 6, 7, 8, 0] rfl (by decide) rfl) hFc hDn
  have hP1 : va_P D vwCl (wj (kbl C ev u Q0 G0 G0 G0 R0 H0S S0 O ++ [mcells C bm M0])) H1 := jb (bs := kbl C ev u Q0 G0 G0 G0 R0 H0S S0 O ++ [[(q, .inr (9, bX8))]]) (cs := [[(q, .inr (9, bX8))]]) (rs := kbl C ev u Q0 G0 G0 G0 R0 H0S S0 O) (cs' := [mcells C bm M0]) (bs' := kbl C ev u Q0 G0 G0 G0 R0 H0S S0 O ++ [mcells C bm M0]) hP hD (bsP 9 [8, 0, 1, 2, 3, 4, 5, 6, 7] rfl (by decide) rfl) (bsP 9 [1, 2, 3, 4, 5, 6, 7, 8, 0] rfl (by decide) rfl) hk hPn
  clear hP hD hPc hDc hFc hPn hDn hk
  have hF1 : bm 0 = q := hF1
  subst hF1
  have hP := hP1
  have hD := hD1
  clear hP1 hD1
  refine lv_astore_n (i := 2) (lv' := [(2, .ref (bm 0)), (1, .ref (u 0)), (0, .ref b)]) hx hb dL_law_15 rfl hl (Nat.le_of_ble_eq_true rfl) rfl (fun ls hl => ?_)
  refine lv_iconst (v := 1) hx hb dL_law_16 (by decide) ?_
  refine va_newa (atype := .long) (ty := .long) (N' := 1) (a0 := (1, .inr (.inl (fun _ => 0)))) hx hb (hts (.arrayClass .long) (by decide +kernel)) rfl hK hP hD hS hA (fun _ => rfl) (by decide) (by decide) (by decide) (Nat.le_of_ble_eq_true rfl) (Nat.le_of_ble_eq_true rfl) dL_law_17 (fun o cA H hK9 hP hD hS => ?_)
  obtain rfl : cA = C 4 := cls_lng hK9 (i := 6) (j := 4) rfl rfl
  have hP : va_P D vwCl (wj (kbl C ev u Q0 G0 G0 G0 R0 H0S S0 O ++ [mcells C bm M0, lcells C o (fun _ => 0)])) H := hP
  have hD : va_D A (wj (kbl C ev u Q0 G0 G0 G0 R0 H0S S0 O ++ [mcells C bm M0, lcells C o (fun _ => 0)])) := hD
  refine lv_astore_n (i := 3) (lv' := [(3, .ref o), (2, .ref (bm 0)), (1, .ref (u 0)), (0, .ref b)]) hx hb dL_law_19 rfl hl (Nat.le_of_ble_eq_true rfl) rfl (fun ls hl => ?_)
  refine lv_iconst (v := 1) hx hb dL_law_20 (by decide) ?_
  refine va_newa (atype := .double) (ty := .double) (N' := 1) (a0 := (1, .inr (.inr (.inr (.inl (fun _ => 0)))))) hx hb (hts (.arrayClass .double) (by decide +kernel)) rfl hK hP hD hS hA (fun _ => rfl) (by decide) (by decide) (by decide) (Nat.le_of_ble_eq_true rfl) (Nat.le_of_ble_eq_true rfl) dL_law_21 (fun od cA H hK9 hP hD hS => ?_)
  obtain rfl : cA = C 5 := cls_dbl hK9 (i := 6) (j := 5) rfl rfl
  have hP : va_P D vwCl (wj (lbl C ev u bm o od Q0 G0 G0 G0 R0 H0S S0 O M0 (fun _ => 0) (fun _ => 0))) H := hP
  have hD : va_D A (wj (lbl C ev u bm o od Q0 G0 G0 G0 R0 H0S S0 O M0 (fun _ => 0) (fun _ => 0))) := hD
  refine lv_astore (i := 4) (lv' := [(4, .ref od), (3, .ref o), (2, .ref (bm 0)), (1, .ref (u 0)), (0, .ref b)]) hx hb dL_law_23 hl (Nat.le_of_ble_eq_true rfl) rfl (fun ls hl => ?_)
  refine lv_iconst (v := nI 0) hx hb dL_law_25 (by decide) ?_
  refine lv_istore (lv' := LL u bm o od b 0) hx hb dL_law_26 hl (Nat.le_of_ble_eq_true rfl) rfl (fun ls hl => ?_)
  exact law_loop X hL hret 512 0 Q0 G0 G0 G0 R0 H0S S0 T0 O M0 (fun _ => 0) (fun _ => 0) H _ ls _ _ (by omega) (by omega) REL_0 hO hP hD hS hl (Nat.le_of_ble_eq_true rfl) (Nat.le_of_ble_eq_true rfl)
