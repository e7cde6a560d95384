def f_X4_append (S : SS) (x : Int32) : Nat × SS := (((sSiz S) + 1), (mkS (upd (sSgn S) (sSiz S) (vp_nar .char x)) ((sSiz S) + 1) (sAt S) (sVb S) (sNum S)))
set_option maxHeartbeats 4000000 in
set_option maxRecDepth 100000 in
theorem c_X4_append (l : Launch) (D : va_G) (C : Nat → ClassId) (ev : Nat → Nat) (sc : Nat → Nat) (S : SS) (x : Int32) (sz : Nat) (hSz : sSiz S < 60) : Met l yX4_append wsX4_append ({ frames := 0, cells := 0, slots := 0, locals := 0 } : Room) (rwPE [.ref (sc 0), .int x] D C ev (scells C ev sc S) sz) (rwO (some (.int (nI ((f_X4_append S x).1)))) D (scells C ev sc ((f_X4_append S x).2)) (va_A (scells C ev sc S) sz)) 0 0 (va_A (scells C ev sc S) sz) := by
  refine Met.ofW (cc := cX4_append) (maxL := 2) (ret := (some .int)) (by decide) rfl ?_
  intro p e s m args below meth c s₁ B hml hv
  obtain ⟨rfl, hsz, hP, hK, hD0, hE, hR, hX⟩ := hv
  have hx := B.exec
  have hb := B.bytes
  have hr := B.returns
  have hts := atoms_spec (ws := wsX4_append) B.pre
  have hown : s.vm.findClass RX4 = some m.cls := findClass_of_methodNamed B.named
  have hlocks := B.notSynchronized
  subst hsz
  have hD := hD0.self (sz := s.heap.size)
  generalize hAe : va_A (scells C ev sc S) s.heap.size = A at hD hX ⊢
  have hA : ∀ q : Nat, s.heap.size ≤ q → A q := fun q h => by rw [← hAe]; exact Or.inr h
  have hS0 : va_S A s.heap s.heap [] := va_S.rf
  have hP : va_P D vwCl (scells C ev sc S) s.heap := hP
  have hS := hS0
  obtain ⟨⟨hV, hB, hMV, hMB, hAL, hEk, hEa, hTX, hXZ⟩, hCS, hSF⟩ := id hX
  have hinX4 : ∀ w ∈ u_ws RX4 TX4 5, w ∈ wsX4_append := by decide +kernel
  have hl := lv_entry ([.ref (sc 0), .int x]) (n := 2) (Nat.le_of_ble_eq_true rfl)
  rw [lg_entry_eq]
  generalize (lg_sl ([.ref (sc 0), .int x]) ++ List.replicate (2 - (lg_sl ([.ref (sc 0), .int x])).length) Slot.unset).toArray = ls at hl ⊢
  have hl : lv_has ls 2 [(0, .ref (sc 0)), (1, .int x)] := hl
  obtain ⟨z, hz⟩ : ∃ z, z = f_X4_append S x := ⟨_, rfl⟩
  rw [← hz]
  refine lv_aload_n hx hb dX4_append_0 rfl (lv_at hl 0 rfl) ?_
  refine va_get (D := D) (ci := 7) (v := .ref (sc 1)) (C := RX4) (T := TX4) (N := 5) hx hb hts hinX4 hown hK hP 0 rfl rfl 0 (by decide) (hts (.fieldLink RX4 9 "BridgeAuction$Script" "signs" "[C") (by decide +kernel)) (fun _ h9 => h9) rfl dX4_append_1 ?_
  refine lv_aload_n hx hb dX4_append_4 rfl (lv_at hl 0 rfl) ?_
  refine va_get (D := D) (ci := 7) (v := .int (nI (sSiz S))) (C := RX4) (T := TX4) (N := 5) hx hb hts hinX4 hown hK hP 0 rfl rfl 1 (by decide) (hts (.fieldLink RX4 15 "BridgeAuction$Script" "size" "I") (by decide +kernel)) (fun _ h9 => h9) rfl dX4_append_5 ?_
  refine lv_iload_n hx hb dX4_append_8 rfl (lv_at hl 1 rfl) ?_
  refine castN (tys := tyA C) hx hb hK hP hD hS 1 1 rfl rfl (i := (sSiz S)) (by omega) (by decide) dX4_append_9 (fun H locs hP hD hS => ?_)
  have hP : va_P D vwCl (scells C ev sc (mkS (upd (sSgn S) (sSiz S) (vp_nar .char x)) (sSiz S) (sAt S) (sVb S) (sNum S))) H := hP
  have hD : va_D A (scells C ev sc (mkS (upd (sSgn S) (sSiz S) (vp_nar .char x)) (sSiz S) (sAt S) (sVb S) (sNum S))) := hD
  refine lv_aload_n hx hb dX4_append_10 rfl (lv_at hl 0 rfl) ?_
  refine lv_dup hx hb dX4_append_11 rfl ?_
  refine va_get (D := D) (ci := 7) (v := .int (nI (sSiz S))) (C := RX4) (T := TX4) (N := 5) hx hb hts hinX4 hown hK hP 0 rfl rfl 1 (by decide) (hts (.fieldLink RX4 15 "BridgeAuction$Script" "size" "I") (by decide +kernel)) (fun _ h9 => h9) rfl dX4_append_12 ?_
  refine lv_iconst (v := 1) hx hb dX4_append_15 (by decide) ?_
  refine topN (k := 1) (by decide +kernel) ?_
  refine addN hx hb dX4_append_16 ?_
  refine va_put (D := D) (ci := 7) (v := .int (nI ((sSiz S) + 1))) (ty := .int) (C := RX4) (T := TX4) (N := 5) hx hb hts hinX4 tyX4 tyX4_ok nmX4 hown hK hP hD hS 0 rfl rfl 1 (by decide) (hts (.fieldLink RX4 15 "BridgeAuction$Script" "size" "I") (by decide +kernel)) (fun _ h9 => h9) rfl (by decide +kernel) rfl rfl (Nat.le_of_ble_eq_true rfl) dX4_append_17 (fun H locs hP hD hS => ?_)
  have hP : va_P D vwCl (scells C ev sc (mkS (upd (sSgn S) (sSiz S) (vp_nar .char x)) ((sSiz S) + 1) (sAt S) (sVb S) (sNum S))) H := hP
  have hD : va_D A (scells C ev sc (mkS (upd (sSgn S) (sSiz S) (vp_nar .char x)) ((sSiz S) + 1) (sAt S) (sVb S) (sNum S))) := hD
  refine lv_aload_n hx hb dX4_append_20 rfl (lv_at hl 0 rfl) ?_
  refine va_get (D := D) (ci := 7) (v := .int (nI ((sSiz S) + 1))) (C := RX4) (T := TX4) (N := 5) hx hb hts hinX4 hown hK hP 0 rfl rfl 1 (by decide) (hts (.fieldLink RX4 15 "BridgeAuction$Script" "size" "I") (by decide +kernel)) (fun _ h9 => h9) rfl dX4_append_21 ?_
  have hz : z = (((sSiz S) + 1), (mkS (upd (sSgn S) (sSiz S) (vp_nar .char x)) ((sSiz S) + 1) (sAt S) (sVb S) (sNum S))) := hz
  rw [hz]
  exact rw_ret hx hb hr hP hS rfl dX4_append_24 hlocks

