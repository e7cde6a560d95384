theorem X4_dig_lt {S : SS} (hSz : sSiz S ≤ 60) (hAt : sAt S ≤ sSiz S) (h : f_X4_isDigitNext S = true) : sAt S < sSiz S := by
  unfold f_X4_isDigitNext at h
  split at h
  · exact absurd h (by decide)
  · exact ltN' (by omega) (by assumption)
def f_X4_readDigit (S : SS) : Int32 × SS := ((((sSgn S) (sAt S)) - 48), (mkS (sSgn S) (sSiz S) ((sAt S) + 1) (sVb S) (sNum S)))
set_option maxHeartbeats 4000000 in
set_option maxRecDepth 100000 in
theorem c_X4_readDigit (l : Launch) (D : va_G) (C : Nat → ClassId) (ev : Nat → Nat) (sc : Nat → Nat) (S : SS) (sz : Nat) (hSz : sSiz S ≤ 60) (hAt : sAt S ≤ sSiz S) (hq : sAt S < sSiz S) : Met l yX4_readDigit wsX4_readDigit ({ frames := 0, cells := 0, slots := 0, locals := 0 } : Room) (rwPE [.ref (sc 0)] D C ev (scells C ev sc S) sz) (rwO (some (.int ((f_X4_readDigit S).1))) D (scells C ev sc ((f_X4_readDigit S).2)) (va_A (scells C ev sc S) sz)) 0 0 (va_A (scells C ev sc S) sz) := by
  refine Met.ofW (cc := cX4_readDigit) (maxL := 2) (ret := (some .int)) (by decide) rfl ?_
  intro p e s m args below meth c s₁ B hml hv
  obtain ⟨rfl, hsz, hP, hK, hD0, hE, hR, hX⟩ := hv
  have hx := B.exec
  have hb := B.bytes
  have hr := B.returns
  have hts := atoms_spec (ws := wsX4_readDigit) B.pre
  have hown : s.vm.findClass RX4 = some m.cls := findClass_of_methodNamed B.named
  have hlocks := B.notSynchronized
  subst hsz
  have hD := hD0.self (sz := s.heap.size)
  generalize hAe : va_A (scells C ev sc S) s.heap.size = A at hD hX ⊢
  have hA : ∀ q : Nat, s.heap.size ≤ q → A q := fun q h => by rw [← hAe]; exact Or.inr h
  have hS0 : va_S A s.heap s.heap [] := va_S.rf
  have hP : va_P D vwCl (scells C ev sc S) s.heap := hP
  have hS := hS0
  obtain ⟨⟨hV, hB, hMV, hMB, hAL, hEk, hEa, hTX, hXZ⟩, hCS, hSF⟩ := id hX
  have hinX4 : ∀ w ∈ u_ws RX4 TX4 5, w ∈ wsX4_readDigit := by decide +kernel
  have hl := lv_entry ([.ref (sc 0)]) (n := 2) (Nat.le_of_ble_eq_true rfl)
  rw [lg_entry_eq]
  generalize (lg_sl ([.ref (sc 0)]) ++ List.replicate (2 - (lg_sl ([.ref (sc 0)])).length) Slot.unset).toArray = ls at hl ⊢
  have hl : lv_has ls 2 [(0, .ref (sc 0))] := hl
  obtain ⟨z, hz⟩ : ∃ z, z = f_X4_readDigit S := ⟨_, rfl⟩
  rw [← hz]
  refine lv_aload_n hx hb dX4_readDigit_0 rfl (lv_at hl 0 rfl) ?_
  refine va_get (D := D) (ci := 7) (v := .ref (sc 1)) (C := RX4) (T := TX4) (N := 5) hx hb hts hinX4 hown hK hP 0 rfl rfl 0 (by decide) (hts (.fieldLink RX4 9 "BridgeAuction$Script" "signs" "[C") (by decide +kernel)) (fun _ h9 => h9) rfl dX4_readDigit_1 ?_
  refine lv_aload_n hx hb dX4_readDigit_4 rfl (lv_at hl 0 rfl) ?_
  refine va_get (D := D) (ci := 7) (v := .int (nI (sAt S))) (C := RX4) (T := TX4) (N := 5) hx hb hts hinX4 hown hK hP 0 rfl rfl 2 (by decide) (hts (.fieldLink RX4 19 "BridgeAuction$Script" "at" "I") (by decide +kernel)) (fun _ h9 => h9) rfl dX4_readDigit_5 ?_
  refine caldN (tys := tyA C) hx hb hK hP 1 1 rfl rfl (i := (sAt S)) (by omega) (by decide) dX4_readDigit_8 ?_
  refine lv_bipush (v := 48) hx hb dX4_readDigit_9 (by decide +kernel) ?_
  refine lv_isub hx hb dX4_readDigit_11 ?_
  refine lv_istore_n (lv' := [(1, .int (((sSgn S) (sAt S)) - 48)), (0, .ref (sc 0))]) hx hb dX4_readDigit_12 rfl hl (by decide) rfl (fun ls hl => ?_)
  refine lv_aload_n hx hb dX4_readDigit_13 rfl (lv_at hl 1 rfl) ?_
  refine lv_dup hx hb dX4_readDigit_14 rfl ?_
  refine va_get (D := D) (ci := 7) (v := .int (nI (sAt S))) (C := RX4) (T := TX4) (N := 5) hx hb hts hinX4 hown hK hP 0 rfl rfl 2 (by decide) (hts (.fieldLink RX4 19 "BridgeAuction$Script" "at" "I") (by decide +kernel)) (fun _ h9 => h9) rfl dX4_readDigit_15 ?_
  refine lv_iconst (v := 1) hx hb dX4_readDigit_18 (by decide) ?_
  refine topN (k := 1) (by decide +kernel) ?_
  refine addN hx hb dX4_readDigit_19 ?_
  refine va_put (D := D) (ci := 7) (v := .int (nI ((sAt S) + 1))) (ty := .int) (C := RX4) (T := TX4) (N := 5) hx hb hts hinX4 tyX4 tyX4_ok nmX4 hown hK hP hD hS 0 rfl rfl 2 (by decide) (hts (.fieldLink RX4 19 "BridgeAuction$Script" "at" "I") (by decide +kernel)) (fun _ h9 => h9) rfl (by decide +kernel) rfl rfl (Nat.le_of_ble_eq_true rfl) dX4_readDigit_20 (fun H locs hP hD hS => ?_)
  have hP : va_P D vwCl (scells C ev sc (mkS (sSgn S) (sSiz S) ((sAt S) + 1) (sVb S) (sNum S))) H := hP
  have hD : va_D A (scells C ev sc (mkS (sSgn S) (sSiz S) ((sAt S) + 1) (sVb S) (sNum S))) := hD
  refine lv_iload_n hx hb dX4_readDigit_23 rfl (lv_at hl 0 rfl) ?_
  have hz : z = ((((sSgn S) (sAt S)) - 48), (mkS (sSgn S) (sSiz S) ((sAt S) + 1) (sVb S) (sNum S))) := hz
  rw [hz]
  exact rw_ret hx hb hr hP hS rfl dX4_readDigit_24 hlocks

