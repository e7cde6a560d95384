theorem X4_readSign_sz {S : SS} (hSz : sSiz S ≤ 60) (hAt : sAt S ≤ sSiz S) (x : Int32) : sSiz (f_X4_readSign S x).2 = sSiz S ∧ sAt (f_X4_readSign S x).2 ≤ sSiz S ∧ sVb (f_X4_readSign S x).2 = sVb S := by
  simp only [f_X4_readSign, f_X4_readSign_j24]
  split
  · exact ⟨rfl, hAt, rfl⟩
  · split
    · exact ⟨rfl, ltN' (by omega) (by assumption), rfl⟩
    · exact ⟨rfl, hAt, rfl⟩
def f_X4_readNumber_j50  (S_50 : SS) : Bool × SS := (true, S_50)
def f_X4_readNumber (S : SS) (i : Nat) (v : Bool) : Bool × SS := (if (f_X4_isDigitNext S) = true then (lt_ (f_X4_readDigit S) (fun y15 => (if v = true then (if (f_X4_isDigitNext (mkS (sSgn y15.2) (sSiz y15.2) (sAt y15.2) (sVb y15.2) (upd (sNum y15.2) i y15.1))) = true then (lt_ (f_X4_readDigit (mkS (sSgn y15.2) (sSiz y15.2) (sAt y15.2) (sVb y15.2) (upd (sNum y15.2) i y15.1))) (fun y45 => (f_X4_readNumber_j50 ((mkS (sSgn y45.2) (sSiz y45.2) (sAt y45.2) (sVb y45.2) (upd (sNum y45.2) i ((((upd (sNum y15.2) i y15.1) i) * 10) + y45.1))))))) else (f_X4_readNumber_j50 ((mkS (sSgn y15.2) (sSiz y15.2) (sAt y15.2) (sVb y15.2) (upd (sNum y15.2) i y15.1))))) else (f_X4_readNumber_j50 ((mkS (sSgn y15.2) (sSiz y15.2) (sAt y15.2) (sVb y15.2) (upd (sNum y15.2) i y15.1))))))) else (false, S))
set_option maxHeartbeats 4000000 in
set_option maxRecDepth 100000 in
theorem c_X4_readNumber (l : Launch) (D : va_G) (C : Nat → ClassId) (ev : Nat → Nat) (sc : Nat → Nat) (S : SS) (i : Nat) (v : Bool) (sz : Nat) (h_i : i < 3) (hSz : sSiz S ≤ 60) (hAt : sAt S ≤ sSiz S) : Met l yX4_readNumber wsX4_readNumber ({ frames := 1, cells := 0, slots := 0, locals := 21 } : Room) (rwPE [.ref (sc 0), .int (nI i), .int (bI v)] D C ev (scells C ev sc S) sz) (rwO (some (.int (bI ((f_X4_readNumber S i v).1)))) D (scells C ev sc ((f_X4_readNumber S i v).2)) (va_A (scells C ev sc S) sz)) 0 0 (va_A (scells C ev sc S) sz) := by
  refine Met.ofW (cc := cX4_readNumber) (maxL := 3) (ret := (some .boolean)) (by decide) rfl ?_
  intro p e s m args below meth c s₁ B hml hv
  obtain ⟨rfl, hsz, hP, hK, hD0, hE, hR, hX⟩ := hv
  have hx := B.exec
  have hb := B.bytes
  have hr := B.returns
  have hts := atoms_spec (ws := wsX4_readNumber) B.pre
  have hown : s.vm.findClass RX4 = some m.cls := findClass_of_methodNamed B.named
  have hlocks := B.notSynchronized
  subst hsz
  have hD := hD0.self (sz := s.heap.size)
  generalize hAe : va_A (scells C ev sc S) s.heap.size = A at hD hX ⊢
  have hA : ∀ q : Nat, s.heap.size ≤ q → A q := fun q h => by rw [← hAe]; exact Or.inr h
  have hS0 : va_S A s.heap s.heap [] := va_S.rf
  have hP : va_P D vwCl (scells C ev sc S) s.heap := hP
  have hS := hS0
  obtain ⟨⟨hV, hB, hMV, hMB, hAL, hEk, hEa, hTX, hXZ⟩, hCS, hSF⟩ := id hX
  have hinX4 : ∀ w ∈ u_ws RX4 TX4 5, w ∈ wsX4_readNumber := by decide +kernel
  have hl := lv_entry ([.ref (sc 0), .int (nI i), .int (bI v)]) (n := 3) (Nat.le_of_ble_eq_true rfl)
  rw [lg_entry_eq]
  generalize (lg_sl ([.ref (sc 0), .int (nI i), .int (bI v)]) ++ List.replicate (3 - (lg_sl ([.ref (sc 0), .int (nI i), .int (bI v)])).length) Slot.unset).toArray = ls at hl ⊢
  have hl : lv_has ls 3 [(0, .ref (sc 0)), (1, .int (nI i)), (2, .int (bI v))] := hl
  obtain ⟨z, hz⟩ : ∃ z, z = f_X4_readNumber S i v := ⟨_, rfl⟩
  rw [← hz]
  have J50 : ∀ (S_50 : SS)  (H : Heap) (locs : List Loc) (ls : Array Slot), z = f_X4_readNumber_j50 S_50 → va_P D vwCl (scells C ev sc S_50) H → va_D A (scells C ev sc S_50) → va_S A s.heap H locs → lv_has ls 3 [] → W p l e ({ frames := 1, cells := 0, slots := 0, locals := 21 } : Room) s m ([.ref (sc 0), .int (nI i), .int (bI v)] : List Value).toArray below meth c H locs 0 0 (MQ below (rwO (some (.int (bI z.1))) D (scells C ev sc z.2) A) ([.ref (sc 0), .int (nI i), .int (bI v)] : List Value).toArray s 0 0 A) (F0 m 50 ls []) := by
    intro S_50 H locs ls hz  hP hD hS hl
    refine lv_iconst (v := 1) hx hb dX4_readNumber_50 (by decide) ?_
    have hz : z = (true, S_50) := hz
    rw [hz]
    exact rw_retB hx hb hr hP hS rfl dX4_readNumber_51 hlocks
  refine lv_aload_n hx hb dX4_readNumber_0 rfl (lv_at hl 0 rfl) ?_
  refine callRo (va_runV (As := []) (rest := []) ⟨hx, hb, hml, hown, hts⟩ (c_X4_isDigitNext l D C ev sc S (by show (sSiz S) ≤ 60; first | assumption | omega) (by show (sAt S) ≤ (sSiz S); first | assumption | omega)) (cwV 0 hts gX4_readNumber_X4_isDigitNext rfl rfl rfl (by decide +kernel) ⟨Nat.le_of_ble_eq_true rfl, Nat.le_of_ble_eq_true rfl⟩) (roPE_v hP hK hE hR hX hS (va_recv hK hP (ci := 7) (q0 := 0) rfl rfl)) rfl rfl hl.1 rfl (lv_room (Nat.le_of_ble_eq_true rfl)) dX4_readNumber_1 ⟨Nat.le_refl _, Nat.le_refl _⟩) ?_
  refine bif_ne (tgt := 9) hx hb dX4_readNumber_4 (by decide) (fun c_4 => ?_) (fun c_4 => ?_)
  · have hz := hz.trans (ifB_t c_4)
    have q := X4_dig_lt hSz hAt c_4
    refine lv_aload_n hx hb dX4_readNumber_9 rfl (lv_at hl 0 rfl) ?_
    refine va_get (D := D) (ci := 7) (v := .ref (sc 2)) (C := RX4) (T := TX4) (N := 5) hx hb hts hinX4 hown hK hP 0 rfl rfl 4 (by decide) (hts (.fieldLink RX4 31 "BridgeAuction$Script" "numbers" "[I") (by decide +kernel)) (fun _ h9 => h9) rfl dX4_readNumber_10 ?_
    refine lv_iload_n hx hb dX4_readNumber_13 rfl (lv_at hl 1 rfl) ?_
    refine lv_aload_n hx hb dX4_readNumber_14 rfl (lv_at hl 0 rfl) ?_
    have hFc := va_free (wc := (scells C ev sc S)) hD hS hA [0, 1, 2] rfl
    refine callRw (va_runV (As := []) (rest := [.int (nI i), .ref (sc 2)]) ⟨hx, hb, hml, hown, hts⟩ (c_X4_readDigit l D C ev sc S _ (by show (sSiz S) ≤ 60; first | assumption | omega) (by show (sAt S) ≤ (sSiz S); first | assumption | omega) (by show (sAt S) < (sSiz S); first | assumption | omega)) (cwV 0 hts gX4_readNumber_X4_readDigit rfl rfl rfl (by decide +kernel) ⟨Nat.le_of_ble_eq_true rfl, Nat.le_of_ble_eq_true rfl⟩) (rwPE_v hP hK hE hD hR hX hS hFc (va_recv hK hP (ci := 7) (q0 := 0) rfl rfl)) rfl rfl hl.1 rfl (lv_room (Nat.le_of_ble_eq_true rfl)) dX4_readNumber_15 ⟨Nat.le_refl _, Nat.le_refl _⟩) hS hFc (fun H1 locs hPn hk hS => ?_)
    generalize hy15 : (f_X4_readDigit S) = y15 at hPn ⊢
    have hz := lt_eq hz hy15.symm
    have hP : va_P D vwCl (scells C ev sc y15.2) H1 := hPn
    have hD : va_D A (scells C ev sc y15.2) := adr_D hD rfl
    generalize H1 = H at hP hS ⊢
    have a15 : sSiz y15.2 = sSiz S ∧ sAt y15.2 = sAt S + 1 := by rw [← hy15]; exact ⟨rfl, rfl⟩
    refine iastN (tys := tyA C) hx hb hK hP hD hS 2 0 rfl rfl (i := i) (by omega) (by decide) dX4_readNumber_18 (fun H locs hP hD hS => ?_)
    have hP : va_P D vwCl (scells C ev sc (mkS (sSgn y15.2) (sSiz y15.2) (sAt y15.2) (sVb y15.2) (upd (sNum y15.2) i y15.1))) H := hP
    have hD : va_D A (scells C ev sc (mkS (sSgn y15.2) (sSiz y15.2) (sAt y15.2) (sVb y15.2) (upd (sNum y15.2) i y15.1))) := hD
    refine lv_iload_n hx hb dX4_readNumber_19 rfl (lv_at hl 2 rfl) ?_
    refine bif_eq (tgt := 50) hx hb dX4_readNumber_20 (by decide) (fun c_20 => ?_) (fun c_20 => ?_)
    · have hz := hz.trans (ifB_f c_20)
      exact J50 ((mkS (sSgn y15.2) (sSiz y15.2) (sAt y15.2) (sVb y15.2) (upd (sNum y15.2) i y15.1))) _ _ ls hz  hP hD hS (lv_sub hl [] rfl)
    · have hz := hz.trans (ifB_t c_20)
      refine lv_aload_n hx hb dX4_readNumber_23 rfl (lv_at hl 0 rfl) ?_
      refine callRo (va_runV (As := []) (rest := []) ⟨hx, hb, hml, hown, hts⟩ (c_X4_isDigitNext l D C ev sc (mkS (sSgn y15.2) (sSiz y15.2) (sAt y15.2) (sVb y15.2) (upd (sNum y15.2) i y15.1)) (by show sSiz y15.2 ≤ 60; omega) (by show sAt y15.2 ≤ sSiz y15.2; omega)) (cwV 0 hts gX4_readNumber_X4_isDigitNext rfl rfl rfl (by decide +kernel) ⟨Nat.le_of_ble_eq_true rfl, Nat.le_of_ble_eq_true rfl⟩) (roPE_v hP hK hE hR hX hS (va_recv hK hP (ci := 7) (q0 := 0) rfl rfl)) rfl rfl hl.1 rfl (lv_room (Nat.le_of_ble_eq_true rfl)) dX4_readNumber_24 ⟨Nat.le_refl _, Nat.le_refl _⟩) ?_
      refine bif_eq (tgt := 50) hx hb dX4_readNumber_27 (by decide) (fun c_27 => ?_) (fun c_27 => ?_)
      · have hz := hz.trans (ifB_f c_27)
        exact J50 ((mkS (sSgn y15.2) (sSiz y15.2) (sAt y15.2) (sVb y15.2) (upd (sNum y15.2) i y15.1))) _ _ ls hz  hP hD hS (lv_sub hl [] rfl)
      · have hz := hz.trans (ifB_t c_27)
        have q27 := X4_dig_lt (by show sSiz y15.2 ≤ 60; omega) (by show sAt y15.2 ≤ sSiz y15.2; omega) c_27
        refine lv_aload_n hx hb dX4_readNumber_30 rfl (lv_at hl 0 rfl) ?_
        refine va_get (D := D) (ci := 7) (v := .ref (sc 2)) (C := RX4) (T := TX4) (N := 5) hx hb hts hinX4 hown hK hP 0 rfl rfl 4 (by decide) (hts (.fieldLink RX4 31 "BridgeAuction$Script" "numbers" "[I") (by decide +kernel)) (fun _ h9 => h9) rfl dX4_readNumber_31 ?_
        refine lv_iload_n hx hb dX4_readNumber_34 rfl (lv_at hl 1 rfl) ?_
        refine lv_aload_n hx hb dX4_readNumber_35 rfl (lv_at hl 0 rfl) ?_
        refine va_get (D := D) (ci := 7) (v := .ref (sc 2)) (C := RX4) (T := TX4) (N := 5) hx hb hts hinX4 hown hK hP 0 rfl rfl 4 (by decide) (hts (.fieldLink RX4 31 "BridgeAuction$Script" "numbers" "[I") (by decide +kernel)) (fun _ h9 => h9) rfl dX4_readNumber_36 ?_
        refine lv_iload_n hx hb dX4_readNumber_39 rfl (lv_at hl 1 rfl) ?_
        refine ialdN (tys := tyA C) hx hb hK hP 2 0 rfl rfl (i := i) (by omega) (by decide) dX4_readNumber_40 ?_
        refine lv_bipush (v := 10) hx hb dX4_readNumber_41 (by decide +kernel) ?_
        refine lv_imul hx hb dX4_readNumber_43 ?_
        refine lv_aload_n hx hb dX4_readNumber_44 rfl (lv_at hl 0 rfl) ?_
        have hFc := va_free (wc := (scells C ev sc (mkS (sSgn y15.2) (sSiz y15.2) (sAt y15.2) (sVb y15.2) (upd (sNum y15.2) i y15.1)))) hD hS hA [0, 1, 2] rfl
        refine callRw (va_runV (As := []) (rest := [.int (((upd (sNum y15.2) i y15.1) i) * 10), .int (nI i), .ref (sc 2)]) ⟨hx, hb, hml, hown, hts⟩ (c_X4_readDigit l D C ev sc (mkS (sSgn y15.2) (sSiz y15.2) (sAt y15.2) (sVb y15.2) (upd (sNum y15.2) i y15.1)) _ (by show sSiz y15.2 ≤ 60; omega) (by show sAt y15.2 ≤ sSiz y15.2; omega) (by exact q27)) (cwV 0 hts gX4_readNumber_X4_readDigit rfl rfl rfl (by decide +kernel) ⟨Nat.le_of_ble_eq_true rfl, Nat.le_of_ble_eq_true rfl⟩) (rwPE_v hP hK hE hD hR hX hS hFc (va_recv hK hP (ci := 7) (q0 := 0) rfl rfl)) rfl rfl hl.1 rfl (lv_room (Nat.le_of_ble_eq_true rfl)) dX4_readNumber_45 ⟨Nat.le_refl _, Nat.le_refl _⟩) hS hFc (fun H1 locs hPn hk hS => ?_)
        generalize hy45 : (f_X4_readDigit (mkS (sSgn y15.2) (sSiz y15.2) (sAt y15.2) (sVb y15.2) (upd (sNum y15.2) i y15.1))) = y45 at hPn ⊢
        have hz := lt_eq hz hy45.symm
        have hP : va_P D vwCl (scells C ev sc y45.2) H1 := hPn
        have hD : va_D A (scells C ev sc y45.2) := adr_D hD rfl
        generalize H1 = H at hP hS ⊢
        refine lv_iadd hx hb dX4_readNumber_48 ?_
        refine iastN (tys := tyA C) hx hb hK hP hD hS 2 0 rfl rfl (i := i) (by omega) (by decide) dX4_readNumber_49 (fun H locs hP hD hS => ?_)
        have hP : va_P D vwCl (scells C ev sc (mkS (sSgn y45.2) (sSiz y45.2) (sAt y45.2) (sVb y45.2) (upd (sNum y45.2) i ((((upd (sNum y15.2) i y15.1) i) * 10) + y45.1)))) H := hP
        have hD : va_D A (scells C ev sc (mkS (sSgn y45.2) (sSiz y45.2) (sAt y45.2) (sVb y45.2) (upd (sNum y45.2) i ((((upd (sNum y15.2) i y15.1) i) * 10) + y45.1)))) := hD
        exact J50 ((mkS (sSgn y45.2) (sSiz y45.2) (sAt y45.2) (sVb y45.2) (upd (sNum y45.2) i ((((upd (sNum y15.2) i y15.1) i) * 10) + y45.1)))) _ _ ls hz  hP hD hS (lv_sub hl [] rfl)
  · have hz := hz.trans (ifB_f c_4)
    refine lv_iconst (v := 0) hx hb dX4_readNumber_7 (by decide) ?_
    have hz : z = (false, S) := hz
    rw [hz]
    exact rw_retB hx hb hr hP hS rfl dX4_readNumber_8 hlocks

