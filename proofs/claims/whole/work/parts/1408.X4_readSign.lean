def f_X4_readSign_j24 (S : SS) (at0_24 : Nat) : Bool × SS := (false, (mkS (sSgn S) (sSiz S) at0_24 (sVb S) (sNum S)))
def f_X4_readSign (S : SS) (x : Int32) : Bool × SS := (if (nI (sSiz S)) ≤ (nI (sAt S)) then (f_X4_readSign_j24 S ((sAt S))) else (if ((sSgn S) (sAt S)) = x then (true, (mkS (sSgn S) (sSiz S) ((sAt S) + 1) (sVb S) (sNum S))) else (f_X4_readSign_j24 S ((sAt S)))))
set_option maxHeartbeats 4000000 in
set_option maxRecDepth 100000 in
theorem c_X4_readSign (l : Launch) (D : va_G) (C : Nat → ClassId) (ev : Nat → Nat) (sc : Nat → Nat) (S : SS) (x : Int32) (sz : Nat) (hSz : sSiz S ≤ 60) (hAt : sAt S ≤ sSiz S) : Met l yX4_readSign wsX4_readSign ({ frames := 0, cells := 0, slots := 0, locals := 0 } : Room) (rwPE [.ref (sc 0), .int x] D C ev (scells C ev sc S) sz) (rwO (some (.int (bI ((f_X4_readSign S x).1)))) D (scells C ev sc ((f_X4_readSign S x).2)) (va_A (scells C ev sc S) sz)) 0 0 (va_A (scells C ev sc S) sz) := by
  refine Met.ofW (cc := cX4_readSign) (maxL := 2) (ret := (some .boolean)) (by decide) rfl ?_
  intro p e s m args below meth c s₁ B hml hv
  obtain ⟨rfl, hsz, hP, hK, hD0, hE, hR, hX⟩ := hv
  have hx := B.exec
  have hb := B.bytes
  have hr := B.returns
  have hts := atoms_spec (ws := wsX4_readSign) B.pre
  have hown : s.vm.findClass RX4 = some m.cls := findClass_of_methodNamed B.named
  have hlocks := B.notSynchronized
  subst hsz
  have hD := hD0.self (sz := s.heap.size)
  generalize hAe : va_A (scells C ev sc S) s.heap.size = A at hD hX ⊢
  have hA : ∀ q : Nat, s.heap.size ≤ q → A q := fun q h => by rw [← hAe]; exact Or.inr h
  have hS0 : va_S A s.heap s.heap [] := va_S.rf
  have hP : va_P D vwCl (scells C ev sc S) s.heap := hP
  have hS := hS0
  obtain ⟨⟨hV, hB, hMV, hMB, hAL, hEk, hEa, hTX, hXZ⟩, hCS, hSF⟩ := id hX
  have hinX4 : ∀ w ∈ u_ws RX4 TX4 5, w ∈ wsX4_readSign := by decide +kernel
  have hl := lv_entry ([.ref (sc 0), .int x]) (n := 2) (Nat.le_of_ble_eq_true rfl)
  rw [lg_entry_eq]
  generalize (lg_sl ([.ref (sc 0), .int x]) ++ List.replicate (2 - (lg_sl ([.ref (sc 0), .int x])).length) Slot.unset).toArray = ls at hl ⊢
  have hl : lv_has ls 2 [(0, .ref (sc 0)), (1, .int x)] := hl
  obtain ⟨z, hz⟩ : ∃ z, z = f_X4_readSign S x := ⟨_, rfl⟩
  rw [← hz]
  have J24 : ∀ (at0_24 : Nat)  (H : Heap) (locs : List Loc) (ls : Array Slot), z = f_X4_readSign_j24 S at0_24 → va_P D vwCl (scells C ev sc (mkS (sSgn S) (sSiz S) at0_24 (sVb S) (sNum S))) H → va_D A (scells C ev sc (mkS (sSgn S) (sSiz S) at0_24 (sVb S) (sNum S))) → va_S A s.heap H locs → lv_has ls 2 [] → W p l e ({ frames := 0, cells := 0, slots := 0, locals := 0 } : Room) s m ([.ref (sc 0), .int x] : List Value).toArray below meth c H locs 0 0 (MQ below (rwO (some (.int (bI z.1))) D (scells C ev sc z.2) A) ([.ref (sc 0), .int x] : List Value).toArray s 0 0 A) (F0 m 24 ls []) := by
    intro at0_24 H locs ls hz  hP hD hS hl
    refine lv_iconst (v := 0) hx hb dX4_readSign_24 (by decide) ?_
    have hz : z = (false, (mkS (sSgn S) (sSiz S) at0_24 (sVb S) (sNum S))) := hz
    rw [hz]
    exact rw_retB hx hb hr hP hS rfl dX4_readSign_25 hlocks
  refine lv_aload_n hx hb dX4_readSign_0 rfl (lv_at hl 0 rfl) ?_
  refine va_get (D := D) (ci := 7) (v := .int (nI (sAt S))) (C := RX4) (T := TX4) (N := 5) hx hb hts hinX4 hown hK hP 0 rfl rfl 2 (by decide) (hts (.fieldLink RX4 19 "BridgeAuction$Script" "at" "I") (by decide +kernel)) (fun _ h9 => h9) rfl dX4_readSign_1 ?_
  refine lv_aload_n hx hb dX4_readSign_4 rfl (lv_at hl 0 rfl) ?_
  refine va_get (D := D) (ci := 7) (v := .int (nI (sSiz S))) (C := RX4) (T := TX4) (N := 5) hx hb hts hinX4 hown hK hP 0 rfl rfl 1 (by decide) (hts (.fieldLink RX4 15 "BridgeAuction$Script" "size" "I") (by decide +kernel)) (fun _ h9 => h9) rfl dX4_readSign_5 ?_
  refine lv_icmp_ge (tgt := 24) hx hb dX4_readSign_8 (by decide) (fun c_8 => ?_) (fun c_8 => ?_)
  · have hz := hz.trans (if_pos c_8)
    exact J24 ((sAt S)) _ _ ls hz  hP hD hS (lv_sub hl [] rfl)
  · have hz := hz.trans (if_neg c_8)
    have q8 := ltN' (by omega) c_8
    refine lv_aload_n hx hb dX4_readSign_11 rfl (lv_at hl 0 rfl) ?_
    refine va_get (D := D) (ci := 7) (v := .ref (sc 1)) (C := RX4) (T := TX4) (N := 5) hx hb hts hinX4 hown hK hP 0 rfl rfl 0 (by decide) (hts (.fieldLink RX4 9 "BridgeAuction$Script" "signs" "[C") (by decide +kernel)) (fun _ h9 => h9) rfl dX4_readSign_12 ?_
    refine lv_aload_n hx hb dX4_readSign_15 rfl (lv_at hl 0 rfl) ?_
    refine va_get (D := D) (ci := 7) (v := .int (nI (sAt S))) (C := RX4) (T := TX4) (N := 5) hx hb hts hinX4 hown hK hP 0 rfl rfl 2 (by decide) (hts (.fieldLink RX4 19 "BridgeAuction$Script" "at" "I") (by decide +kernel)) (fun _ h9 => h9) rfl dX4_readSign_16 ?_
    refine caldN (tys := tyA C) hx hb hK hP 1 1 rfl rfl (i := (sAt S)) (by omega) (by decide) dX4_readSign_19 ?_
    refine lv_iload_n hx hb dX4_readSign_20 rfl (lv_at hl 1 rfl) ?_
    refine lv_icmp_eq (tgt := 26) hx hb dX4_readSign_21 (by decide) (fun c_21 => ?_) (fun c_21 => ?_)
    · have hz := hz.trans (if_pos c_21)
      refine lv_aload_n hx hb dX4_readSign_26 rfl (lv_at hl 0 rfl) ?_
      refine lv_dup hx hb dX4_readSign_27 rfl ?_
      refine va_get (D := D) (ci := 7) (v := .int (nI (sAt S))) (C := RX4) (T := TX4) (N := 5) hx hb hts hinX4 hown hK hP 0 rfl rfl 2 (by decide) (hts (.fieldLink RX4 19 "BridgeAuction$Script" "at" "I") (by decide +kernel)) (fun _ h9 => h9) rfl dX4_readSign_28 ?_
      refine lv_iconst (v := 1) hx hb dX4_readSign_31 (by decide) ?_
      refine topN (k := 1) (by decide +kernel) ?_
      refine addN hx hb dX4_readSign_32 ?_
      refine va_put (D := D) (ci := 7) (v := .int (nI ((sAt S) + 1))) (ty := .int) (C := RX4) (T := TX4) (N := 5) hx hb hts hinX4 tyX4 tyX4_ok nmX4 hown hK hP hD hS 0 rfl rfl 2 (by decide) (hts (.fieldLink RX4 19 "BridgeAuction$Script" "at" "I") (by decide +kernel)) (fun _ h9 => h9) rfl (by decide +kernel) rfl rfl (Nat.le_of_ble_eq_true rfl) dX4_readSign_33 (fun H locs hP hD hS => ?_)
      have hP : va_P D vwCl (scells C ev sc (mkS (sSgn S) (sSiz S) ((sAt S) + 1) (sVb S) (sNum S))) H := hP
      have hD : va_D A (scells C ev sc (mkS (sSgn S) (sSiz S) ((sAt S) + 1) (sVb S) (sNum S))) := hD
      refine lv_iconst (v := 1) hx hb dX4_readSign_36 (by decide) ?_
      have hz : z = (true, (mkS (sSgn S) (sSiz S) ((sAt S) + 1) (sVb S) (sNum S))) := hz
      rw [hz]
      exact rw_retB hx hb hr hP hS rfl dX4_readSign_37 hlocks
    · have hz := hz.trans (if_neg c_21)
      exact J24 ((sAt S)) _ _ ls hz  hP hD hS (lv_sub hl [] rfl)

