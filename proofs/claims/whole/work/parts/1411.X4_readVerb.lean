theorem X4_shared_le {S : SS} (hSz : sSiz S ≤ 60) (hAt : sAt S ≤ sSiz S) (i : Nat) : f_X4_sharedWith S i ≤ tlen i ∧ sAt S + f_X4_sharedWith S i ≤ sSiz S := by
  refine lpF_invN (step := f_X4_sharedWith_l2s S i) (ex := f_X4_sharedWith_l2e S i) (tlen i) (fun k _ => sAt S + k ≤ sSiz S) (fun r => r ≤ tlen i ∧ sAt S + r ≤ sSiz S) ?_ ?_ ?_ (tlen i) 0 _ (Nat.zero_add _) hAt
  · intro k s r hk hI h
    simp only [f_X4_sharedWith_l2s, f_X4_sharedWith_l2b, f_X4_sharedWith_j48] at h
    split at h
    · cases h; exact ⟨by omega, hI⟩
    · split at h
      · cases h
      · cases h; exact ⟨by omega, hI⟩
  · intro k s s' hk hI h
    simp only [f_X4_sharedWith_l2s, f_X4_sharedWith_l2b, f_X4_sharedWith_j48] at h
    split at h
    · cases h
    · rename_i c
      have := tlen_le i
      have hI : sAt S + k ≤ sSiz S := hI
      show sAt S + k < sSiz S
      exact ltN' (by omega) c
  · intro s hI
    exact ⟨Nat.le_refl _, hI⟩
theorem argN_lt (n : Nat) : argN.getD n 0 < 16 := by
  rcases Nat.lt_or_ge n 9 with h | h
  · revert n; decide
  · rw [List.getD_eq_getElem?_getD, List.getElem?_eq_none (by show 9 ≤ n; omega)]
    decide
theorem argN_len {n : Nat} (h : n < 9) : tlen (argN.getD n 0) ≤ 3 := by
  revert n; decide +kernel
def f_X4_readVerb_l12b (S : SS) (k12 : Nat) (v1_12 : Nat) (at0_12 : Nat) (vb0_12 : Nat) : Sum (Bool × SS) (Nat × Nat × Nat) := (if (nI (f_X4_sharedWith (mkS (sSgn S) (sSiz S) at0_12 vb0_12 (sNum S)) (k12))) = (nI (tlen k12)) then (Sum.inl (true, (mkS (sSgn S) (sSiz S) (at0_12 + (f_X4_sharedWith (mkS (sSgn S) (sSiz S) at0_12 vb0_12 (sNum S)) (k12))) k12 (sNum S)))) else (Sum.inr ((max v1_12 (f_X4_sharedWith (mkS (sSgn S) (sSiz S) at0_12 vb0_12 (sNum S)) (k12))), at0_12, vb0_12)))
def f_X4_readVerb_l12x (S : SS) (v1_12 : Nat) (at0_12 : Nat) (vb0_12 : Nat) : Bool × SS := (false, (mkS (sSgn S) (sSiz S) (at0_12 + v1_12) vb0_12 (sNum S)))
def f_X4_readVerb_l12s (S : SS) (k12 : Nat) (q_ : Nat × Nat × Nat) : Sum (Bool × SS) (Nat × Nat × Nat) := f_X4_readVerb_l12b S k12 (q_.1) (q_.2.1) (q_.2.2)
def f_X4_readVerb_l12e (S : SS) (q_ : Nat × Nat × Nat) : Bool × SS := f_X4_readVerb_l12x S (q_.1) (q_.2.1) (q_.2.2)
def f_X4_readVerb_l12 (S : SS) (n12 k12 : Nat) (v1_12 : Nat) (at0_12 : Nat) (vb0_12 : Nat) : Bool × SS := lpF (f_X4_readVerb_l12s S) (f_X4_readVerb_l12e S) n12 k12 (v1_12, at0_12, vb0_12)
def f_X4_readVerb (S : SS) : Bool × SS := (f_X4_readVerb_l12 S (9) 0 (0) ((sAt S)) ((sVb S)))
set_option maxHeartbeats 4000000 in
set_option maxRecDepth 100000 in
theorem c_X4_readVerb (l : Launch) (D : va_G) (C : Nat → ClassId) (ev : Nat → Nat) (sc : Nat → Nat) (S : SS) (sz : Nat) (hSz : sSiz S ≤ 60) (hAt : sAt S ≤ sSiz S) : Met l yX4_readVerb wsX4_readVerb ({ frames := 5, cells := 0, slots := 0, locals := 107 } : Room) (rwPE [.ref (sc 0)] D C ev (scells C ev sc S) sz) (rwO (some (.int (bI ((f_X4_readVerb S).1)))) D (scells C ev sc ((f_X4_readVerb S).2)) (va_A (scells C ev sc S) sz)) 0 0 (va_A (scells C ev sc S) sz) := by
  refine Met.ofW (cc := cX4_readVerb) (maxL := 7) (ret := (some .boolean)) (by decide) rfl ?_
  intro p e s m args below meth c s₁ B hml hv
  obtain ⟨rfl, hsz, hP, hK, hD0, hE, hR, hX⟩ := hv
  have hx := B.exec
  have hb := B.bytes
  have hr := B.returns
  have hts := atoms_spec (ws := wsX4_readVerb) B.pre
  have hown : s.vm.findClass RX4 = some m.cls := findClass_of_methodNamed B.named
  have hlocks := B.notSynchronized
  subst hsz
  have hD := hD0.self (sz := s.heap.size)
  generalize hAe : va_A (scells C ev sc S) s.heap.size = A at hD hX ⊢
  have hA : ∀ q : Nat, s.heap.size ≤ q → A q := fun q h => by rw [← hAe]; exact Or.inr h
  have hS0 : va_S A s.heap s.heap [] := va_S.rf
  have hP : va_P D vwCl (scells C ev sc S) s.heap := hP
  have hS := hS0
  obtain ⟨⟨hV, hB, hMV, hMB, hAL, hEk, hEa, hTX, hXZ⟩, hCS, hSF⟩ := id hX
  have hinX4 : ∀ w ∈ u_ws RX4 TX4 5, w ∈ wsX4_readVerb := by decide +kernel
  have hl := lv_entry ([.ref (sc 0)]) (n := 7) (Nat.le_of_ble_eq_true rfl)
  rw [lg_entry_eq]
  generalize (lg_sl ([.ref (sc 0)]) ++ List.replicate (7 - (lg_sl ([.ref (sc 0)])).length) Slot.unset).toArray = ls at hl ⊢
  have hl : lv_has ls 7 [(0, .ref (sc 0))] := hl
  obtain ⟨z, hz⟩ : ∃ z, z = f_X4_readVerb S := ⟨_, rfl⟩
  rw [← hz]
  have J12 : ∀ (n12 k12 : Nat) (v1_12 : Nat) (at0_12 : Nat) (vb0_12 : Nat) (H : Heap) (locs : List Loc) (ls : Array Slot), k12 + n12 = 9 → z = f_X4_readVerb_l12 S n12 k12 v1_12 at0_12 vb0_12 → (at0_12 + v1_12 ≤ sSiz S) → va_P D vwCl (scells C ev sc (mkS (sSgn S) (sSiz S) at0_12 vb0_12 (sNum S))) H → va_D A (scells C ev sc (mkS (sSgn S) (sSiz S) at0_12 vb0_12 (sNum S))) → va_S A s.heap H locs → lv_has ls 7 [(0, .ref (sc 0)), (1, .int (nI v1_12)), (2, .ref (ev 32)), (3, .int 9), (4, .int (nI k12))] → W p l e ({ frames := 5, cells := 0, slots := 0, locals := 107 } : Room) s m ([.ref (sc 0)] : List Value).toArray below meth c H locs 0 0 (MQ below (rwO (some (.int (bI z.1))) D (scells C ev sc z.2) A) ([.ref (sc 0)] : List Value).toArray s 0 0 A) (F0 m 12 ls []) := by
    intro n12
    induction n12 with
    | zero =>
      intro k12 v1_12 at0_12 vb0_12 H locs ls hk12 hz iv12_0 hP hD hS hl
      have hz : z = f_X4_readVerb_l12x S v1_12 at0_12 vb0_12 := hz
      refine lv_iload hx hb dX4_readVerb_12 (lv_at hl 4 rfl) ?_
      refine lv_iload_n hx hb dX4_readVerb_14 rfl (lv_at hl 3 rfl) ?_
      refine lv_icmp_ge (tgt := 80) hx hb dX4_readVerb_15 (by decide) (fun c_15 => ?_) (fun c_15 => absurd (by have e : (9 : Int32) = nI 9 := (by decide +kernel); rw [e]; exact nI_le (by omega) (by omega)) c_15)
      refine lv_aload_n hx hb dX4_readVerb_80 rfl (lv_at hl 0 rfl) ?_
      refine lv_dup hx hb dX4_readVerb_81 rfl ?_
      refine va_get (D := D) (ci := 7) (v := .int (nI at0_12)) (C := RX4) (T := TX4) (N := 5) hx hb hts hinX4 hown hK hP 0 rfl rfl 2 (by decide) (hts (.fieldLink RX4 19 "BridgeAuction$Script" "at" "I") (by decide +kernel)) (fun _ h9 => h9) rfl dX4_readVerb_82 ?_
      refine lv_iload_n hx hb dX4_readVerb_85 rfl (lv_at hl 1 rfl) ?_
      refine addN hx hb dX4_readVerb_86 ?_
      refine va_put (D := D) (ci := 7) (v := .int (nI (at0_12 + v1_12))) (ty := .int) (C := RX4) (T := TX4) (N := 5) hx hb hts hinX4 tyX4 tyX4_ok nmX4 hown hK hP hD hS 0 rfl rfl 2 (by decide) (hts (.fieldLink RX4 19 "BridgeAuction$Script" "at" "I") (by decide +kernel)) (fun _ h9 => h9) rfl (by decide +kernel) rfl rfl (Nat.le_of_ble_eq_true rfl) dX4_readVerb_87 (fun H locs hP hD hS => ?_)
      have hP : va_P D vwCl (scells C ev sc (mkS (sSgn S) (sSiz S) (at0_12 + v1_12) vb0_12 (sNum S))) H := hP
      have hD : va_D A (scells C ev sc (mkS (sSgn S) (sSiz S) (at0_12 + v1_12) vb0_12 (sNum S))) := hD
      refine lv_iconst (v := 0) hx hb dX4_readVerb_90 (by decide) ?_
      have hz : z = (false, (mkS (sSgn S) (sSiz S) (at0_12 + v1_12) vb0_12 (sNum S))) := hz
      rw [hz]
      exact rw_retB hx hb hr hP hS rfl dX4_readVerb_91 hlocks
    | succ n12 ih12 =>
      intro k12 v1_12 at0_12 vb0_12 H locs ls hk12 hz12 iv12_0 hP hD hS hl
      obtain ⟨z12, hz⟩ : ∃ zz_, zz_ = f_X4_readVerb_l12b S k12 v1_12 at0_12 vb0_12 := ⟨_, rfl⟩
      have hq12 : z = sE id (fun q_ => lpF (f_X4_readVerb_l12s S) (f_X4_readVerb_l12e S) n12 (k12 + 1) q_) z12 := by rw [hz12, hz]; rfl
      refine lv_iload hx hb dX4_readVerb_12 (lv_at hl 4 rfl) ?_
      refine lv_iload_n hx hb dX4_readVerb_14 rfl (lv_at hl 3 rfl) ?_
      refine lv_icmp_ge (tgt := 80) hx hb dX4_readVerb_15 (by decide) (fun c_15 => absurd c_15 (by have e : (9 : Int32) = nI 9 := (by decide +kernel); rw [e]; exact nI_ge (by omega) (by omega))) (fun c_15 => ?_)
      refine lv_aload_n hx hb dX4_readVerb_18 rfl (lv_at hl 2 rfl) ?_
      refine lv_iload hx hb dX4_readVerb_19 (lv_at hl 4 rfl) ?_
      refine vb_tq (v := .ref (ev (10 + k12))) hx hb hAL.2 hS (vp_in_nI (by omega) (by decide)) (by show Value.ref (ev (10 + (nI k12).toNatClampNeg)) = _; rw [nI_clamp (by omega)]) dX4_readVerb_21 ?_
      refine lv_astore (lv' := [(5, .ref (ev (10 + k12))), (0, .ref (sc 0)), (1, .int (nI v1_12)), (2, .ref (ev 32)), (3, .int 9), (4, .int (nI k12))]) hx hb dX4_readVerb_22 hl (by decide) rfl (fun ls hl => ?_)
      refine lv_aload_n hx hb dX4_readVerb_24 rfl (lv_at hl 1 rfl) ?_
      refine lv_aload hx hb dX4_readVerb_25 (lv_at hl 0 rfl) ?_
      refine getfN (v := .ref (ev (40 + k12))) hx hb (hEk k12 (by omega)) hS hown (hE.use 23 rfl) (fun _ h9 => h9) dX4_readVerb_27 ?_
      refine callRo (va_runV (As := [.ref (ev (40 + k12))]) (rest := []) ⟨hx, hb, hml, hown, hts⟩ (c_X4_sharedWith l D C ev sc (mkS (sSgn S) (sSiz S) at0_12 vb0_12 (sNum S)) (k12) (by first | assumption | omega) (by show sSiz S ≤ 60; omega) (by show at0_12 ≤ sSiz S; omega)) (cwV 1 hts gX4_readVerb_X4_sharedWith rfl rfl rfl (by decide +kernel) ⟨Nat.le_of_ble_eq_true rfl, Nat.le_of_ble_eq_true rfl⟩) (roPE_v hP hK hE hR hX hS (va_recv hK hP (ci := 7) (q0 := 0) rfl rfl)) rfl rfl hl.1 rfl (lv_room (Nat.le_of_ble_eq_true rfl)) dX4_readVerb_30 ⟨Nat.le_refl _, Nat.le_refl _⟩) ?_
      have s30 : (f_X4_sharedWith (mkS (sSgn S) (sSiz S) at0_12 vb0_12 (sNum S)) (k12)) ≤ tlen k12 ∧ at0_12 + (f_X4_sharedWith (mkS (sSgn S) (sSiz S) at0_12 vb0_12 (sNum S)) (k12)) ≤ sSiz S := X4_shared_le (S := (mkS (sSgn S) (sSiz S) at0_12 vb0_12 (sNum S))) hSz (by show at0_12 ≤ sSiz S; omega) k12
      have t30 := tlen_le k12
      refine lv_istore (lv' := [(6, .int (nI (f_X4_sharedWith (mkS (sSgn S) (sSiz S) at0_12 vb0_12 (sNum S)) (k12)))), (5, .ref (ev (10 + k12))), (0, .ref (sc 0)), (1, .int (nI v1_12)), (2, .ref (ev 32)), (3, .int 9), (4, .int (nI k12))]) hx hb dX4_readVerb_33 hl (by decide) rfl (fun ls hl => ?_)
      refine lv_iload_n hx hb dX4_readVerb_35 rfl (lv_at hl 3 rfl) ?_
      refine lv_iload hx hb dX4_readVerb_36 (lv_at hl 0 rfl) ?_
      refine va_mmax hx hb (hml.trans hl.1.symm) hown (hts (.methodLink RX4 91 Lib.Math.max.name) (by decide +kernel)) (hts (.static Lib.Math.max.name) (by decide +kernel)) (hts (.initialized "java/lang/Math") (by decide +kernel)) (hts (.code Lib.Math.max.name Lib.Math.max.code 2 (some .int)) (by decide +kernel)) (Nat.le_of_ble_eq_true rfl) (Nat.le_of_ble_eq_true rfl) (Nat.le_of_ble_eq_true rfl) (Nat.le_of_ble_eq_true rfl) dX4_readVerb_38 ?_
      refine topI (y := (imax (nI v1_12) (nI (f_X4_sharedWith (mkS (sSgn S) (sSiz S) at0_12 vb0_12 (sNum S)) (k12))))) rfl ?_
      refine topN (k := (max v1_12 (f_X4_sharedWith (mkS (sSgn S) (sSiz S) at0_12 vb0_12 (sNum S)) (k12)))) (show (imax (nI v1_12) (nI (f_X4_sharedWith (mkS (sSgn S) (sSiz S) at0_12 vb0_12 (sNum S)) (k12)))) = (nI (max v1_12 (f_X4_sharedWith (mkS (sSgn S) (sSiz S) at0_12 vb0_12 (sNum S)) (k12)))) from by exact imax_nI (by omega) (by omega)) ?_
      refine lv_istore_n (lv' := [(1, .int (nI (max v1_12 (f_X4_sharedWith (mkS (sSgn S) (sSiz S) at0_12 vb0_12 (sNum S)) (k12))))), (6, .int (nI (f_X4_sharedWith (mkS (sSgn S) (sSiz S) at0_12 vb0_12 (sNum S)) (k12)))), (5, .ref (ev (10 + k12))), (0, .ref (sc 0)), (2, .ref (ev 32)), (3, .int 9), (4, .int (nI k12))]) hx hb dX4_readVerb_41 rfl hl (by decide) rfl (fun ls hl => ?_)
      refine lv_iload hx hb dX4_readVerb_42 (lv_at hl 1 rfl) ?_
      refine lv_aload hx hb dX4_readVerb_44 (lv_at hl 2 rfl) ?_
      refine getfN (v := .ref (ev (40 + k12))) hx hb (hEk k12 (by omega)) hS hown (hE.use 23 rfl) (fun _ h9 => h9) dX4_readVerb_46 ?_
      refine callRo (va_runV (As := []) (rest := [.int (nI (f_X4_sharedWith (mkS (sSgn S) (sSiz S) at0_12 vb0_12 (sNum S)) (k12)))]) ⟨hx, hb, hml, hown, hts⟩ (c_J0_length_8abf5 l D C ev k12 (by first | assumption | omega)) (cwV 0 hts gX4_readVerb_J0_length_8abf5 rfl rfl rfl (by decide +kernel) ⟨Nat.le_of_ble_eq_true rfl, Nat.le_of_ble_eq_true rfl⟩) (roPE_v (hP.sub (ws' := ([] : va_W)) [] rfl) hK hE hR hX hS (vk_recv (i := k12) hTX (by omega) hS)) rfl rfl hl.1 rfl (lv_room (Nat.le_of_ble_eq_true rfl)) dX4_readVerb_49 ⟨Nat.le_refl _, Nat.le_refl _⟩) ?_
      refine topN (k := (tlen k12)) rfl ?_
      refine lv_icmp_ne (tgt := 74) hx hb dX4_readVerb_52 (by decide) (fun c_52 => ?_) (fun c_52 => ?_)
      · have hz := hz.trans (if_neg c_52)
        refine lv_iinc (v := (nI (k12 + 1))) (lv' := [(4, .int (nI (k12 + 1))), (1, .int (nI (max v1_12 (f_X4_sharedWith (mkS (sSgn S) (sSiz S) at0_12 vb0_12 (sNum S)) (k12))))), (6, .int (nI (f_X4_sharedWith (mkS (sSgn S) (sSiz S) at0_12 vb0_12 (sNum S)) (k12)))), (5, .ref (ev (10 + k12))), (0, .ref (sc 0)), (2, .ref (ev 32)), (3, .int 9)]) hx hb dX4_readVerb_74 hl (k := 6) rfl (by exact nI_1 _) (by decide) rfl (fun ls hl => ?_)
        refine lv_goto (tgt := 12) hx hb dX4_readVerb_77 (by decide) ?_
        exact ih12 (k12 + 1) ((max v1_12 (f_X4_sharedWith (mkS (sSgn S) (sSiz S) at0_12 vb0_12 (sNum S)) (k12)))) (at0_12) (vb0_12) _ _ ls (by omega) (by rw [hq12, hz]; rfl) (by omega) hP hD hS (lv_sub hl [4, 1, 5, 6, 0] rfl)
      · have hz := hz.trans (if_pos c_52)
        refine lv_aload_n hx hb dX4_readVerb_55 rfl (lv_at hl 3 rfl) ?_
        refine lv_aload hx hb dX4_readVerb_56 (lv_at hl 2 rfl) ?_
        refine va_put (D := D) (ci := 7) (v := .ref (ev (10 + k12))) (ty := (.object "BridgeAuction$Verb")) (C := RX4) (T := TX4) (N := 5) hx hb hts hinX4 tyX4 tyX4_ok nmX4 hown hK hP hD hS 0 rfl rfl 3 (by decide) (hts (.fieldLink RX4 28 "BridgeAuction$Script" "verb" "LBridgeAuction$Verb;") (by decide +kernel)) (fun _ h9 => h9) rfl (by decide +kernel) rfl rfl (Nat.le_of_ble_eq_true rfl) dX4_readVerb_58 (fun H locs hP hD hS => ?_)
        have hP : va_P D vwCl (scells C ev sc (mkS (sSgn S) (sSiz S) at0_12 k12 (sNum S))) H := hP
        have hD : va_D A (scells C ev sc (mkS (sSgn S) (sSiz S) at0_12 k12 (sNum S))) := hD
        refine lv_aload_n hx hb dX4_readVerb_61 rfl (lv_at hl 3 rfl) ?_
        refine lv_dup hx hb dX4_readVerb_62 rfl ?_
        refine va_get (D := D) (ci := 7) (v := .int (nI at0_12)) (C := RX4) (T := TX4) (N := 5) hx hb hts hinX4 hown hK hP 0 rfl rfl 2 (by decide) (hts (.fieldLink RX4 19 "BridgeAuction$Script" "at" "I") (by decide +kernel)) (fun _ h9 => h9) rfl dX4_readVerb_63 ?_
        refine lv_iload hx hb dX4_readVerb_66 (lv_at hl 1 rfl) ?_
        refine addN hx hb dX4_readVerb_68 ?_
        refine va_put (D := D) (ci := 7) (v := .int (nI (at0_12 + (f_X4_sharedWith (mkS (sSgn S) (sSiz S) at0_12 vb0_12 (sNum S)) (k12))))) (ty := .int) (C := RX4) (T := TX4) (N := 5) hx hb hts hinX4 tyX4 tyX4_ok nmX4 hown hK hP hD hS 0 rfl rfl 2 (by decide) (hts (.fieldLink RX4 19 "BridgeAuction$Script" "at" "I") (by decide +kernel)) (fun _ h9 => h9) rfl (by decide +kernel) rfl rfl (Nat.le_of_ble_eq_true rfl) dX4_readVerb_69 (fun H locs hP hD hS => ?_)
        have hP : va_P D vwCl (scells C ev sc (mkS (sSgn S) (sSiz S) (at0_12 + (f_X4_sharedWith (mkS (sSgn S) (sSiz S) at0_12 vb0_12 (sNum S)) (k12))) k12 (sNum S))) H := hP
        have hD : va_D A (scells C ev sc (mkS (sSgn S) (sSiz S) (at0_12 + (f_X4_sharedWith (mkS (sSgn S) (sSiz S) at0_12 vb0_12 (sNum S)) (k12))) k12 (sNum S))) := hD
        refine lv_iconst (v := 1) hx hb dX4_readVerb_72 (by decide) ?_
        have hz := up1 hq12 hz
        have hz : z = (true, (mkS (sSgn S) (sSiz S) (at0_12 + (f_X4_sharedWith (mkS (sSgn S) (sSiz S) at0_12 vb0_12 (sNum S)) (k12))) k12 (sNum S))) := hz
        rw [hz]
        exact rw_retB hx hb hr hP hS rfl dX4_readVerb_73 hlocks
  refine lv_iconst (v := 0) hx hb dX4_readVerb_0 (by decide) ?_
  refine lv_istore_n (lv' := [(1, .int 0), (0, .ref (sc 0))]) hx hb dX4_readVerb_1 rfl hl (by decide) rfl (fun ls hl => ?_)
  refine va_getsN (v := .ref (ev 32)) (C := "BridgeAuction$Verb") (n := "ALL") (d := "[LBridgeAuction$Verb;") hx hb hAL.1 hS hown (hE.use 22 rfl) (fun _ h9 => h9) dX4_readVerb_2 ?_
  refine lv_astore_n (lv' := [(2, .ref (ev 32)), (1, .int 0), (0, .ref (sc 0))]) hx hb dX4_readVerb_5 rfl hl (by decide) rfl (fun ls hl => ?_)
  refine lv_aload_n hx hb dX4_readVerb_6 rfl (lv_at hl 0 rfl) ?_
  refine va_tlen (v := 9) hx hb hAL.2 hS rfl dX4_readVerb_7 ?_
  refine lv_istore_n (lv' := [(3, .int 9), (2, .ref (ev 32)), (1, .int 0), (0, .ref (sc 0))]) hx hb dX4_readVerb_8 rfl hl (by decide) rfl (fun ls hl => ?_)
  refine lv_iconst (v := 0) hx hb dX4_readVerb_9 (by decide) ?_
  refine lv_istore (lv' := [(4, .int 0), (3, .int 9), (2, .ref (ev 32)), (1, .int 0), (0, .ref (sc 0))]) hx hb dX4_readVerb_10 hl (by decide) rfl (fun ls hl => ?_)
  exact J12 (9) 0 (0) ((sAt S)) ((sVb S)) _ _ ls (by omega) hz (by omega) hP hD hS (lv_sub hl [4, 3, 2, 1, 0] rfl)

