theorem X4_readVerb_sz {S : SS} (hSz : sSiz S ≤ 60) (hAt : sAt S ≤ sSiz S) (hVb : sVb S < 9) : sSiz (f_X4_readVerb S).2 = sSiz S ∧ sAt (f_X4_readVerb S).2 ≤ sSiz S ∧ sVb (f_X4_readVerb S).2 < 9 := by
  refine lpF_invN (step := f_X4_readVerb_l12s S) (ex := f_X4_readVerb_l12e S) 9 (fun _ s => s.2.1 + s.1 ≤ sSiz S ∧ s.2.2 < 9) (fun r => sSiz r.2 = sSiz S ∧ sAt r.2 ≤ sSiz S ∧ sVb r.2 < 9) ?_ ?_ ?_ 9 0 _ rfl ⟨hAt, hVb⟩
  · rintro k ⟨v1, at0, vb0⟩ r hk ⟨h1, h2⟩ h
    have h1 : at0 + v1 ≤ sSiz S := h1
    have s30 := X4_shared_le (S := mkS (sSgn S) (sSiz S) at0 vb0 (sNum S)) hSz (by show at0 ≤ sSiz S; omega) k
    simp only [f_X4_readVerb_l12s, f_X4_readVerb_l12b] at h
    split at h
    · cases h; exact ⟨rfl, s30.2, hk⟩
    · cases h
  · rintro k ⟨v1, at0, vb0⟩ s' hk ⟨h1, h2⟩ h
    have h1 : at0 + v1 ≤ sSiz S := h1
    have s30 : f_X4_sharedWith (mkS (sSgn S) (sSiz S) at0 vb0 (sNum S)) k ≤ tlen k ∧ at0 + f_X4_sharedWith (mkS (sSgn S) (sSiz S) at0 vb0 (sNum S)) k ≤ sSiz S := X4_shared_le (S := mkS (sSgn S) (sSiz S) at0 vb0 (sNum S)) hSz (by show at0 ≤ sSiz S; omega) k
    simp only [f_X4_readVerb_l12s, f_X4_readVerb_l12b] at h
    split at h
    · cases h
    · cases h
      refine ⟨?_, h2⟩
      show at0 + max v1 (f_X4_sharedWith (mkS (sSgn S) (sSiz S) at0 vb0 (sNum S)) k) ≤ sSiz S
      omega
  · rintro ⟨v1, at0, vb0⟩ ⟨h1, h2⟩
    exact ⟨rfl, h1, h2⟩
def f_X4_readCommand_j82  (S_82 : SS) : Bool × SS := (true, S_82)
def f_X4_readCommand_j68  (s0_68 : Bool) (s1_68 : Nat) (S_68 : SS) : Sum (Bool × SS) (SS) := (lt_ (f_X4_readNumber S_68 (s1_68) (s0_68)) (fun y68 => (if y68.1 = true then (Sum.inr y68.2) else (Sum.inl (false, y68.2)))))
def f_X4_readCommand_j45 (k11 : Nat) (S_45 : SS) : Sum (Bool × SS) (SS) := (if (f_J0_charAt_5068e (argN.getD (sVb S_45) 0) (k11)) = 110 then (f_X4_readCommand_j68 (true) (k11) (S_45)) else (f_X4_readCommand_j68 (false) (k11) (S_45)))
def f_X4_readCommand_l11b  (k11 : Nat) (S_11 : SS) : Sum (Bool × SS) (SS) := (if (nI (tlen (argN.getD (sVb S_11) 0))) ≤ (nI k11) then (Sum.inl (f_X4_readCommand_j82 (S_11))) else (if (nI k11) ≤ 0 then (f_X4_readCommand_j45 k11 (S_11)) else (lt_ (f_X4_readSign S_11 (32)) (fun y37 => (if y37.1 = true then (f_X4_readCommand_j45 k11 (y37.2)) else (Sum.inl (false, y37.2)))))))
def f_X4_readCommand_l11x  (S_11 : SS) : Bool × SS := (f_X4_readCommand_j82 (S_11))
def f_X4_readCommand_l11s  (k11 : Nat) (q_ : SS) : Sum (Bool × SS) (SS) := f_X4_readCommand_l11b  k11 (q_)
def f_X4_readCommand_l11e  (q_ : SS) : Bool × SS := f_X4_readCommand_l11x  (q_)
def f_X4_readCommand_l11  (n11 k11 : Nat) (S_11 : SS) : Bool × SS := lpF (f_X4_readCommand_l11s ) (f_X4_readCommand_l11e ) n11 k11 S_11
def f_X4_readCommand (S : SS) : Bool × SS := (lt_ (f_X4_readVerb S) (fun y1 => (if y1.1 = true then (f_X4_readCommand_l11 (3) 0 (y1.2)) else (false, y1.2))))
set_option maxHeartbeats 4000000 in
set_option maxRecDepth 100000 in
theorem c_X4_readCommand (l : Launch) (D : va_G) (C : Nat → ClassId) (ev : Nat → Nat) (sc : Nat → Nat) (S : SS) (sz : Nat) (hSz : sSiz S ≤ 60) (hAt : sAt S ≤ sSiz S) (hVb : sVb S < 9) : Met l yX4_readCommand wsX4_readCommand ({ frames := 6, cells := 0, slots := 0, locals := 133 } : Room) (rwPE [.ref (sc 0)] D C ev (scells C ev sc S) sz) (rwO (some (.int (bI ((f_X4_readCommand S).1)))) D (scells C ev sc ((f_X4_readCommand S).2)) (va_A (scells C ev sc S) sz)) 0 0 (va_A (scells C ev sc S) sz) := by
  refine Met.ofW (cc := cX4_readCommand) (maxL := 2) (ret := (some .boolean)) (by decide) rfl ?_
  intro p e s m args below meth c s₁ B hml hv
  obtain ⟨rfl, hsz, hP, hK, hD0, hE, hR, hX⟩ := hv
  have hx := B.exec
  have hb := B.bytes
  have hr := B.returns
  have hts := atoms_spec (ws := wsX4_readCommand) B.pre
  have hown : s.vm.findClass RX4 = some m.cls := findClass_of_methodNamed B.named
  have hlocks := B.notSynchronized
  subst hsz
  have hD := hD0.self (sz := s.heap.size)
  generalize hAe : va_A (scells C ev sc S) s.heap.size = A at hD hX ⊢
  have hA : ∀ q : Nat, s.heap.size ≤ q → A q := fun q h => by rw [← hAe]; exact Or.inr h
  have hS0 : va_S A s.heap s.heap [] := va_S.rf
  have hP : va_P D vwCl (scells C ev sc S) s.heap := hP
  have hS := hS0
  obtain ⟨⟨hV, hB, hMV, hMB, hAL, hEk, hEa, hTX, hXZ⟩, hCS, hSF⟩ := id hX
  have hinX4 : ∀ w ∈ u_ws RX4 TX4 5, w ∈ wsX4_readCommand := by decide +kernel
  have hl := lv_entry ([.ref (sc 0)]) (n := 2) (Nat.le_of_ble_eq_true rfl)
  rw [lg_entry_eq]
  generalize (lg_sl ([.ref (sc 0)]) ++ List.replicate (2 - (lg_sl ([.ref (sc 0)])).length) Slot.unset).toArray = ls at hl ⊢
  have hl : lv_has ls 2 [(0, .ref (sc 0))] := hl
  obtain ⟨z, hz⟩ : ∃ z, z = f_X4_readCommand S := ⟨_, rfl⟩
  rw [← hz]
  have J82 : ∀ (S_82 : SS)  (H : Heap) (locs : List Loc) (ls : Array Slot), z = f_X4_readCommand_j82 S_82 → (sSiz S_82 = sSiz S ∧ sAt S_82 ≤ sSiz S ∧ sVb S_82 < 9) → va_P D vwCl (scells C ev sc S_82) H → va_D A (scells C ev sc S_82) → va_S A s.heap H locs → lv_has ls 2 [] → W p l e ({ frames := 6, cells := 0, slots := 0, locals := 133 } : Room) s m ([.ref (sc 0)] : List Value).toArray below meth c H locs 0 0 (MQ below (rwO (some (.int (bI z.1))) D (scells C ev sc z.2) A) ([.ref (sc 0)] : List Value).toArray s 0 0 A) (F0 m 82 ls []) := by
    intro S_82 H locs ls hz iv82_0 hP hD hS hl
    refine lv_iconst (v := 1) hx hb dX4_readCommand_82 (by decide) ?_
    have hz : z = (true, S_82) := hz
    rw [hz]
    exact rw_retB hx hb hr hP hS rfl dX4_readCommand_83 hlocks
  have J11 : ∀ (n11 k11 : Nat) (S_11 : SS) (H : Heap) (locs : List Loc) (ls : Array Slot), k11 + n11 = 3 → z = f_X4_readCommand_l11  n11 k11 S_11 → (sSiz S_11 = sSiz S ∧ sAt S_11 ≤ sSiz S ∧ sVb S_11 < 9) → va_P D vwCl (scells C ev sc S_11) H → va_D A (scells C ev sc S_11) → va_S A s.heap H locs → lv_has ls 2 [(0, .ref (sc 0)), (1, .int (nI k11))] → W p l e ({ frames := 6, cells := 0, slots := 0, locals := 133 } : Room) s m ([.ref (sc 0)] : List Value).toArray below meth c H locs 0 0 (MQ below (rwO (some (.int (bI z.1))) D (scells C ev sc z.2) A) ([.ref (sc 0)] : List Value).toArray s 0 0 A) (F0 m 11 ls []) := by
    intro n11
    induction n11 with
    | zero =>
      intro k11 S_11 H locs ls hk11 hz iv11_0 hP hD hS hl
      have hz : z = f_X4_readCommand_l11x  S_11 := hz
      refine lv_iload_n hx hb dX4_readCommand_11 rfl (lv_at hl 1 rfl) ?_
      refine lv_iconst (v := 3) hx hb dX4_readCommand_12 (by decide) ?_
      refine lv_icmp_ge (tgt := 82) hx hb dX4_readCommand_13 (by decide) (fun c_13 => ?_) (fun c_13 => absurd (by have e : (3 : Int32) = nI 3 := (by decide +kernel); rw [e]; exact nI_le (by omega) (by omega)) c_13)
      exact J82 (S_11) _ _ ls hz (by assumption) hP hD hS (lv_sub hl [] rfl)
    | succ n11 ih11 =>
      intro k11 S_11 H locs ls hk11 hz11 iv11_0 hP hD hS hl
      obtain ⟨z11, hz⟩ : ∃ zz_, zz_ = f_X4_readCommand_l11b  k11 S_11 := ⟨_, rfl⟩
      have hq11 : z = sE id (fun q_ => lpF (f_X4_readCommand_l11s ) (f_X4_readCommand_l11e ) n11 (k11 + 1) q_) z11 := by rw [hz11, hz]; rfl
      have J68 : ∀ (s0_68 : Bool) (s1_68 : Nat) (S_68 : SS)  (H : Heap) (locs : List Loc) (ls : Array Slot), z11 = f_X4_readCommand_j68 s0_68 s1_68 S_68 → (sSiz S_68 = sSiz S ∧ sAt S_68 ≤ sSiz S ∧ sVb S_68 < 9) → (s1_68 < 3) → va_P D vwCl (scells C ev sc S_68) H → va_D A (scells C ev sc S_68) → va_S A s.heap H locs → lv_has ls 2 [(0, .ref (sc 0)), (1, .int (nI k11))] → W p l e ({ frames := 6, cells := 0, slots := 0, locals := 133 } : Room) s m ([.ref (sc 0)] : List Value).toArray below meth c H locs 0 0 (MQ below (rwO (some (.int (bI z.1))) D (scells C ev sc z.2) A) ([.ref (sc 0)] : List Value).toArray s 0 0 A) (F0 m 68 ls [.int (bI s0_68), .int (nI s1_68), .ref (sc 0)]) := by
        intro s0_68 s1_68 S_68 H locs ls hz iv68_0 iv68_1 hP hD hS hl
        have hFc := va_free (wc := (scells C ev sc S_68)) hD hS hA [0, 1, 2] rfl
        refine callRw (va_runV (As := [.int (nI s1_68), .int (bI s0_68)]) (rest := []) ⟨hx, hb, hml, hown, hts⟩ (c_X4_readNumber l D C ev sc S_68 (s1_68) (s0_68) _ (by omega) (by have := iv68_0.1; omega) (by have := iv68_0.1; have := iv68_0.2.1; omega)) (cwV 2 hts gX4_readCommand_X4_readNumber rfl rfl rfl (by decide +kernel) ⟨Nat.le_of_ble_eq_true rfl, Nat.le_of_ble_eq_true rfl⟩) (rwPE_v hP hK hE hD hR hX hS hFc (va_recv hK hP (ci := 7) (q0 := 0) rfl rfl)) rfl rfl hl.1 rfl (lv_room (Nat.le_of_ble_eq_true rfl)) dX4_readCommand_68 ⟨Nat.le_refl _, Nat.le_refl _⟩) hS hFc (fun H1 locs hPn hk hS => ?_)
        generalize hy68 : (f_X4_readNumber S_68 (s1_68) (s0_68)) = y68 at hPn ⊢
        have hz := lt_eq hz hy68.symm
        have hP : va_P D vwCl (scells C ev sc y68.2) H1 := hPn
        have hD : va_D A (scells C ev sc y68.2) := adr_D hD rfl
        generalize H1 = H at hP hS ⊢
        have a68 : sSiz y68.2 = sSiz S ∧ sAt y68.2 ≤ sSiz S ∧ sVb y68.2 < 9 := by rw [← hy68, ← iv68_0.1]; have q := X4_readNumber_sz (S := S_68) (by have := iv68_0.1; omega) (by have := iv68_0.1; have := iv68_0.2.1; omega) s1_68 s0_68; exact ⟨q.1, q.2.1, by rw [q.2.2]; exact iv68_0.2.2⟩
        refine bif_ne (tgt := 76) hx hb dX4_readCommand_71 (by decide) (fun c_71 => ?_) (fun c_71 => ?_)
        · have hz := hz.trans (ifB_t c_71)
          refine lv_iinc (v := (nI (k11 + 1))) (lv' := [(1, .int (nI (k11 + 1))), (0, .ref (sc 0))]) hx hb dX4_readCommand_76 hl (k := 1) rfl (by exact nI_1 _) (by decide) rfl (fun ls hl => ?_)
          refine lv_goto (tgt := 11) hx hb dX4_readCommand_79 (by decide) ?_
          exact ih11 (k11 + 1) (y68.2) _ _ ls (by omega) (by rw [hq11, hz]; rfl) (by assumption) hP hD hS (lv_sub hl [1, 0] rfl)
        · have hz := hz.trans (ifB_f c_71)
          refine lv_iconst (v := 0) hx hb dX4_readCommand_74 (by decide) ?_
          have hz := up1 hq11 hz
          have hz : z = (false, y68.2) := hz
          rw [hz]
          exact rw_retB hx hb hr hP hS rfl dX4_readCommand_75 hlocks
      have J45 : ∀ (S_45 : SS)  (H : Heap) (locs : List Loc) (ls : Array Slot), z11 = f_X4_readCommand_j45 k11 S_45 → (sSiz S_45 = sSiz S ∧ sAt S_45 ≤ sSiz S ∧ sVb S_45 < 9) → (k11 < tlen (argN.getD (sVb S_45) 0)) → va_P D vwCl (scells C ev sc S_45) H → va_D A (scells C ev sc S_45) → va_S A s.heap H locs → lv_has ls 2 [(0, .ref (sc 0)), (1, .int (nI k11))] → W p l e ({ frames := 6, cells := 0, slots := 0, locals := 133 } : Room) s m ([.ref (sc 0)] : List Value).toArray below meth c H locs 0 0 (MQ below (rwO (some (.int (bI z.1))) D (scells C ev sc z.2) A) ([.ref (sc 0)] : List Value).toArray s 0 0 A) (F0 m 45 ls []) := by
        intro S_45 H locs ls hz iv45_0 iv45_1 hP hD hS hl
        refine lv_aload_n hx hb dX4_readCommand_45 rfl (lv_at hl 0 rfl) ?_
        refine lv_iload_n hx hb dX4_readCommand_46 rfl (lv_at hl 1 rfl) ?_
        refine lv_aload_n hx hb dX4_readCommand_47 rfl (lv_at hl 0 rfl) ?_
        refine va_get (D := D) (ci := 7) (v := .ref (ev (10 + (sVb S_45)))) (C := RX4) (T := TX4) (N := 5) hx hb hts hinX4 hown hK hP 0 rfl rfl 3 (by decide) (hts (.fieldLink RX4 28 "BridgeAuction$Script" "verb" "LBridgeAuction$Verb;") (by decide +kernel)) (fun _ h9 => h9) rfl dX4_readCommand_48 ?_
        refine getfN (v := .ref (ev (40 + (argN.getD (sVb S_45) 0)))) hx hb (hEa (sVb S_45) (by exact iv45_0.2.2)) hS hown (hE.use 24 rfl) (fun _ h9 => h9) dX4_readCommand_51 ?_
        refine lv_iload_n hx hb dX4_readCommand_54 rfl (lv_at hl 1 rfl) ?_
        refine callRo (va_runV (As := [.int (nI k11)]) (rest := [.int (nI k11), .ref (sc 0)]) ⟨hx, hb, hml, hown, hts⟩ (c_J0_charAt_5068e l D C ev (argN.getD (sVb S_45) 0) (k11) (by exact argN_lt _) (by assumption)) (cwV 1 hts gX4_readCommand_J0_charAt_5068e rfl rfl rfl (by decide +kernel) ⟨Nat.le_of_ble_eq_true rfl, Nat.le_of_ble_eq_true rfl⟩) (roPE_v (hP.sub (ws' := ([] : va_W)) [] rfl) hK hE hR hX hS (vk_recv (i := (argN.getD (sVb S_45) 0)) hTX (by exact argN_lt _) hS)) rfl rfl hl.1 rfl (lv_room (Nat.le_of_ble_eq_true rfl)) dX4_readCommand_55 ⟨Nat.le_refl _, Nat.le_refl _⟩) ?_
        refine lv_bipush (v := 110) hx hb dX4_readCommand_58 (by decide +kernel) ?_
        refine lv_icmp_ne (tgt := 67) hx hb dX4_readCommand_60 (by decide) (fun c_60 => ?_) (fun c_60 => ?_)
        · have hz := hz.trans (if_neg c_60)
          refine lv_iconst (v := 0) hx hb dX4_readCommand_67 (by decide) ?_
          exact J68 (false) (k11) (S_45) _ _ ls hz (by assumption) (by omega) hP hD hS (lv_sub hl [0, 1] rfl)
        · have hz := hz.trans (if_pos c_60)
          refine lv_iconst (v := 1) hx hb dX4_readCommand_63 (by decide) ?_
          refine lv_goto (tgt := 68) hx hb dX4_readCommand_64 (by decide) ?_
          exact J68 (true) (k11) (S_45) _ _ ls hz (by assumption) (by omega) hP hD hS (lv_sub hl [0, 1] rfl)
      refine lv_iload_n hx hb dX4_readCommand_11 rfl (lv_at hl 1 rfl) ?_
      refine lv_iconst (v := 3) hx hb dX4_readCommand_12 (by decide) ?_
      refine lv_icmp_ge (tgt := 82) hx hb dX4_readCommand_13 (by decide) (fun c_13 => absurd c_13 (by have e : (3 : Int32) = nI 3 := (by decide +kernel); rw [e]; exact nI_ge (by omega) (by omega))) (fun c_13 => ?_)
      refine lv_iload_n hx hb dX4_readCommand_16 rfl (lv_at hl 1 rfl) ?_
      refine lv_aload_n hx hb dX4_readCommand_17 rfl (lv_at hl 0 rfl) ?_
      refine va_get (D := D) (ci := 7) (v := .ref (ev (10 + (sVb S_11)))) (C := RX4) (T := TX4) (N := 5) hx hb hts hinX4 hown hK hP 0 rfl rfl 3 (by decide) (hts (.fieldLink RX4 28 "BridgeAuction$Script" "verb" "LBridgeAuction$Verb;") (by decide +kernel)) (fun _ h9 => h9) rfl dX4_readCommand_18 ?_
      refine getfN (v := .ref (ev (40 + (argN.getD (sVb S_11) 0)))) hx hb (hEa (sVb S_11) (by exact iv11_0.2.2)) hS hown (hE.use 24 rfl) (fun _ h9 => h9) dX4_readCommand_21 ?_
      refine callRo (va_runV (As := []) (rest := [.int (nI k11)]) ⟨hx, hb, hml, hown, hts⟩ (c_J0_length_8abf5 l D C ev (argN.getD (sVb S_11) 0) (by exact argN_lt _)) (cwV 0 hts gX4_readCommand_J0_length_8abf5 rfl rfl rfl (by decide +kernel) ⟨Nat.le_of_ble_eq_true rfl, Nat.le_of_ble_eq_true rfl⟩) (roPE_v (hP.sub (ws' := ([] : va_W)) [] rfl) hK hE hR hX hS (vk_recv (i := (argN.getD (sVb S_11) 0)) hTX (by exact argN_lt _) hS)) rfl rfl hl.1 rfl (lv_room (Nat.le_of_ble_eq_true rfl)) dX4_readCommand_24 ⟨Nat.le_refl _, Nat.le_refl _⟩) ?_
      refine topN (k := (tlen (argN.getD (sVb S_11) 0))) rfl ?_
      refine lv_icmp_ge (tgt := 82) hx hb dX4_readCommand_27 (by decide) (fun c_27 => ?_) (fun c_27 => ?_)
      · have hz := hz.trans (if_pos c_27)
        have hz := up1 hq11 hz
        exact J82 (S_11) _ _ ls hz (by assumption) hP hD hS (lv_sub hl [] rfl)
      · have hz := hz.trans (if_neg c_27)
        have q27 : k11 < tlen (argN.getD (sVb S_11) 0) := ltN' (by omega) c_27
        refine lv_iload_n hx hb dX4_readCommand_30 rfl (lv_at hl 1 rfl) ?_
        refine lv_if_le (tgt := 45) hx hb dX4_readCommand_31 (by decide) (fun c_31 => ?_) (fun c_31 => ?_)
        · have hz := hz.trans (if_pos c_31)
          exact J45 (S_11) _ _ ls hz (by assumption) (by first | assumption | skip) hP hD hS (lv_sub hl [0, 1] rfl)
        · have hz := hz.trans (if_neg c_31)
          refine lv_aload_n hx hb dX4_readCommand_34 rfl (lv_at hl 0 rfl) ?_
          refine lv_bipush (v := 32) hx hb dX4_readCommand_35 (by decide +kernel) ?_
          have hFc := va_free (wc := (scells C ev sc S_11)) hD hS hA [0, 1, 2] rfl
          refine callRw (va_runV (As := [.int 32]) (rest := []) ⟨hx, hb, hml, hown, hts⟩ (c_X4_readSign l D C ev sc S_11 (32) _ (by have := iv11_0.1; omega) (by have := iv11_0.1; have := iv11_0.2.1; omega)) (cwV 1 hts gX4_readCommand_X4_readSign rfl rfl rfl (by decide +kernel) ⟨Nat.le_of_ble_eq_true rfl, Nat.le_of_ble_eq_true rfl⟩) (rwPE_v hP hK hE hD hR hX hS hFc (va_recv hK hP (ci := 7) (q0 := 0) rfl rfl)) rfl rfl hl.1 rfl (lv_room (Nat.le_of_ble_eq_true rfl)) dX4_readCommand_37 ⟨Nat.le_refl _, Nat.le_refl _⟩) hS hFc (fun H1 locs hPn hk hS => ?_)
          generalize hy37 : (f_X4_readSign S_11 (32)) = y37 at hPn ⊢
          have hz := lt_eq hz hy37.symm
          have hP : va_P D vwCl (scells C ev sc y37.2) H1 := hPn
          have hD : va_D A (scells C ev sc y37.2) := adr_D hD rfl
          generalize H1 = H at hP hS ⊢
          have a37 : sSiz y37.2 = sSiz S ∧ sAt y37.2 ≤ sSiz S ∧ sVb y37.2 < 9 := by rw [← hy37, ← iv11_0.1]; have q := X4_readSign_sz (S := S_11) (by have := iv11_0.1; omega) (by have := iv11_0.1; have := iv11_0.2.1; omega) 32; exact ⟨q.1, q.2.1, by rw [q.2.2]; exact iv11_0.2.2⟩
          have b37 : k11 < tlen (argN.getD (sVb y37.2) 0) := by rw [← hy37, (X4_readSign_sz (S := S_11) (by have := iv11_0.1; omega) (by have := iv11_0.1; have := iv11_0.2.1; omega) 32).2.2]; exact q27
          refine bif_ne (tgt := 45) hx hb dX4_readCommand_40 (by decide) (fun c_40 => ?_) (fun c_40 => ?_)
          · have hz := hz.trans (ifB_t c_40)
            exact J45 (y37.2) _ _ ls hz (by assumption) (by first | assumption | skip) hP hD hS (lv_sub hl [0, 1] rfl)
          · have hz := hz.trans (ifB_f c_40)
            refine lv_iconst (v := 0) hx hb dX4_readCommand_43 (by decide) ?_
            have hz := up1 hq11 hz
            have hz : z = (false, y37.2) := hz
            rw [hz]
            exact rw_retB hx hb hr hP hS rfl dX4_readCommand_44 hlocks
  refine lv_aload_n hx hb dX4_readCommand_0 rfl (lv_at hl 0 rfl) ?_
  have hFc := va_free (wc := (scells C ev sc S)) hD hS hA [0, 1, 2] rfl
  refine callRw (va_runV (As := []) (rest := []) ⟨hx, hb, hml, hown, hts⟩ (c_X4_readVerb l D C ev sc S _ (by show (sSiz S) ≤ 60; first | assumption | omega) (by show (sAt S) ≤ (sSiz S); first | assumption | omega)) (cwV 0 hts gX4_readCommand_X4_readVerb rfl rfl rfl (by decide +kernel) ⟨Nat.le_of_ble_eq_true rfl, Nat.le_of_ble_eq_true rfl⟩) (rwPE_v hP hK hE hD hR hX hS hFc (va_recv hK hP (ci := 7) (q0 := 0) rfl rfl)) rfl rfl hl.1 rfl (lv_room (Nat.le_of_ble_eq_true rfl)) dX4_readCommand_1 ⟨Nat.le_refl _, Nat.le_refl _⟩) hS hFc (fun H1 locs hPn hk hS => ?_)
  generalize hy1 : (f_X4_readVerb S) = y1 at hPn ⊢
  have hz := lt_eq hz hy1.symm
  have hP : va_P D vwCl (scells C ev sc y1.2) H1 := hPn
  have hD : va_D A (scells C ev sc y1.2) := adr_D hD rfl
  generalize H1 = H at hP hS ⊢
  have a1 : sSiz y1.2 = sSiz S ∧ sAt y1.2 ≤ sSiz S ∧ sVb y1.2 < 9 := by rw [← hy1]; exact X4_readVerb_sz hSz hAt hVb
  refine bif_ne (tgt := 9) hx hb dX4_readCommand_4 (by decide) (fun c_4 => ?_) (fun c_4 => ?_)
  · have hz := hz.trans (ifB_t c_4)
    refine lv_iconst (v := 0) hx hb dX4_readCommand_9 (by decide) ?_
    refine lv_istore_n (lv' := [(1, .int 0), (0, .ref (sc 0))]) hx hb dX4_readCommand_10 rfl hl (by decide) rfl (fun ls hl => ?_)
    exact J11 (3) 0 (y1.2) _ _ ls (by omega) hz (by assumption) hP hD hS (lv_sub hl [1, 0] rfl)
  · have hz := hz.trans (ifB_f c_4)
    refine lv_iconst (v := 0) hx hb dX4_readCommand_7 (by decide) ?_
    have hz : z = (false, y1.2) := hz
    rw [hz]
    exact rw_retB hx hb hr hP hS rfl dX4_readCommand_8 hlocks

