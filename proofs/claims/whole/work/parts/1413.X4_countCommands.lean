theorem X4_readCommand_sz {S : SS} (hSz : sSiz S ≤ 60) (hAt : sAt S ≤ sSiz S) (hVb : sVb S < 9) : sSiz (f_X4_readCommand S).2 = sSiz S ∧ sAt (f_X4_readCommand S).2 ≤ sSiz S ∧ sVb (f_X4_readCommand S).2 < 9 := by
  have h0 := X4_readVerb_sz hSz hAt hVb
  simp only [f_X4_readCommand, lt_]
  generalize f_X4_readVerb S = y at h0 ⊢
  split
  · have k68 : ∀ b i (T : SS), sSiz T = sSiz S ∧ sAt T ≤ sSiz S ∧ sVb T < 9 → sSiz (f_X4_readNumber T i b).2 = sSiz S ∧ sAt (f_X4_readNumber T i b).2 ≤ sSiz S ∧ sVb (f_X4_readNumber T i b).2 < 9 := by
      rintro b i T ⟨t1, t2, t3⟩
      have q := X4_readNumber_sz (S := T) (by omega) (by omega) i b
      exact ⟨q.1.trans t1, by omega, by rw [q.2.2]; exact t3⟩
    have k37 : ∀ x (T : SS), sSiz T = sSiz S ∧ sAt T ≤ sSiz S ∧ sVb T < 9 → sSiz (f_X4_readSign T x).2 = sSiz S ∧ sAt (f_X4_readSign T x).2 ≤ sSiz S ∧ sVb (f_X4_readSign T x).2 < 9 := by
      rintro x T ⟨t1, t2, t3⟩
      have q := X4_readSign_sz (S := T) (by omega) (by omega) x
      exact ⟨q.1.trans t1, by omega, by rw [q.2.2]; exact t3⟩
    refine lpF_invN (step := f_X4_readCommand_l11s) (ex := f_X4_readCommand_l11e) 3 (fun _ T => sSiz T = sSiz S ∧ sAt T ≤ sSiz S ∧ sVb T < 9) (fun r => sSiz r.2 = sSiz S ∧ sAt r.2 ≤ sSiz S ∧ sVb r.2 < 9) ?_ ?_ ?_ 3 0 _ rfl h0
    · intro k T r _ hT h
      simp only [f_X4_readCommand_l11s, f_X4_readCommand_l11b, f_X4_readCommand_j45, f_X4_readCommand_j68, f_X4_readCommand_j82, lt_] at h
      repeat' split at h
      all_goals first | (cases h; exact hT) | (cases h; exact k68 _ _ _ hT) | (cases h; exact k68 _ _ _ (k37 _ _ hT)) | (cases h; exact k37 _ _ hT) | cases h
    · intro k T T' _ hT h
      simp only [f_X4_readCommand_l11s, f_X4_readCommand_l11b, f_X4_readCommand_j45, f_X4_readCommand_j68, f_X4_readCommand_j82, lt_] at h
      repeat' split at h
      all_goals first | (cases h; exact k68 _ _ _ hT) | (cases h; exact k68 _ _ _ (k37 _ _ hT)) | cases h
    · intro T hT; exact hT
  · exact h0
def f_X4_countCommands_l7b  (k7 : Nat) (S_7 : SS) : Sum (Int32 × SS) (SS) := (lt_ (f_X4_readCommand S_7) (fun y14 => (if y14.1 = true then (if (nI (sAt y14.2)) = (nI (sSiz y14.2)) then (Sum.inl ((nI k7), y14.2)) else (lt_ (f_X4_readSign y14.2 (59)) (fun y38 => (if y38.1 = true then (Sum.inr y38.2) else (Sum.inl ((-1), y38.2)))))) else (Sum.inl ((-1), y14.2)))))
def f_X4_countCommands_l7x  (S_7 : SS) : Int32 × SS := ((-1), S_7)
def f_X4_countCommands_l7s  (k7 : Nat) (q_ : SS) : Sum (Int32 × SS) (SS) := f_X4_countCommands_l7b  k7 (q_)
def f_X4_countCommands_l7e  (q_ : SS) : Int32 × SS := f_X4_countCommands_l7x  (q_)
def f_X4_countCommands_l7  (n7 k7 : Nat) (S_7 : SS) : Int32 × SS := lpF (f_X4_countCommands_l7s ) (f_X4_countCommands_l7e ) n7 k7 S_7
def f_X4_countCommands (S : SS) : Int32 × SS := (f_X4_countCommands_l7 (61 - 1) 1 ((mkS (sSgn S) (sSiz S) 0 (sVb S) (sNum S))))
set_option maxHeartbeats 4000000 in
set_option maxRecDepth 100000 in
theorem c_X4_countCommands (l : Launch) (D : va_G) (C : Nat → ClassId) (ev : Nat → Nat) (sc : Nat → Nat) (S : SS) (sz : Nat) (hSz : sSiz S ≤ 60) (hVb : sVb S < 9) : Met l yX4_countCommands wsX4_countCommands ({ frames := 7, cells := 0, slots := 0, locals := 154 } : Room) (rwPE [.ref (sc 0)] D C ev (scells C ev sc S) sz) (rwO (some (.int ((f_X4_countCommands S).1))) D (scells C ev sc ((f_X4_countCommands S).2)) (va_A (scells C ev sc S) sz)) 0 0 (va_A (scells C ev sc S) sz) := by
  refine Met.ofW (cc := cX4_countCommands) (maxL := 2) (ret := (some .int)) (by decide) rfl ?_
  intro p e s m args below meth c s₁ B hml hv
  obtain ⟨rfl, hsz, hP, hK, hD0, hE, hR, hX⟩ := hv
  have hx := B.exec
  have hb := B.bytes
  have hr := B.returns
  have hts := atoms_spec (ws := wsX4_countCommands) B.pre
  have hown : s.vm.findClass RX4 = some m.cls := findClass_of_methodNamed B.named
  have hlocks := B.notSynchronized
  subst hsz
  have hD := hD0.self (sz := s.heap.size)
  generalize hAe : va_A (scells C ev sc S) s.heap.size = A at hD hX ⊢
  have hA : ∀ q : Nat, s.heap.size ≤ q → A q := fun q h => by rw [← hAe]; exact Or.inr h
  have hS0 : va_S A s.heap s.heap [] := va_S.rf
  have hP : va_P D vwCl (scells C ev sc S) s.heap := hP
  have hS := hS0
  obtain ⟨⟨hV, hB, hMV, hMB, hAL, hEk, hEa, hTX, hXZ⟩, hCS, hSF⟩ := id hX
  have hinX4 : ∀ w ∈ u_ws RX4 TX4 5, w ∈ wsX4_countCommands := by decide +kernel
  have hl := lv_entry ([.ref (sc 0)]) (n := 2) (Nat.le_of_ble_eq_true rfl)
  rw [lg_entry_eq]
  generalize (lg_sl ([.ref (sc 0)]) ++ List.replicate (2 - (lg_sl ([.ref (sc 0)])).length) Slot.unset).toArray = ls at hl ⊢
  have hl : lv_has ls 2 [(0, .ref (sc 0))] := hl
  obtain ⟨z, hz⟩ : ∃ z, z = f_X4_countCommands S := ⟨_, rfl⟩
  rw [← hz]
  have J7 : ∀ (n7 k7 : Nat) (S_7 : SS) (H : Heap) (locs : List Loc) (ls : Array Slot), k7 + n7 = 61 → z = f_X4_countCommands_l7  n7 k7 S_7 → (sSiz S_7 = sSiz S ∧ sAt S_7 ≤ sSiz S ∧ sVb S_7 < 9) → va_P D vwCl (scells C ev sc S_7) H → va_D A (scells C ev sc S_7) → va_S A s.heap H locs → lv_has ls 2 [(0, .ref (sc 0)), (1, .int (nI k7))] → W p l e ({ frames := 7, cells := 0, slots := 0, locals := 154 } : Room) s m ([.ref (sc 0)] : List Value).toArray below meth c H locs 0 0 (MQ below (rwO (some (.int z.1)) D (scells C ev sc z.2) A) ([.ref (sc 0)] : List Value).toArray s 0 0 A) (F0 m 7 ls []) := by
    intro n7
    induction n7 with
    | zero =>
      intro k7 S_7 H locs ls hk7 hz iv7_0 hP hD hS hl
      have hz : z = f_X4_countCommands_l7x  S_7 := hz
      refine lv_iload_n hx hb dX4_countCommands_7 rfl (lv_at hl 1 rfl) ?_
      refine lv_bipush (v := 60) hx hb dX4_countCommands_8 (by decide +kernel) ?_
      refine lv_icmp_gt (tgt := 52) hx hb dX4_countCommands_10 (by decide) (fun c_10 => ?_) (fun c_10 => absurd (by have e : (60 : Int32) = nI 60 := (by decide +kernel); rw [e]; exact nI_lt (by omega) (by omega)) c_10)
      refine lv_iconst (v := (-1)) hx hb dX4_countCommands_52 (by decide) ?_
      have hz : z = ((-1), S_7) := hz
      rw [hz]
      exact rw_ret hx hb hr hP hS rfl dX4_countCommands_53 hlocks
    | succ n7 ih7 =>
      intro k7 S_7 H locs ls hk7 hz7 iv7_0 hP hD hS hl
      obtain ⟨z7, hz⟩ : ∃ zz_, zz_ = f_X4_countCommands_l7b  k7 S_7 := ⟨_, rfl⟩
      have hq7 : z = sE id (fun q_ => lpF (f_X4_countCommands_l7s ) (f_X4_countCommands_l7e ) n7 (k7 + 1) q_) z7 := by rw [hz7, hz]; rfl
      refine lv_iload_n hx hb dX4_countCommands_7 rfl (lv_at hl 1 rfl) ?_
      refine lv_bipush (v := 60) hx hb dX4_countCommands_8 (by decide +kernel) ?_
      refine lv_icmp_gt (tgt := 52) hx hb dX4_countCommands_10 (by decide) (fun c_10 => absurd c_10 (by have e : (60 : Int32) = nI 60 := (by decide +kernel); rw [e]; exact nI_nlt (by omega) (by omega))) (fun c_10 => ?_)
      refine lv_aload_n hx hb dX4_countCommands_13 rfl (lv_at hl 0 rfl) ?_
      have hFc := va_free (wc := (scells C ev sc S_7)) hD hS hA [0, 1, 2] rfl
      refine callRw (va_runV (As := []) (rest := []) ⟨hx, hb, hml, hown, hts⟩ (c_X4_readCommand l D C ev sc S_7 _ (by have := iv7_0.1; omega) (by have := iv7_0.1; have := iv7_0.2.1; omega) (by exact iv7_0.2.2)) (cwV 0 hts gX4_countCommands_X4_readCommand rfl rfl rfl (by decide +kernel) ⟨Nat.le_of_ble_eq_true rfl, Nat.le_of_ble_eq_true rfl⟩) (rwPE_v hP hK hE hD hR hX hS hFc (va_recv hK hP (ci := 7) (q0 := 0) rfl rfl)) rfl rfl hl.1 rfl (lv_room (Nat.le_of_ble_eq_true rfl)) dX4_countCommands_14 ⟨Nat.le_refl _, Nat.le_refl _⟩) hS hFc (fun H1 locs hPn hk hS => ?_)
      generalize hy14 : (f_X4_readCommand S_7) = y14 at hPn ⊢
      have hz := lt_eq hz hy14.symm
      have hP : va_P D vwCl (scells C ev sc y14.2) H1 := hPn
      have hD : va_D A (scells C ev sc y14.2) := adr_D hD rfl
      generalize H1 = H at hP hS ⊢
      have a14 : sSiz y14.2 = sSiz S ∧ sAt y14.2 ≤ sSiz S ∧ sVb y14.2 < 9 := by rw [← hy14, ← iv7_0.1]; exact X4_readCommand_sz (S := S_7) (by have := iv7_0.1; omega) (by have := iv7_0.1; have := iv7_0.2.1; omega) iv7_0.2.2
      refine bif_ne (tgt := 22) hx hb dX4_countCommands_17 (by decide) (fun c_17 => ?_) (fun c_17 => ?_)
      · have hz := hz.trans (ifB_t c_17)
        refine lv_aload_n hx hb dX4_countCommands_22 rfl (lv_at hl 0 rfl) ?_
        refine va_get (D := D) (ci := 7) (v := .int (nI (sAt y14.2))) (C := RX4) (T := TX4) (N := 5) hx hb hts hinX4 hown hK hP 0 rfl rfl 2 (by decide) (hts (.fieldLink RX4 19 "BridgeAuction$Script" "at" "I") (by decide +kernel)) (fun _ h9 => h9) rfl dX4_countCommands_23 ?_
        refine lv_aload_n hx hb dX4_countCommands_26 rfl (lv_at hl 0 rfl) ?_
        refine va_get (D := D) (ci := 7) (v := .int (nI (sSiz y14.2))) (C := RX4) (T := TX4) (N := 5) hx hb hts hinX4 hown hK hP 0 rfl rfl 1 (by decide) (hts (.fieldLink RX4 15 "BridgeAuction$Script" "size" "I") (by decide +kernel)) (fun _ h9 => h9) rfl dX4_countCommands_27 ?_
        refine lv_icmp_ne (tgt := 35) hx hb dX4_countCommands_30 (by decide) (fun c_30 => ?_) (fun c_30 => ?_)
        · have hz := hz.trans (if_neg c_30)
          refine lv_aload_n hx hb dX4_countCommands_35 rfl (lv_at hl 0 rfl) ?_
          refine lv_bipush (v := 59) hx hb dX4_countCommands_36 (by decide +kernel) ?_
          have hFc := va_free (wc := (scells C ev sc y14.2)) hD hS hA [0, 1, 2] rfl
          refine callRw (va_runV (As := [.int 59]) (rest := []) ⟨hx, hb, hml, hown, hts⟩ (c_X4_readSign l D C ev sc y14.2 (59) _ (by have := a14.1; omega) (by have := a14.1; have := a14.2.1; omega)) (cwV 1 hts gX4_countCommands_X4_readSign rfl rfl rfl (by decide +kernel) ⟨Nat.le_of_ble_eq_true rfl, Nat.le_of_ble_eq_true rfl⟩) (rwPE_v hP hK hE hD hR hX hS hFc (va_recv hK hP (ci := 7) (q0 := 0) rfl rfl)) rfl rfl hl.1 rfl (lv_room (Nat.le_of_ble_eq_true rfl)) dX4_countCommands_38 ⟨Nat.le_refl _, Nat.le_refl _⟩) hS hFc (fun H1 locs hPn hk hS => ?_)
          generalize hy38 : (f_X4_readSign y14.2 (59)) = y38 at hPn ⊢
          have hz := lt_eq hz hy38.symm
          have hP : va_P D vwCl (scells C ev sc y38.2) H1 := hPn
          have hD : va_D A (scells C ev sc y38.2) := adr_D hD rfl
          generalize H1 = H at hP hS ⊢
          have a38 : sSiz y38.2 = sSiz S ∧ sAt y38.2 ≤ sSiz S ∧ sVb y38.2 < 9 := by rw [← hy38, ← a14.1]; have q := X4_readSign_sz (S := y14.2) (by have := a14.1; omega) (by have := a14.1; have := a14.2.1; omega) 59; exact ⟨q.1, q.2.1, by rw [q.2.2]; exact a14.2.2⟩
          refine bif_ne (tgt := 46) hx hb dX4_countCommands_41 (by decide) (fun c_41 => ?_) (fun c_41 => ?_)
          · have hz := hz.trans (ifB_t c_41)
            refine lv_iinc (v := (nI (k7 + 1))) (lv' := [(1, .int (nI (k7 + 1))), (0, .ref (sc 0))]) hx hb dX4_countCommands_46 hl (k := 1) rfl (by exact nI_1 _) (by decide) rfl (fun ls hl => ?_)
            refine lv_goto (tgt := 7) hx hb dX4_countCommands_49 (by decide) ?_
            exact ih7 (k7 + 1) (y38.2) _ _ ls (by omega) (by rw [hq7, hz]; rfl) (by first | exact ⟨rfl, Nat.zero_le _, hVb⟩ | assumption) hP hD hS (lv_sub hl [1, 0] rfl)
          · have hz := hz.trans (ifB_f c_41)
            refine lv_iconst (v := (-1)) hx hb dX4_countCommands_44 (by decide) ?_
            have hz := up1 hq7 hz
            have hz : z = ((-1), y38.2) := hz
            rw [hz]
            exact rw_ret hx hb hr hP hS rfl dX4_countCommands_45 hlocks
        · have hz := hz.trans (if_pos c_30)
          refine lv_iload_n hx hb dX4_countCommands_33 rfl (lv_at hl 1 rfl) ?_
          have hz := up1 hq7 hz
          have hz : z = ((nI k7), y14.2) := hz
          rw [hz]
          exact rw_ret hx hb hr hP hS rfl dX4_countCommands_34 hlocks
      · have hz := hz.trans (ifB_f c_17)
        refine lv_iconst (v := (-1)) hx hb dX4_countCommands_20 (by decide) ?_
        have hz := up1 hq7 hz
        have hz : z = ((-1), y14.2) := hz
        rw [hz]
        exact rw_ret hx hb hr hP hS rfl dX4_countCommands_21 hlocks
  refine lv_aload_n hx hb dX4_countCommands_0 rfl (lv_at hl 0 rfl) ?_
  refine lv_iconst (v := 0) hx hb dX4_countCommands_1 (by decide) ?_
  refine topN (k := 0) (by decide +kernel) ?_
  refine va_put (D := D) (ci := 7) (v := .int (nI 0)) (ty := .int) (C := RX4) (T := TX4) (N := 5) hx hb hts hinX4 tyX4 tyX4_ok nmX4 hown hK hP hD hS 0 rfl rfl 2 (by decide) (hts (.fieldLink RX4 19 "BridgeAuction$Script" "at" "I") (by decide +kernel)) (fun _ h9 => h9) rfl (by decide +kernel) rfl rfl (Nat.le_of_ble_eq_true rfl) dX4_countCommands_2 (fun H locs hP hD hS => ?_)
  have hP : va_P D vwCl (scells C ev sc (mkS (sSgn S) (sSiz S) 0 (sVb S) (sNum S))) H := hP
  have hD : va_D A (scells C ev sc (mkS (sSgn S) (sSiz S) 0 (sVb S) (sNum S))) := hD
  refine lv_iconst (v := 1) hx hb dX4_countCommands_5 (by decide) ?_
  refine lv_istore_n (lv' := [(1, .int 1), (0, .ref (sc 0))]) hx hb dX4_countCommands_6 rfl hl (by decide) rfl (fun ls hl => ?_)
  exact J7 (61 - 1) 1 ((mkS (sSgn S) (sSiz S) 0 (sVb S) (sNum S))) _ _ ls (by omega) hz (by first | exact ⟨rfl, Nat.zero_le _, hVb⟩ | assumption) hP hD hS (lv_sub hl [1, 0] rfl)

