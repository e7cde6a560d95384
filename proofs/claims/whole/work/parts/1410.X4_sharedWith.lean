theorem X4_readNumber_sz {S : SS} (hSz : sSiz S ≤ 60) (hAt : sAt S ≤ sSiz S) (i : Nat) (v : Bool) : sSiz (f_X4_readNumber S i v).2 = sSiz S ∧ sAt (f_X4_readNumber S i v).2 ≤ sSiz S ∧ sVb (f_X4_readNumber S i v).2 = sVb S := by
  simp only [f_X4_readNumber, f_X4_readNumber_j50, lt_]
  split
  · have q := X4_dig_lt hSz hAt (by assumption)
    split
    · split
      · rename_i c
        have q2 := X4_dig_lt (S := mkS (sSgn (f_X4_readDigit S).2) (sSiz (f_X4_readDigit S).2) (sAt (f_X4_readDigit S).2) (sVb (f_X4_readDigit S).2) (upd (sNum (f_X4_readDigit S).2) i (f_X4_readDigit S).1)) hSz q c
        exact ⟨rfl, q2, rfl⟩
      · exact ⟨rfl, q, rfl⟩
    · exact ⟨rfl, q, rfl⟩
  · exact ⟨rfl, hAt, rfl⟩
def f_X4_sharedWith_j48  (v2_48 : Nat) : Nat := v2_48
def f_X4_sharedWith_l2b (S : SS) (i : Nat) (k2 : Nat) : Sum (Nat) (Unit) := (if (nI (sSiz S)) ≤ (nI ((sAt S) + k2)) then (Sum.inl (f_X4_sharedWith_j48 (k2))) else (if ((sSgn S) ((sAt S) + k2)) = (f_J0_charAt_5068e i (k2)) then (Sum.inr ()) else (Sum.inl (f_X4_sharedWith_j48 (k2)))))
def f_X4_sharedWith_l2x (S : SS) (i : Nat) : Nat := (f_X4_sharedWith_j48 ((tlen i)))
def f_X4_sharedWith_l2s (S : SS) (i : Nat) (k2 : Nat) (q_ : Unit) : Sum (Nat) (Unit) := f_X4_sharedWith_l2b S i k2 
def f_X4_sharedWith_l2e (S : SS) (i : Nat) (q_ : Unit) : Nat := f_X4_sharedWith_l2x S i 
def f_X4_sharedWith_l2 (S : SS) (i : Nat) (n2 k2 : Nat) : Nat := lpF (f_X4_sharedWith_l2s S i) (f_X4_sharedWith_l2e S i) n2 k2 ()
def f_X4_sharedWith (S : SS) (i : Nat) : Nat := (f_X4_sharedWith_l2 S i (tlen i) 0)
set_option maxHeartbeats 4000000 in
set_option maxRecDepth 100000 in
theorem c_X4_sharedWith (l : Launch) (D : va_G) (C : Nat → ClassId) (ev : Nat → Nat) (sc : Nat → Nat) (S : SS) (i : Nat) (hi : i < 16) (hSz : sSiz S ≤ 60) (hAt : sAt S ≤ sSiz S) : Met l yX4_sharedWith wsX4_sharedWith ({ frames := 4, cells := 0, slots := 0, locals := 85 } : Room) (roPE [.ref (sc 0), .ref (ev (40 + i))] D C ev (scells C ev sc S)) (roO (some (.int (nI (f_X4_sharedWith S i))))) 0 0 (fun _ => False) := by
  refine Met.ofW (cc := cX4_sharedWith) (maxL := 3) (ret := (some .int)) (by decide) rfl ?_
  intro p e s m args below meth c s₁ B hml hv
  obtain ⟨rfl, hP, hK, hE, hR, hX⟩ := hv
  have hx := B.exec
  have hb := B.bytes
  have hr := B.returns
  have hts := atoms_spec (ws := wsX4_sharedWith) B.pre
  have hown : s.vm.findClass RX4 = some m.cls := findClass_of_methodNamed B.named
  have hlocks := B.notSynchronized
  have hS : va_S (fun _ => False) s.heap s.heap [] := va_S.rf
  obtain ⟨⟨hV, hB, hMV, hMB, hAL, hEk, hEa, hTX, hXZ⟩, hCS, hSF⟩ := id hX
  have hinX4 : ∀ w ∈ u_ws RX4 TX4 5, w ∈ wsX4_sharedWith := by decide +kernel
  have hl := lv_entry ([.ref (sc 0), .ref (ev (40 + i))]) (n := 3) (Nat.le_of_ble_eq_true rfl)
  rw [lg_entry_eq]
  generalize (lg_sl ([.ref (sc 0), .ref (ev (40 + i))]) ++ List.replicate (3 - (lg_sl ([.ref (sc 0), .ref (ev (40 + i))])).length) Slot.unset).toArray = ls at hl ⊢
  have hl : lv_has ls 3 [(0, .ref (sc 0)), (1, .ref (ev (40 + i)))] := hl
  have htl := tlen_le i
  obtain ⟨z, hz⟩ : ∃ z, z = f_X4_sharedWith S i := ⟨_, rfl⟩
  rw [← hz]
  have J48 : ∀ (v2_48 : Nat)  (ls : Array Slot), z = f_X4_sharedWith_j48 v2_48 → lv_has ls 3 [(2, .int (nI v2_48))] → W p l e ({ frames := 4, cells := 0, slots := 0, locals := 85 } : Room) s m ([.ref (sc 0), .ref (ev (40 + i))] : List Value).toArray below meth c s.heap [] 0 0 (MQ below (roO (some (.int (nI z)))) ([.ref (sc 0), .ref (ev (40 + i))] : List Value).toArray s 0 0 (fun _ => False)) (F0 m 48 ls []) := by
    intro v2_48 ls hz  hl
    refine lv_iload_n hx hb dX4_sharedWith_48 rfl (lv_at hl 0 rfl) ?_
    exact ro_ret hx hb hr (congrArg nI (show _ = v2_48 from hz)) dX4_sharedWith_49 hlocks
  have J2 : ∀ (n2 k2 : Nat) (ls : Array Slot), k2 + n2 = tlen i → z = f_X4_sharedWith_l2 S i n2 k2  → lv_has ls 3 [(0, .ref (sc 0)), (1, .ref (ev (40 + i))), (2, .int (nI k2))] → W p l e ({ frames := 4, cells := 0, slots := 0, locals := 85 } : Room) s m ([.ref (sc 0), .ref (ev (40 + i))] : List Value).toArray below meth c s.heap [] 0 0 (MQ below (roO (some (.int (nI z)))) ([.ref (sc 0), .ref (ev (40 + i))] : List Value).toArray s 0 0 (fun _ => False)) (F0 m 2 ls []) := by
    intro n2
    induction n2 with
    | zero =>
      intro k2  ls hk2 hz  hl
      have hz : z = f_X4_sharedWith_l2x S i  := hz
      refine lv_iload_n hx hb dX4_sharedWith_2 rfl (lv_at hl 2 rfl) ?_
      refine lv_aload_n hx hb dX4_sharedWith_3 rfl (lv_at hl 1 rfl) ?_
      refine callRo (va_runV (As := []) (rest := [.int (nI k2)]) ⟨hx, hb, hml, hown, hts⟩ (c_J0_length_8abf5 l D C ev i (by first | assumption | omega)) (cwV 0 hts gX4_sharedWith_J0_length_8abf5 rfl rfl rfl (by decide +kernel) ⟨Nat.le_of_ble_eq_true rfl, Nat.le_of_ble_eq_true rfl⟩) (roPE_v (hP.sub (ws' := ([] : va_W)) [] rfl) hK hE hR hX hS (vk_recv (i := i) hTX (by omega) hS)) rfl rfl hl.1 rfl (lv_room (Nat.le_of_ble_eq_true rfl)) dX4_sharedWith_4 ⟨Nat.le_refl _, Nat.le_refl _⟩) ?_
      refine topN (k := (tlen i)) rfl ?_
      refine lv_icmp_ge (tgt := 48) hx hb dX4_sharedWith_7 (by decide) (fun c_7 => ?_) (fun c_7 => absurd (nI_le (by omega) (by omega)) c_7)
      rw [show k2 = tlen i from by omega] at hl
      exact J48 ((tlen i)) ls hz  (lv_sub hl [2] rfl)
    | succ n2 ih2 =>
      intro k2  ls hk2 hz2  hl
      obtain ⟨z2, hz⟩ : ∃ zz_, zz_ = f_X4_sharedWith_l2b S i k2  := ⟨_, rfl⟩
      have hq2 : z = sE id (fun q_ => lpF (f_X4_sharedWith_l2s S i) (f_X4_sharedWith_l2e S i) n2 (k2 + 1) q_) z2 := by rw [hz2, hz]; rfl
      refine lv_iload_n hx hb dX4_sharedWith_2 rfl (lv_at hl 2 rfl) ?_
      refine lv_aload_n hx hb dX4_sharedWith_3 rfl (lv_at hl 1 rfl) ?_
      refine callRo (va_runV (As := []) (rest := [.int (nI k2)]) ⟨hx, hb, hml, hown, hts⟩ (c_J0_length_8abf5 l D C ev i (by first | assumption | omega)) (cwV 0 hts gX4_sharedWith_J0_length_8abf5 rfl rfl rfl (by decide +kernel) ⟨Nat.le_of_ble_eq_true rfl, Nat.le_of_ble_eq_true rfl⟩) (roPE_v (hP.sub (ws' := ([] : va_W)) [] rfl) hK hE hR hX hS (vk_recv (i := i) hTX (by omega) hS)) rfl rfl hl.1 rfl (lv_room (Nat.le_of_ble_eq_true rfl)) dX4_sharedWith_4 ⟨Nat.le_refl _, Nat.le_refl _⟩) ?_
      refine topN (k := (tlen i)) rfl ?_
      refine lv_icmp_ge (tgt := 48) hx hb dX4_sharedWith_7 (by decide) (fun c_7 => absurd c_7 (nI_ge (by omega) (by omega))) (fun c_7 => ?_)
      refine lv_aload_n hx hb dX4_sharedWith_10 rfl (lv_at hl 0 rfl) ?_
      refine va_get (D := D) (ci := 7) (v := .int (nI (sAt S))) (C := RX4) (T := TX4) (N := 5) hx hb hts hinX4 hown hK hP 0 rfl rfl 2 (by decide) (hts (.fieldLink RX4 19 "BridgeAuction$Script" "at" "I") (by decide +kernel)) (fun _ h9 => h9) rfl dX4_sharedWith_11 ?_
      refine lv_iload_n hx hb dX4_sharedWith_14 rfl (lv_at hl 2 rfl) ?_
      refine addN hx hb dX4_sharedWith_15 ?_
      refine lv_aload_n hx hb dX4_sharedWith_16 rfl (lv_at hl 0 rfl) ?_
      refine va_get (D := D) (ci := 7) (v := .int (nI (sSiz S))) (C := RX4) (T := TX4) (N := 5) hx hb hts hinX4 hown hK hP 0 rfl rfl 1 (by decide) (hts (.fieldLink RX4 15 "BridgeAuction$Script" "size" "I") (by decide +kernel)) (fun _ h9 => h9) rfl dX4_sharedWith_17 ?_
      refine lv_icmp_ge (tgt := 48) hx hb dX4_sharedWith_20 (by decide) (fun c_20 => ?_) (fun c_20 => ?_)
      · have hz := hz.trans (if_pos c_20)
        have hz := up1 hq2 hz
        exact J48 (k2) ls hz  (lv_sub hl [2] rfl)
      · have hz := hz.trans (if_neg c_20)
        have q20 := ltN' (by have := tlen_le i; omega) c_20
        refine lv_aload_n hx hb dX4_sharedWith_23 rfl (lv_at hl 0 rfl) ?_
        refine va_get (D := D) (ci := 7) (v := .ref (sc 1)) (C := RX4) (T := TX4) (N := 5) hx hb hts hinX4 hown hK hP 0 rfl rfl 0 (by decide) (hts (.fieldLink RX4 9 "BridgeAuction$Script" "signs" "[C") (by decide +kernel)) (fun _ h9 => h9) rfl dX4_sharedWith_24 ?_
        refine lv_aload_n hx hb dX4_sharedWith_27 rfl (lv_at hl 0 rfl) ?_
        refine va_get (D := D) (ci := 7) (v := .int (nI (sAt S))) (C := RX4) (T := TX4) (N := 5) hx hb hts hinX4 hown hK hP 0 rfl rfl 2 (by decide) (hts (.fieldLink RX4 19 "BridgeAuction$Script" "at" "I") (by decide +kernel)) (fun _ h9 => h9) rfl dX4_sharedWith_28 ?_
        refine lv_iload_n hx hb dX4_sharedWith_31 rfl (lv_at hl 2 rfl) ?_
        refine addN hx hb dX4_sharedWith_32 ?_
        refine caldN (tys := tyA C) hx hb hK hP 1 1 rfl rfl (i := ((sAt S) + k2)) (by omega) (by decide) dX4_sharedWith_33 ?_
        refine lv_aload_n hx hb dX4_sharedWith_34 rfl (lv_at hl 1 rfl) ?_
        refine lv_iload_n hx hb dX4_sharedWith_35 rfl (lv_at hl 2 rfl) ?_
        refine callRo (va_runV (As := [.int (nI k2)]) (rest := [.int ((sSgn S) ((sAt S) + k2))]) ⟨hx, hb, hml, hown, hts⟩ (c_J0_charAt_5068e l D C ev i (k2) (by first | assumption | omega) (by first | assumption | omega)) (cwV 1 hts gX4_sharedWith_J0_charAt_5068e rfl rfl rfl (by decide +kernel) ⟨Nat.le_of_ble_eq_true rfl, Nat.le_of_ble_eq_true rfl⟩) (roPE_v (hP.sub (ws' := ([] : va_W)) [] rfl) hK hE hR hX hS (vk_recv (i := i) hTX (by omega) hS)) rfl rfl hl.1 rfl (lv_room (Nat.le_of_ble_eq_true rfl)) dX4_sharedWith_36 ⟨Nat.le_refl _, Nat.le_refl _⟩) ?_
        refine lv_icmp_ne (tgt := 48) hx hb dX4_sharedWith_39 (by decide) (fun c_39 => ?_) (fun c_39 => ?_)
        · have hz := hz.trans (if_neg c_39)
          have hz := up1 hq2 hz
          exact J48 (k2) ls hz  (lv_sub hl [2] rfl)
        · have hz := hz.trans (if_pos c_39)
          refine lv_iinc (v := (nI (k2 + 1))) (lv' := [(2, .int (nI (k2 + 1))), (0, .ref (sc 0)), (1, .ref (ev (40 + i)))]) hx hb dX4_sharedWith_42 hl (k := 2) rfl (by exact nI_1 _) (by decide) rfl (fun ls hl => ?_)
          refine lv_goto (tgt := 2) hx hb dX4_sharedWith_45 (by decide) ?_
          exact ih2 (k2 + 1)  ls (by omega) (by rw [hq2, hz]; rfl)  (lv_sub hl [1, 2, 0] rfl)
  refine lv_iconst (v := 0) hx hb dX4_sharedWith_0 (by decide) ?_
  refine lv_istore_n (lv' := [(2, .int 0), (0, .ref (sc 0)), (1, .ref (ev (40 + i)))]) hx hb dX4_sharedWith_1 rfl hl (by decide) rfl (fun ls hl => ?_)
  exact J2 (tlen i) 0  ls (by omega) hz  (lv_sub hl [1, 2, 0] rfl)

