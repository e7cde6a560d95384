def f_X8_winner_j60  (s0_60 : Int32) : Int32 := s0_60
def f_X8_winner_j33  (s0_33 : Nat) : Sum (Int32) (Nat) := (Sum.inr s0_33)
def f_X8_winner_l4b (nw : (Nat → Int32)) (x : Int32) (k4 : Nat) (v2_4 : Nat) : Sum (Int32) (Nat) := (if (f_X8_of nw (x) ((5 + k4))) ≤ (f_X8_of nw (x) ((5 + v2_4))) then (f_X8_winner_j33 (v2_4)) else (f_X8_winner_j33 (k4)))
def f_X8_winner_l4x (nw : (Nat → Int32)) (x : Int32) (v2_4 : Nat) : Int32 := (if (f_X8_of nw (x) (4)) = (-1) then (f_X8_winner_j60 ((nI v2_4))) else (f_X8_winner_j60 ((f_X8_of nw (x) (4)))))
def f_X8_winner_l4s (nw : (Nat → Int32)) (x : Int32) (k4 : Nat) (q_ : Nat) : Sum (Int32) (Nat) := f_X8_winner_l4b nw x k4 (q_)
def f_X8_winner_l4e (nw : (Nat → Int32)) (x : Int32) (q_ : Nat) : Int32 := f_X8_winner_l4x nw x (q_)
def f_X8_winner_l4 (nw : (Nat → Int32)) (x : Int32) (n4 k4 : Nat) (v2_4 : Nat) : Int32 := lpF (f_X8_winner_l4s nw x) (f_X8_winner_l4e nw x) n4 k4 v2_4
def f_X8_winner (nw : (Nat → Int32)) (x : Int32) : Int32 := (f_X8_winner_l4 nw x (4 - 1) 1 (0))
set_option maxHeartbeats 4000000 in
set_option maxRecDepth 100000 in
theorem c_X8_winner (l : Launch) (D : va_G) (C : Nat → ClassId) (b : Nat → Nat) (M : MS) (x : Int32) (hM : MSafe M) : Met l yX8_winner wsX8_winner ({ frames := 3, cells := 0, slots := 0, locals := 65 } : Room) (roP [.ref (b 0), .int x] D C (mcells C b M)) (roO (some (.int (f_X8_winner (mNow M) x)))) 0 0 (fun _ => False) := by
  refine Met.ofW (cc := cX8_winner) (maxL := 4) (ret := (some .int)) (by decide) rfl ?_
  intro p e s m args below meth c s₁ B hml hv
  obtain ⟨rfl, hP, hK, hE⟩ := hv
  have hx := B.exec
  have hb := B.bytes
  have hr := B.returns
  have hts := atoms_spec (ws := wsX8_winner) B.pre
  have hown : s.vm.findClass RX8 = some m.cls := findClass_of_methodNamed B.named
  have hlocks := B.notSynchronized
  obtain ⟨⟨hS2, hS12⟩, ⟨hP2, hP4⟩, hLH, hFE⟩ := id hM
  have hl := lv_entry ([.ref (b 0), .int x]) (n := 4) (Nat.le_of_ble_eq_true rfl)
  rw [lg_entry_eq]
  generalize (lg_sl ([.ref (b 0), .int x]) ++ List.replicate (4 - (lg_sl ([.ref (b 0), .int x])).length) Slot.unset).toArray = ls at hl ⊢
  have hl : lv_has ls 4 [(0, .ref (b 0)), (1, .int x)] := hl
  obtain ⟨z, hz⟩ : ∃ z, z = f_X8_winner (mNow M) x := ⟨_, rfl⟩
  rw [← hz]
  have J60 : ∀ (s0_60 : Int32)  (ls : Array Slot), z = f_X8_winner_j60 s0_60 → lv_has ls 4 [] → W p l e ({ frames := 3, cells := 0, slots := 0, locals := 65 } : Room) s m ([.ref (b 0), .int x] : List Value).toArray below meth c s.heap [] 0 0 (MQ below (roO (some (.int z))) ([.ref (b 0), .int x] : List Value).toArray s 0 0 (fun _ => False)) (F0 m 60 ls [.int s0_60]) := by
    intro s0_60 ls hz  hl
    exact ro_ret hx hb hr hz dX8_winner_60 hlocks
  have J4 : ∀ (n4 k4 : Nat) (v2_4 : Nat) (ls : Array Slot), k4 + n4 = 4 → z = f_X8_winner_l4 (mNow M) x n4 k4 v2_4 → (v2_4 < 4) → lv_has ls 4 [(0, .ref (b 0)), (1, .int x), (2, .int (nI v2_4)), (3, .int (nI k4))] → W p l e ({ frames := 3, cells := 0, slots := 0, locals := 65 } : Room) s m ([.ref (b 0), .int x] : List Value).toArray below meth c s.heap [] 0 0 (MQ below (roO (some (.int z))) ([.ref (b 0), .int x] : List Value).toArray s 0 0 (fun _ => False)) (F0 m 4 ls []) := by
    intro n4
    induction n4 with
    | zero =>
      intro k4 v2_4 ls hk4 hz iv4_0 hl
      have hz : z = f_X8_winner_l4x (mNow M) x v2_4 := hz
      refine lv_iload_n hx hb dX8_winner_4 rfl (lv_at hl 3 rfl) ?_
      refine lv_iconst (v := 4) hx hb dX8_winner_5 (by decide) ?_
      refine lv_icmp_ge (tgt := 40) hx hb dX8_winner_6 (by decide) (fun c_6 => ?_) (fun c_6 => absurd (by have e : (4 : Int32) = nI 4 := (by decide +kernel); rw [e]; exact nI_le (by omega) (by omega)) c_6)
      refine lv_aload_n hx hb dX8_winner_40 rfl (lv_at hl 0 rfl) ?_
      refine lv_iload_n hx hb dX8_winner_41 rfl (lv_at hl 1 rfl) ?_
      refine lv_iconst (v := 4) hx hb dX8_winner_42 (by decide) ?_
      refine topN (k := 4) (by decide +kernel) ?_
      refine callRo (va_runV (As := [.int x, .int (nI 4)]) (rest := []) ⟨hx, hb, hml, hown, hts⟩ (c_X8_of l D C b M (x) (4) hM (by omega)) (cwV 2 hts gX8_winner_X8_of rfl rfl rfl (by decide +kernel) ⟨Nat.le_of_ble_eq_true rfl, Nat.le_of_ble_eq_true rfl⟩) (roP_v hP hK hE (va_recv hK hP (ci := 9) (q0 := 0) rfl rfl)) rfl rfl hl.1 rfl (lv_room (Nat.le_of_ble_eq_true rfl)) dX8_winner_43 ⟨Nat.le_refl _, Nat.le_refl _⟩) ?_
      refine lv_iconst (v := (-1)) hx hb dX8_winner_46 (by decide) ?_
      refine lv_icmp_ne (tgt := 54) hx hb dX8_winner_47 (by decide) (fun c_47 => ?_) (fun c_47 => ?_)
      · have hz := hz.trans (if_neg c_47)
        refine lv_aload_n hx hb dX8_winner_54 rfl (lv_at hl 0 rfl) ?_
        refine lv_iload_n hx hb dX8_winner_55 rfl (lv_at hl 1 rfl) ?_
        refine lv_iconst (v := 4) hx hb dX8_winner_56 (by decide) ?_
        refine topN (k := 4) (by decide +kernel) ?_
        refine callRo (va_runV (As := [.int x, .int (nI 4)]) (rest := []) ⟨hx, hb, hml, hown, hts⟩ (c_X8_of l D C b M (x) (4) hM (by omega)) (cwV 2 hts gX8_winner_X8_of rfl rfl rfl (by decide +kernel) ⟨Nat.le_of_ble_eq_true rfl, Nat.le_of_ble_eq_true rfl⟩) (roP_v hP hK hE (va_recv hK hP (ci := 9) (q0 := 0) rfl rfl)) rfl rfl hl.1 rfl (lv_room (Nat.le_of_ble_eq_true rfl)) dX8_winner_57 ⟨Nat.le_refl _, Nat.le_refl _⟩) ?_
        exact J60 ((f_X8_of (mNow M) (x) (4))) ls hz  (lv_sub hl [] rfl)
      · have hz := hz.trans (if_pos c_47)
        refine lv_iload_n hx hb dX8_winner_50 rfl (lv_at hl 2 rfl) ?_
        refine lv_goto (tgt := 60) hx hb dX8_winner_51 (by decide) ?_
        exact J60 ((nI v2_4)) ls hz  (lv_sub hl [] rfl)
    | succ n4 ih4 =>
      intro k4 v2_4 ls hk4 hz4 iv4_0 hl
      obtain ⟨z4, hz⟩ : ∃ zz_, zz_ = f_X8_winner_l4b (mNow M) x k4 v2_4 := ⟨_, rfl⟩
      have hq4 : z = sE id (fun q_ => lpF (f_X8_winner_l4s (mNow M) x) (f_X8_winner_l4e (mNow M) x) n4 (k4 + 1) q_) z4 := by rw [hz4, hz]; rfl
      have J33 : ∀ (s0_33 : Nat)  (ls : Array Slot), z4 = f_X8_winner_j33 s0_33 → (s0_33 < 4) → lv_has ls 4 [(0, .ref (b 0)), (1, .int x), (3, .int (nI k4))] → W p l e ({ frames := 3, cells := 0, slots := 0, locals := 65 } : Room) s m ([.ref (b 0), .int x] : List Value).toArray below meth c s.heap [] 0 0 (MQ below (roO (some (.int z))) ([.ref (b 0), .int x] : List Value).toArray s 0 0 (fun _ => False)) (F0 m 33 ls [.int (nI s0_33)]) := by
        intro s0_33 ls hz iv33_0 hl
        refine lv_istore_n (lv' := [(2, .int (nI s0_33)), (0, .ref (b 0)), (1, .int x), (3, .int (nI k4))]) hx hb dX8_winner_33 rfl hl (by decide) rfl (fun ls hl => ?_)
        refine lv_iinc (v := (nI (k4 + 1))) (lv' := [(3, .int (nI (k4 + 1))), (2, .int (nI s0_33)), (0, .ref (b 0)), (1, .int x)]) hx hb dX8_winner_34 hl (k := 3) rfl (by exact nI_1 _) (by decide) rfl (fun ls hl => ?_)
        refine lv_goto (tgt := 4) hx hb dX8_winner_37 (by decide) ?_
        exact ih4 (k4 + 1) (s0_33) ls (by omega) (by rw [hq4, hz]; rfl) (by omega) (lv_sub hl [2, 3, 1, 0] rfl)
      refine lv_iload_n hx hb dX8_winner_4 rfl (lv_at hl 3 rfl) ?_
      refine lv_iconst (v := 4) hx hb dX8_winner_5 (by decide) ?_
      refine lv_icmp_ge (tgt := 40) hx hb dX8_winner_6 (by decide) (fun c_6 => absurd c_6 (by have e : (4 : Int32) = nI 4 := (by decide +kernel); rw [e]; exact nI_ge (by omega) (by omega))) (fun c_6 => ?_)
      refine lv_aload_n hx hb dX8_winner_9 rfl (lv_at hl 0 rfl) ?_
      refine lv_iload_n hx hb dX8_winner_10 rfl (lv_at hl 1 rfl) ?_
      refine lv_iconst (v := 5) hx hb dX8_winner_11 (by decide) ?_
      refine lv_iload_n hx hb dX8_winner_12 rfl (lv_at hl 3 rfl) ?_
      refine topN2 (k := 5) (by decide +kernel) ?_
      refine addN hx hb dX8_winner_13 ?_
      refine callRo (va_runV (As := [.int x, .int (nI (5 + k4))]) (rest := []) ⟨hx, hb, hml, hown, hts⟩ (c_X8_of l D C b M (x) ((5 + k4)) hM (by omega)) (cwV 2 hts gX8_winner_X8_of rfl rfl rfl (by decide +kernel) ⟨Nat.le_of_ble_eq_true rfl, Nat.le_of_ble_eq_true rfl⟩) (roP_v hP hK hE (va_recv hK hP (ci := 9) (q0 := 0) rfl rfl)) rfl rfl hl.1 rfl (lv_room (Nat.le_of_ble_eq_true rfl)) dX8_winner_14 ⟨Nat.le_refl _, Nat.le_refl _⟩) ?_
      refine lv_aload_n hx hb dX8_winner_17 rfl (lv_at hl 0 rfl) ?_
      refine lv_iload_n hx hb dX8_winner_18 rfl (lv_at hl 1 rfl) ?_
      refine lv_iconst (v := 5) hx hb dX8_winner_19 (by decide) ?_
      refine lv_iload_n hx hb dX8_winner_20 rfl (lv_at hl 2 rfl) ?_
      refine topN2 (k := 5) (by decide +kernel) ?_
      refine addN hx hb dX8_winner_21 ?_
      refine callRo (va_runV (As := [.int x, .int (nI (5 + v2_4))]) (rest := [.int (f_X8_of (mNow M) (x) ((5 + k4)))]) ⟨hx, hb, hml, hown, hts⟩ (c_X8_of l D C b M (x) ((5 + v2_4)) hM (by omega)) (cwV 2 hts gX8_winner_X8_of rfl rfl rfl (by decide +kernel) ⟨Nat.le_of_ble_eq_true rfl, Nat.le_of_ble_eq_true rfl⟩) (roP_v hP hK hE (va_recv hK hP (ci := 9) (q0 := 0) rfl rfl)) rfl rfl hl.1 rfl (lv_room (Nat.le_of_ble_eq_true rfl)) dX8_winner_22 ⟨Nat.le_refl _, Nat.le_refl _⟩) ?_
      refine lv_icmp_le (tgt := 32) hx hb dX8_winner_25 (by decide) (fun c_25 => ?_) (fun c_25 => ?_)
      · have hz := hz.trans (if_pos c_25)
        refine lv_iload_n hx hb dX8_winner_32 rfl (lv_at hl 2 rfl) ?_
        exact J33 (v2_4) ls hz (by omega) (lv_sub hl [0, 1, 3] rfl)
      · have hz := hz.trans (if_neg c_25)
        refine lv_iload_n hx hb dX8_winner_28 rfl (lv_at hl 3 rfl) ?_
        refine lv_goto (tgt := 33) hx hb dX8_winner_29 (by decide) ?_
        exact J33 (k4) ls hz (by omega) (lv_sub hl [0, 1, 3] rfl)
  refine lv_iconst (v := 0) hx hb dX8_winner_0 (by decide) ?_
  refine lv_istore_n (lv' := [(2, .int 0), (0, .ref (b 0)), (1, .int x)]) hx hb dX8_winner_1 rfl hl (by decide) rfl (fun ls hl => ?_)
  refine lv_iconst (v := 1) hx hb dX8_winner_2 (by decide) ?_
  refine lv_istore_n (lv' := [(3, .int 1), (2, .int 0), (0, .ref (b 0)), (1, .int x)]) hx hb dX8_winner_3 rfl hl (by decide) rfl (fun ls hl => ?_)
  exact J4 (4 - 1) 1 (0) ls (by omega) hz (by omega) (lv_sub hl [2, 3, 1, 0] rfl)

