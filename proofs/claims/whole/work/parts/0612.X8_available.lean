def f_X8_available_l14b (nw : (Nat → Int32)) (q : Nat) (k14 : Nat) (v2_14 : Int32) : Sum (Int32) (Int32) := (Sum.inr (v2_14 - (f_X8_reservedOn nw (q) ((nI k14)))))
def f_X8_available_l14x (nw : (Nat → Int32)) (q : Nat) (v2_14 : Int32) : Int32 := v2_14
def f_X8_available_l14s (nw : (Nat → Int32)) (q : Nat) (k14 : Nat) (q_ : Int32) : Sum (Int32) (Int32) := f_X8_available_l14b nw q k14 (q_)
def f_X8_available_l14e (nw : (Nat → Int32)) (q : Nat) (q_ : Int32) : Int32 := f_X8_available_l14x nw q (q_)
def f_X8_available_l14 (nw : (Nat → Int32)) (q : Nat) (n14 k14 : Nat) (v2_14 : Int32) : Int32 := lpF (f_X8_available_l14s nw q) (f_X8_available_l14e nw q) n14 k14 v2_14
def f_X8_available (nw : (Nat → Int32)) (q : Nat) : Int32 := (f_X8_available_l14 nw q (mS nw) 0 ((nw ((14 + 2 * q) + 0))))
set_option maxHeartbeats 4000000 in
set_option maxRecDepth 100000 in
theorem c_X8_available (l : Launch) (D : va_G) (C : Nat → ClassId) (b : Nat → Nat) (M : MS) (q : Nat) (hM : MSafe M) (h_q : q < 4) : Met l yX8_available wsX8_available ({ frames := 4, cells := 0, slots := 0, locals := 87 } : Room) (roP [.ref (b 0), .int (nI q)] D C (mcells C b M)) (roO (some (.int (f_X8_available (mNow M) q)))) 0 0 (fun _ => False) := by
  refine Met.ofW (cc := cX8_available) (maxL := 4) (ret := (some .int)) (by decide) rfl ?_
  intro p e s m args below meth c s₁ B hml hv
  obtain ⟨rfl, hP, hK, hE⟩ := hv
  have hx := B.exec
  have hb := B.bytes
  have hr := B.returns
  have hts := atoms_spec (ws := wsX8_available) B.pre
  have hown : s.vm.findClass RX8 = some m.cls := findClass_of_methodNamed B.named
  have hlocks := B.notSynchronized
  obtain ⟨⟨hS2, hS12⟩, ⟨hP2, hP4⟩, hLH, hFE⟩ := id hM
  have hinX8 : ∀ w ∈ u_ws RX8 TX8 20, w ∈ wsX8_available := by decide +kernel
  have hl := lv_entry ([.ref (b 0), .int (nI q)]) (n := 4) (Nat.le_of_ble_eq_true rfl)
  rw [lg_entry_eq]
  generalize (lg_sl ([.ref (b 0), .int (nI q)]) ++ List.replicate (4 - (lg_sl ([.ref (b 0), .int (nI q)])).length) Slot.unset).toArray = ls at hl ⊢
  have hl : lv_has ls 4 [(0, .ref (b 0)), (1, .int (nI q))] := hl
  obtain ⟨z, hz⟩ : ∃ z, z = f_X8_available (mNow M) q := ⟨_, rfl⟩
  rw [← hz]
  have J14 : ∀ (n14 k14 : Nat) (v2_14 : Int32) (ls : Array Slot), k14 + n14 = mS (mNow M) → z = f_X8_available_l14 (mNow M) q n14 k14 v2_14 → lv_has ls 4 [(0, .ref (b 0)), (1, .int (nI q)), (2, .int v2_14), (3, .int (nI k14))] → W p l e ({ frames := 4, cells := 0, slots := 0, locals := 87 } : Room) s m ([.ref (b 0), .int (nI q)] : List Value).toArray below meth c s.heap [] 0 0 (MQ below (roO (some (.int z))) ([.ref (b 0), .int (nI q)] : List Value).toArray s 0 0 (fun _ => False)) (F0 m 14 ls []) := by
    intro n14
    induction n14 with
    | zero =>
      intro k14 v2_14 ls hk14 hz  hl
      have hz : z = f_X8_available_l14x (mNow M) q v2_14 := hz
      refine lv_iload_n hx hb dX8_available_14 rfl (lv_at hl 3 rfl) ?_
      refine lv_aload_n hx hb dX8_available_15 rfl (lv_at hl 0 rfl) ?_
      refine va_get (D := D) (ci := 9) (v := .ref (b 1)) (C := RX8) (T := TX8) (N := 20) hx hb hts hinX8 hown hK hP 0 rfl rfl 0 (by decide) (hts (.fieldLink RX8 9 "BridgeAuctionModel" "now" "[I") (by decide +kernel)) (fun _ h9 => h9) rfl dX8_available_16 ?_
      refine lv_iconst (v := 2) hx hb dX8_available_19 (by decide) ?_
      refine topN (k := 2) (by decide +kernel) ?_
      refine ialdN (tys := tyA C) hx hb hK hP 1 0 rfl rfl (i := 2) (by omega) (by decide) dX8_available_20 ?_
      refine topN (k := mS (mNow M)) (by first | exact hS2 | exact hP2) ?_
      refine lv_icmp_ge (tgt := 39) hx hb dX8_available_21 (by decide) (fun c_21 => ?_) (fun c_21 => absurd (nI_le (by omega) (by omega)) c_21)
      refine lv_iload_n hx hb dX8_available_39 rfl (lv_at hl 2 rfl) ?_
      exact ro_ret hx hb hr hz dX8_available_40 hlocks
    | succ n14 ih14 =>
      intro k14 v2_14 ls hk14 hz14  hl
      obtain ⟨z14, hz⟩ : ∃ zz_, zz_ = f_X8_available_l14b (mNow M) q k14 v2_14 := ⟨_, rfl⟩
      have hq14 : z = sE id (fun q_ => lpF (f_X8_available_l14s (mNow M) q) (f_X8_available_l14e (mNow M) q) n14 (k14 + 1) q_) z14 := by rw [hz14, hz]; rfl
      refine lv_iload_n hx hb dX8_available_14 rfl (lv_at hl 3 rfl) ?_
      refine lv_aload_n hx hb dX8_available_15 rfl (lv_at hl 0 rfl) ?_
      refine va_get (D := D) (ci := 9) (v := .ref (b 1)) (C := RX8) (T := TX8) (N := 20) hx hb hts hinX8 hown hK hP 0 rfl rfl 0 (by decide) (hts (.fieldLink RX8 9 "BridgeAuctionModel" "now" "[I") (by decide +kernel)) (fun _ h9 => h9) rfl dX8_available_16 ?_
      refine lv_iconst (v := 2) hx hb dX8_available_19 (by decide) ?_
      refine topN (k := 2) (by decide +kernel) ?_
      refine ialdN (tys := tyA C) hx hb hK hP 1 0 rfl rfl (i := 2) (by omega) (by decide) dX8_available_20 ?_
      refine topN (k := mS (mNow M)) (by first | exact hS2 | exact hP2) ?_
      refine lv_icmp_ge (tgt := 39) hx hb dX8_available_21 (by decide) (fun c_21 => absurd c_21 (nI_ge (by omega) (by omega))) (fun c_21 => ?_)
      refine lv_iload_n hx hb dX8_available_24 rfl (lv_at hl 2 rfl) ?_
      refine lv_aload_n hx hb dX8_available_25 rfl (lv_at hl 0 rfl) ?_
      refine lv_iload_n hx hb dX8_available_26 rfl (lv_at hl 1 rfl) ?_
      refine lv_iload_n hx hb dX8_available_27 rfl (lv_at hl 3 rfl) ?_
      refine callRo (va_runV (As := [.int (nI q), .int (nI k14)]) (rest := [.int v2_14]) ⟨hx, hb, hml, hown, hts⟩ (c_X8_reservedOn l D C b M (q) ((nI k14)) hM (by omega)) (cwV 2 hts gX8_available_X8_reservedOn rfl rfl rfl (by decide +kernel) ⟨Nat.le_of_ble_eq_true rfl, Nat.le_of_ble_eq_true rfl⟩) (roP_v hP hK hE (va_recv hK hP (ci := 9) (q0 := 0) rfl rfl)) rfl rfl hl.1 rfl (lv_room (Nat.le_of_ble_eq_true rfl)) dX8_available_28 ⟨Nat.le_refl _, Nat.le_refl _⟩) ?_
      refine lv_isub hx hb dX8_available_31 ?_
      refine lv_istore_n (lv' := [(2, .int (v2_14 - (f_X8_reservedOn (mNow M) (q) ((nI k14))))), (0, .ref (b 0)), (1, .int (nI q)), (3, .int (nI k14))]) hx hb dX8_available_32 rfl hl (by decide) rfl (fun ls hl => ?_)
      refine lv_iinc (v := (nI (k14 + 1))) (lv' := [(3, .int (nI (k14 + 1))), (2, .int (v2_14 - (f_X8_reservedOn (mNow M) (q) ((nI k14))))), (0, .ref (b 0)), (1, .int (nI q))]) hx hb dX8_available_33 hl (k := 3) rfl (by exact nI_1 _) (by decide) rfl (fun ls hl => ?_)
      refine lv_goto (tgt := 14) hx hb dX8_available_36 (by decide) ?_
      exact ih14 (k14 + 1) ((v2_14 - (f_X8_reservedOn (mNow M) (q) ((nI k14))))) ls (by omega) (by rw [hq14, hz]; rfl)  (lv_sub hl [2, 3, 1, 0] rfl)
  refine lv_aload_n hx hb dX8_available_0 rfl (lv_at hl 0 rfl) ?_
  refine va_get (D := D) (ci := 9) (v := .ref (b 1)) (C := RX8) (T := TX8) (N := 20) hx hb hts hinX8 hown hK hP 0 rfl rfl 0 (by decide) (hts (.fieldLink RX8 9 "BridgeAuctionModel" "now" "[I") (by decide +kernel)) (fun _ h9 => h9) rfl dX8_available_1 ?_
  refine lv_iload_n hx hb dX8_available_4 rfl (lv_at hl 1 rfl) ?_
  refine callRo (va_runS (As := [.int (nI q)]) (rest := [.ref (b 1)]) ⟨hx, hb, hml, hown, hts⟩ (c_X8_playerAt l D C (q) (by omega)) (va_cwS 1 hts gX8_available_X8_playerAt rfl rfl rfl (by decide +kernel) ⟨Nat.le_of_ble_eq_true rfl, Nat.le_of_ble_eq_true rfl⟩) (roP_s (hP.sub (ws' := ([] : va_W)) [] rfl) hK hE) rfl rfl hl.1 rfl (lv_room (Nat.le_of_ble_eq_true rfl)) dX8_available_5 ⟨Nat.le_refl _, Nat.le_refl _⟩) ?_
  refine topN (k := (14 + 2 * q)) rfl ?_
  refine lv_iconst (v := 0) hx hb dX8_available_8 (by decide) ?_
  refine topN (k := 0) (by decide +kernel) ?_
  refine addN hx hb dX8_available_9 ?_
  refine ialdN (tys := tyA C) hx hb hK hP 1 0 rfl rfl (i := ((14 + 2 * q) + 0)) (by omega) (by decide) dX8_available_10 ?_
  refine lv_istore_n (lv' := [(2, .int ((mNow M) ((14 + 2 * q) + 0))), (0, .ref (b 0)), (1, .int (nI q))]) hx hb dX8_available_11 rfl hl (by decide) rfl (fun ls hl => ?_)
  refine lv_iconst (v := 0) hx hb dX8_available_12 (by decide) ?_
  refine lv_istore_n (lv' := [(3, .int 0), (2, .int ((mNow M) ((14 + 2 * q) + 0))), (0, .ref (b 0)), (1, .int (nI q))]) hx hb dX8_available_13 rfl hl (by decide) rfl (fun ls hl => ?_)
  exact J14 (mS (mNow M)) 0 (((mNow M) ((14 + 2 * q) + 0))) ls (by omega) hz  (lv_sub hl [2, 3, 1, 0] rfl)

