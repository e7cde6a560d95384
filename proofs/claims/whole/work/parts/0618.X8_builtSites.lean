def f_X8_builtSites_j28  (s0_28 : Bool) (s1_28 : Int32) : Sum (Int32) (Int32) := (Sum.inr (s1_28 + (bI s0_28)))
def f_X8_builtSites_l4b (nw : (Nat → Int32)) (k4 : Nat) (v1_4 : Int32) : Sum (Int32) (Int32) := (if (f_X8_isDone nw ((nI k4))) = true then (f_X8_builtSites_j28 (true) (v1_4)) else (f_X8_builtSites_j28 (false) (v1_4)))
def f_X8_builtSites_l4x (nw : (Nat → Int32)) (v1_4 : Int32) : Int32 := v1_4
def f_X8_builtSites_l4s (nw : (Nat → Int32)) (k4 : Nat) (q_ : Int32) : Sum (Int32) (Int32) := f_X8_builtSites_l4b nw k4 (q_)
def f_X8_builtSites_l4e (nw : (Nat → Int32)) (q_ : Int32) : Int32 := f_X8_builtSites_l4x nw (q_)
def f_X8_builtSites_l4 (nw : (Nat → Int32)) (n4 k4 : Nat) (v1_4 : Int32) : Int32 := lpF (f_X8_builtSites_l4s nw) (f_X8_builtSites_l4e nw) n4 k4 v1_4
def f_X8_builtSites (nw : (Nat → Int32)) : Int32 := (f_X8_builtSites_l4 nw (mS nw) 0 (0))
set_option maxHeartbeats 4000000 in
set_option maxRecDepth 100000 in
theorem c_X8_builtSites (l : Launch) (D : va_G) (C : Nat → ClassId) (b : Nat → Nat) (M : MS) (hM : MSafe M) : Met l yX8_builtSites wsX8_builtSites ({ frames := 4, cells := 0, slots := 0, locals := 86 } : Room) (roP [.ref (b 0)] D C (mcells C b M)) (roO (some (.int (f_X8_builtSites (mNow M))))) 0 0 (fun _ => False) := by
  refine Met.ofW (cc := cX8_builtSites) (maxL := 3) (ret := (some .int)) (by decide) rfl ?_
  intro p e s m args below meth c s₁ B hml hv
  obtain ⟨rfl, hP, hK, hE⟩ := hv
  have hx := B.exec
  have hb := B.bytes
  have hr := B.returns
  have hts := atoms_spec (ws := wsX8_builtSites) B.pre
  have hown : s.vm.findClass RX8 = some m.cls := findClass_of_methodNamed B.named
  have hlocks := B.notSynchronized
  obtain ⟨⟨hS2, hS12⟩, ⟨hP2, hP4⟩, hLH, hFE⟩ := id hM
  have hinX8 : ∀ w ∈ u_ws RX8 TX8 20, w ∈ wsX8_builtSites := by decide +kernel
  have hl := lv_entry ([.ref (b 0)]) (n := 3) (Nat.le_of_ble_eq_true rfl)
  rw [lg_entry_eq]
  generalize (lg_sl ([.ref (b 0)]) ++ List.replicate (3 - (lg_sl ([.ref (b 0)])).length) Slot.unset).toArray = ls at hl ⊢
  have hl : lv_has ls 3 [(0, .ref (b 0))] := hl
  obtain ⟨z, hz⟩ : ∃ z, z = f_X8_builtSites (mNow M) := ⟨_, rfl⟩
  rw [← hz]
  have J4 : ∀ (n4 k4 : Nat) (v1_4 : Int32) (ls : Array Slot), k4 + n4 = mS (mNow M) → z = f_X8_builtSites_l4 (mNow M) n4 k4 v1_4 → lv_has ls 3 [(0, .ref (b 0)), (1, .int v1_4), (2, .int (nI k4))] → W p l e ({ frames := 4, cells := 0, slots := 0, locals := 86 } : Room) s m ([.ref (b 0)] : List Value).toArray below meth c s.heap [] 0 0 (MQ below (roO (some (.int z))) ([.ref (b 0)] : List Value).toArray s 0 0 (fun _ => False)) (F0 m 4 ls []) := by
    intro n4
    induction n4 with
    | zero =>
      intro k4 v1_4 ls hk4 hz  hl
      have hz : z = f_X8_builtSites_l4x (mNow M) v1_4 := hz
      refine lv_iload_n hx hb dX8_builtSites_4 rfl (lv_at hl 2 rfl) ?_
      refine lv_aload_n hx hb dX8_builtSites_5 rfl (lv_at hl 0 rfl) ?_
      refine va_get (D := D) (ci := 9) (v := .ref (b 1)) (C := RX8) (T := TX8) (N := 20) hx hb hts hinX8 hown hK hP 0 rfl rfl 0 (by decide) (hts (.fieldLink RX8 9 "BridgeAuctionModel" "now" "[I") (by decide +kernel)) (fun _ h9 => h9) rfl dX8_builtSites_6 ?_
      refine lv_iconst (v := 2) hx hb dX8_builtSites_9 (by decide) ?_
      refine topN (k := 2) (by decide +kernel) ?_
      refine ialdN (tys := tyA C) hx hb hK hP 1 0 rfl rfl (i := 2) (by omega) (by decide) dX8_builtSites_10 ?_
      refine topN (k := mS (mNow M)) (by first | exact hS2 | exact hP2) ?_
      refine lv_icmp_ge (tgt := 36) hx hb dX8_builtSites_11 (by decide) (fun c_11 => ?_) (fun c_11 => absurd (nI_le (by omega) (by omega)) c_11)
      refine lv_iload_n hx hb dX8_builtSites_36 rfl (lv_at hl 1 rfl) ?_
      exact ro_ret hx hb hr hz dX8_builtSites_37 hlocks
    | succ n4 ih4 =>
      intro k4 v1_4 ls hk4 hz4  hl
      obtain ⟨z4, hz⟩ : ∃ zz_, zz_ = f_X8_builtSites_l4b (mNow M) k4 v1_4 := ⟨_, rfl⟩
      have hq4 : z = sE id (fun q_ => lpF (f_X8_builtSites_l4s (mNow M)) (f_X8_builtSites_l4e (mNow M)) n4 (k4 + 1) q_) z4 := by rw [hz4, hz]; rfl
      have J28 : ∀ (s0_28 : Bool) (s1_28 : Int32)  (ls : Array Slot), z4 = f_X8_builtSites_j28 s0_28 s1_28 → lv_has ls 3 [(0, .ref (b 0)), (2, .int (nI k4))] → W p l e ({ frames := 4, cells := 0, slots := 0, locals := 86 } : Room) s m ([.ref (b 0)] : List Value).toArray below meth c s.heap [] 0 0 (MQ below (roO (some (.int z))) ([.ref (b 0)] : List Value).toArray s 0 0 (fun _ => False)) (F0 m 28 ls [.int (bI s0_28), .int s1_28]) := by
        intro s0_28 s1_28 ls hz  hl
        refine lv_iadd hx hb dX8_builtSites_28 ?_
        refine lv_istore_n (lv' := [(1, .int (s1_28 + (bI s0_28))), (0, .ref (b 0)), (2, .int (nI k4))]) hx hb dX8_builtSites_29 rfl hl (by decide) rfl (fun ls hl => ?_)
        refine lv_iinc (v := (nI (k4 + 1))) (lv' := [(2, .int (nI (k4 + 1))), (1, .int (s1_28 + (bI s0_28))), (0, .ref (b 0))]) hx hb dX8_builtSites_30 hl (k := 2) rfl (by exact nI_1 _) (by decide) rfl (fun ls hl => ?_)
        refine lv_goto (tgt := 4) hx hb dX8_builtSites_33 (by decide) ?_
        exact ih4 (k4 + 1) ((s1_28 + (bI s0_28))) ls (by omega) (by rw [hq4, hz]; rfl)  (lv_sub hl [2, 1, 0] rfl)
      refine lv_iload_n hx hb dX8_builtSites_4 rfl (lv_at hl 2 rfl) ?_
      refine lv_aload_n hx hb dX8_builtSites_5 rfl (lv_at hl 0 rfl) ?_
      refine va_get (D := D) (ci := 9) (v := .ref (b 1)) (C := RX8) (T := TX8) (N := 20) hx hb hts hinX8 hown hK hP 0 rfl rfl 0 (by decide) (hts (.fieldLink RX8 9 "BridgeAuctionModel" "now" "[I") (by decide +kernel)) (fun _ h9 => h9) rfl dX8_builtSites_6 ?_
      refine lv_iconst (v := 2) hx hb dX8_builtSites_9 (by decide) ?_
      refine topN (k := 2) (by decide +kernel) ?_
      refine ialdN (tys := tyA C) hx hb hK hP 1 0 rfl rfl (i := 2) (by omega) (by decide) dX8_builtSites_10 ?_
      refine topN (k := mS (mNow M)) (by first | exact hS2 | exact hP2) ?_
      refine lv_icmp_ge (tgt := 36) hx hb dX8_builtSites_11 (by decide) (fun c_11 => absurd c_11 (nI_ge (by omega) (by omega))) (fun c_11 => ?_)
      refine lv_iload_n hx hb dX8_builtSites_14 rfl (lv_at hl 1 rfl) ?_
      refine lv_aload_n hx hb dX8_builtSites_15 rfl (lv_at hl 0 rfl) ?_
      refine lv_iload_n hx hb dX8_builtSites_16 rfl (lv_at hl 2 rfl) ?_
      refine callRo (va_runV (As := [.int (nI k4)]) (rest := [.int v1_4]) ⟨hx, hb, hml, hown, hts⟩ (c_X8_isDone l D C b M ((nI k4)) hM) (cwV 1 hts gX8_builtSites_X8_isDone rfl rfl rfl (by decide +kernel) ⟨Nat.le_of_ble_eq_true rfl, Nat.le_of_ble_eq_true rfl⟩) (roP_v hP hK hE (va_recv hK hP (ci := 9) (q0 := 0) rfl rfl)) rfl rfl hl.1 rfl (lv_room (Nat.le_of_ble_eq_true rfl)) dX8_builtSites_17 ⟨Nat.le_refl _, Nat.le_refl _⟩) ?_
      refine bif_eq (tgt := 27) hx hb dX8_builtSites_20 (by decide) (fun c_20 => ?_) (fun c_20 => ?_)
      · have hz := hz.trans (ifB_f c_20)
        refine lv_iconst (v := 0) hx hb dX8_builtSites_27 (by decide) ?_
        exact J28 (false) (v1_4) ls hz  (lv_sub hl [0, 2] rfl)
      · have hz := hz.trans (ifB_t c_20)
        refine lv_iconst (v := 1) hx hb dX8_builtSites_23 (by decide) ?_
        refine lv_goto (tgt := 28) hx hb dX8_builtSites_24 (by decide) ?_
        exact J28 (true) (v1_4) ls hz  (lv_sub hl [0, 2] rfl)
  refine lv_iconst (v := 0) hx hb dX8_builtSites_0 (by decide) ?_
  refine lv_istore_n (lv' := [(1, .int 0), (0, .ref (b 0))]) hx hb dX8_builtSites_1 rfl hl (by decide) rfl (fun ls hl => ?_)
  refine lv_iconst (v := 0) hx hb dX8_builtSites_2 (by decide) ?_
  refine lv_istore_n (lv' := [(2, .int 0), (1, .int 0), (0, .ref (b 0))]) hx hb dX8_builtSites_3 rfl hl (by decide) rfl (fun ls hl => ?_)
  exact J4 (mS (mNow M)) 0 (0) ls (by omega) hz  (lv_sub hl [2, 1, 0] rfl)

