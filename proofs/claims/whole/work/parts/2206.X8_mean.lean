def f_X8_meanSum (nw : Nat → Int32) (n : Nat) : Int32 := itF (fun k v => v + (if f_X8_isDone nw (nI k) = true then f_X8_of nw (nI k) 2 else 0)) n 0 0
def f_X8_meanBridgeLength (nw : Nat → Int32) : UInt64 × Int32 := if f_X8_builtSites nw ≤ 0 then (FP.dconst0, gThr false) else (FP.ddiv (FP.i2d (f_X8_meanSum nw (mS nw))) (FP.i2d (f_X8_builtSites nw)), gThr true)
set_option maxHeartbeats 4000000 in
set_option maxRecDepth 100000 in
theorem c_X8_meanBridgeLength (l : Launch) (D : va_G) (C : Nat → ClassId) (b : Nat → Nat) (M : MS) (sz : Nat) (hM : MSafe M) (hne : ¬ f_X8_builtSites (mNow M) ≤ 0 → vf_n64 (FP.ddiv (FP.i2d (f_X8_meanSum (mNow M) (mS (mNow M)))) (FP.i2d (f_X8_builtSites (mNow M))))) : Met l yX8_meanBridgeLength wsX8_meanBridgeLength ({ frames := 6, cells := 0, slots := 0, locals := 150 } : Room) (rwP [.ref (b 0)] D C (mcells C b M) sz) (rwO (some (.double (f_X8_meanBridgeLength (mNow M)).1)) D (mcells C b (mThrS M (f_X8_meanBridgeLength (mNow M)).2)) (va_A (mcells C b M) sz)) 0 0 (va_A (mcells C b M) sz) := by
  refine Met.ofW (cc := cX8_meanBridgeLength) (maxL := 3) (ret := (some .double)) (by decide) rfl ?_
  intro p e s m args below meth c s₁ B hml hv
  obtain ⟨rfl, hsz, hP, hK, hD0, hE⟩ := hv
  have hx := B.exec
  have hb := B.bytes
  have hr := B.returns
  have hts := atoms_spec (ws := wsX8_meanBridgeLength) B.pre
  have hown : s.vm.findClass RX8 = some m.cls := findClass_of_methodNamed B.named
  have hlocks := B.notSynchronized
  subst hsz
  have hD := hD0.self (sz := s.heap.size)
  generalize hAe : va_A (mcells C b M) s.heap.size = A at hD ⊢
  have hA : ∀ q : Nat, s.heap.size ≤ q → A q := fun q h => by rw [← hAe]; exact Or.inr h
  have hS : va_S A s.heap s.heap [] := va_S.rf
  have hP : va_P D vwCl (mcells C b M) s.heap := hP
  have hinX8 : ∀ w ∈ u_ws RX8 TX8 20, w ∈ wsX8_meanBridgeLength := by decide +kernel
  have hn2 : mNow M 2 = nI (mS (mNow M)) := hM.1.1
  have hn12 : mS (mNow M) ≤ 12 := hM.1.2
  have hl := lv_entry ([.ref (b 0)]) (n := 3) (Nat.le_of_ble_eq_true rfl)
  rw [lg_entry_eq]
  generalize (lg_sl ([.ref (b 0)]) ++ List.replicate (3 - (lg_sl ([.ref (b 0)])).length) Slot.unset).toArray = ls at hl ⊢
  have hl : lv_has ls 3 [(0, .ref (b 0))] := hl
  have J54 : ∀ (s0 : Bool) (ls : Array Slot), lv_has ls 3 [(2, .int (nI (mS (mNow M)))), (1, .int (f_X8_meanSum (mNow M) (mS (mNow M)))), (0, .ref (b 0))] → (s0 = true ↔ ¬ f_X8_builtSites (mNow M) ≤ 0) → W p l e ({ frames := 6, cells := 0, slots := 0, locals := 150 } : Room) s m ([.ref (b 0)] : List Value).toArray below meth c s.heap [] 0 0 (MQ below (rwO (some (.double (f_X8_meanBridgeLength (mNow M)).1)) D (mcells C b (mThrS M (f_X8_meanBridgeLength (mNow M)).2)) A) ([.ref (b 0)] : List Value).toArray s 0 0 A) (F0 m 54 ls [.int (bI s0), .ref (b 0)]) := by
    intro s0 ls hl h0
    have hFc := va_free (wc := (mcells C b M)) hD hS hA [0, 1, 2, 3, 4, 5, 6, 7, 8, 9] rfl
    refine callRw (va_runV (As := [.int (bI s0)]) (rest := []) ⟨hx, hb, hml, hown, hts⟩ (c_X8_goes_ l D C b M (s0) _) (cwV 1 hts gX8_meanBridgeLength_X8_goes rfl rfl rfl (by decide +kernel) ⟨Nat.le_of_ble_eq_true rfl, Nat.le_of_ble_eq_true rfl⟩) (rwP_v hP hK hE hD (va_recv hK hP (ci := 9) (q0 := 0) rfl rfl)) rfl rfl hl.1 rfl (lv_room (Nat.le_of_ble_eq_true rfl)) dX8_meanBridgeLength_54 ⟨Nat.le_refl _, Nat.le_refl _⟩) hS hFc (fun H1 locs hPn hk hS => ?_)
    have hP : va_P D vwCl (mcells C b (mThrS M (gThr s0))) H1 := hPn
    generalize H1 = H at hP hS ⊢
    refine topI (y := (bI s0)) rfl ?_
    refine bif_eq (tgt := 71) hx hb dX8_meanBridgeLength_57 (by decide) (fun c_18 => ?_) (fun c_18 => ?_)
    · have ez : f_X8_meanBridgeLength (mNow M) = (FP.dconst0, gThr false) := if_pos (Classical.not_not.mp (fun z => by have := h0.mpr z; rw [c_18] at this; cases this))
      rw [ez]
      rw [c_18] at hP
      refine lv_dconst0 hx hb dX8_meanBridgeLength_71 ?_
      exact rw_retD hx hb hr hP hS rfl dX8_meanBridgeLength_72 hlocks
    · have c0 := h0.mp c_18
      have ez : f_X8_meanBridgeLength (mNow M) = (FP.ddiv (FP.i2d (f_X8_meanSum (mNow M) (mS (mNow M)))) (FP.i2d (f_X8_builtSites (mNow M))), gThr true) := if_neg c0
      rw [ez]
      rw [c_18] at hP
      refine lv_iload_n hx hb dX8_meanBridgeLength_60 rfl (lv_at hl 1 rfl) ?_
      refine lv_i2d hx hb dX8_meanBridgeLength_61 ?_
      refine lv_aload_n hx hb dX8_meanBridgeLength_62 rfl (lv_at hl 2 rfl) ?_
      refine callRo (va_runV (As := []) (rest := [.double _]) ⟨hx, hb, hml, hown, hts⟩ (c_X8_builtSites l D C b (mThrS M (gThr true)) hM) (cwV 0 hts gX8_meanBridgeLength_X8_builtSites rfl rfl rfl (by decide +kernel) ⟨Nat.le_of_ble_eq_true rfl, Nat.le_of_ble_eq_true rfl⟩) (roP_v hP hK hE (va_recv hK hP (ci := 9) (q0 := 0) rfl rfl)) rfl rfl hl.1 rfl (lv_room (Nat.le_of_ble_eq_true rfl)) dX8_meanBridgeLength_63 ⟨Nat.le_of_ble_eq_true rfl, Nat.le_of_ble_eq_true rfl⟩) ?_
      refine lv_i2d hx hb dX8_meanBridgeLength_66 ?_
      refine lv_ddiv hx hb dX8_meanBridgeLength_67 (hne c0) ?_
      refine lv_goto (tgt := 72) hx hb dX8_meanBridgeLength_68 (by decide) ?_
      exact rw_retD hx hb hr hP hS rfl dX8_meanBridgeLength_72 hlocks
  have loop : ∀ n k, k + n = mS (mNow M) → ∀ (ls : Array Slot), lv_has ls 3 [(2, .int (nI k)), (1, .int (f_X8_meanSum (mNow M) k)), (0, .ref (b 0))] → W p l e ({ frames := 6, cells := 0, slots := 0, locals := 150 } : Room) s m ([.ref (b 0)] : List Value).toArray below meth c s.heap [] 0 0 (MQ below (rwO (some (.double (f_X8_meanBridgeLength (mNow M)).1)) D (mcells C b (mThrS M (f_X8_meanBridgeLength (mNow M)).2)) A) ([.ref (b 0)] : List Value).toArray s 0 0 A) (F0 m 4 ls []) := by
    intro n
    induction n with
    | zero =>
      intro k hk ls hl
      have ek : k = mS (mNow M) := by omega
      refine lv_iload_n hx hb dX8_meanBridgeLength_4 rfl (lv_at hl 0 rfl) ?_
      refine lv_aload_n hx hb dX8_meanBridgeLength_5 rfl (lv_at hl 2 rfl) ?_
      refine va_get (D := D) (ci := 9) (v := .ref (b 1)) (C := RX8) (T := TX8) (N := 20) hx hb hts hinX8 hown hK hP 0 rfl rfl 0 (by decide) (hts (.fieldLink RX8 9 "BridgeAuctionModel" "now" "[I") (by decide +kernel)) (fun _ h9 => h9) rfl dX8_meanBridgeLength_6 ?_
      refine lv_iconst (v := nI 2) hx hb dX8_meanBridgeLength_9 (by decide) ?_
      refine ialdN (tys := tyA C) hx hb hK hP 1 0 rfl rfl (i := 2) (by omega) (by decide) dX8_meanBridgeLength_10 ?_
      refine topI hn2 ?_
      refine lv_icmp_ge (tgt := 41) hx hb dX8_meanBridgeLength_11 (by decide) (fun _ => ?_) (fun c_1 => absurd (nI_le (by omega) (by omega)) c_1)
      subst ek
      refine lv_aload_n hx hb dX8_meanBridgeLength_41 rfl (lv_at hl 2 rfl) ?_
      refine lv_aload_n hx hb dX8_meanBridgeLength_42 rfl (lv_at hl 2 rfl) ?_
      refine callRo (va_runV (As := []) (rest := [.ref (b 0)]) ⟨hx, hb, hml, hown, hts⟩ (c_X8_builtSites l D C b M hM) (cwV 0 hts gX8_meanBridgeLength_X8_builtSites rfl rfl rfl (by decide +kernel) ⟨Nat.le_of_ble_eq_true rfl, Nat.le_of_ble_eq_true rfl⟩) (roP_v hP hK hE (va_recv hK hP (ci := 9) (q0 := 0) rfl rfl)) rfl rfl hl.1 rfl (lv_room (Nat.le_of_ble_eq_true rfl)) dX8_meanBridgeLength_43 ⟨Nat.le_of_ble_eq_true rfl, Nat.le_of_ble_eq_true rfl⟩) ?_
      refine lv_if_le (tgt := 53) hx hb dX8_meanBridgeLength_46 (by decide) (fun c_7 => ?_) (fun c_7 => ?_)
      · refine lv_iconst (v := 0) hx hb dX8_meanBridgeLength_53 (by decide) ?_
        exact J54 false ls hl ⟨fun z => (by cases z), fun z => absurd c_7 z⟩
      · refine lv_iconst (v := 1) hx hb dX8_meanBridgeLength_49 (by decide) ?_
        refine lv_goto (tgt := 54) hx hb dX8_meanBridgeLength_50 (by decide) ?_
        exact J54 true ls hl ⟨fun _ => c_7, fun _ => rfl⟩
    | succ n ih =>
      intro k hk ls hl
      have fin : ∀ (x : Int32) (ls : Array Slot), lv_has ls 3 [(2, .int (nI k)), (1, .int (f_X8_meanSum (mNow M) k)), (0, .ref (b 0))] → x = (if f_X8_isDone (mNow M) (nI k) = true then f_X8_of (mNow M) (nI k) 2 else 0) → W p l e ({ frames := 6, cells := 0, slots := 0, locals := 150 } : Room) s m ([.ref (b 0)] : List Value).toArray below meth c s.heap [] 0 0 (MQ below (rwO (some (.double (f_X8_meanBridgeLength (mNow M)).1)) D (mcells C b (mThrS M (f_X8_meanBridgeLength (mNow M)).2)) A) ([.ref (b 0)] : List Value).toArray s 0 0 A) (F0 m 33 ls [.int x, .int (f_X8_meanSum (mNow M) k)]) := by
        intro x ls hl ex
        refine lv_iadd hx hb dX8_meanBridgeLength_33 ?_
        have es : f_X8_meanSum (mNow M) k + x = f_X8_meanSum (mNow M) (k + 1) := by
          rw [ex]
          unfold f_X8_meanSum
          rw [itF_snoc, Nat.zero_add]
        refine topI es ?_
        refine lv_istore_n (i := 1) (lv' := [(1, .int (f_X8_meanSum (mNow M) (k + 1))), (2, .int (nI k)), (0, .ref (b 0))]) hx hb dX8_meanBridgeLength_34 rfl hl (by decide) rfl (fun ls hl => ?_)
        refine lv_iinc (v := nI (k + 1)) (lv' := [(2, .int (nI (k + 1))), (1, .int (f_X8_meanSum (mNow M) (k + 1))), (0, .ref (b 0))]) hx hb dX8_meanBridgeLength_35 hl (k := 1) rfl (nI_1 k) (by decide) rfl (fun ls hl => ?_)
        refine lv_goto (tgt := 4) hx hb dX8_meanBridgeLength_38 (by decide) ?_
        exact ih (k + 1) (by omega) ls hl
      refine lv_iload_n hx hb dX8_meanBridgeLength_4 rfl (lv_at hl 0 rfl) ?_
      refine lv_aload_n hx hb dX8_meanBridgeLength_5 rfl (lv_at hl 2 rfl) ?_
      refine va_get (D := D) (ci := 9) (v := .ref (b 1)) (C := RX8) (T := TX8) (N := 20) hx hb hts hinX8 hown hK hP 0 rfl rfl 0 (by decide) (hts (.fieldLink RX8 9 "BridgeAuctionModel" "now" "[I") (by decide +kernel)) (fun _ h9 => h9) rfl dX8_meanBridgeLength_6 ?_
      refine lv_iconst (v := nI 2) hx hb dX8_meanBridgeLength_9 (by decide) ?_
      refine ialdN (tys := tyA C) hx hb hK hP 1 0 rfl rfl (i := 2) (by omega) (by decide) dX8_meanBridgeLength_10 ?_
      refine topI hn2 ?_
      refine lv_icmp_ge (tgt := 41) hx hb dX8_meanBridgeLength_11 (by decide) (fun c_1 => absurd c_1 (nI_ge (by omega) (by omega))) (fun _ => ?_)
      refine lv_iload_n hx hb dX8_meanBridgeLength_14 rfl (lv_at hl 1 rfl) ?_
      refine lv_aload_n hx hb dX8_meanBridgeLength_15 rfl (lv_at hl 2 rfl) ?_
      refine lv_iload_n hx hb dX8_meanBridgeLength_16 rfl (lv_at hl 0 rfl) ?_
      refine callRo (va_runV (As := [.int (nI k)]) (rest := [.int _]) ⟨hx, hb, hml, hown, hts⟩ (c_X8_isDone l D C b M ((nI k)) hM) (cwV 1 hts gX8_meanBridgeLength_X8_isDone rfl rfl rfl (by decide +kernel) ⟨Nat.le_of_ble_eq_true rfl, Nat.le_of_ble_eq_true rfl⟩) (roP_v hP hK hE (va_recv hK hP (ci := 9) (q0 := 0) rfl rfl)) rfl rfl hl.1 rfl (lv_room (Nat.le_of_ble_eq_true rfl)) dX8_meanBridgeLength_17 ⟨Nat.le_of_ble_eq_true rfl, Nat.le_of_ble_eq_true rfl⟩) ?_
      refine bif_eq (tgt := 32) hx hb dX8_meanBridgeLength_20 (by decide) (fun c_2 => ?_) (fun c_2 => ?_)
      · refine lv_iconst (v := 0) hx hb dX8_meanBridgeLength_32 (by decide) ?_
        exact fin 0 ls hl (by rw [c_2]; rfl)
      · refine lv_aload_n hx hb dX8_meanBridgeLength_23 rfl (lv_at hl 2 rfl) ?_
        refine lv_iload_n hx hb dX8_meanBridgeLength_24 rfl (lv_at hl 0 rfl) ?_
        refine lv_iconst (v := nI 2) hx hb dX8_meanBridgeLength_25 (by decide) ?_
        refine callRo (va_runV (As := [.int (nI k), .int (nI 2)]) (rest := [.int _]) ⟨hx, hb, hml, hown, hts⟩ (c_X8_of l D C b M ((nI k)) 2 hM (by decide)) (cwV 2 hts gX8_meanBridgeLength_X8_of rfl rfl rfl (by decide +kernel) ⟨Nat.le_of_ble_eq_true rfl, Nat.le_of_ble_eq_true rfl⟩) (roP_v hP hK hE (va_recv hK hP (ci := 9) (q0 := 0) rfl rfl)) rfl rfl hl.1 rfl (lv_room (Nat.le_of_ble_eq_true rfl)) dX8_meanBridgeLength_26 ⟨Nat.le_of_ble_eq_true rfl, Nat.le_of_ble_eq_true rfl⟩) ?_
        refine lv_goto (tgt := 33) hx hb dX8_meanBridgeLength_29 (by decide) ?_
        exact fin _ ls hl (by rw [c_2]; rfl)
  refine lv_iconst (v := 0) hx hb dX8_meanBridgeLength_0 (by decide) ?_
  refine lv_istore_n (i := 1) (lv' := [(1, .int 0), (0, .ref (b 0))]) hx hb dX8_meanBridgeLength_1 rfl hl (by decide) rfl (fun ls hl => ?_)
  refine lv_iconst (v := 0) hx hb dX8_meanBridgeLength_2 (by decide) ?_
  refine lv_istore_n (i := 2) (lv' := [(2, .int 0), (1, .int 0), (0, .ref (b 0))]) hx hb dX8_meanBridgeLength_3 rfl hl (by decide) rfl (fun ls hl => ?_)
  exact loop (mS (mNow M)) 0 (Nat.zero_add _) ls hl
