/-! the reference's means -/
def f_X8_builtShare (nw : Nat → Int32) : UInt32 × Int32 := if nw 2 ≤ 0 then (FP.fconst0, gThr false) else (FP.fdiv (FP.i2f (f_X8_builtSites nw)) (FP.i2f (nw 2)), gThr true)
abbrev mThrS (M : MS) (t : Int32) : MS := mkM (mNow M) (mBef M) (mSav M) (mHis M) (mIsS M) (mRem M) (mErA M) (mFaA M) (mTxt M) (mTyp M) (mLin M) (mLnd M) t (mFar M) (mGrp M) (mSiz M) (mPla M) (mWro M) (mTol M) (mNum M)
section
variable {p : Program} {l : Launch} {e : Env} {R : Room} {s : State} {m : MethodId} {args : Array Value} {below : List Frame} {meth : Method} {c : Code} {H : Heap} {locs : List Loc} {cc : ByteArray} {pc : Nat} {ls : Array Slot} {A0 : Nat → Prop} {D : va_G} {ws' : va_W}
theorem rw_retF {v z : UInt32} (hx : p.tables.exec = Jvm.exec) (hb : c.code = cc) (hr : meth.sig.returnType = some .float) (hP : va_P D vwCl ws' H) (hS : va_S A0 s.heap H locs) (hz : z = v) (hdg : decode cc pc = .ok (.freturn, 1)) (hlocks : meth.locks = false) : W p l e R s m args below meth c H locs 0 0 (MQ below (rwO (some (.float z)) D ws' A0) args s 0 0 A0) (F0 m pc ls [.float v]) :=
  W.fret (v := v) hx hb hr (fun t ht hW => ⟨by rw [hz], by rw [ht]; exact hP, hS.F ht⟩) hS.2.2 hdg hlocks
theorem rw_retD {v z : UInt64} (hx : p.tables.exec = Jvm.exec) (hb : c.code = cc) (hr : meth.sig.returnType = some .double) (hP : va_P D vwCl ws' H) (hS : va_S A0 s.heap H locs) (hz : z = v) (hdg : decode cc pc = .ok (.dreturn, 1)) (hlocks : meth.locks = false) : W p l e R s m args below meth c H locs 0 0 (MQ below (rwO (some (.double z)) D ws' A0) args s 0 0 A0) (F0 m pc ls [.double v]) :=
  W.dret (v := v) hx hb hr (fun t ht hW => ⟨by rw [hz], by rw [ht]; exact hP, hS.F ht⟩) hS.2.2 hdg hlocks
end
set_option maxHeartbeats 4000000 in
set_option maxRecDepth 100000 in
theorem c_X8_builtShare (l : Launch) (D : va_G) (C : Nat → ClassId) (b : Nat → Nat) (M : MS) (sz : Nat) (hM : MSafe M) (hne : ¬ mNow M 2 ≤ 0 → vf_n32 (FP.fdiv (FP.i2f (f_X8_builtSites (mNow M))) (FP.i2f (mNow M 2)))) : Met l yX8_builtShare wsX8_builtShare ({ frames := 5, cells := 0, slots := 0, locals := 130 } : Room) (rwP [.ref (b 0)] D C (mcells C b M) sz) (rwO (some (.float (f_X8_builtShare (mNow M)).1)) D (mcells C b (mThrS M (f_X8_builtShare (mNow M)).2)) (va_A (mcells C b M) sz)) 0 0 (va_A (mcells C b M) sz) := by
  refine Met.ofW (cc := cX8_builtShare) (maxL := 1) (ret := (some .float)) (by decide) rfl ?_
  intro p e s m args below meth c s₁ B hml hv
  obtain ⟨rfl, hsz, hP, hK, hD0, hE⟩ := hv
  have hx := B.exec
  have hb := B.bytes
  have hr := B.returns
  have hts := atoms_spec (ws := wsX8_builtShare) B.pre
  have hown : s.vm.findClass RX8 = some m.cls := findClass_of_methodNamed B.named
  have hlocks := B.notSynchronized
  subst hsz
  have hD := hD0.self (sz := s.heap.size)
  generalize hAe : va_A (mcells C b M) s.heap.size = A at hD ⊢
  have hA : ∀ q : Nat, s.heap.size ≤ q → A q := fun q h => by rw [← hAe]; exact Or.inr h
  have hS : va_S A s.heap s.heap [] := va_S.rf
  have hP : va_P D vwCl (mcells C b M) s.heap := hP
  have hinX8 : ∀ w ∈ u_ws RX8 TX8 20, w ∈ wsX8_builtShare := by decide +kernel
  have hl := lv_entry ([.ref (b 0)]) (n := 1) (Nat.le_of_ble_eq_true rfl)
  rw [lg_entry_eq]
  generalize (lg_sl ([.ref (b 0)]) ++ List.replicate (1 - (lg_sl ([.ref (b 0)])).length) Slot.unset).toArray = ls at hl ⊢
  have hl : lv_has ls 1 [(0, .ref (b 0))] := hl
  have J15 : ∀ (s0 : Bool), (s0 = true ↔ ¬ mNow M 2 ≤ 0) → W p l e ({ frames := 5, cells := 0, slots := 0, locals := 130 } : Room) s m ([.ref (b 0)] : List Value).toArray below meth c s.heap [] 0 0 (MQ below (rwO (some (.float (f_X8_builtShare (mNow M)).1)) D (mcells C b (mThrS M (f_X8_builtShare (mNow M)).2)) A) ([.ref (b 0)] : List Value).toArray s 0 0 A) (F0 m 15 ls [.int (bI s0), .ref (b 0)]) := by
    intro s0 h0
    have hFc := va_free (wc := (mcells C b M)) hD hS hA [0, 1, 2, 3, 4, 5, 6, 7, 8, 9] rfl
    refine callRw (va_runV (As := [.int (bI s0)]) (rest := []) ⟨hx, hb, hml, hown, hts⟩ (c_X8_goes_ l D C b M (s0) _) (cwV 1 hts gX8_builtShare_X8_goes rfl rfl rfl (by decide +kernel) ⟨Nat.le_of_ble_eq_true rfl, Nat.le_of_ble_eq_true rfl⟩) (rwP_v hP hK hE hD (va_recv hK hP (ci := 9) (q0 := 0) rfl rfl)) rfl rfl hl.1 rfl (lv_room (Nat.le_of_ble_eq_true rfl)) dX8_builtShare_15 ⟨Nat.le_refl _, Nat.le_refl _⟩) hS hFc (fun H1 locs hPn hk hS => ?_)
    have hP : va_P D vwCl (mcells C b (mThrS M (gThr s0))) H1 := hPn
    generalize H1 = H at hP hS ⊢
    refine topI (y := (bI s0)) rfl ?_
    refine bif_eq (tgt := 37) hx hb dX8_builtShare_18 (by decide) (fun c_18 => ?_) (fun c_18 => ?_)
    · have ez : f_X8_builtShare (mNow M) = (FP.fconst0, gThr false) := if_pos (Classical.not_not.mp (fun z => by have := h0.mpr z; rw [c_18] at this; cases this))
      rw [ez]
      rw [c_18] at hP
      refine lv_fconst0 hx hb dX8_builtShare_37 ?_
      exact rw_retF hx hb hr hP hS rfl dX8_builtShare_38 hlocks
    · have c0 := h0.mp c_18
      have ez : f_X8_builtShare (mNow M) = (FP.fdiv (FP.i2f (f_X8_builtSites (mNow M))) (FP.i2f (mNow M 2)), gThr true) := if_neg c0
      rw [ez]
      rw [c_18] at hP
      refine lv_aload_n hx hb dX8_builtShare_21 rfl (lv_at hl 0 rfl) ?_
      refine callRo (va_runV (As := []) (rest := []) ⟨hx, hb, hml, hown, hts⟩ (c_X8_builtSites l D C b (mThrS M (gThr true)) hM) (cwV 0 hts gX8_builtShare_X8_builtSites rfl rfl rfl (by decide +kernel) ⟨Nat.le_of_ble_eq_true rfl, Nat.le_of_ble_eq_true rfl⟩) (roP_v hP hK hE (va_recv hK hP (ci := 9) (q0 := 0) rfl rfl)) rfl rfl hl.1 rfl (lv_room (Nat.le_of_ble_eq_true rfl)) dX8_builtShare_22 ⟨Nat.le_of_ble_eq_true rfl, Nat.le_of_ble_eq_true rfl⟩) ?_
      refine lv_i2f hx hb dX8_builtShare_25 ?_
      refine lv_aload_n hx hb dX8_builtShare_26 rfl (lv_at hl 0 rfl) ?_
      refine va_get (D := D) (ci := 9) (v := .ref (b 1)) (C := RX8) (T := TX8) (N := 20) hx hb hts hinX8 hown hK hP 0 rfl rfl 0 (by decide) (hts (.fieldLink RX8 9 "BridgeAuctionModel" "now" "[I") (by decide +kernel)) (fun _ h9 => h9) rfl dX8_builtShare_27 ?_
      refine lv_iconst (v := nI 2) hx hb dX8_builtShare_30 (by decide) ?_
      refine ialdN (tys := tyA C) hx hb hK hP 1 0 rfl rfl (i := 2) (by omega) (by decide) dX8_builtShare_31 ?_
      refine lv_i2f hx hb dX8_builtShare_32 ?_
      refine lv_fdiv hx hb dX8_builtShare_33 (hne c0) ?_
      refine lv_goto (tgt := 38) hx hb dX8_builtShare_34 (by decide) ?_
      exact rw_retF hx hb hr hP hS rfl dX8_builtShare_38 hlocks
  refine lv_aload_n hx hb dX8_builtShare_0 rfl (lv_at hl 0 rfl) ?_
  refine lv_aload_n hx hb dX8_builtShare_1 rfl (lv_at hl 0 rfl) ?_
  refine va_get (D := D) (ci := 9) (v := .ref (b 1)) (C := RX8) (T := TX8) (N := 20) hx hb hts hinX8 hown hK hP 0 rfl rfl 0 (by decide) (hts (.fieldLink RX8 9 "BridgeAuctionModel" "now" "[I") (by decide +kernel)) (fun _ h9 => h9) rfl dX8_builtShare_2 ?_
  refine lv_iconst (v := nI 2) hx hb dX8_builtShare_5 (by decide) ?_
  refine ialdN (tys := tyA C) hx hb hK hP 1 0 rfl rfl (i := 2) (by omega) (by decide) dX8_builtShare_6 ?_
  refine lv_if_le (tgt := 14) hx hb dX8_builtShare_7 (by decide) (fun c_7 => ?_) (fun c_7 => ?_)
  · refine lv_iconst (v := 0) hx hb dX8_builtShare_14 (by decide) ?_
    exact J15 false ⟨fun z => (by cases z), fun z => absurd c_7 z⟩
  · refine lv_iconst (v := 1) hx hb dX8_builtShare_10 (by decide) ?_
    refine lv_goto (tgt := 15) hx hb dX8_builtShare_11 (by decide) ?_
    exact J15 true ⟨fun _ => c_7, fun _ => rfl⟩
