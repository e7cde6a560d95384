def f_X8_goes (c1 : Bool) : Bool × Int32 := ((hOk c1 true true true), (hThr c1 true true true))
set_option maxHeartbeats 4000000 in
set_option maxRecDepth 100000 in
theorem c_X8_goes (l : Launch) (D : va_G) (C : Nat → ClassId) (b : Nat → Nat) (M : MS) (c1 : Bool) (sz : Nat) : Met l yX8_goes wsX8_goes ({ frames := 1, cells := 0, slots := 0, locals := 24 } : Room) (rwP [.ref (b 0), .int (bI c1)] D C (mcells C b M) sz) (rwO (some (.int (bI ((f_X8_goes c1).1)))) D (mcells C b (mkM (mNow M) (mBef M) (mSav M) (mHis M) (mIsS M) (mRem M) (mErA M) (mFaA M) (mTxt M) (mTyp M) (mLin M) (mLnd M) ((f_X8_goes c1).2) (mFar M) (mGrp M) (mSiz M) (mPla M) (mWro M) (mTol M) (mNum M))) (va_A (mcells C b M) sz)) 0 0 (va_A (mcells C b M) sz) := by
  refine Met.ofW (cc := cX8_goes) (maxL := 2) (ret := (some .boolean)) (by decide) rfl ?_
  intro p e s m args below meth c s₁ B hml hv
  obtain ⟨rfl, hsz, hP, hK, hD0, hE⟩ := hv
  have hx := B.exec
  have hb := B.bytes
  have hr := B.returns
  have hts := atoms_spec (ws := wsX8_goes) B.pre
  have hown : s.vm.findClass RX8 = some m.cls := findClass_of_methodNamed B.named
  have hlocks := B.notSynchronized
  subst hsz
  have hD := hD0.self (sz := s.heap.size)
  generalize hAe : va_A (mcells C b M) s.heap.size = A at hD ⊢
  have hA : ∀ q : Nat, s.heap.size ≤ q → A q := fun q h => by rw [← hAe]; exact Or.inr h
  have hS0 : va_S A s.heap s.heap [] := va_S.rf
  have hP : va_P D vwCl (mcells C b M) s.heap := hP
  have hS := hS0
  have hl := lv_entry ([.ref (b 0), .int (bI c1)]) (n := 2) (Nat.le_of_ble_eq_true rfl)
  rw [lg_entry_eq]
  generalize (lg_sl ([.ref (b 0), .int (bI c1)]) ++ List.replicate (2 - (lg_sl ([.ref (b 0), .int (bI c1)])).length) Slot.unset).toArray = ls at hl ⊢
  have hl : lv_has ls 2 [(0, .ref (b 0)), (1, .int (bI c1))] := hl
  obtain ⟨z, hz⟩ : ∃ z, z = f_X8_goes c1 := ⟨_, rfl⟩
  rw [← hz]
  refine lv_aload_n hx hb dX8_goes_0 rfl (lv_at hl 0 rfl) ?_
  refine lv_iload_n hx hb dX8_goes_1 rfl (lv_at hl 1 rfl) ?_
  refine lv_iconst (v := 1) hx hb dX8_goes_2 (by decide) ?_
  refine lv_iconst (v := 1) hx hb dX8_goes_3 (by decide) ?_
  refine lv_iconst (v := 1) hx hb dX8_goes_4 (by decide) ?_
  have hFc := va_free (wc := (mcells C b M)) hD hS hA [0, 1, 2, 3, 4, 5, 6, 7, 8, 9] rfl
  refine callRw (va_runV (As := [.int (bI c1), .int (bI true), .int (bI true), .int (bI true)]) (rest := []) ⟨hx, hb, hml, hown, hts⟩ (c_X8_holds_ l D C b M (c1) (true) (true) (true) _) (cwV 4 hts gX8_goes_X8_holds rfl rfl rfl (by decide +kernel) ⟨Nat.le_of_ble_eq_true rfl, Nat.le_of_ble_eq_true rfl⟩) (rwP_v hP hK hE hD (va_recv hK hP (ci := 9) (q0 := 0) rfl rfl)) rfl rfl hl.1 rfl (lv_room (Nat.le_of_ble_eq_true rfl)) dX8_goes_5 ⟨Nat.le_refl _, Nat.le_refl _⟩) hS hFc (fun H1 locs hPn hk hS => ?_)
  have hP : va_P D vwCl (mcells C b (mkM (mNow M) (mBef M) (mSav M) (mHis M) (mIsS M) (mRem M) (mErA M) (mFaA M) (mTxt M) (mTyp M) (mLin M) (mLnd M) (hThr c1 true true true) (mFar M) (mGrp M) (mSiz M) (mPla M) (mWro M) (mTol M) (mNum M))) H1 := hPn
  have hD : va_D A (mcells C b (mkM (mNow M) (mBef M) (mSav M) (mHis M) (mIsS M) (mRem M) (mErA M) (mFaA M) (mTxt M) (mTyp M) (mLin M) (mLnd M) (hThr c1 true true true) (mFar M) (mGrp M) (mSiz M) (mPla M) (mWro M) (mTol M) (mNum M))) := adr_D hD rfl
  generalize H1 = H at hP hS ⊢
  refine topI (y := (bI (hOk c1 true true true))) rfl ?_
  have hz : z = ((hOk c1 true true true), (hThr c1 true true true)) := hz
  rw [hz]
  exact rw_retB hx hb hr hP hS rfl dX8_goes_8 hlocks
