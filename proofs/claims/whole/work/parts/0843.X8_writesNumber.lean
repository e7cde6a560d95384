def f_X8_writesNumber_j22 (y : Int32) (s0_22 : Nat) (lin0_22 : (Nat → Int32)) : Nat × (Nat → Int32) := ((s0_22 + 1), (upd lin0_22 s0_22 (48 + (y - y / 10 * 10))))
def f_X8_writesNumber (li : (Nat → Int32)) (x : Nat) (y : Int32) : Nat × (Nat → Int32) := (if 10 ≤ y then (f_X8_writesNumber_j22 y ((x + 1)) ((upd li x (48 + (y / 10))))) else (f_X8_writesNumber_j22 y (x) (li)))
set_option maxHeartbeats 4000000 in
set_option maxRecDepth 100000 in
theorem c_X8_writesNumber (l : Launch) (D : va_G) (C : Nat → ClassId) (b : Nat → Nat) (M : MS) (x : Nat) (y : Int32) (sz : Nat) (h_x : x < 59) : Met l yX8_writesNumber wsX8_writesNumber ({ frames := 1, cells := 0, slots := 0, locals := 22 } : Room) (rwP [.ref (b 0), .int (nI x), .int y] D C (mcells C b M) sz) (rwO (some (.int (nI ((f_X8_writesNumber (mLin M) x y).1)))) D (mcells C b (mkM (mNow M) (mBef M) (mSav M) (mHis M) (mIsS M) (mRem M) (mErA M) (mFaA M) (mTxt M) (mTyp M) ((f_X8_writesNumber (mLin M) x y).2) (mLnd M) (mThr M) (mFar M) (mGrp M) (mSiz M) (mPla M) (mWro M) (mTol M) (mNum M))) (va_A (mcells C b M) sz)) 0 0 (va_A (mcells C b M) sz) := by
  refine Met.ofW (cc := cX8_writesNumber) (maxL := 4) (ret := (some .int)) (by decide) rfl ?_
  intro p e s m args below meth c s₁ B hml hv
  obtain ⟨rfl, hsz, hP, hK, hD0, hE⟩ := hv
  have hx := B.exec
  have hb := B.bytes
  have hr := B.returns
  have hts := atoms_spec (ws := wsX8_writesNumber) B.pre
  have hown : s.vm.findClass RX8 = some m.cls := findClass_of_methodNamed B.named
  have hlocks := B.notSynchronized
  subst hsz
  have hD := hD0.self (sz := s.heap.size)
  generalize hAe : va_A (mcells C b M) s.heap.size = A at hD ⊢
  have hA : ∀ q : Nat, s.heap.size ≤ q → A q := fun q h => by rw [← hAe]; exact Or.inr h
  have hS0 : va_S A s.heap s.heap [] := va_S.rf
  have hP : va_P D vwCl (mcells C b M) s.heap := hP
  have hS := hS0
  have hl := lv_entry ([.ref (b 0), .int (nI x), .int y]) (n := 4) (Nat.le_of_ble_eq_true rfl)
  rw [lg_entry_eq]
  generalize (lg_sl ([.ref (b 0), .int (nI x), .int y]) ++ List.replicate (4 - (lg_sl ([.ref (b 0), .int (nI x), .int y])).length) Slot.unset).toArray = ls at hl ⊢
  have hl : lv_has ls 4 [(0, .ref (b 0)), (1, .int (nI x)), (2, .int y)] := hl
  obtain ⟨z, hz⟩ : ∃ z, z = f_X8_writesNumber (mLin M) x y := ⟨_, rfl⟩
  rw [← hz]
  have J22 : ∀ (s0_22 : Nat) (lin0_22 : (Nat → Int32))  (H : Heap) (locs : List Loc) (ls : Array Slot), z = f_X8_writesNumber_j22 y s0_22 lin0_22 → (s0_22 ≤ x + 1) → va_P D vwCl (mcells C b (mkM (mNow M) (mBef M) (mSav M) (mHis M) (mIsS M) (mRem M) (mErA M) (mFaA M) (mTxt M) (mTyp M) lin0_22 (mLnd M) (mThr M) (mFar M) (mGrp M) (mSiz M) (mPla M) (mWro M) (mTol M) (mNum M))) H → va_D A (mcells C b (mkM (mNow M) (mBef M) (mSav M) (mHis M) (mIsS M) (mRem M) (mErA M) (mFaA M) (mTxt M) (mTyp M) lin0_22 (mLnd M) (mThr M) (mFar M) (mGrp M) (mSiz M) (mPla M) (mWro M) (mTol M) (mNum M))) → va_S A s.heap H locs → lv_has ls 4 [(0, .ref (b 0)), (2, .int y)] → W p l e ({ frames := 1, cells := 0, slots := 0, locals := 22 } : Room) s m ([.ref (b 0), .int (nI x), .int y] : List Value).toArray below meth c H locs 0 0 (MQ below (rwO (some (.int (nI z.1))) D (mcells C b (mkM (mNow M) (mBef M) (mSav M) (mHis M) (mIsS M) (mRem M) (mErA M) (mFaA M) (mTxt M) (mTyp M) z.2 (mLnd M) (mThr M) (mFar M) (mGrp M) (mSiz M) (mPla M) (mWro M) (mTol M) (mNum M))) A) ([.ref (b 0), .int (nI x), .int y] : List Value).toArray s 0 0 A) (F0 m 22 ls [.int (nI s0_22)]) := by
    intro s0_22 lin0_22 H locs ls hz iv22_0 hP hD hS hl
    refine lv_istore_n (lv' := [(3, .int (nI s0_22)), (0, .ref (b 0)), (2, .int y)]) hx hb dX8_writesNumber_22 rfl hl (by decide) rfl (fun ls hl => ?_)
    refine lv_aload_n hx hb dX8_writesNumber_23 rfl (lv_at hl 1 rfl) ?_
    refine lv_iload_n hx hb dX8_writesNumber_24 rfl (lv_at hl 0 rfl) ?_
    refine lv_bipush (v := 48) hx hb dX8_writesNumber_25 (by decide +kernel) ?_
    refine lv_iload_n hx hb dX8_writesNumber_27 rfl (lv_at hl 2 rfl) ?_
    refine lv_bipush (v := 10) hx hb dX8_writesNumber_28 (by decide +kernel) ?_
    refine lv_irem hx hb dX8_writesNumber_30 (by decide) ?_
    refine lv_iadd hx hb dX8_writesNumber_31 ?_
    have hFc := va_free (wc := (mcells C b (mkM (mNow M) (mBef M) (mSav M) (mHis M) (mIsS M) (mRem M) (mErA M) (mFaA M) (mTxt M) (mTyp M) lin0_22 (mLnd M) (mThr M) (mFar M) (mGrp M) (mSiz M) (mPla M) (mWro M) (mTol M) (mNum M)))) hD hS hA [0, 1, 2, 3, 4, 5, 6, 7, 8, 9] rfl
    refine callRw (va_runV (As := [.int (nI s0_22), .int (48 + (y - y / 10 * 10))]) (rest := []) ⟨hx, hb, hml, hown, hts⟩ (c_X8_put_ l D C b (mkM (mNow M) (mBef M) (mSav M) (mHis M) (mIsS M) (mRem M) (mErA M) (mFaA M) (mTxt M) (mTyp M) lin0_22 (mLnd M) (mThr M) (mFar M) (mGrp M) (mSiz M) (mPla M) (mWro M) (mTol M) (mNum M)) (s0_22) ((48 + (y - y / 10 * 10))) _ (by omega)) (cwV 2 hts gX8_writesNumber_X8_put rfl rfl rfl (by decide +kernel) ⟨Nat.le_of_ble_eq_true rfl, Nat.le_of_ble_eq_true rfl⟩) (rwP_v hP hK hE hD (va_recv hK hP (ci := 9) (q0 := 0) rfl rfl)) rfl rfl hl.1 rfl (lv_room (Nat.le_of_ble_eq_true rfl)) dX8_writesNumber_32 ⟨Nat.le_refl _, Nat.le_refl _⟩) hS hFc (fun H1 locs hPn hk hS => ?_)
    have hP : va_P D vwCl (mcells C b (mkM (mNow M) (mBef M) (mSav M) (mHis M) (mIsS M) (mRem M) (mErA M) (mFaA M) (mTxt M) (mTyp M) (upd lin0_22 s0_22 (48 + (y - y / 10 * 10))) (mLnd M) (mThr M) (mFar M) (mGrp M) (mSiz M) (mPla M) (mWro M) (mTol M) (mNum M))) H1 := hPn
    have hD : va_D A (mcells C b (mkM (mNow M) (mBef M) (mSav M) (mHis M) (mIsS M) (mRem M) (mErA M) (mFaA M) (mTxt M) (mTyp M) (upd lin0_22 s0_22 (48 + (y - y / 10 * 10))) (mLnd M) (mThr M) (mFar M) (mGrp M) (mSiz M) (mPla M) (mWro M) (mTol M) (mNum M))) := adr_D hD rfl
    generalize H1 = H at hP hS ⊢
    refine topI (y := (nI (s0_22 + 1))) rfl ?_
    have hz : z = ((s0_22 + 1), (upd lin0_22 s0_22 (48 + (y - y / 10 * 10)))) := hz
    rw [hz]
    exact rw_ret hx hb hr hP hS rfl dX8_writesNumber_35 hlocks
  refine lv_iload_n hx hb dX8_writesNumber_0 rfl (lv_at hl 2 rfl) ?_
  refine lv_bipush (v := 10) hx hb dX8_writesNumber_1 (by decide +kernel) ?_
  refine lv_icmp_ge (tgt := 10) hx hb dX8_writesNumber_3 (by decide) (fun c_3 => ?_) (fun c_3 => ?_)
  · have hz := hz.trans (if_pos c_3)
    refine lv_aload_n hx hb dX8_writesNumber_10 rfl (lv_at hl 0 rfl) ?_
    refine lv_iload_n hx hb dX8_writesNumber_11 rfl (lv_at hl 1 rfl) ?_
    refine lv_bipush (v := 48) hx hb dX8_writesNumber_12 (by decide +kernel) ?_
    refine lv_iload_n hx hb dX8_writesNumber_14 rfl (lv_at hl 2 rfl) ?_
    refine lv_bipush (v := 10) hx hb dX8_writesNumber_15 (by decide +kernel) ?_
    refine lv_idiv hx hb dX8_writesNumber_17 (by decide) ?_
    refine lv_iadd hx hb dX8_writesNumber_18 ?_
    have hFc := va_free (wc := (mcells C b M)) hD hS hA [0, 1, 2, 3, 4, 5, 6, 7, 8, 9] rfl
    refine callRw (va_runV (As := [.int (nI x), .int (48 + (y / 10))]) (rest := []) ⟨hx, hb, hml, hown, hts⟩ (c_X8_put_ l D C b M (x) ((48 + (y / 10))) _ (by omega)) (cwV 2 hts gX8_writesNumber_X8_put rfl rfl rfl (by decide +kernel) ⟨Nat.le_of_ble_eq_true rfl, Nat.le_of_ble_eq_true rfl⟩) (rwP_v hP hK hE hD (va_recv hK hP (ci := 9) (q0 := 0) rfl rfl)) rfl rfl hl.1 rfl (lv_room (Nat.le_of_ble_eq_true rfl)) dX8_writesNumber_19 ⟨Nat.le_refl _, Nat.le_refl _⟩) hS hFc (fun H1 locs hPn hk hS => ?_)
    have hP : va_P D vwCl (mcells C b (mkM (mNow M) (mBef M) (mSav M) (mHis M) (mIsS M) (mRem M) (mErA M) (mFaA M) (mTxt M) (mTyp M) (upd (mLin M) x (48 + (y / 10))) (mLnd M) (mThr M) (mFar M) (mGrp M) (mSiz M) (mPla M) (mWro M) (mTol M) (mNum M))) H1 := hPn
    have hD : va_D A (mcells C b (mkM (mNow M) (mBef M) (mSav M) (mHis M) (mIsS M) (mRem M) (mErA M) (mFaA M) (mTxt M) (mTyp M) (upd (mLin M) x (48 + (y / 10))) (mLnd M) (mThr M) (mFar M) (mGrp M) (mSiz M) (mPla M) (mWro M) (mTol M) (mNum M))) := adr_D hD rfl
    generalize H1 = H at hP hS ⊢
    refine topI (y := (nI (x + 1))) rfl ?_
    exact J22 ((x + 1)) ((upd (mLin M) x (48 + (y / 10)))) _ _ ls hz (by omega) hP hD hS (lv_sub hl [0, 2] rfl)
  · have hz := hz.trans (if_neg c_3)
    refine lv_iload_n hx hb dX8_writesNumber_6 rfl (lv_at hl 1 rfl) ?_
    refine lv_goto (tgt := 22) hx hb dX8_writesNumber_7 (by decide) ?_
    exact J22 (x) ((mLin M)) _ _ ls hz (by omega) (by rw [mkM_eta M]; exact hP) (by rw [mkM_eta M]; exact hD) hS (lv_sub hl [0, 2] rfl)

