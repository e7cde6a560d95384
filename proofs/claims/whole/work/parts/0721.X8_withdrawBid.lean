def f_X8_withdrawBid (nw : (Nat → Int32)) (bf : (Nat → Int32)) (hs : (Nat → Int32)) (rm : Nat) (x : Int32) (y : Int32) : Int32 × (Nat → Int32) × (Nat → Int32) × (Nat → Int32) × Nat × Int32 := (lt_ (f_X8_drops nw (x) (y)) (fun y8 => (lt_ (f_X8_ends y8.2.1 (f_X8_copies nw bf 0 0) hs rm y8.2.2 (y8.1)) (fun y11 => (y11.1, y11.2.1, (f_X8_copies nw bf 0 0), y11.2.2.1, y11.2.2.2, y8.2.2)))))
set_option maxHeartbeats 4000000 in
set_option maxRecDepth 100000 in
theorem c_X8_withdrawBid (l : Launch) (D : va_G) (C : Nat → ClassId) (b : Nat → Nat) (M : MS) (x : Int32) (y : Int32) (sz : Nat) (hM : MSafe M) (hRem : mRem M ≤ 8) : Met l yX8_withdrawBid wsX8_withdrawBid ({ frames := 5, cells := 0, slots := 0, locals := 110 } : Room) (rwP [.ref (b 0), .int x, .int y] D C (mcells C b M) sz) (rwO (some (.int ((f_X8_withdrawBid (mNow M) (mBef M) (mHis M) (mRem M) x y).1))) D (mcells C b (mkM ((f_X8_withdrawBid (mNow M) (mBef M) (mHis M) (mRem M) x y).2.1) ((f_X8_withdrawBid (mNow M) (mBef M) (mHis M) (mRem M) x y).2.2.1) (mSav M) ((f_X8_withdrawBid (mNow M) (mBef M) (mHis M) (mRem M) x y).2.2.2.1) (mIsS M) ((f_X8_withdrawBid (mNow M) (mBef M) (mHis M) (mRem M) x y).2.2.2.2.1) (mErA M) (mFaA M) (mTxt M) (mTyp M) (mLin M) (mLnd M) ((f_X8_withdrawBid (mNow M) (mBef M) (mHis M) (mRem M) x y).2.2.2.2.2) (mFar M) (mGrp M) (mSiz M) (mPla M) (mWro M) (mTol M) (mNum M))) (va_A (mcells C b M) sz)) 0 0 (va_A (mcells C b M) sz) := by
  refine Met.ofW (cc := cX8_withdrawBid) (maxL := 3) (ret := (some .int)) (by decide) rfl ?_
  intro p e s m args below meth c s₁ B hml hv
  obtain ⟨rfl, hsz, hP, hK, hD0, hE⟩ := hv
  have hx := B.exec
  have hb := B.bytes
  have hr := B.returns
  have hts := atoms_spec (ws := wsX8_withdrawBid) B.pre
  have hown : s.vm.findClass RX8 = some m.cls := findClass_of_methodNamed B.named
  have hlocks := B.notSynchronized
  subst hsz
  have hD := hD0.self (sz := s.heap.size)
  generalize hAe : va_A (mcells C b M) s.heap.size = A at hD ⊢
  have hA : ∀ q : Nat, s.heap.size ≤ q → A q := fun q h => by rw [← hAe]; exact Or.inr h
  have hS0 : va_S A s.heap s.heap [] := va_S.rf
  have hP : va_P D vwCl (mcells C b M) s.heap := hP
  have hS := hS0
  obtain ⟨⟨hS2, hS12⟩, ⟨hP2, hP4⟩, hLH, hFE⟩ := id hM
  have hl := lv_entry ([.ref (b 0), .int x, .int y]) (n := 3) (Nat.le_of_ble_eq_true rfl)
  rw [lg_entry_eq]
  generalize (lg_sl ([.ref (b 0), .int x, .int y]) ++ List.replicate (3 - (lg_sl ([.ref (b 0), .int x, .int y])).length) Slot.unset).toArray = ls at hl ⊢
  have hl : lv_has ls 3 [(0, .ref (b 0)), (1, .int x), (2, .int y)] := hl
  obtain ⟨z, hz⟩ : ∃ z, z = f_X8_withdrawBid (mNow M) (mBef M) (mHis M) (mRem M) x y := ⟨_, rfl⟩
  rw [← hz]
  refine lv_aload_n hx hb dX8_withdrawBid_0 rfl (lv_at hl 0 rfl) ?_
  have hFc := va_free (wc := (mcells C b M)) hD hS hA [0, 1, 2, 3, 4, 5, 6, 7, 8, 9] rfl
  refine callRw (va_runV (As := []) (rest := []) ⟨hx, hb, hml, hown, hts⟩ (c_X8_begins_ l D C b M _) (cwV 0 hts gX8_withdrawBid_X8_begins rfl rfl rfl (by decide +kernel) ⟨Nat.le_of_ble_eq_true rfl, Nat.le_of_ble_eq_true rfl⟩) (rwP_v hP hK hE hD (va_recv hK hP (ci := 9) (q0 := 0) rfl rfl)) rfl rfl hl.1 rfl (lv_room (Nat.le_of_ble_eq_true rfl)) dX8_withdrawBid_1 ⟨Nat.le_refl _, Nat.le_refl _⟩) hS hFc (fun H1 locs hPn hk hS => ?_)
  have hP : va_P D vwCl (mcells C b (mkM (mNow M) (f_X8_copies (mNow M) (mBef M) 0 0) (mSav M) (mHis M) (mIsS M) (mRem M) (mErA M) (mFaA M) (mTxt M) (mTyp M) (mLin M) (mLnd M) (mThr M) (mFar M) (mGrp M) (mSiz M) (mPla M) (mWro M) (mTol M) (mNum M))) H1 := hPn
  have hD : va_D A (mcells C b (mkM (mNow M) (f_X8_copies (mNow M) (mBef M) 0 0) (mSav M) (mHis M) (mIsS M) (mRem M) (mErA M) (mFaA M) (mTxt M) (mTyp M) (mLin M) (mLnd M) (mThr M) (mFar M) (mGrp M) (mSiz M) (mPla M) (mWro M) (mTol M) (mNum M))) := adr_D hD rfl
  generalize H1 = H at hP hS ⊢
  refine lv_aload_n hx hb dX8_withdrawBid_4 rfl (lv_at hl 0 rfl) ?_
  refine lv_aload_n hx hb dX8_withdrawBid_5 rfl (lv_at hl 0 rfl) ?_
  refine lv_iload_n hx hb dX8_withdrawBid_6 rfl (lv_at hl 1 rfl) ?_
  refine lv_iload_n hx hb dX8_withdrawBid_7 rfl (lv_at hl 2 rfl) ?_
  have hFc := va_free (wc := (mcells C b (mkM (mNow M) (f_X8_copies (mNow M) (mBef M) 0 0) (mSav M) (mHis M) (mIsS M) (mRem M) (mErA M) (mFaA M) (mTxt M) (mTyp M) (mLin M) (mLnd M) (mThr M) (mFar M) (mGrp M) (mSiz M) (mPla M) (mWro M) (mTol M) (mNum M)))) hD hS hA [0, 1, 2, 3, 4, 5, 6, 7, 8, 9] rfl
  refine callRw (va_runV (As := [.int x, .int y]) (rest := [.ref (b 0)]) ⟨hx, hb, hml, hown, hts⟩ (c_X8_drops l D C b (mkM (mNow M) (f_X8_copies (mNow M) (mBef M) 0 0) (mSav M) (mHis M) (mIsS M) (mRem M) (mErA M) (mFaA M) (mTxt M) (mTyp M) (mLin M) (mLnd M) (mThr M) (mFar M) (mGrp M) (mSiz M) (mPla M) (mWro M) (mTol M) (mNum M)) (x) (y) _ (MSafe_of hM rfl)) (cwV 2 hts gX8_withdrawBid_X8_drops rfl rfl rfl (by decide +kernel) ⟨Nat.le_of_ble_eq_true rfl, Nat.le_of_ble_eq_true rfl⟩) (rwP_v hP hK hE hD (va_recv hK hP (ci := 9) (q0 := 0) rfl rfl)) rfl rfl hl.1 rfl (lv_room (Nat.le_of_ble_eq_true rfl)) dX8_withdrawBid_8 ⟨Nat.le_refl _, Nat.le_refl _⟩) hS hFc (fun H1 locs hPn hk hS => ?_)
  obtain ⟨y8, hy8⟩ : ∃ y_, y_ = (f_X8_drops (mNow M) (x) (y)) := ⟨_, rfl⟩
  have hPn : va_P D vwCl (mcells C b (mkM y8.2.1 (f_X8_copies (mNow M) (mBef M) 0 0) (mSav M) (mHis M) (mIsS M) (mRem M) (mErA M) (mFaA M) (mTxt M) (mTyp M) (mLin M) (mLnd M) y8.2.2 (mFar M) (mGrp M) (mSiz M) (mPla M) (mWro M) (mTol M) (mNum M))) H1 := by rw [hy8]; exact hPn
  refine topI (y := y8.1) (congrArg Prod.fst hy8).symm ?_
  have hz := lt_eq hz hy8
  have hP : va_P D vwCl (mcells C b (mkM y8.2.1 (f_X8_copies (mNow M) (mBef M) 0 0) (mSav M) (mHis M) (mIsS M) (mRem M) (mErA M) (mFaA M) (mTxt M) (mTyp M) (mLin M) (mLnd M) y8.2.2 (mFar M) (mGrp M) (mSiz M) (mPla M) (mWro M) (mTol M) (mNum M))) H1 := hPn
  have hD : va_D A (mcells C b (mkM y8.2.1 (f_X8_copies (mNow M) (mBef M) 0 0) (mSav M) (mHis M) (mIsS M) (mRem M) (mErA M) (mFaA M) (mTxt M) (mTyp M) (mLin M) (mLnd M) y8.2.2 (mFar M) (mGrp M) (mSiz M) (mPla M) (mWro M) (mTol M) (mNum M))) := adr_D hD rfl
  generalize H1 = H at hP hS ⊢
  have hFc := va_free (wc := (mcells C b (mkM y8.2.1 (f_X8_copies (mNow M) (mBef M) 0 0) (mSav M) (mHis M) (mIsS M) (mRem M) (mErA M) (mFaA M) (mTxt M) (mTyp M) (mLin M) (mLnd M) y8.2.2 (mFar M) (mGrp M) (mSiz M) (mPla M) (mWro M) (mTol M) (mNum M)))) hD hS hA [0, 1, 2, 3, 4, 5, 6, 7, 8, 9] rfl
  refine callRw (va_runV (As := [.int y8.1]) (rest := []) ⟨hx, hb, hml, hown, hts⟩ (c_X8_ends l D C b (mkM y8.2.1 (f_X8_copies (mNow M) (mBef M) 0 0) (mSav M) (mHis M) (mIsS M) (mRem M) (mErA M) (mFaA M) (mTxt M) (mTyp M) (mLin M) (mLnd M) y8.2.2 (mFar M) (mGrp M) (mSiz M) (mPla M) (mWro M) (mTol M) (mNum M)) (y8.1) _ (by first | assumption | omega)) (cwV 1 hts gX8_withdrawBid_X8_ends rfl rfl rfl (by decide +kernel) ⟨Nat.le_of_ble_eq_true rfl, Nat.le_of_ble_eq_true rfl⟩) (rwP_v hP hK hE hD (va_recv hK hP (ci := 9) (q0 := 0) rfl rfl)) rfl rfl hl.1 rfl (lv_room (Nat.le_of_ble_eq_true rfl)) dX8_withdrawBid_11 ⟨Nat.le_refl _, Nat.le_refl _⟩) hS hFc (fun H1 locs hPn hk hS => ?_)
  obtain ⟨y11, hy11⟩ : ∃ y_, y_ = (f_X8_ends y8.2.1 (f_X8_copies (mNow M) (mBef M) 0 0) (mHis M) (mRem M) y8.2.2 (y8.1)) := ⟨_, rfl⟩
  have hPn : va_P D vwCl (mcells C b (mkM y11.2.1 (f_X8_copies (mNow M) (mBef M) 0 0) (mSav M) y11.2.2.1 (mIsS M) y11.2.2.2 (mErA M) (mFaA M) (mTxt M) (mTyp M) (mLin M) (mLnd M) y8.2.2 (mFar M) (mGrp M) (mSiz M) (mPla M) (mWro M) (mTol M) (mNum M))) H1 := by rw [hy11]; exact hPn
  refine topI (y := y11.1) (congrArg Prod.fst hy11).symm ?_
  have hz := lt_eq hz hy11
  have hP : va_P D vwCl (mcells C b (mkM y11.2.1 (f_X8_copies (mNow M) (mBef M) 0 0) (mSav M) y11.2.2.1 (mIsS M) y11.2.2.2 (mErA M) (mFaA M) (mTxt M) (mTyp M) (mLin M) (mLnd M) y8.2.2 (mFar M) (mGrp M) (mSiz M) (mPla M) (mWro M) (mTol M) (mNum M))) H1 := hPn
  have hD : va_D A (mcells C b (mkM y11.2.1 (f_X8_copies (mNow M) (mBef M) 0 0) (mSav M) y11.2.2.1 (mIsS M) y11.2.2.2 (mErA M) (mFaA M) (mTxt M) (mTyp M) (mLin M) (mLnd M) y8.2.2 (mFar M) (mGrp M) (mSiz M) (mPla M) (mWro M) (mTol M) (mNum M))) := adr_D hD rfl
  generalize H1 = H at hP hS ⊢
  have hz : z = (y11.1, y11.2.1, (f_X8_copies (mNow M) (mBef M) 0 0), y11.2.2.1, y11.2.2.2, y8.2.2) := hz
  rw [hz]
  exact rw_ret hx hb hr hP hS rfl dX8_withdrawBid_14 hlocks

