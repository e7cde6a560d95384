def f_X8_addPlayer (nw : (Nat → Int32)) (bf : (Nat → Int32)) (hs : (Nat → Int32)) (rm : Nat) (x : Int32) : Int32 × (Nat → Int32) × (Nat → Int32) × (Nat → Int32) × Nat × Int32 := (lt_ (f_X8_joins nw (x)) (fun y7 => (lt_ (f_X8_ends y7.2.1 (f_X8_copies nw bf 0 0) hs rm y7.2.2 (y7.1)) (fun y10 => (y10.1, y10.2.1, (f_X8_copies nw bf 0 0), y10.2.2.1, y10.2.2.2, y7.2.2)))))
set_option maxHeartbeats 4000000 in
set_option maxRecDepth 100000 in
theorem c_X8_addPlayer (l : Launch) (D : va_G) (C : Nat → ClassId) (b : Nat → Nat) (M : MS) (x : Int32) (sz : Nat) (hM : MSafe M) (hRem : mRem M ≤ 8) : Met l yX8_addPlayer wsX8_addPlayer ({ frames := 3, cells := 0, slots := 0, locals := 66 } : Room) (rwP [.ref (b 0), .int x] D C (mcells C b M) sz) (rwO (some (.int ((f_X8_addPlayer (mNow M) (mBef M) (mHis M) (mRem M) x).1))) D (mcells C b (mkM ((f_X8_addPlayer (mNow M) (mBef M) (mHis M) (mRem M) x).2.1) ((f_X8_addPlayer (mNow M) (mBef M) (mHis M) (mRem M) x).2.2.1) (mSav M) ((f_X8_addPlayer (mNow M) (mBef M) (mHis M) (mRem M) x).2.2.2.1) (mIsS M) ((f_X8_addPlayer (mNow M) (mBef M) (mHis M) (mRem M) x).2.2.2.2.1) (mErA M) (mFaA M) (mTxt M) (mTyp M) (mLin M) (mLnd M) ((f_X8_addPlayer (mNow M) (mBef M) (mHis M) (mRem M) x).2.2.2.2.2) (mFar M) (mGrp M) (mSiz M) (mPla M) (mWro M) (mTol M) (mNum M))) (va_A (mcells C b M) sz)) 0 0 (va_A (mcells C b M) sz) := by
  refine Met.ofW (cc := cX8_addPlayer) (maxL := 2) (ret := (some .int)) (by decide) rfl ?_
  intro p e s m args below meth c s₁ B hml hv
  obtain ⟨rfl, hsz, hP, hK, hD0, hE⟩ := hv
  have hx := B.exec
  have hb := B.bytes
  have hr := B.returns
  have hts := atoms_spec (ws := wsX8_addPlayer) B.pre
  have hown : s.vm.findClass RX8 = some m.cls := findClass_of_methodNamed B.named
  have hlocks := B.notSynchronized
  subst hsz
  have hD := hD0.self (sz := s.heap.size)
  generalize hAe : va_A (mcells C b M) s.heap.size = A at hD ⊢
  have hA : ∀ q : Nat, s.heap.size ≤ q → A q := fun q h => by rw [← hAe]; exact Or.inr h
  have hS0 : va_S A s.heap s.heap [] := va_S.rf
  have hP : va_P D vwCl (mcells C b M) s.heap := hP
  have hS := hS0
  obtain ⟨⟨hS2, hS12⟩, ⟨hP2, hP4⟩, hLH, hFE⟩ := id hM
  have hl := lv_entry ([.ref (b 0), .int x]) (n := 2) (Nat.le_of_ble_eq_true rfl)
  rw [lg_entry_eq]
  generalize (lg_sl ([.ref (b 0), .int x]) ++ List.replicate (2 - (lg_sl ([.ref (b 0), .int x])).length) Slot.unset).toArray = ls at hl ⊢
  have hl : lv_has ls 2 [(0, .ref (b 0)), (1, .int x)] := hl
  obtain ⟨z, hz⟩ : ∃ z, z = f_X8_addPlayer (mNow M) (mBef M) (mHis M) (mRem M) x := ⟨_, rfl⟩
  rw [← hz]
  refine lv_aload_n hx hb dX8_addPlayer_0 rfl (lv_at hl 0 rfl) ?_
  have hFc := va_free (wc := (mcells C b M)) hD hS hA [0, 1, 2, 3, 4, 5, 6, 7, 8, 9] rfl
  refine callRw (va_runV (As := []) (rest := []) ⟨hx, hb, hml, hown, hts⟩ (c_X8_begins_ l D C b M _) (cwV 0 hts gX8_addPlayer_X8_begins rfl rfl rfl (by decide +kernel) ⟨Nat.le_of_ble_eq_true rfl, Nat.le_of_ble_eq_true rfl⟩) (rwP_v hP hK hE hD (va_recv hK hP (ci := 9) (q0 := 0) rfl rfl)) rfl rfl hl.1 rfl (lv_room (Nat.le_of_ble_eq_true rfl)) dX8_addPlayer_1 ⟨Nat.le_refl _, Nat.le_refl _⟩) hS hFc (fun H1 locs hPn hk hS => ?_)
  have hP : va_P D vwCl (mcells C b (mkM (mNow M) (f_X8_copies (mNow M) (mBef M) 0 0) (mSav M) (mHis M) (mIsS M) (mRem M) (mErA M) (mFaA M) (mTxt M) (mTyp M) (mLin M) (mLnd M) (mThr M) (mFar M) (mGrp M) (mSiz M) (mPla M) (mWro M) (mTol M) (mNum M))) H1 := hPn
  have hD : va_D A (mcells C b (mkM (mNow M) (f_X8_copies (mNow M) (mBef M) 0 0) (mSav M) (mHis M) (mIsS M) (mRem M) (mErA M) (mFaA M) (mTxt M) (mTyp M) (mLin M) (mLnd M) (mThr M) (mFar M) (mGrp M) (mSiz M) (mPla M) (mWro M) (mTol M) (mNum M))) := adr_D hD rfl
  generalize H1 = H at hP hS ⊢
  refine lv_aload_n hx hb dX8_addPlayer_4 rfl (lv_at hl 0 rfl) ?_
  refine lv_aload_n hx hb dX8_addPlayer_5 rfl (lv_at hl 0 rfl) ?_
  refine lv_iload_n hx hb dX8_addPlayer_6 rfl (lv_at hl 1 rfl) ?_
  have hFc := va_free (wc := (mcells C b (mkM (mNow M) (f_X8_copies (mNow M) (mBef M) 0 0) (mSav M) (mHis M) (mIsS M) (mRem M) (mErA M) (mFaA M) (mTxt M) (mTyp M) (mLin M) (mLnd M) (mThr M) (mFar M) (mGrp M) (mSiz M) (mPla M) (mWro M) (mTol M) (mNum M)))) hD hS hA [0, 1, 2, 3, 4, 5, 6, 7, 8, 9] rfl
  refine callRw (va_runV (As := [.int x]) (rest := [.ref (b 0)]) ⟨hx, hb, hml, hown, hts⟩ (c_X8_joins l D C b (mkM (mNow M) (f_X8_copies (mNow M) (mBef M) 0 0) (mSav M) (mHis M) (mIsS M) (mRem M) (mErA M) (mFaA M) (mTxt M) (mTyp M) (mLin M) (mLnd M) (mThr M) (mFar M) (mGrp M) (mSiz M) (mPla M) (mWro M) (mTol M) (mNum M)) (x) _ (MSafe_of hM rfl)) (cwV 1 hts gX8_addPlayer_X8_joins rfl rfl rfl (by decide +kernel) ⟨Nat.le_of_ble_eq_true rfl, Nat.le_of_ble_eq_true rfl⟩) (rwP_v hP hK hE hD (va_recv hK hP (ci := 9) (q0 := 0) rfl rfl)) rfl rfl hl.1 rfl (lv_room (Nat.le_of_ble_eq_true rfl)) dX8_addPlayer_7 ⟨Nat.le_refl _, Nat.le_refl _⟩) hS hFc (fun H1 locs hPn hk hS => ?_)
  obtain ⟨y7, hy7⟩ : ∃ y_, y_ = (f_X8_joins (mNow M) (x)) := ⟨_, rfl⟩
  have hPn : va_P D vwCl (mcells C b (mkM y7.2.1 (f_X8_copies (mNow M) (mBef M) 0 0) (mSav M) (mHis M) (mIsS M) (mRem M) (mErA M) (mFaA M) (mTxt M) (mTyp M) (mLin M) (mLnd M) y7.2.2 (mFar M) (mGrp M) (mSiz M) (mPla M) (mWro M) (mTol M) (mNum M))) H1 := by rw [hy7]; exact hPn
  refine topI (y := y7.1) (congrArg Prod.fst hy7).symm ?_
  have hz := lt_eq hz hy7
  have hP : va_P D vwCl (mcells C b (mkM y7.2.1 (f_X8_copies (mNow M) (mBef M) 0 0) (mSav M) (mHis M) (mIsS M) (mRem M) (mErA M) (mFaA M) (mTxt M) (mTyp M) (mLin M) (mLnd M) y7.2.2 (mFar M) (mGrp M) (mSiz M) (mPla M) (mWro M) (mTol M) (mNum M))) H1 := hPn
  have hD : va_D A (mcells C b (mkM y7.2.1 (f_X8_copies (mNow M) (mBef M) 0 0) (mSav M) (mHis M) (mIsS M) (mRem M) (mErA M) (mFaA M) (mTxt M) (mTyp M) (mLin M) (mLnd M) y7.2.2 (mFar M) (mGrp M) (mSiz M) (mPla M) (mWro M) (mTol M) (mNum M))) := adr_D hD rfl
  generalize H1 = H at hP hS ⊢
  have hFc := va_free (wc := (mcells C b (mkM y7.2.1 (f_X8_copies (mNow M) (mBef M) 0 0) (mSav M) (mHis M) (mIsS M) (mRem M) (mErA M) (mFaA M) (mTxt M) (mTyp M) (mLin M) (mLnd M) y7.2.2 (mFar M) (mGrp M) (mSiz M) (mPla M) (mWro M) (mTol M) (mNum M)))) hD hS hA [0, 1, 2, 3, 4, 5, 6, 7, 8, 9] rfl
  refine callRw (va_runV (As := [.int y7.1]) (rest := []) ⟨hx, hb, hml, hown, hts⟩ (c_X8_ends l D C b (mkM y7.2.1 (f_X8_copies (mNow M) (mBef M) 0 0) (mSav M) (mHis M) (mIsS M) (mRem M) (mErA M) (mFaA M) (mTxt M) (mTyp M) (mLin M) (mLnd M) y7.2.2 (mFar M) (mGrp M) (mSiz M) (mPla M) (mWro M) (mTol M) (mNum M)) (y7.1) _ (by first | assumption | omega)) (cwV 1 hts gX8_addPlayer_X8_ends rfl rfl rfl (by decide +kernel) ⟨Nat.le_of_ble_eq_true rfl, Nat.le_of_ble_eq_true rfl⟩) (rwP_v hP hK hE hD (va_recv hK hP (ci := 9) (q0 := 0) rfl rfl)) rfl rfl hl.1 rfl (lv_room (Nat.le_of_ble_eq_true rfl)) dX8_addPlayer_10 ⟨Nat.le_refl _, Nat.le_refl _⟩) hS hFc (fun H1 locs hPn hk hS => ?_)
  obtain ⟨y10, hy10⟩ : ∃ y_, y_ = (f_X8_ends y7.2.1 (f_X8_copies (mNow M) (mBef M) 0 0) (mHis M) (mRem M) y7.2.2 (y7.1)) := ⟨_, rfl⟩
  have hPn : va_P D vwCl (mcells C b (mkM y10.2.1 (f_X8_copies (mNow M) (mBef M) 0 0) (mSav M) y10.2.2.1 (mIsS M) y10.2.2.2 (mErA M) (mFaA M) (mTxt M) (mTyp M) (mLin M) (mLnd M) y7.2.2 (mFar M) (mGrp M) (mSiz M) (mPla M) (mWro M) (mTol M) (mNum M))) H1 := by rw [hy10]; exact hPn
  refine topI (y := y10.1) (congrArg Prod.fst hy10).symm ?_
  have hz := lt_eq hz hy10
  have hP : va_P D vwCl (mcells C b (mkM y10.2.1 (f_X8_copies (mNow M) (mBef M) 0 0) (mSav M) y10.2.2.1 (mIsS M) y10.2.2.2 (mErA M) (mFaA M) (mTxt M) (mTyp M) (mLin M) (mLnd M) y7.2.2 (mFar M) (mGrp M) (mSiz M) (mPla M) (mWro M) (mTol M) (mNum M))) H1 := hPn
  have hD : va_D A (mcells C b (mkM y10.2.1 (f_X8_copies (mNow M) (mBef M) 0 0) (mSav M) y10.2.2.1 (mIsS M) y10.2.2.2 (mErA M) (mFaA M) (mTxt M) (mTyp M) (mLin M) (mLnd M) y7.2.2 (mFar M) (mGrp M) (mSiz M) (mPla M) (mWro M) (mTol M) (mNum M))) := adr_D hD rfl
  generalize H1 = H at hP hS ⊢
  have hz : z = (y10.1, y10.2.1, (f_X8_copies (mNow M) (mBef M) 0 0), y10.2.2.1, y10.2.2.2, y7.2.2) := hz
  rw [hz]
  exact rw_ret hx hb hr hP hS rfl dX8_addPlayer_13 hlocks

