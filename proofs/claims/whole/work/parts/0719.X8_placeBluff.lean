def f_X8_placeBluff (nw : (Nat → Int32)) (bf : (Nat → Int32)) (hs : (Nat → Int32)) (rm : Nat) (x : Int32) (y : Int32) (w : Int32) : Int32 × (Nat → Int32) × (Nat → Int32) × (Nat → Int32) × Nat × Int32 := (lt_ (f_X8_bids nw (x) (y) (w) (true)) (fun y10 => (lt_ (f_X8_ends y10.2.1 (f_X8_copies nw bf 0 0) hs rm y10.2.2 (y10.1)) (fun y13 => (y13.1, y13.2.1, (f_X8_copies nw bf 0 0), y13.2.2.1, y13.2.2.2, y10.2.2)))))
set_option maxHeartbeats 4000000 in
set_option maxRecDepth 100000 in
theorem c_X8_placeBluff (l : Launch) (D : va_G) (C : Nat → ClassId) (b : Nat → Nat) (M : MS) (x : Int32) (y : Int32) (w : Int32) (sz : Nat) (hM : MSafe M) (hRem : mRem M ≤ 8) : Met l yX8_placeBluff wsX8_placeBluff ({ frames := 6, cells := 0, slots := 0, locals := 135 } : Room) (rwP [.ref (b 0), .int x, .int y, .int w] D C (mcells C b M) sz) (rwO (some (.int ((f_X8_placeBluff (mNow M) (mBef M) (mHis M) (mRem M) x y w).1))) D (mcells C b (mkM ((f_X8_placeBluff (mNow M) (mBef M) (mHis M) (mRem M) x y w).2.1) ((f_X8_placeBluff (mNow M) (mBef M) (mHis M) (mRem M) x y w).2.2.1) (mSav M) ((f_X8_placeBluff (mNow M) (mBef M) (mHis M) (mRem M) x y w).2.2.2.1) (mIsS M) ((f_X8_placeBluff (mNow M) (mBef M) (mHis M) (mRem M) x y w).2.2.2.2.1) (mErA M) (mFaA M) (mTxt M) (mTyp M) (mLin M) (mLnd M) ((f_X8_placeBluff (mNow M) (mBef M) (mHis M) (mRem M) x y w).2.2.2.2.2) (mFar M) (mGrp M) (mSiz M) (mPla M) (mWro M) (mTol M) (mNum M))) (va_A (mcells C b M) sz)) 0 0 (va_A (mcells C b M) sz) := by
  refine Met.ofW (cc := cX8_placeBluff) (maxL := 4) (ret := (some .int)) (by decide) rfl ?_
  intro p e s m args below meth c s₁ B hml hv
  obtain ⟨rfl, hsz, hP, hK, hD0, hE⟩ := hv
  have hx := B.exec
  have hb := B.bytes
  have hr := B.returns
  have hts := atoms_spec (ws := wsX8_placeBluff) B.pre
  have hown : s.vm.findClass RX8 = some m.cls := findClass_of_methodNamed B.named
  have hlocks := B.notSynchronized
  subst hsz
  have hD := hD0.self (sz := s.heap.size)
  generalize hAe : va_A (mcells C b M) s.heap.size = A at hD ⊢
  have hA : ∀ q : Nat, s.heap.size ≤ q → A q := fun q h => by rw [← hAe]; exact Or.inr h
  have hS0 : va_S A s.heap s.heap [] := va_S.rf
  have hP : va_P D vwCl (mcells C b M) s.heap := hP
  have hS := hS0
  obtain ⟨⟨hS2, hS12⟩, ⟨hP2, hP4⟩, hLH, hFE⟩ := id hM
  have hl := lv_entry ([.ref (b 0), .int x, .int y, .int w]) (n := 4) (Nat.le_of_ble_eq_true rfl)
  rw [lg_entry_eq]
  generalize (lg_sl ([.ref (b 0), .int x, .int y, .int w]) ++ List.replicate (4 - (lg_sl ([.ref (b 0), .int x, .int y, .int w])).length) Slot.unset).toArray = ls at hl ⊢
  have hl : lv_has ls 4 [(0, .ref (b 0)), (1, .int x), (2, .int y), (3, .int w)] := hl
  obtain ⟨z, hz⟩ : ∃ z, z = f_X8_placeBluff (mNow M) (mBef M) (mHis M) (mRem M) x y w := ⟨_, rfl⟩
  rw [← hz]
  refine lv_aload_n hx hb dX8_placeBluff_0 rfl (lv_at hl 0 rfl) ?_
  have hFc := va_free (wc := (mcells C b M)) hD hS hA [0, 1, 2, 3, 4, 5, 6, 7, 8, 9] rfl
  refine callRw (va_runV (As := []) (rest := []) ⟨hx, hb, hml, hown, hts⟩ (c_X8_begins_ l D C b M _) (cwV 0 hts gX8_placeBluff_X8_begins rfl rfl rfl (by decide +kernel) ⟨Nat.le_of_ble_eq_true rfl, Nat.le_of_ble_eq_true rfl⟩) (rwP_v hP hK hE hD (va_recv hK hP (ci := 9) (q0 := 0) rfl rfl)) rfl rfl hl.1 rfl (lv_room (Nat.le_of_ble_eq_true rfl)) dX8_placeBluff_1 ⟨Nat.le_refl _, Nat.le_refl _⟩) hS hFc (fun H1 locs hPn hk hS => ?_)
  have hP : va_P D vwCl (mcells C b (mkM (mNow M) (f_X8_copies (mNow M) (mBef M) 0 0) (mSav M) (mHis M) (mIsS M) (mRem M) (mErA M) (mFaA M) (mTxt M) (mTyp M) (mLin M) (mLnd M) (mThr M) (mFar M) (mGrp M) (mSiz M) (mPla M) (mWro M) (mTol M) (mNum M))) H1 := hPn
  have hD : va_D A (mcells C b (mkM (mNow M) (f_X8_copies (mNow M) (mBef M) 0 0) (mSav M) (mHis M) (mIsS M) (mRem M) (mErA M) (mFaA M) (mTxt M) (mTyp M) (mLin M) (mLnd M) (mThr M) (mFar M) (mGrp M) (mSiz M) (mPla M) (mWro M) (mTol M) (mNum M))) := adr_D hD rfl
  generalize H1 = H at hP hS ⊢
  refine lv_aload_n hx hb dX8_placeBluff_4 rfl (lv_at hl 0 rfl) ?_
  refine lv_aload_n hx hb dX8_placeBluff_5 rfl (lv_at hl 0 rfl) ?_
  refine lv_iload_n hx hb dX8_placeBluff_6 rfl (lv_at hl 1 rfl) ?_
  refine lv_iload_n hx hb dX8_placeBluff_7 rfl (lv_at hl 2 rfl) ?_
  refine lv_iload_n hx hb dX8_placeBluff_8 rfl (lv_at hl 3 rfl) ?_
  refine lv_iconst (v := 1) hx hb dX8_placeBluff_9 (by decide) ?_
  have hFc := va_free (wc := (mcells C b (mkM (mNow M) (f_X8_copies (mNow M) (mBef M) 0 0) (mSav M) (mHis M) (mIsS M) (mRem M) (mErA M) (mFaA M) (mTxt M) (mTyp M) (mLin M) (mLnd M) (mThr M) (mFar M) (mGrp M) (mSiz M) (mPla M) (mWro M) (mTol M) (mNum M)))) hD hS hA [0, 1, 2, 3, 4, 5, 6, 7, 8, 9] rfl
  refine callRw (va_runV (As := [.int x, .int y, .int w, .int (bI true)]) (rest := [.ref (b 0)]) ⟨hx, hb, hml, hown, hts⟩ (c_X8_bids l D C b (mkM (mNow M) (f_X8_copies (mNow M) (mBef M) 0 0) (mSav M) (mHis M) (mIsS M) (mRem M) (mErA M) (mFaA M) (mTxt M) (mTyp M) (mLin M) (mLnd M) (mThr M) (mFar M) (mGrp M) (mSiz M) (mPla M) (mWro M) (mTol M) (mNum M)) (x) (y) (w) (true) _ (MSafe_of hM rfl)) (cwV 4 hts gX8_placeBluff_X8_bids rfl rfl rfl (by decide +kernel) ⟨Nat.le_of_ble_eq_true rfl, Nat.le_of_ble_eq_true rfl⟩) (rwP_v hP hK hE hD (va_recv hK hP (ci := 9) (q0 := 0) rfl rfl)) rfl rfl hl.1 rfl (lv_room (Nat.le_of_ble_eq_true rfl)) dX8_placeBluff_10 ⟨Nat.le_refl _, Nat.le_refl _⟩) hS hFc (fun H1 locs hPn hk hS => ?_)
  obtain ⟨y10, hy10⟩ : ∃ y_, y_ = (f_X8_bids (mNow M) (x) (y) (w) (true)) := ⟨_, rfl⟩
  have hPn : va_P D vwCl (mcells C b (mkM y10.2.1 (f_X8_copies (mNow M) (mBef M) 0 0) (mSav M) (mHis M) (mIsS M) (mRem M) (mErA M) (mFaA M) (mTxt M) (mTyp M) (mLin M) (mLnd M) y10.2.2 (mFar M) (mGrp M) (mSiz M) (mPla M) (mWro M) (mTol M) (mNum M))) H1 := by rw [hy10]; exact hPn
  refine topI (y := y10.1) (congrArg Prod.fst hy10).symm ?_
  have hz := lt_eq hz hy10
  have hP : va_P D vwCl (mcells C b (mkM y10.2.1 (f_X8_copies (mNow M) (mBef M) 0 0) (mSav M) (mHis M) (mIsS M) (mRem M) (mErA M) (mFaA M) (mTxt M) (mTyp M) (mLin M) (mLnd M) y10.2.2 (mFar M) (mGrp M) (mSiz M) (mPla M) (mWro M) (mTol M) (mNum M))) H1 := hPn
  have hD : va_D A (mcells C b (mkM y10.2.1 (f_X8_copies (mNow M) (mBef M) 0 0) (mSav M) (mHis M) (mIsS M) (mRem M) (mErA M) (mFaA M) (mTxt M) (mTyp M) (mLin M) (mLnd M) y10.2.2 (mFar M) (mGrp M) (mSiz M) (mPla M) (mWro M) (mTol M) (mNum M))) := adr_D hD rfl
  generalize H1 = H at hP hS ⊢
  have hFc := va_free (wc := (mcells C b (mkM y10.2.1 (f_X8_copies (mNow M) (mBef M) 0 0) (mSav M) (mHis M) (mIsS M) (mRem M) (mErA M) (mFaA M) (mTxt M) (mTyp M) (mLin M) (mLnd M) y10.2.2 (mFar M) (mGrp M) (mSiz M) (mPla M) (mWro M) (mTol M) (mNum M)))) hD hS hA [0, 1, 2, 3, 4, 5, 6, 7, 8, 9] rfl
  refine callRw (va_runV (As := [.int y10.1]) (rest := []) ⟨hx, hb, hml, hown, hts⟩ (c_X8_ends l D C b (mkM y10.2.1 (f_X8_copies (mNow M) (mBef M) 0 0) (mSav M) (mHis M) (mIsS M) (mRem M) (mErA M) (mFaA M) (mTxt M) (mTyp M) (mLin M) (mLnd M) y10.2.2 (mFar M) (mGrp M) (mSiz M) (mPla M) (mWro M) (mTol M) (mNum M)) (y10.1) _ (by first | assumption | omega)) (cwV 1 hts gX8_placeBluff_X8_ends rfl rfl rfl (by decide +kernel) ⟨Nat.le_of_ble_eq_true rfl, Nat.le_of_ble_eq_true rfl⟩) (rwP_v hP hK hE hD (va_recv hK hP (ci := 9) (q0 := 0) rfl rfl)) rfl rfl hl.1 rfl (lv_room (Nat.le_of_ble_eq_true rfl)) dX8_placeBluff_13 ⟨Nat.le_refl _, Nat.le_refl _⟩) hS hFc (fun H1 locs hPn hk hS => ?_)
  obtain ⟨y13, hy13⟩ : ∃ y_, y_ = (f_X8_ends y10.2.1 (f_X8_copies (mNow M) (mBef M) 0 0) (mHis M) (mRem M) y10.2.2 (y10.1)) := ⟨_, rfl⟩
  have hPn : va_P D vwCl (mcells C b (mkM y13.2.1 (f_X8_copies (mNow M) (mBef M) 0 0) (mSav M) y13.2.2.1 (mIsS M) y13.2.2.2 (mErA M) (mFaA M) (mTxt M) (mTyp M) (mLin M) (mLnd M) y10.2.2 (mFar M) (mGrp M) (mSiz M) (mPla M) (mWro M) (mTol M) (mNum M))) H1 := by rw [hy13]; exact hPn
  refine topI (y := y13.1) (congrArg Prod.fst hy13).symm ?_
  have hz := lt_eq hz hy13
  have hP : va_P D vwCl (mcells C b (mkM y13.2.1 (f_X8_copies (mNow M) (mBef M) 0 0) (mSav M) y13.2.2.1 (mIsS M) y13.2.2.2 (mErA M) (mFaA M) (mTxt M) (mTyp M) (mLin M) (mLnd M) y10.2.2 (mFar M) (mGrp M) (mSiz M) (mPla M) (mWro M) (mTol M) (mNum M))) H1 := hPn
  have hD : va_D A (mcells C b (mkM y13.2.1 (f_X8_copies (mNow M) (mBef M) 0 0) (mSav M) y13.2.2.1 (mIsS M) y13.2.2.2 (mErA M) (mFaA M) (mTxt M) (mTyp M) (mLin M) (mLnd M) y10.2.2 (mFar M) (mGrp M) (mSiz M) (mPla M) (mWro M) (mTol M) (mNum M))) := adr_D hD rfl
  generalize H1 = H at hP hS ⊢
  have hz : z = (y13.1, y13.2.1, (f_X8_copies (mNow M) (mBef M) 0 0), y13.2.2.1, y13.2.2.2, y10.2.2) := hz
  rw [hz]
  exact rw_ret hx hb hr hP hS rfl dX8_placeBluff_16 hlocks

