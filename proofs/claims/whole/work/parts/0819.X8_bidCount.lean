def f_X8_bidCount_j21  (s0_21 : Int32) (thr0_21 : Int32) : Int32 × Int32 := (s0_21, thr0_21)
def f_X8_bidCount (nw : (Nat → Int32)) (x : Int32) : Int32 × Int32 := (if (f_X8_isSite nw (x)) = true then (f_X8_bidCount_j21 ((f_X8_bidsOn nw (x))) ((gThr (f_X8_isSite nw (x))))) else (f_X8_bidCount_j21 (0) ((gThr (f_X8_isSite nw (x))))))
set_option maxHeartbeats 4000000 in
set_option maxRecDepth 100000 in
theorem c_X8_bidCount (l : Launch) (D : va_G) (C : Nat → ClassId) (b : Nat → Nat) (M : MS) (x : Int32) (sz : Nat) (hM : MSafe M) : Met l yX8_bidCount wsX8_bidCount ({ frames := 4, cells := 0, slots := 0, locals := 88 } : Room) (rwP [.ref (b 0), .int x] D C (mcells C b M) sz) (rwO (some (.int ((f_X8_bidCount (mNow M) x).1))) D (mcells C b (mkM (mNow M) (mBef M) (mSav M) (mHis M) (mIsS M) (mRem M) (mErA M) (mFaA M) (mTxt M) (mTyp M) (mLin M) (mLnd M) ((f_X8_bidCount (mNow M) x).2) (mFar M) (mGrp M) (mSiz M) (mPla M) (mWro M) (mTol M) (mNum M))) (va_A (mcells C b M) sz)) 0 0 (va_A (mcells C b M) sz) := by
  refine Met.ofW (cc := cX8_bidCount) (maxL := 2) (ret := (some .int)) (by decide) rfl ?_
  intro p e s m args below meth c s₁ B hml hv
  obtain ⟨rfl, hsz, hP, hK, hD0, hE⟩ := hv
  have hx := B.exec
  have hb := B.bytes
  have hr := B.returns
  have hts := atoms_spec (ws := wsX8_bidCount) B.pre
  have hown : s.vm.findClass RX8 = some m.cls := findClass_of_methodNamed B.named
  have hlocks := B.notSynchronized
  subst hsz
  have hD := hD0.self (sz := s.heap.size)
  generalize hAe : va_A (mcells C b M) s.heap.size = A at hD ⊢
  have hA : ∀ q : Nat, s.heap.size ≤ q → A q := fun q h => by rw [← hAe]; exact Or.inr h
  have hS0 : va_S A s.heap s.heap [] := va_S.rf
  have hP : va_P D vwCl (mcells C b M) s.heap := hP
  have hS := hS0
  obtain ⟨⟨hS2, hS12⟩, ⟨hP2, hP4⟩, hLH, hFE⟩ := id hM
  have hl := lv_entry ([.ref (b 0), .int x]) (n := 2) (Nat.le_of_ble_eq_true rfl)
  rw [lg_entry_eq]
  generalize (lg_sl ([.ref (b 0), .int x]) ++ List.replicate (2 - (lg_sl ([.ref (b 0), .int x])).length) Slot.unset).toArray = ls at hl ⊢
  have hl : lv_has ls 2 [(0, .ref (b 0)), (1, .int x)] := hl
  obtain ⟨z, hz⟩ : ∃ z, z = f_X8_bidCount (mNow M) x := ⟨_, rfl⟩
  rw [← hz]
  have J21 : ∀ (s0_21 : Int32) (thr0_21 : Int32)  (H : Heap) (locs : List Loc) (ls : Array Slot), z = f_X8_bidCount_j21 s0_21 thr0_21 → va_P D vwCl (mcells C b (mkM (mNow M) (mBef M) (mSav M) (mHis M) (mIsS M) (mRem M) (mErA M) (mFaA M) (mTxt M) (mTyp M) (mLin M) (mLnd M) thr0_21 (mFar M) (mGrp M) (mSiz M) (mPla M) (mWro M) (mTol M) (mNum M))) H → va_D A (mcells C b (mkM (mNow M) (mBef M) (mSav M) (mHis M) (mIsS M) (mRem M) (mErA M) (mFaA M) (mTxt M) (mTyp M) (mLin M) (mLnd M) thr0_21 (mFar M) (mGrp M) (mSiz M) (mPla M) (mWro M) (mTol M) (mNum M))) → va_S A s.heap H locs → lv_has ls 2 [] → W p l e ({ frames := 4, cells := 0, slots := 0, locals := 88 } : Room) s m ([.ref (b 0), .int x] : List Value).toArray below meth c H locs 0 0 (MQ below (rwO (some (.int z.1)) D (mcells C b (mkM (mNow M) (mBef M) (mSav M) (mHis M) (mIsS M) (mRem M) (mErA M) (mFaA M) (mTxt M) (mTyp M) (mLin M) (mLnd M) z.2 (mFar M) (mGrp M) (mSiz M) (mPla M) (mWro M) (mTol M) (mNum M))) A) ([.ref (b 0), .int x] : List Value).toArray s 0 0 A) (F0 m 21 ls [.int s0_21]) := by
    intro s0_21 thr0_21 H locs ls hz  hP hD hS hl
    have hz : z = (s0_21, thr0_21) := hz
    rw [hz]
    exact rw_ret hx hb hr hP hS rfl dX8_bidCount_21 hlocks
  refine lv_aload_n hx hb dX8_bidCount_0 rfl (lv_at hl 0 rfl) ?_
  refine lv_aload_n hx hb dX8_bidCount_1 rfl (lv_at hl 0 rfl) ?_
  refine lv_iload_n hx hb dX8_bidCount_2 rfl (lv_at hl 1 rfl) ?_
  refine callRo (va_runV (As := [.int x]) (rest := [.ref (b 0)]) ⟨hx, hb, hml, hown, hts⟩ (c_X8_isSite l D C b M (x) hM) (cwV 1 hts gX8_bidCount_X8_isSite rfl rfl rfl (by decide +kernel) ⟨Nat.le_of_ble_eq_true rfl, Nat.le_of_ble_eq_true rfl⟩) (roP_v hP hK hE (va_recv hK hP (ci := 9) (q0 := 0) rfl rfl)) rfl rfl hl.1 rfl (lv_room (Nat.le_of_ble_eq_true rfl)) dX8_bidCount_3 ⟨Nat.le_refl _, Nat.le_refl _⟩) ?_
  have hFc := va_free (wc := (mcells C b M)) hD hS hA [0, 1, 2, 3, 4, 5, 6, 7, 8, 9] rfl
  refine callRw (va_runV (As := [.int (bI (f_X8_isSite (mNow M) (x)))]) (rest := []) ⟨hx, hb, hml, hown, hts⟩ (c_X8_goes_ l D C b M ((f_X8_isSite (mNow M) (x))) _) (cwV 1 hts gX8_bidCount_X8_goes rfl rfl rfl (by decide +kernel) ⟨Nat.le_of_ble_eq_true rfl, Nat.le_of_ble_eq_true rfl⟩) (rwP_v hP hK hE hD (va_recv hK hP (ci := 9) (q0 := 0) rfl rfl)) rfl rfl hl.1 rfl (lv_room (Nat.le_of_ble_eq_true rfl)) dX8_bidCount_6 ⟨Nat.le_refl _, Nat.le_refl _⟩) hS hFc (fun H1 locs hPn hk hS => ?_)
  have hP : va_P D vwCl (mcells C b (mkM (mNow M) (mBef M) (mSav M) (mHis M) (mIsS M) (mRem M) (mErA M) (mFaA M) (mTxt M) (mTyp M) (mLin M) (mLnd M) (gThr (f_X8_isSite (mNow M) (x))) (mFar M) (mGrp M) (mSiz M) (mPla M) (mWro M) (mTol M) (mNum M))) H1 := hPn
  have hD : va_D A (mcells C b (mkM (mNow M) (mBef M) (mSav M) (mHis M) (mIsS M) (mRem M) (mErA M) (mFaA M) (mTxt M) (mTyp M) (mLin M) (mLnd M) (gThr (f_X8_isSite (mNow M) (x))) (mFar M) (mGrp M) (mSiz M) (mPla M) (mWro M) (mTol M) (mNum M))) := adr_D hD rfl
  generalize H1 = H at hP hS ⊢
  refine topI (y := (bI (f_X8_isSite (mNow M) (x)))) rfl ?_
  refine bif_eq (tgt := 20) hx hb dX8_bidCount_9 (by decide) (fun c_9 => ?_) (fun c_9 => ?_)
  · have hz := hz.trans (ifB_f c_9)
    refine lv_iconst (v := 0) hx hb dX8_bidCount_20 (by decide) ?_
    exact J21 (0) ((gThr (f_X8_isSite (mNow M) (x)))) _ _ ls hz  hP hD hS (lv_sub hl [] rfl)
  · have hz := hz.trans (ifB_t c_9)
    refine lv_aload_n hx hb dX8_bidCount_12 rfl (lv_at hl 0 rfl) ?_
    refine lv_iload_n hx hb dX8_bidCount_13 rfl (lv_at hl 1 rfl) ?_
    refine callRo (va_runV (As := [.int x]) (rest := []) ⟨hx, hb, hml, hown, hts⟩ (c_X8_bidsOn l D C b (mkM (mNow M) (mBef M) (mSav M) (mHis M) (mIsS M) (mRem M) (mErA M) (mFaA M) (mTxt M) (mTyp M) (mLin M) (mLnd M) (gThr (f_X8_isSite (mNow M) (x))) (mFar M) (mGrp M) (mSiz M) (mPla M) (mWro M) (mTol M) (mNum M)) (x) (MSafe_of hM rfl)) (cwV 1 hts gX8_bidCount_X8_bidsOn rfl rfl rfl (by decide +kernel) ⟨Nat.le_of_ble_eq_true rfl, Nat.le_of_ble_eq_true rfl⟩) (roP_v hP hK hE (va_recv hK hP (ci := 9) (q0 := 0) rfl rfl)) rfl rfl hl.1 rfl (lv_room (Nat.le_of_ble_eq_true rfl)) dX8_bidCount_14 ⟨Nat.le_refl _, Nat.le_refl _⟩) ?_
    refine topI (y := (f_X8_bidsOn (mNow M) (x))) rfl ?_
    refine lv_goto (tgt := 21) hx hb dX8_bidCount_17 (by decide) ?_
    exact J21 ((f_X8_bidsOn (mNow M) (x))) ((gThr (f_X8_isSite (mNow M) (x)))) _ _ ls hz  hP hD hS (lv_sub hl [] rfl)

