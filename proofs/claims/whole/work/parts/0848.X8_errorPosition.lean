def f_X8_errorPosition_j28  (s0_28 : Int32) (thr0_28 : Int32) : Int32 × Int32 := (s0_28, thr0_28)
def f_X8_errorPosition_j14 (eA : Int32) (s0_14 : Bool) : Int32 × Int32 := (if s0_14 = true then (f_X8_errorPosition_j28 (eA) ((gThr s0_14))) else (f_X8_errorPosition_j28 (0) ((gThr s0_14))))
def f_X8_errorPosition (eA : Int32) : Int32 × Int32 := (if eA = (-1) then (f_X8_errorPosition_j14 eA (false)) else (f_X8_errorPosition_j14 eA (true)))
set_option maxHeartbeats 4000000 in
set_option maxRecDepth 100000 in
theorem c_X8_errorPosition (l : Launch) (D : va_G) (C : Nat → ClassId) (b : Nat → Nat) (M : MS) (sz : Nat) : Met l yX8_errorPosition wsX8_errorPosition ({ frames := 2, cells := 0, slots := 0, locals := 45 } : Room) (rwP [.ref (b 0)] D C (mcells C b M) sz) (rwO (some (.int ((f_X8_errorPosition (mErA M)).1))) D (mcells C b (mkM (mNow M) (mBef M) (mSav M) (mHis M) (mIsS M) (mRem M) (mErA M) (mFaA M) (mTxt M) (mTyp M) (mLin M) (mLnd M) ((f_X8_errorPosition (mErA M)).2) (mFar M) (mGrp M) (mSiz M) (mPla M) (mWro M) (mTol M) (mNum M))) (va_A (mcells C b M) sz)) 0 0 (va_A (mcells C b M) sz) := by
  refine Met.ofW (cc := cX8_errorPosition) (maxL := 1) (ret := (some .int)) (by decide) rfl ?_
  intro p e s m args below meth c s₁ B hml hv
  obtain ⟨rfl, hsz, hP, hK, hD0, hE⟩ := hv
  have hx := B.exec
  have hb := B.bytes
  have hr := B.returns
  have hts := atoms_spec (ws := wsX8_errorPosition) B.pre
  have hown : s.vm.findClass RX8 = some m.cls := findClass_of_methodNamed B.named
  have hlocks := B.notSynchronized
  subst hsz
  have hD := hD0.self (sz := s.heap.size)
  generalize hAe : va_A (mcells C b M) s.heap.size = A at hD ⊢
  have hA : ∀ q : Nat, s.heap.size ≤ q → A q := fun q h => by rw [← hAe]; exact Or.inr h
  have hS0 : va_S A s.heap s.heap [] := va_S.rf
  have hP : va_P D vwCl (mcells C b M) s.heap := hP
  have hS := hS0
  have hinX8 : ∀ w ∈ u_ws RX8 TX8 20, w ∈ wsX8_errorPosition := by decide +kernel
  have hl := lv_entry ([.ref (b 0)]) (n := 1) (Nat.le_of_ble_eq_true rfl)
  rw [lg_entry_eq]
  generalize (lg_sl ([.ref (b 0)]) ++ List.replicate (1 - (lg_sl ([.ref (b 0)])).length) Slot.unset).toArray = ls at hl ⊢
  have hl : lv_has ls 1 [(0, .ref (b 0))] := hl
  obtain ⟨z, hz⟩ : ∃ z, z = f_X8_errorPosition (mErA M) := ⟨_, rfl⟩
  rw [← hz]
  have J28 : ∀ (s0_28 : Int32) (thr0_28 : Int32)  (H : Heap) (locs : List Loc) (ls : Array Slot), z = f_X8_errorPosition_j28 s0_28 thr0_28 → va_P D vwCl (mcells C b (mkM (mNow M) (mBef M) (mSav M) (mHis M) (mIsS M) (mRem M) (mErA M) (mFaA M) (mTxt M) (mTyp M) (mLin M) (mLnd M) thr0_28 (mFar M) (mGrp M) (mSiz M) (mPla M) (mWro M) (mTol M) (mNum M))) H → va_D A (mcells C b (mkM (mNow M) (mBef M) (mSav M) (mHis M) (mIsS M) (mRem M) (mErA M) (mFaA M) (mTxt M) (mTyp M) (mLin M) (mLnd M) thr0_28 (mFar M) (mGrp M) (mSiz M) (mPla M) (mWro M) (mTol M) (mNum M))) → va_S A s.heap H locs → lv_has ls 1 [] → W p l e ({ frames := 2, cells := 0, slots := 0, locals := 45 } : Room) s m ([.ref (b 0)] : List Value).toArray below meth c H locs 0 0 (MQ below (rwO (some (.int z.1)) D (mcells C b (mkM (mNow M) (mBef M) (mSav M) (mHis M) (mIsS M) (mRem M) (mErA M) (mFaA M) (mTxt M) (mTyp M) (mLin M) (mLnd M) z.2 (mFar M) (mGrp M) (mSiz M) (mPla M) (mWro M) (mTol M) (mNum M))) A) ([.ref (b 0)] : List Value).toArray s 0 0 A) (F0 m 28 ls [.int s0_28]) := by
    intro s0_28 thr0_28 H locs ls hz  hP hD hS hl
    have hz : z = (s0_28, thr0_28) := hz
    rw [hz]
    exact rw_ret hx hb hr hP hS rfl dX8_errorPosition_28 hlocks
  have J14 : ∀ (s0_14 : Bool)  (H : Heap) (locs : List Loc) (ls : Array Slot), z = f_X8_errorPosition_j14 (mErA M) s0_14 → va_P D vwCl (mcells C b M) H → va_D A (mcells C b M) → va_S A s.heap H locs → lv_has ls 1 [(0, .ref (b 0))] → W p l e ({ frames := 2, cells := 0, slots := 0, locals := 45 } : Room) s m ([.ref (b 0)] : List Value).toArray below meth c H locs 0 0 (MQ below (rwO (some (.int z.1)) D (mcells C b (mkM (mNow M) (mBef M) (mSav M) (mHis M) (mIsS M) (mRem M) (mErA M) (mFaA M) (mTxt M) (mTyp M) (mLin M) (mLnd M) z.2 (mFar M) (mGrp M) (mSiz M) (mPla M) (mWro M) (mTol M) (mNum M))) A) ([.ref (b 0)] : List Value).toArray s 0 0 A) (F0 m 14 ls [.int (bI s0_14), .ref (b 0)]) := by
    intro s0_14 H locs ls hz  hP hD hS hl
    have hFc := va_free (wc := (mcells C b M)) hD hS hA [0, 1, 2, 3, 4, 5, 6, 7, 8, 9] rfl
    refine callRw (va_runV (As := [.int (bI s0_14)]) (rest := []) ⟨hx, hb, hml, hown, hts⟩ (c_X8_goes_ l D C b M (s0_14) _) (cwV 1 hts gX8_errorPosition_X8_goes rfl rfl rfl (by decide +kernel) ⟨Nat.le_of_ble_eq_true rfl, Nat.le_of_ble_eq_true rfl⟩) (rwP_v hP hK hE hD (va_recv hK hP (ci := 9) (q0 := 0) rfl rfl)) rfl rfl hl.1 rfl (lv_room (Nat.le_of_ble_eq_true rfl)) dX8_errorPosition_14 ⟨Nat.le_refl _, Nat.le_refl _⟩) hS hFc (fun H1 locs hPn hk hS => ?_)
    have hP : va_P D vwCl (mcells C b (mkM (mNow M) (mBef M) (mSav M) (mHis M) (mIsS M) (mRem M) (mErA M) (mFaA M) (mTxt M) (mTyp M) (mLin M) (mLnd M) (gThr s0_14) (mFar M) (mGrp M) (mSiz M) (mPla M) (mWro M) (mTol M) (mNum M))) H1 := hPn
    have hD : va_D A (mcells C b (mkM (mNow M) (mBef M) (mSav M) (mHis M) (mIsS M) (mRem M) (mErA M) (mFaA M) (mTxt M) (mTyp M) (mLin M) (mLnd M) (gThr s0_14) (mFar M) (mGrp M) (mSiz M) (mPla M) (mWro M) (mTol M) (mNum M))) := adr_D hD rfl
    generalize H1 = H at hP hS ⊢
    refine topI (y := (bI s0_14)) rfl ?_
    refine bif_eq (tgt := 27) hx hb dX8_errorPosition_17 (by decide) (fun c_17 => ?_) (fun c_17 => ?_)
    · have hz := hz.trans (ifB_f c_17)
      refine lv_iconst (v := 0) hx hb dX8_errorPosition_27 (by decide) ?_
      exact J28 (0) ((gThr s0_14)) _ _ ls hz  hP hD hS (lv_sub hl [] rfl)
    · have hz := hz.trans (ifB_t c_17)
      refine lv_aload_n hx hb dX8_errorPosition_20 rfl (lv_at hl 0 rfl) ?_
      refine va_get (D := D) (ci := 9) (v := .int (mErA M)) (C := RX8) (T := TX8) (N := 20) hx hb hts hinX8 hown hK hP 0 rfl rfl 6 (by decide) (hts (.fieldLink RX8 22 "BridgeAuctionModel" "errorAt" "I") (by decide +kernel)) (fun _ h9 => h9) rfl dX8_errorPosition_21 ?_
      refine lv_goto (tgt := 28) hx hb dX8_errorPosition_24 (by decide) ?_
      exact J28 ((mErA M)) ((gThr s0_14)) _ _ ls hz  hP hD hS (lv_sub hl [] rfl)
  refine lv_aload_n hx hb dX8_errorPosition_0 rfl (lv_at hl 0 rfl) ?_
  refine lv_aload_n hx hb dX8_errorPosition_1 rfl (lv_at hl 0 rfl) ?_
  refine va_get (D := D) (ci := 9) (v := .int (mErA M)) (C := RX8) (T := TX8) (N := 20) hx hb hts hinX8 hown hK hP 0 rfl rfl 6 (by decide) (hts (.fieldLink RX8 22 "BridgeAuctionModel" "errorAt" "I") (by decide +kernel)) (fun _ h9 => h9) rfl dX8_errorPosition_2 ?_
  refine lv_iconst (v := (-1)) hx hb dX8_errorPosition_5 (by decide) ?_
  refine lv_icmp_eq (tgt := 13) hx hb dX8_errorPosition_6 (by decide) (fun c_6 => ?_) (fun c_6 => ?_)
  · have hz := hz.trans (if_pos c_6)
    refine lv_iconst (v := 0) hx hb dX8_errorPosition_13 (by decide) ?_
    exact J14 (false) _ _ ls hz  hP hD hS (lv_sub hl [0] rfl)
  · have hz := hz.trans (if_neg c_6)
    refine lv_iconst (v := 1) hx hb dX8_errorPosition_9 (by decide) ?_
    refine lv_goto (tgt := 14) hx hb dX8_errorPosition_10 (by decide) ?_
    exact J14 (true) _ _ ls hz  hP hD hS (lv_sub hl [0] rfl)

