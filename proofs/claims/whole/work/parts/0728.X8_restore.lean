def f_X8_restore (nw : (Nat → Int32)) (sv : (Nat → Int32)) (iS : Bool) (rm : Nat) : Int32 × (Nat → Int32) × Nat × Int32 := (if iS = true then (lt_ (f_X8_copies sv nw (0) (0)) (fun y23 => ((y23 1), y23, 0, (gThr iS)))) else (0, nw, rm, (gThr iS)))
set_option maxHeartbeats 4000000 in
set_option maxRecDepth 100000 in
theorem c_X8_restore (l : Launch) (D : va_G) (C : Nat → ClassId) (b : Nat → Nat) (M : MS) (sz : Nat) : Met l yX8_restore wsX8_restore ({ frames := 2, cells := 0, slots := 0, locals := 45 } : Room) (rwP [.ref (b 0)] D C (mcells C b M) sz) (rwO (some (.int ((f_X8_restore (mNow M) (mSav M) (mIsS M) (mRem M)).1))) D (mcells C b (mkM ((f_X8_restore (mNow M) (mSav M) (mIsS M) (mRem M)).2.1) (mBef M) (mSav M) (mHis M) (mIsS M) ((f_X8_restore (mNow M) (mSav M) (mIsS M) (mRem M)).2.2.1) (mErA M) (mFaA M) (mTxt M) (mTyp M) (mLin M) (mLnd M) ((f_X8_restore (mNow M) (mSav M) (mIsS M) (mRem M)).2.2.2) (mFar M) (mGrp M) (mSiz M) (mPla M) (mWro M) (mTol M) (mNum M))) (va_A (mcells C b M) sz)) 0 0 (va_A (mcells C b M) sz) := by
  refine Met.ofW (cc := cX8_restore) (maxL := 1) (ret := (some .int)) (by decide) rfl ?_
  intro p e s m args below meth c s₁ B hml hv
  obtain ⟨rfl, hsz, hP, hK, hD0, hE⟩ := hv
  have hx := B.exec
  have hb := B.bytes
  have hr := B.returns
  have hts := atoms_spec (ws := wsX8_restore) B.pre
  have hown : s.vm.findClass RX8 = some m.cls := findClass_of_methodNamed B.named
  have hlocks := B.notSynchronized
  subst hsz
  have hD := hD0.self (sz := s.heap.size)
  generalize hAe : va_A (mcells C b M) s.heap.size = A at hD ⊢
  have hA : ∀ q : Nat, s.heap.size ≤ q → A q := fun q h => by rw [← hAe]; exact Or.inr h
  have hS0 : va_S A s.heap s.heap [] := va_S.rf
  have hP : va_P D vwCl (mcells C b M) s.heap := hP
  have hS := hS0
  have hinX8 : ∀ w ∈ u_ws RX8 TX8 20, w ∈ wsX8_restore := by decide +kernel
  have hl := lv_entry ([.ref (b 0)]) (n := 1) (Nat.le_of_ble_eq_true rfl)
  rw [lg_entry_eq]
  generalize (lg_sl ([.ref (b 0)]) ++ List.replicate (1 - (lg_sl ([.ref (b 0)])).length) Slot.unset).toArray = ls at hl ⊢
  have hl : lv_has ls 1 [(0, .ref (b 0))] := hl
  obtain ⟨z, hz⟩ : ∃ z, z = f_X8_restore (mNow M) (mSav M) (mIsS M) (mRem M) := ⟨_, rfl⟩
  rw [← hz]
  refine lv_aload_n hx hb dX8_restore_0 rfl (lv_at hl 0 rfl) ?_
  refine lv_aload_n hx hb dX8_restore_1 rfl (lv_at hl 0 rfl) ?_
  refine va_get (D := D) (ci := 9) (v := .int (bI (mIsS M))) (C := RX8) (T := TX8) (N := 20) hx hb hts hinX8 hown hK hP 0 rfl rfl 4 (by decide) (hts (.fieldLink RX8 65 "BridgeAuctionModel" "isSaved" "Z") (by decide +kernel)) (fun _ h9 => h9) rfl dX8_restore_2 ?_
  have hFc := va_free (wc := (mcells C b M)) hD hS hA [0, 1, 2, 3, 4, 5, 6, 7, 8, 9] rfl
  refine callRw (va_runV (As := [.int (bI (mIsS M))]) (rest := []) ⟨hx, hb, hml, hown, hts⟩ (c_X8_goes_ l D C b M ((mIsS M)) _) (cwV 1 hts gX8_restore_X8_goes rfl rfl rfl (by decide +kernel) ⟨Nat.le_of_ble_eq_true rfl, Nat.le_of_ble_eq_true rfl⟩) (rwP_v hP hK hE hD (va_recv hK hP (ci := 9) (q0 := 0) rfl rfl)) rfl rfl hl.1 rfl (lv_room (Nat.le_of_ble_eq_true rfl)) dX8_restore_5 ⟨Nat.le_refl _, Nat.le_refl _⟩) hS hFc (fun H1 locs hPn hk hS => ?_)
  have hP : va_P D vwCl (mcells C b (mkM (mNow M) (mBef M) (mSav M) (mHis M) (mIsS M) (mRem M) (mErA M) (mFaA M) (mTxt M) (mTyp M) (mLin M) (mLnd M) (gThr (mIsS M)) (mFar M) (mGrp M) (mSiz M) (mPla M) (mWro M) (mTol M) (mNum M))) H1 := hPn
  have hD : va_D A (mcells C b (mkM (mNow M) (mBef M) (mSav M) (mHis M) (mIsS M) (mRem M) (mErA M) (mFaA M) (mTxt M) (mTyp M) (mLin M) (mLnd M) (gThr (mIsS M)) (mFar M) (mGrp M) (mSiz M) (mPla M) (mWro M) (mTol M) (mNum M))) := adr_D hD rfl
  generalize H1 = H at hP hS ⊢
  refine topI (y := (bI (mIsS M))) rfl ?_
  refine bif_ne (tgt := 13) hx hb dX8_restore_8 (by decide) (fun c_8 => ?_) (fun c_8 => ?_)
  · have hz := hz.trans (ifB_t c_8)
    refine lv_aload_n hx hb dX8_restore_13 rfl (lv_at hl 0 rfl) ?_
    refine va_get (D := D) (ci := 9) (v := .ref (b 3)) (C := RX8) (T := TX8) (N := 20) hx hb hts hinX8 hown hK hP 0 rfl rfl 2 (by decide) (hts (.fieldLink RX8 16 "BridgeAuctionModel" "saved" "[I") (by decide +kernel)) (fun _ h9 => h9) rfl dX8_restore_14 ?_
    refine lv_iconst (v := 0) hx hb dX8_restore_17 (by decide) ?_
    refine lv_aload_n hx hb dX8_restore_18 rfl (lv_at hl 0 rfl) ?_
    refine va_get (D := D) (ci := 9) (v := .ref (b 1)) (C := RX8) (T := TX8) (N := 20) hx hb hts hinX8 hown hK hP 0 rfl rfl 0 (by decide) (hts (.fieldLink RX8 9 "BridgeAuctionModel" "now" "[I") (by decide +kernel)) (fun _ h9 => h9) rfl dX8_restore_19 ?_
    refine lv_iconst (v := 0) hx hb dX8_restore_22 (by decide) ?_
    refine topN3 (k := 0) (by decide +kernel) ?_
    refine topN (k := 0) (by decide +kernel) ?_
    have hPc := hP.sub (ws' := ([((b 3), .inl (C 0, 178, .inl (mSav M)))] ++ [((b 1), .inl (C 0, 178, .inl (mNow M)))])) [3, 1] rfl
    have hDc := hD.sub (ws' := ([((b 3), .inl (C 0, 178, .inl (mSav M)))] ++ [((b 1), .inl (C 0, 178, .inl (mNow M)))])) [3, 1] (by decide) rfl
    have hFc := va_free (wc := ([((b 3), .inl (C 0, 178, .inl (mSav M)))] ++ [((b 1), .inl (C 0, 178, .inl (mNow M)))])) hD hS hA [3, 1] rfl
    refine callRw (va_runS (As := [.ref (b 3), .int (nI 0), .ref (b 1), .int (nI 0)]) (rest := []) ⟨hx, hb, hml, hown, hts⟩ (c_X8_copies l D C 178 178 (b 3) (mSav M) (b 1) (mNow M) (0) (0) _ (by first | omega | decide) (by first | omega | decide) (by first | omega | decide) (by first | omega | decide)) (va_cwS 4 hts gX8_restore_X8_copies rfl rfl rfl (by decide +kernel) ⟨Nat.le_of_ble_eq_true rfl, Nat.le_of_ble_eq_true rfl⟩) (rwP_s hPc hK hE hDc) rfl rfl hl.1 rfl (lv_room (Nat.le_of_ble_eq_true rfl)) dX8_restore_23 ⟨Nat.le_refl _, Nat.le_refl _⟩) hS hFc (fun H1 locs hPn hk hS => ?_)
    obtain ⟨y23, hy23⟩ : ∃ y_, y_ = (f_X8_copies (mSav M) (mNow M) (0) (0)) := ⟨_, rfl⟩
    have hPn : va_P D vwCl ([((b 3), .inl (C 0, 178, .inl (mSav M)))] ++ [((b 1), .inl (C 0, 178, .inl y23))]) H1 := by rw [hy23]; exact hPn
    have hz := lt_eq hz hy23
    have hP : va_P D vwCl (mcells C b (mkM y23 (mBef M) (mSav M) (mHis M) (mIsS M) (mRem M) (mErA M) (mFaA M) (mTxt M) (mTyp M) (mLin M) (mLnd M) (gThr (mIsS M)) (mFar M) (mGrp M) (mSiz M) (mPla M) (mWro M) (mTol M) (mNum M))) H1 := rwJoin (wr := ([(b 0, .inr (9, [.ref (b 1), .ref (b 2), .ref (b 3), .ref (b 4), .int (bI (mIsS M)), .int (nI (mRem M)), .int (mErA M), .int (mFaA M), .ref (b 5), .int (nI (mTyp M)), .ref (b 6), .int (nI (mLnd M)), .int (gThr (mIsS M)), .ref (b 7), .ref (b 8), .int (nI (mSiz M)), .int (nI (mPla M)), .int (mWro M), .int (nI (mTol M)), .ref (b 9)])), (b 2, .inl (C 0, 178, .inl (mBef M))), (b 4, .inl (C 0, 1424, .inl (mHis M))), (b 5, .inl (C 0, 60, .inl (mTxt M))), (b 6, .inl (C 0, 60, .inl (mLin M))), (b 7, .inl (C 0, 8, .inl (mFar M))), (b 8, .inl (C 0, 8, .inl (mGrp M))), (b 9, .inl (C 0, 120, .inl (mNum M)))])) (ws' := (mcells C b (mkM y23 (mBef M) (mSav M) (mHis M) (mIsS M) (mRem M) (mErA M) (mFaA M) (mTxt M) (mTyp M) (mLin M) (mLnd M) (gThr (mIsS M)) (mFar M) (mGrp M) (mSiz M) (mPla M) (mWro M) (mTol M) (mNum M)))) hP hD [3, 1] [0, 2, 4, 5, 6, 7, 8, 9] rfl rfl (by decide) (by decide) (by decide) hk hFc hPn rfl [0, 9, 1, 8, 2, 3, 4, 5, 6, 7] rfl
    have hD : va_D A (mcells C b (mkM y23 (mBef M) (mSav M) (mHis M) (mIsS M) (mRem M) (mErA M) (mFaA M) (mTxt M) (mTyp M) (mLin M) (mLnd M) (gThr (mIsS M)) (mFar M) (mGrp M) (mSiz M) (mPla M) (mWro M) (mTol M) (mNum M))) := adr_D hD rfl
    generalize H1 = H at hP hS ⊢
    refine lv_aload_n hx hb dX8_restore_26 rfl (lv_at hl 0 rfl) ?_
    refine lv_iconst (v := 0) hx hb dX8_restore_27 (by decide) ?_
    refine topN (k := 0) (by decide +kernel) ?_
    refine va_put (D := D) (ci := 9) (v := .int (nI 0)) (ty := .int) (C := RX8) (T := TX8) (N := 20) hx hb hts hinX8 tyX8 tyX8_ok nmX8 hown hK hP hD hS 0 rfl rfl 5 (by decide) (hts (.fieldLink RX8 55 "BridgeAuctionModel" "remembered" "I") (by decide +kernel)) (fun _ h9 => h9) rfl (by decide +kernel) rfl rfl (Nat.le_of_ble_eq_true rfl) dX8_restore_28 (fun H locs hP hD hS => ?_)
    have hP : va_P D vwCl (mcells C b (mkM y23 (mBef M) (mSav M) (mHis M) (mIsS M) 0 (mErA M) (mFaA M) (mTxt M) (mTyp M) (mLin M) (mLnd M) (gThr (mIsS M)) (mFar M) (mGrp M) (mSiz M) (mPla M) (mWro M) (mTol M) (mNum M))) H := hP
    have hD : va_D A (mcells C b (mkM y23 (mBef M) (mSav M) (mHis M) (mIsS M) 0 (mErA M) (mFaA M) (mTxt M) (mTyp M) (mLin M) (mLnd M) (gThr (mIsS M)) (mFar M) (mGrp M) (mSiz M) (mPla M) (mWro M) (mTol M) (mNum M))) := hD
    refine lv_aload_n hx hb dX8_restore_31 rfl (lv_at hl 0 rfl) ?_
    refine va_get (D := D) (ci := 9) (v := .ref (b 1)) (C := RX8) (T := TX8) (N := 20) hx hb hts hinX8 hown hK hP 0 rfl rfl 0 (by decide) (hts (.fieldLink RX8 9 "BridgeAuctionModel" "now" "[I") (by decide +kernel)) (fun _ h9 => h9) rfl dX8_restore_32 ?_
    refine lv_iconst (v := 1) hx hb dX8_restore_35 (by decide) ?_
    refine topN (k := 1) (by decide +kernel) ?_
    refine ialdN (tys := tyA C) hx hb hK hP 1 0 rfl rfl (i := 1) (by omega) (by decide) dX8_restore_36 ?_
    have hz : z = ((y23 1), y23, 0, (gThr (mIsS M))) := hz
    rw [hz]
    exact rw_ret hx hb hr hP hS rfl dX8_restore_37 hlocks
  · have hz := hz.trans (ifB_f c_8)
    refine lv_iconst (v := 0) hx hb dX8_restore_11 (by decide) ?_
    have hz : z = (0, (mNow M), (mRem M), (gThr (mIsS M))) := hz
    rw [hz]
    exact rw_ret hx hb hr hP hS rfl dX8_restore_12 hlocks

