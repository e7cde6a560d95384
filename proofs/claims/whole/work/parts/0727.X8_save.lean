def f_X8_save (nw : (Nat → Int32)) (sv : (Nat → Int32)) : Int32 × (Nat → Int32) × Bool × Int32 := (lt_ (f_X8_copies nw sv (0) (0)) (fun y15 => ((nI (mP nw)), y15, true, 0)))
set_option maxHeartbeats 4000000 in
set_option maxRecDepth 100000 in
theorem c_X8_save (l : Launch) (D : va_G) (C : Nat → ClassId) (b : Nat → Nat) (M : MS) (sz : Nat) (hM : MSafe M) : Met l yX8_save wsX8_save ({ frames := 1, cells := 0, slots := 0, locals := 24 } : Room) (rwP [.ref (b 0)] D C (mcells C b M) sz) (rwO (some (.int ((f_X8_save (mNow M) (mSav M)).1))) D (mcells C b (mkM (mNow M) (mBef M) ((f_X8_save (mNow M) (mSav M)).2.1) (mHis M) ((f_X8_save (mNow M) (mSav M)).2.2.1) (mRem M) (mErA M) (mFaA M) (mTxt M) (mTyp M) (mLin M) (mLnd M) ((f_X8_save (mNow M) (mSav M)).2.2.2) (mFar M) (mGrp M) (mSiz M) (mPla M) (mWro M) (mTol M) (mNum M))) (va_A (mcells C b M) sz)) 0 0 (va_A (mcells C b M) sz) := by
  refine Met.ofW (cc := cX8_save) (maxL := 1) (ret := (some .int)) (by decide) rfl ?_
  intro p e s m args below meth c s₁ B hml hv
  obtain ⟨rfl, hsz, hP, hK, hD0, hE⟩ := hv
  have hx := B.exec
  have hb := B.bytes
  have hr := B.returns
  have hts := atoms_spec (ws := wsX8_save) B.pre
  have hown : s.vm.findClass RX8 = some m.cls := findClass_of_methodNamed B.named
  have hlocks := B.notSynchronized
  subst hsz
  have hD := hD0.self (sz := s.heap.size)
  generalize hAe : va_A (mcells C b M) s.heap.size = A at hD ⊢
  have hA : ∀ q : Nat, s.heap.size ≤ q → A q := fun q h => by rw [← hAe]; exact Or.inr h
  have hS0 : va_S A s.heap s.heap [] := va_S.rf
  have hP : va_P D vwCl (mcells C b M) s.heap := hP
  have hS := hS0
  obtain ⟨⟨hS2, hS12⟩, ⟨hP2, hP4⟩, hLH, hFE⟩ := id hM
  have hinX8 : ∀ w ∈ u_ws RX8 TX8 20, w ∈ wsX8_save := by decide +kernel
  have hl := lv_entry ([.ref (b 0)]) (n := 1) (Nat.le_of_ble_eq_true rfl)
  rw [lg_entry_eq]
  generalize (lg_sl ([.ref (b 0)]) ++ List.replicate (1 - (lg_sl ([.ref (b 0)])).length) Slot.unset).toArray = ls at hl ⊢
  have hl : lv_has ls 1 [(0, .ref (b 0))] := hl
  obtain ⟨z, hz⟩ : ∃ z, z = f_X8_save (mNow M) (mSav M) := ⟨_, rfl⟩
  rw [← hz]
  refine lv_aload_n hx hb dX8_save_0 rfl (lv_at hl 0 rfl) ?_
  refine lv_iconst (v := 0) hx hb dX8_save_1 (by decide) ?_
  refine va_put (D := D) (ci := 9) (v := .int 0) (ty := .int) (C := RX8) (T := TX8) (N := 20) hx hb hts hinX8 tyX8 tyX8_ok nmX8 hown hK hP hD hS 0 rfl rfl 12 (by decide) (hts (.fieldLink RX8 44 "BridgeAuctionModel" "thrown" "I") (by decide +kernel)) (fun _ h9 => h9) rfl (by decide +kernel) rfl rfl (Nat.le_of_ble_eq_true rfl) dX8_save_2 (fun H locs hP hD hS => ?_)
  have hP : va_P D vwCl (mcells C b (mkM (mNow M) (mBef M) (mSav M) (mHis M) (mIsS M) (mRem M) (mErA M) (mFaA M) (mTxt M) (mTyp M) (mLin M) (mLnd M) 0 (mFar M) (mGrp M) (mSiz M) (mPla M) (mWro M) (mTol M) (mNum M))) H := hP
  have hD : va_D A (mcells C b (mkM (mNow M) (mBef M) (mSav M) (mHis M) (mIsS M) (mRem M) (mErA M) (mFaA M) (mTxt M) (mTyp M) (mLin M) (mLnd M) 0 (mFar M) (mGrp M) (mSiz M) (mPla M) (mWro M) (mTol M) (mNum M))) := hD
  refine lv_aload_n hx hb dX8_save_5 rfl (lv_at hl 0 rfl) ?_
  refine va_get (D := D) (ci := 9) (v := .ref (b 1)) (C := RX8) (T := TX8) (N := 20) hx hb hts hinX8 hown hK hP 0 rfl rfl 0 (by decide) (hts (.fieldLink RX8 9 "BridgeAuctionModel" "now" "[I") (by decide +kernel)) (fun _ h9 => h9) rfl dX8_save_6 ?_
  refine lv_iconst (v := 0) hx hb dX8_save_9 (by decide) ?_
  refine lv_aload_n hx hb dX8_save_10 rfl (lv_at hl 0 rfl) ?_
  refine va_get (D := D) (ci := 9) (v := .ref (b 3)) (C := RX8) (T := TX8) (N := 20) hx hb hts hinX8 hown hK hP 0 rfl rfl 2 (by decide) (hts (.fieldLink RX8 16 "BridgeAuctionModel" "saved" "[I") (by decide +kernel)) (fun _ h9 => h9) rfl dX8_save_11 ?_
  refine lv_iconst (v := 0) hx hb dX8_save_14 (by decide) ?_
  refine topN3 (k := 0) (by decide +kernel) ?_
  refine topN (k := 0) (by decide +kernel) ?_
  have hPc := hP.sub (ws' := ([((b 1), .inl (C 0, 178, .inl (mNow M)))] ++ [((b 3), .inl (C 0, 178, .inl (mSav M)))])) [1, 3] rfl
  have hDc := hD.sub (ws' := ([((b 1), .inl (C 0, 178, .inl (mNow M)))] ++ [((b 3), .inl (C 0, 178, .inl (mSav M)))])) [1, 3] (by decide) rfl
  have hFc := va_free (wc := ([((b 1), .inl (C 0, 178, .inl (mNow M)))] ++ [((b 3), .inl (C 0, 178, .inl (mSav M)))])) hD hS hA [1, 3] rfl
  refine callRw (va_runS (As := [.ref (b 1), .int (nI 0), .ref (b 3), .int (nI 0)]) (rest := []) ⟨hx, hb, hml, hown, hts⟩ (c_X8_copies l D C 178 178 (b 1) (mNow M) (b 3) (mSav M) (0) (0) _ (by first | omega | decide) (by first | omega | decide) (by first | omega | decide) (by first | omega | decide)) (va_cwS 4 hts gX8_save_X8_copies rfl rfl rfl (by decide +kernel) ⟨Nat.le_of_ble_eq_true rfl, Nat.le_of_ble_eq_true rfl⟩) (rwP_s hPc hK hE hDc) rfl rfl hl.1 rfl (lv_room (Nat.le_of_ble_eq_true rfl)) dX8_save_15 ⟨Nat.le_refl _, Nat.le_refl _⟩) hS hFc (fun H1 locs hPn hk hS => ?_)
  obtain ⟨y15, hy15⟩ : ∃ y_, y_ = (f_X8_copies (mNow M) (mSav M) (0) (0)) := ⟨_, rfl⟩
  have hPn : va_P D vwCl ([((b 1), .inl (C 0, 178, .inl (mNow M)))] ++ [((b 3), .inl (C 0, 178, .inl y15))]) H1 := by rw [hy15]; exact hPn
  have hz := lt_eq hz hy15
  have hP : va_P D vwCl (mcells C b (mkM (mNow M) (mBef M) y15 (mHis M) (mIsS M) (mRem M) (mErA M) (mFaA M) (mTxt M) (mTyp M) (mLin M) (mLnd M) 0 (mFar M) (mGrp M) (mSiz M) (mPla M) (mWro M) (mTol M) (mNum M))) H1 := rwJoin (wr := ([(b 0, .inr (9, [.ref (b 1), .ref (b 2), .ref (b 3), .ref (b 4), .int (bI (mIsS M)), .int (nI (mRem M)), .int (mErA M), .int (mFaA M), .ref (b 5), .int (nI (mTyp M)), .ref (b 6), .int (nI (mLnd M)), .int 0, .ref (b 7), .ref (b 8), .int (nI (mSiz M)), .int (nI (mPla M)), .int (mWro M), .int (nI (mTol M)), .ref (b 9)])), (b 2, .inl (C 0, 178, .inl (mBef M))), (b 4, .inl (C 0, 1424, .inl (mHis M))), (b 5, .inl (C 0, 60, .inl (mTxt M))), (b 6, .inl (C 0, 60, .inl (mLin M))), (b 7, .inl (C 0, 8, .inl (mFar M))), (b 8, .inl (C 0, 8, .inl (mGrp M))), (b 9, .inl (C 0, 120, .inl (mNum M)))])) (ws' := (mcells C b (mkM (mNow M) (mBef M) y15 (mHis M) (mIsS M) (mRem M) (mErA M) (mFaA M) (mTxt M) (mTyp M) (mLin M) (mLnd M) 0 (mFar M) (mGrp M) (mSiz M) (mPla M) (mWro M) (mTol M) (mNum M)))) hP hD [1, 3] [0, 2, 4, 5, 6, 7, 8, 9] rfl rfl (by decide) (by decide) (by decide) hk hFc hPn rfl [0, 8, 1, 9, 2, 3, 4, 5, 6, 7] rfl
  have hD : va_D A (mcells C b (mkM (mNow M) (mBef M) y15 (mHis M) (mIsS M) (mRem M) (mErA M) (mFaA M) (mTxt M) (mTyp M) (mLin M) (mLnd M) 0 (mFar M) (mGrp M) (mSiz M) (mPla M) (mWro M) (mTol M) (mNum M))) := adr_D hD rfl
  generalize H1 = H at hP hS ⊢
  refine lv_aload_n hx hb dX8_save_18 rfl (lv_at hl 0 rfl) ?_
  refine lv_iconst (v := 1) hx hb dX8_save_19 (by decide) ?_
  refine va_put (D := D) (ci := 9) (v := .int 1) (ty := .boolean) (C := RX8) (T := TX8) (N := 20) hx hb hts hinX8 tyX8 tyX8_ok nmX8 hown hK hP hD hS 0 rfl rfl 4 (by decide) (hts (.fieldLink RX8 65 "BridgeAuctionModel" "isSaved" "Z") (by decide +kernel)) (fun _ h9 => h9) rfl (by decide +kernel) (rfl) (by rfl) (Nat.le_of_ble_eq_true rfl) dX8_save_20 (fun H locs hP hD hS => ?_)
  have hP : va_P D vwCl (mcells C b (mkM (mNow M) (mBef M) y15 (mHis M) true (mRem M) (mErA M) (mFaA M) (mTxt M) (mTyp M) (mLin M) (mLnd M) 0 (mFar M) (mGrp M) (mSiz M) (mPla M) (mWro M) (mTol M) (mNum M))) H := hP
  have hD : va_D A (mcells C b (mkM (mNow M) (mBef M) y15 (mHis M) true (mRem M) (mErA M) (mFaA M) (mTxt M) (mTyp M) (mLin M) (mLnd M) 0 (mFar M) (mGrp M) (mSiz M) (mPla M) (mWro M) (mTol M) (mNum M))) := hD
  refine lv_aload_n hx hb dX8_save_23 rfl (lv_at hl 0 rfl) ?_
  refine va_get (D := D) (ci := 9) (v := .ref (b 1)) (C := RX8) (T := TX8) (N := 20) hx hb hts hinX8 hown hK hP 0 rfl rfl 0 (by decide) (hts (.fieldLink RX8 9 "BridgeAuctionModel" "now" "[I") (by decide +kernel)) (fun _ h9 => h9) rfl dX8_save_24 ?_
  refine lv_iconst (v := 1) hx hb dX8_save_27 (by decide) ?_
  refine topN (k := 1) (by decide +kernel) ?_
  refine ialdN (tys := tyA C) hx hb hK hP 1 0 rfl rfl (i := 1) (by omega) (by decide) dX8_save_28 ?_
  refine topN (k := mP (mNow M)) (by first | exact hS2 | exact hP2) ?_
  have hz : z = ((nI (mP (mNow M))), y15, true, 0) := hz
  rw [hz]
  exact rw_ret hx hb hr hP hS rfl dX8_save_29 hlocks

