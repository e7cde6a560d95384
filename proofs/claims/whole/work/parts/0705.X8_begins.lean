def f_X8_begins (nw : (Nat → Int32)) (bf : (Nat → Int32)) : (Nat → Int32) := (lt_ (f_X8_copies nw bf (0) (0)) (fun y10 => y10))
set_option maxHeartbeats 4000000 in
set_option maxRecDepth 100000 in
theorem c_X8_begins (l : Launch) (D : va_G) (C : Nat → ClassId) (b : Nat → Nat) (M : MS) (sz : Nat) : Met l yX8_begins wsX8_begins ({ frames := 1, cells := 0, slots := 0, locals := 24 } : Room) (rwP [.ref (b 0)] D C (mcells C b M) sz) (rwO none D (mcells C b (mkM (mNow M) ((f_X8_begins (mNow M) (mBef M))) (mSav M) (mHis M) (mIsS M) (mRem M) (mErA M) (mFaA M) (mTxt M) (mTyp M) (mLin M) (mLnd M) (mThr M) (mFar M) (mGrp M) (mSiz M) (mPla M) (mWro M) (mTol M) (mNum M))) (va_A (mcells C b M) sz)) 0 0 (va_A (mcells C b M) sz) := by
  refine Met.ofW (cc := cX8_begins) (maxL := 1) (ret := none) (by decide) rfl ?_
  intro p e s m args below meth c s₁ B hml hv
  obtain ⟨rfl, hsz, hP, hK, hD0, hE⟩ := hv
  have hx := B.exec
  have hb := B.bytes
  have hr := B.returns
  have hts := atoms_spec (ws := wsX8_begins) B.pre
  have hown : s.vm.findClass RX8 = some m.cls := findClass_of_methodNamed B.named
  have hlocks := B.notSynchronized
  subst hsz
  have hD := hD0.self (sz := s.heap.size)
  generalize hAe : va_A (mcells C b M) s.heap.size = A at hD ⊢
  have hA : ∀ q : Nat, s.heap.size ≤ q → A q := fun q h => by rw [← hAe]; exact Or.inr h
  have hS0 : va_S A s.heap s.heap [] := va_S.rf
  have hP : va_P D vwCl (mcells C b M) s.heap := hP
  have hS := hS0
  have hinX8 : ∀ w ∈ u_ws RX8 TX8 20, w ∈ wsX8_begins := by decide +kernel
  have hl := lv_entry ([.ref (b 0)]) (n := 1) (Nat.le_of_ble_eq_true rfl)
  rw [lg_entry_eq]
  generalize (lg_sl ([.ref (b 0)]) ++ List.replicate (1 - (lg_sl ([.ref (b 0)])).length) Slot.unset).toArray = ls at hl ⊢
  have hl : lv_has ls 1 [(0, .ref (b 0))] := hl
  obtain ⟨z, hz⟩ : ∃ z, z = f_X8_begins (mNow M) (mBef M) := ⟨_, rfl⟩
  rw [← hz]
  refine lv_aload_n hx hb dX8_begins_0 rfl (lv_at hl 0 rfl) ?_
  refine va_get (D := D) (ci := 9) (v := .ref (b 1)) (C := RX8) (T := TX8) (N := 20) hx hb hts hinX8 hown hK hP 0 rfl rfl 0 (by decide) (hts (.fieldLink RX8 9 "BridgeAuctionModel" "now" "[I") (by decide +kernel)) (fun _ h9 => h9) rfl dX8_begins_1 ?_
  refine lv_iconst (v := 0) hx hb dX8_begins_4 (by decide) ?_
  refine lv_aload_n hx hb dX8_begins_5 rfl (lv_at hl 0 rfl) ?_
  refine va_get (D := D) (ci := 9) (v := .ref (b 2)) (C := RX8) (T := TX8) (N := 20) hx hb hts hinX8 hown hK hP 0 rfl rfl 1 (by decide) (hts (.fieldLink RX8 13 "BridgeAuctionModel" "before" "[I") (by decide +kernel)) (fun _ h9 => h9) rfl dX8_begins_6 ?_
  refine lv_iconst (v := 0) hx hb dX8_begins_9 (by decide) ?_
  refine topN3 (k := 0) (by decide +kernel) ?_
  refine topN (k := 0) (by decide +kernel) ?_
  have hPc := hP.sub (ws' := ([((b 1), .inl (C 0, 178, .inl (mNow M)))] ++ [((b 2), .inl (C 0, 178, .inl (mBef M)))])) [1, 2] rfl
  have hDc := hD.sub (ws' := ([((b 1), .inl (C 0, 178, .inl (mNow M)))] ++ [((b 2), .inl (C 0, 178, .inl (mBef M)))])) [1, 2] (by decide) rfl
  have hFc := va_free (wc := ([((b 1), .inl (C 0, 178, .inl (mNow M)))] ++ [((b 2), .inl (C 0, 178, .inl (mBef M)))])) hD hS hA [1, 2] rfl
  refine callRw (va_runS (As := [.ref (b 1), .int (nI 0), .ref (b 2), .int (nI 0)]) (rest := []) ⟨hx, hb, hml, hown, hts⟩ (c_X8_copies l D C 178 178 (b 1) (mNow M) (b 2) (mBef M) (0) (0) _ (by first | omega | decide) (by first | omega | decide) (by first | omega | decide) (by first | omega | decide)) (va_cwS 4 hts gX8_begins_X8_copies rfl rfl rfl (by decide +kernel) ⟨Nat.le_of_ble_eq_true rfl, Nat.le_of_ble_eq_true rfl⟩) (rwP_s hPc hK hE hDc) rfl rfl hl.1 rfl (lv_room (Nat.le_of_ble_eq_true rfl)) dX8_begins_10 ⟨Nat.le_refl _, Nat.le_refl _⟩) hS hFc (fun H1 locs hPn hk hS => ?_)
  obtain ⟨y10, hy10⟩ : ∃ y_, y_ = (f_X8_copies (mNow M) (mBef M) (0) (0)) := ⟨_, rfl⟩
  have hPn : va_P D vwCl ([((b 1), .inl (C 0, 178, .inl (mNow M)))] ++ [((b 2), .inl (C 0, 178, .inl y10))]) H1 := by rw [hy10]; exact hPn
  have hz := lt_eq hz hy10
  have hP : va_P D vwCl (mcells C b (mkM (mNow M) y10 (mSav M) (mHis M) (mIsS M) (mRem M) (mErA M) (mFaA M) (mTxt M) (mTyp M) (mLin M) (mLnd M) (mThr M) (mFar M) (mGrp M) (mSiz M) (mPla M) (mWro M) (mTol M) (mNum M))) H1 := rwJoin (wr := ([(b 0, .inr (9, [.ref (b 1), .ref (b 2), .ref (b 3), .ref (b 4), .int (bI (mIsS M)), .int (nI (mRem M)), .int (mErA M), .int (mFaA M), .ref (b 5), .int (nI (mTyp M)), .ref (b 6), .int (nI (mLnd M)), .int (mThr M), .ref (b 7), .ref (b 8), .int (nI (mSiz M)), .int (nI (mPla M)), .int (mWro M), .int (nI (mTol M)), .ref (b 9)])), (b 3, .inl (C 0, 178, .inl (mSav M))), (b 4, .inl (C 0, 1424, .inl (mHis M))), (b 5, .inl (C 0, 60, .inl (mTxt M))), (b 6, .inl (C 0, 60, .inl (mLin M))), (b 7, .inl (C 0, 8, .inl (mFar M))), (b 8, .inl (C 0, 8, .inl (mGrp M))), (b 9, .inl (C 0, 120, .inl (mNum M)))])) (ws' := (mcells C b (mkM (mNow M) y10 (mSav M) (mHis M) (mIsS M) (mRem M) (mErA M) (mFaA M) (mTxt M) (mTyp M) (mLin M) (mLnd M) (mThr M) (mFar M) (mGrp M) (mSiz M) (mPla M) (mWro M) (mTol M) (mNum M)))) hP hD [1, 2] [0, 3, 4, 5, 6, 7, 8, 9] rfl rfl (by decide) (by decide) (by decide) hk hFc hPn rfl [0, 8, 9, 1, 2, 3, 4, 5, 6, 7] rfl
  have hD : va_D A (mcells C b (mkM (mNow M) y10 (mSav M) (mHis M) (mIsS M) (mRem M) (mErA M) (mFaA M) (mTxt M) (mTyp M) (mLin M) (mLnd M) (mThr M) (mFar M) (mGrp M) (mSiz M) (mPla M) (mWro M) (mTol M) (mNum M))) := adr_D hD rfl
  generalize H1 = H at hP hS ⊢
  have hz : z = y10 := hz
  rw [hz]
  exact rw_retV hx hb hr hP hS dX8_begins_13 hlocks

