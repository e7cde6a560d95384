def f_X8_ends (nw : (Nat → Int32)) (bf : (Nat → Int32)) (hs : (Nat → Int32)) (rm : Nat) (th : Int32) (x : Int32) : Int32 × (Nat → Int32) × (Nat → Int32) × Nat := (if th = 0 then (lt_ (f_X8_remembers bf hs rm) (fun y23 => (x, nw, y23.1, y23.2))) else (lt_ (f_X8_copies bf nw (0) (0)) (fun y17 => (0, y17, hs, rm))))
set_option maxHeartbeats 4000000 in
set_option maxRecDepth 100000 in
theorem c_X8_ends (l : Launch) (D : va_G) (C : Nat → ClassId) (b : Nat → Nat) (M : MS) (x : Int32) (sz : Nat) (hRem : mRem M ≤ 8) : Met l yX8_ends wsX8_ends ({ frames := 2, cells := 0, slots := 0, locals := 45 } : Room) (rwP [.ref (b 0), .int x] D C (mcells C b M) sz) (rwO (some (.int ((f_X8_ends (mNow M) (mBef M) (mHis M) (mRem M) (mThr M) x).1))) D (mcells C b (mkM ((f_X8_ends (mNow M) (mBef M) (mHis M) (mRem M) (mThr M) x).2.1) (mBef M) (mSav M) ((f_X8_ends (mNow M) (mBef M) (mHis M) (mRem M) (mThr M) x).2.2.1) (mIsS M) ((f_X8_ends (mNow M) (mBef M) (mHis M) (mRem M) (mThr M) x).2.2.2) (mErA M) (mFaA M) (mTxt M) (mTyp M) (mLin M) (mLnd M) (mThr M) (mFar M) (mGrp M) (mSiz M) (mPla M) (mWro M) (mTol M) (mNum M))) (va_A (mcells C b M) sz)) 0 0 (va_A (mcells C b M) sz) := by
  refine Met.ofW (cc := cX8_ends) (maxL := 2) (ret := (some .int)) (by decide) rfl ?_
  intro p e s m args below meth c s₁ B hml hv
  obtain ⟨rfl, hsz, hP, hK, hD0, hE⟩ := hv
  have hx := B.exec
  have hb := B.bytes
  have hr := B.returns
  have hts := atoms_spec (ws := wsX8_ends) B.pre
  have hown : s.vm.findClass RX8 = some m.cls := findClass_of_methodNamed B.named
  have hlocks := B.notSynchronized
  subst hsz
  have hD := hD0.self (sz := s.heap.size)
  generalize hAe : va_A (mcells C b M) s.heap.size = A at hD ⊢
  have hA : ∀ q : Nat, s.heap.size ≤ q → A q := fun q h => by rw [← hAe]; exact Or.inr h
  have hS0 : va_S A s.heap s.heap [] := va_S.rf
  have hP : va_P D vwCl (mcells C b M) s.heap := hP
  have hS := hS0
  have hinX8 : ∀ w ∈ u_ws RX8 TX8 20, w ∈ wsX8_ends := by decide +kernel
  have hl := lv_entry ([.ref (b 0), .int x]) (n := 2) (Nat.le_of_ble_eq_true rfl)
  rw [lg_entry_eq]
  generalize (lg_sl ([.ref (b 0), .int x]) ++ List.replicate (2 - (lg_sl ([.ref (b 0), .int x])).length) Slot.unset).toArray = ls at hl ⊢
  have hl : lv_has ls 2 [(0, .ref (b 0)), (1, .int x)] := hl
  obtain ⟨z, hz⟩ : ∃ z, z = f_X8_ends (mNow M) (mBef M) (mHis M) (mRem M) (mThr M) x := ⟨_, rfl⟩
  rw [← hz]
  refine lv_aload_n hx hb dX8_ends_0 rfl (lv_at hl 0 rfl) ?_
  refine va_get (D := D) (ci := 9) (v := .int (mThr M)) (C := RX8) (T := TX8) (N := 20) hx hb hts hinX8 hown hK hP 0 rfl rfl 12 (by decide) (hts (.fieldLink RX8 44 "BridgeAuctionModel" "thrown" "I") (by decide +kernel)) (fun _ h9 => h9) rfl dX8_ends_1 ?_
  refine lv_if_eq (tgt := 22) hx hb dX8_ends_4 (by decide) (fun c_4 => ?_) (fun c_4 => ?_)
  · have hz := hz.trans (if_pos c_4)
    refine lv_aload_n hx hb dX8_ends_22 rfl (lv_at hl 0 rfl) ?_
    have hFc := va_free (wc := (mcells C b M)) hD hS hA [0, 1, 2, 3, 4, 5, 6, 7, 8, 9] rfl
    refine callRw (va_runV (As := []) (rest := []) ⟨hx, hb, hml, hown, hts⟩ (c_X8_remembers l D C b M _ (by first | assumption | omega)) (cwV 0 hts gX8_ends_X8_remembers rfl rfl rfl (by decide +kernel) ⟨Nat.le_of_ble_eq_true rfl, Nat.le_of_ble_eq_true rfl⟩) (rwP_v hP hK hE hD (va_recv hK hP (ci := 9) (q0 := 0) rfl rfl)) rfl rfl hl.1 rfl (lv_room (Nat.le_of_ble_eq_true rfl)) dX8_ends_23 ⟨Nat.le_refl _, Nat.le_refl _⟩) hS hFc (fun H1 locs hPn hk hS => ?_)
    obtain ⟨y23, hy23⟩ : ∃ y_, y_ = (f_X8_remembers (mBef M) (mHis M) (mRem M)) := ⟨_, rfl⟩
    have hPn : va_P D vwCl (mcells C b (mkM (mNow M) (mBef M) (mSav M) y23.1 (mIsS M) y23.2 (mErA M) (mFaA M) (mTxt M) (mTyp M) (mLin M) (mLnd M) (mThr M) (mFar M) (mGrp M) (mSiz M) (mPla M) (mWro M) (mTol M) (mNum M))) H1 := by rw [hy23]; exact hPn
    have hz := lt_eq hz hy23
    have hP : va_P D vwCl (mcells C b (mkM (mNow M) (mBef M) (mSav M) y23.1 (mIsS M) y23.2 (mErA M) (mFaA M) (mTxt M) (mTyp M) (mLin M) (mLnd M) (mThr M) (mFar M) (mGrp M) (mSiz M) (mPla M) (mWro M) (mTol M) (mNum M))) H1 := hPn
    have hD : va_D A (mcells C b (mkM (mNow M) (mBef M) (mSav M) y23.1 (mIsS M) y23.2 (mErA M) (mFaA M) (mTxt M) (mTyp M) (mLin M) (mLnd M) (mThr M) (mFar M) (mGrp M) (mSiz M) (mPla M) (mWro M) (mTol M) (mNum M))) := adr_D hD rfl
    generalize H1 = H at hP hS ⊢
    refine lv_iload_n hx hb dX8_ends_26 rfl (lv_at hl 1 rfl) ?_
    have hz : z = (x, (mNow M), y23.1, y23.2) := hz
    rw [hz]
    exact rw_ret hx hb hr hP hS rfl dX8_ends_27 hlocks
  · have hz := hz.trans (if_neg c_4)
    refine lv_aload_n hx hb dX8_ends_7 rfl (lv_at hl 0 rfl) ?_
    refine va_get (D := D) (ci := 9) (v := .ref (b 2)) (C := RX8) (T := TX8) (N := 20) hx hb hts hinX8 hown hK hP 0 rfl rfl 1 (by decide) (hts (.fieldLink RX8 13 "BridgeAuctionModel" "before" "[I") (by decide +kernel)) (fun _ h9 => h9) rfl dX8_ends_8 ?_
    refine lv_iconst (v := 0) hx hb dX8_ends_11 (by decide) ?_
    refine lv_aload_n hx hb dX8_ends_12 rfl (lv_at hl 0 rfl) ?_
    refine va_get (D := D) (ci := 9) (v := .ref (b 1)) (C := RX8) (T := TX8) (N := 20) hx hb hts hinX8 hown hK hP 0 rfl rfl 0 (by decide) (hts (.fieldLink RX8 9 "BridgeAuctionModel" "now" "[I") (by decide +kernel)) (fun _ h9 => h9) rfl dX8_ends_13 ?_
    refine lv_iconst (v := 0) hx hb dX8_ends_16 (by decide) ?_
    refine topN3 (k := 0) (by decide +kernel) ?_
    refine topN (k := 0) (by decide +kernel) ?_
    have hPc := hP.sub (ws' := ([((b 2), .inl (C 0, 178, .inl (mBef M)))] ++ [((b 1), .inl (C 0, 178, .inl (mNow M)))])) [2, 1] rfl
    have hDc := hD.sub (ws' := ([((b 2), .inl (C 0, 178, .inl (mBef M)))] ++ [((b 1), .inl (C 0, 178, .inl (mNow M)))])) [2, 1] (by decide) rfl
    have hFc := va_free (wc := ([((b 2), .inl (C 0, 178, .inl (mBef M)))] ++ [((b 1), .inl (C 0, 178, .inl (mNow M)))])) hD hS hA [2, 1] rfl
    refine callRw (va_runS (As := [.ref (b 2), .int (nI 0), .ref (b 1), .int (nI 0)]) (rest := []) ⟨hx, hb, hml, hown, hts⟩ (c_X8_copies l D C 178 178 (b 2) (mBef M) (b 1) (mNow M) (0) (0) _ (by first | omega | decide) (by first | omega | decide) (by first | omega | decide) (by first | omega | decide)) (va_cwS 4 hts gX8_ends_X8_copies rfl rfl rfl (by decide +kernel) ⟨Nat.le_of_ble_eq_true rfl, Nat.le_of_ble_eq_true rfl⟩) (rwP_s hPc hK hE hDc) rfl rfl hl.1 rfl (lv_room (Nat.le_of_ble_eq_true rfl)) dX8_ends_17 ⟨Nat.le_refl _, Nat.le_refl _⟩) hS hFc (fun H1 locs hPn hk hS => ?_)
    obtain ⟨y17, hy17⟩ : ∃ y_, y_ = (f_X8_copies (mBef M) (mNow M) (0) (0)) := ⟨_, rfl⟩
    have hPn : va_P D vwCl ([((b 2), .inl (C 0, 178, .inl (mBef M)))] ++ [((b 1), .inl (C 0, 178, .inl y17))]) H1 := by rw [hy17]; exact hPn
    have hz := lt_eq hz hy17
    have hP : va_P D vwCl (mcells C b (mkM y17 (mBef M) (mSav M) (mHis M) (mIsS M) (mRem M) (mErA M) (mFaA M) (mTxt M) (mTyp M) (mLin M) (mLnd M) (mThr M) (mFar M) (mGrp M) (mSiz M) (mPla M) (mWro M) (mTol M) (mNum M))) H1 := rwJoin (wr := ([(b 0, .inr (9, [.ref (b 1), .ref (b 2), .ref (b 3), .ref (b 4), .int (bI (mIsS M)), .int (nI (mRem M)), .int (mErA M), .int (mFaA M), .ref (b 5), .int (nI (mTyp M)), .ref (b 6), .int (nI (mLnd M)), .int (mThr M), .ref (b 7), .ref (b 8), .int (nI (mSiz M)), .int (nI (mPla M)), .int (mWro M), .int (nI (mTol M)), .ref (b 9)])), (b 3, .inl (C 0, 178, .inl (mSav M))), (b 4, .inl (C 0, 1424, .inl (mHis M))), (b 5, .inl (C 0, 60, .inl (mTxt M))), (b 6, .inl (C 0, 60, .inl (mLin M))), (b 7, .inl (C 0, 8, .inl (mFar M))), (b 8, .inl (C 0, 8, .inl (mGrp M))), (b 9, .inl (C 0, 120, .inl (mNum M)))])) (ws' := (mcells C b (mkM y17 (mBef M) (mSav M) (mHis M) (mIsS M) (mRem M) (mErA M) (mFaA M) (mTxt M) (mTyp M) (mLin M) (mLnd M) (mThr M) (mFar M) (mGrp M) (mSiz M) (mPla M) (mWro M) (mTol M) (mNum M)))) hP hD [2, 1] [0, 3, 4, 5, 6, 7, 8, 9] rfl rfl (by decide) (by decide) (by decide) hk hFc hPn rfl [0, 9, 8, 1, 2, 3, 4, 5, 6, 7] rfl
    have hD : va_D A (mcells C b (mkM y17 (mBef M) (mSav M) (mHis M) (mIsS M) (mRem M) (mErA M) (mFaA M) (mTxt M) (mTyp M) (mLin M) (mLnd M) (mThr M) (mFar M) (mGrp M) (mSiz M) (mPla M) (mWro M) (mTol M) (mNum M))) := adr_D hD rfl
    generalize H1 = H at hP hS ⊢
    refine lv_iconst (v := 0) hx hb dX8_ends_20 (by decide) ?_
    have hz : z = (0, y17, (mHis M), (mRem M)) := hz
    rw [hz]
    exact rw_ret hx hb hr hP hS rfl dX8_ends_21 hlocks

