def f_X8_does (nw : (Nat → Int32)) (nm : (Nat → Int32)) (x : Nat) : Int32 × (Nat → Int32) × Int32 := (if (nm x) = 0 then (lt_ (f_X8_joins nw ((nm (x + 1)))) (fun y82 => (y82.1, y82.2.1, y82.2.2))) else (if (nm x) = 1 then (lt_ (f_X8_adds nw ((nm (x + 1))) ((nm (x + 2))) ((nm (x + 3)))) (fun y91 => (y91.1, y91.2.1, y91.2.2))) else (if (nm x) = 2 then (lt_ (f_X8_dresses nw ((nm (x + 1))) ((nm (x + 2)))) (fun y98 => (y98.1, y98.2.1, y98.2.2))) else (if (nm x) = 3 then (lt_ (f_X8_floods nw ((nm (x + 1)))) (fun y104 => (y104.1, y104.2.1, y104.2.2))) else (if (nm x) = 4 then (lt_ (f_X8_bids nw ((nm (x + 1))) ((nm (x + 2))) ((nm (x + 3))) (false)) (fun y114 => (y114.1, y114.2.1, y114.2.2))) else (if (nm x) = 5 then (lt_ (f_X8_bids nw ((nm (x + 1))) ((nm (x + 2))) ((nm (x + 3))) (true)) (fun y124 => (y124.1, y124.2.1, y124.2.2))) else (if (nm x) = 6 then (lt_ (f_X8_ferries nw ((nm (x + 1))) ((nm (x + 2)))) (fun y131 => (y131.1, y131.2.1, y131.2.2))) else (if (nm x) = 7 then (lt_ (f_X8_drops nw ((nm (x + 1))) ((nm (x + 2)))) (fun y138 => (y138.1, y138.2.1, y138.2.2))) else (lt_ (f_X8_settles nw ((nm (x + 1)))) (fun y144 => (y144.1, y144.2.1, y144.2.2)))))))))))
set_option maxHeartbeats 4000000 in
set_option maxRecDepth 100000 in
theorem c_X8_does (l : Launch) (D : va_G) (C : Nat → ClassId) (b : Nat → Nat) (M : MS) (x : Nat) (sz : Nat) (hM : MSafe M) (h_x : x < 117) : Met l yX8_does wsX8_does ({ frames := 6, cells := 0, slots := 0, locals := 136 } : Room) (rwP [.ref (b 0), .int (nI x)] D C (mcells C b M) sz) (rwO (some (.int ((f_X8_does (mNow M) (mNum M) x).1))) D (mcells C b (mkM ((f_X8_does (mNow M) (mNum M) x).2.1) (mBef M) (mSav M) (mHis M) (mIsS M) (mRem M) (mErA M) (mFaA M) (mTxt M) (mTyp M) (mLin M) (mLnd M) ((f_X8_does (mNow M) (mNum M) x).2.2) (mFar M) (mGrp M) (mSiz M) (mPla M) (mWro M) (mTol M) (mNum M))) (va_A (mcells C b M) sz)) 0 0 (va_A (mcells C b M) sz) := by
  refine Met.ofW (cc := cX8_does) (maxL := 5) (ret := (some .int)) (by decide) rfl ?_
  intro p e s m args below meth c s₁ B hml hv
  obtain ⟨rfl, hsz, hP, hK, hD0, hE⟩ := hv
  have hx := B.exec
  have hb := B.bytes
  have hr := B.returns
  have hts := atoms_spec (ws := wsX8_does) B.pre
  have hown : s.vm.findClass RX8 = some m.cls := findClass_of_methodNamed B.named
  have hlocks := B.notSynchronized
  subst hsz
  have hD := hD0.self (sz := s.heap.size)
  generalize hAe : va_A (mcells C b M) s.heap.size = A at hD ⊢
  have hA : ∀ q : Nat, s.heap.size ≤ q → A q := fun q h => by rw [← hAe]; exact Or.inr h
  have hS0 : va_S A s.heap s.heap [] := va_S.rf
  have hP : va_P D vwCl (mcells C b M) s.heap := hP
  have hS := hS0
  obtain ⟨⟨hS2, hS12⟩, ⟨hP2, hP4⟩, hLH, hFE⟩ := id hM
  have hinX8 : ∀ w ∈ u_ws RX8 TX8 20, w ∈ wsX8_does := by decide +kernel
  have hl := lv_entry ([.ref (b 0), .int (nI x)]) (n := 5) (Nat.le_of_ble_eq_true rfl)
  rw [lg_entry_eq]
  generalize (lg_sl ([.ref (b 0), .int (nI x)]) ++ List.replicate (5 - (lg_sl ([.ref (b 0), .int (nI x)])).length) Slot.unset).toArray = ls at hl ⊢
  have hl : lv_has ls 5 [(0, .ref (b 0)), (1, .int (nI x))] := hl
  obtain ⟨z, hz⟩ : ∃ z, z = f_X8_does (mNow M) (mNum M) x := ⟨_, rfl⟩
  rw [← hz]
  refine lv_aload_n hx hb dX8_does_0 rfl (lv_at hl 0 rfl) ?_
  refine va_get (D := D) (ci := 9) (v := .ref (b 9)) (C := RX8) (T := TX8) (N := 20) hx hb hts hinX8 hown hK hP 0 rfl rfl 19 (by decide) (hts (.fieldLink RX8 41 "BridgeAuctionModel" "numbers" "[I") (by decide +kernel)) (fun _ h9 => h9) rfl dX8_does_1 ?_
  refine lv_iload_n hx hb dX8_does_4 rfl (lv_at hl 1 rfl) ?_
  refine lv_iconst (v := 1) hx hb dX8_does_5 (by decide) ?_
  refine topN (k := 1) (by decide +kernel) ?_
  refine addN hx hb dX8_does_6 ?_
  refine ialdN (tys := tyA C) hx hb hK hP 9 0 rfl rfl (i := (x + 1)) (by omega) (by decide) dX8_does_7 ?_
  refine lv_istore_n (lv' := [(2, .int ((mNum M) (x + 1))), (0, .ref (b 0)), (1, .int (nI x))]) hx hb dX8_does_8 rfl hl (by decide) rfl (fun ls hl => ?_)
  refine lv_aload_n hx hb dX8_does_9 rfl (lv_at hl 1 rfl) ?_
  refine va_get (D := D) (ci := 9) (v := .ref (b 9)) (C := RX8) (T := TX8) (N := 20) hx hb hts hinX8 hown hK hP 0 rfl rfl 19 (by decide) (hts (.fieldLink RX8 41 "BridgeAuctionModel" "numbers" "[I") (by decide +kernel)) (fun _ h9 => h9) rfl dX8_does_10 ?_
  refine lv_iload_n hx hb dX8_does_13 rfl (lv_at hl 2 rfl) ?_
  refine lv_iconst (v := 2) hx hb dX8_does_14 (by decide) ?_
  refine topN (k := 2) (by decide +kernel) ?_
  refine addN hx hb dX8_does_15 ?_
  refine ialdN (tys := tyA C) hx hb hK hP 9 0 rfl rfl (i := (x + 2)) (by omega) (by decide) dX8_does_16 ?_
  refine lv_istore_n (lv' := [(3, .int ((mNum M) (x + 2))), (2, .int ((mNum M) (x + 1))), (0, .ref (b 0)), (1, .int (nI x))]) hx hb dX8_does_17 rfl hl (by decide) rfl (fun ls hl => ?_)
  refine lv_aload_n hx hb dX8_does_18 rfl (lv_at hl 2 rfl) ?_
  refine va_get (D := D) (ci := 9) (v := .ref (b 9)) (C := RX8) (T := TX8) (N := 20) hx hb hts hinX8 hown hK hP 0 rfl rfl 19 (by decide) (hts (.fieldLink RX8 41 "BridgeAuctionModel" "numbers" "[I") (by decide +kernel)) (fun _ h9 => h9) rfl dX8_does_19 ?_
  refine lv_iload_n hx hb dX8_does_22 rfl (lv_at hl 3 rfl) ?_
  refine lv_iconst (v := 3) hx hb dX8_does_23 (by decide) ?_
  refine topN (k := 3) (by decide +kernel) ?_
  refine addN hx hb dX8_does_24 ?_
  refine ialdN (tys := tyA C) hx hb hK hP 9 0 rfl rfl (i := (x + 3)) (by omega) (by decide) dX8_does_25 ?_
  refine lv_istore (lv' := [(4, .int ((mNum M) (x + 3))), (3, .int ((mNum M) (x + 2))), (2, .int ((mNum M) (x + 1))), (0, .ref (b 0)), (1, .int (nI x))]) hx hb dX8_does_26 hl (by decide) rfl (fun ls hl => ?_)
  refine lv_aload_n hx hb dX8_does_28 rfl (lv_at hl 3 rfl) ?_
  refine va_get (D := D) (ci := 9) (v := .ref (b 9)) (C := RX8) (T := TX8) (N := 20) hx hb hts hinX8 hown hK hP 0 rfl rfl 19 (by decide) (hts (.fieldLink RX8 41 "BridgeAuctionModel" "numbers" "[I") (by decide +kernel)) (fun _ h9 => h9) rfl dX8_does_29 ?_
  refine lv_iload_n hx hb dX8_does_32 rfl (lv_at hl 4 rfl) ?_
  refine ialdN (tys := tyA C) hx hb hK hP 9 0 rfl rfl (i := x) (by omega) (by decide) dX8_does_33 ?_
  by_cases c_34_0 : ((mNum M) x) = 0
  · have hz := hz.trans (if_pos c_34_0)
    refine lv_tableIn (tgt := 80) hx hb dX8_does_34 (by rw [c_34_0]; decide) (by rw [c_34_0]; decide) (by rw [c_34_0]; rfl) (by decide) ?_
    refine lv_aload_n hx hb dX8_does_80 rfl (lv_at hl 3 rfl) ?_
    refine lv_iload_n hx hb dX8_does_81 rfl (lv_at hl 2 rfl) ?_
    have hFc := va_free (wc := (mcells C b M)) hD hS hA [0, 1, 2, 3, 4, 5, 6, 7, 8, 9] rfl
    refine callRw (va_runV (As := [.int ((mNum M) (x + 1))]) (rest := []) ⟨hx, hb, hml, hown, hts⟩ (c_X8_joins l D C b M (((mNum M) (x + 1))) _ hM) (cwV 1 hts gX8_does_X8_joins rfl rfl rfl (by decide +kernel) ⟨Nat.le_of_ble_eq_true rfl, Nat.le_of_ble_eq_true rfl⟩) (rwP_v hP hK hE hD (va_recv hK hP (ci := 9) (q0 := 0) rfl rfl)) rfl rfl hl.1 rfl (lv_room (Nat.le_of_ble_eq_true rfl)) dX8_does_82 ⟨Nat.le_refl _, Nat.le_refl _⟩) hS hFc (fun H1 locs hPn hk hS => ?_)
    obtain ⟨y82, hy82⟩ : ∃ y_, y_ = (f_X8_joins (mNow M) (((mNum M) (x + 1)))) := ⟨_, rfl⟩
    have hPn : va_P D vwCl (mcells C b (mkM y82.2.1 (mBef M) (mSav M) (mHis M) (mIsS M) (mRem M) (mErA M) (mFaA M) (mTxt M) (mTyp M) (mLin M) (mLnd M) y82.2.2 (mFar M) (mGrp M) (mSiz M) (mPla M) (mWro M) (mTol M) (mNum M))) H1 := by rw [hy82]; exact hPn
    refine topI (y := y82.1) (congrArg Prod.fst hy82).symm ?_
    have hz := lt_eq hz hy82
    have hP : va_P D vwCl (mcells C b (mkM y82.2.1 (mBef M) (mSav M) (mHis M) (mIsS M) (mRem M) (mErA M) (mFaA M) (mTxt M) (mTyp M) (mLin M) (mLnd M) y82.2.2 (mFar M) (mGrp M) (mSiz M) (mPla M) (mWro M) (mTol M) (mNum M))) H1 := hPn
    have hD : va_D A (mcells C b (mkM y82.2.1 (mBef M) (mSav M) (mHis M) (mIsS M) (mRem M) (mErA M) (mFaA M) (mTxt M) (mTyp M) (mLin M) (mLnd M) y82.2.2 (mFar M) (mGrp M) (mSiz M) (mPla M) (mWro M) (mTol M) (mNum M))) := adr_D hD rfl
    generalize H1 = H at hP hS ⊢
    have hz : z = (y82.1, y82.2.1, y82.2.2) := hz
    rw [hz]
    exact rw_ret hx hb hr hP hS rfl dX8_does_85 hlocks
  have hz := hz.trans (if_neg c_34_0)
  by_cases c_34_1 : ((mNum M) x) = 1
  · have hz := hz.trans (if_pos c_34_1)
    refine lv_tableIn (tgt := 86) hx hb dX8_does_34 (by rw [c_34_1]; decide) (by rw [c_34_1]; decide) (by rw [c_34_1]; rfl) (by decide) ?_
    refine lv_aload_n hx hb dX8_does_86 rfl (lv_at hl 3 rfl) ?_
    refine lv_iload_n hx hb dX8_does_87 rfl (lv_at hl 2 rfl) ?_
    refine lv_iload_n hx hb dX8_does_88 rfl (lv_at hl 1 rfl) ?_
    refine lv_iload hx hb dX8_does_89 (lv_at hl 0 rfl) ?_
    have hFc := va_free (wc := (mcells C b M)) hD hS hA [0, 1, 2, 3, 4, 5, 6, 7, 8, 9] rfl
    refine callRw (va_runV (As := [.int ((mNum M) (x + 1)), .int ((mNum M) (x + 2)), .int ((mNum M) (x + 3))]) (rest := []) ⟨hx, hb, hml, hown, hts⟩ (c_X8_adds l D C b M (((mNum M) (x + 1))) (((mNum M) (x + 2))) (((mNum M) (x + 3))) _ hM) (cwV 3 hts gX8_does_X8_adds rfl rfl rfl (by decide +kernel) ⟨Nat.le_of_ble_eq_true rfl, Nat.le_of_ble_eq_true rfl⟩) (rwP_v hP hK hE hD (va_recv hK hP (ci := 9) (q0 := 0) rfl rfl)) rfl rfl hl.1 rfl (lv_room (Nat.le_of_ble_eq_true rfl)) dX8_does_91 ⟨Nat.le_refl _, Nat.le_refl _⟩) hS hFc (fun H1 locs hPn hk hS => ?_)
    obtain ⟨y91, hy91⟩ : ∃ y_, y_ = (f_X8_adds (mNow M) (((mNum M) (x + 1))) (((mNum M) (x + 2))) (((mNum M) (x + 3)))) := ⟨_, rfl⟩
    have hPn : va_P D vwCl (mcells C b (mkM y91.2.1 (mBef M) (mSav M) (mHis M) (mIsS M) (mRem M) (mErA M) (mFaA M) (mTxt M) (mTyp M) (mLin M) (mLnd M) y91.2.2 (mFar M) (mGrp M) (mSiz M) (mPla M) (mWro M) (mTol M) (mNum M))) H1 := by rw [hy91]; exact hPn
    refine topI (y := y91.1) (congrArg Prod.fst hy91).symm ?_
    have hz := lt_eq hz hy91
    have hP : va_P D vwCl (mcells C b (mkM y91.2.1 (mBef M) (mSav M) (mHis M) (mIsS M) (mRem M) (mErA M) (mFaA M) (mTxt M) (mTyp M) (mLin M) (mLnd M) y91.2.2 (mFar M) (mGrp M) (mSiz M) (mPla M) (mWro M) (mTol M) (mNum M))) H1 := hPn
    have hD : va_D A (mcells C b (mkM y91.2.1 (mBef M) (mSav M) (mHis M) (mIsS M) (mRem M) (mErA M) (mFaA M) (mTxt M) (mTyp M) (mLin M) (mLnd M) y91.2.2 (mFar M) (mGrp M) (mSiz M) (mPla M) (mWro M) (mTol M) (mNum M))) := adr_D hD rfl
    generalize H1 = H at hP hS ⊢
    have hz : z = (y91.1, y91.2.1, y91.2.2) := hz
    rw [hz]
    exact rw_ret hx hb hr hP hS rfl dX8_does_94 hlocks
  have hz := hz.trans (if_neg c_34_1)
  by_cases c_34_2 : ((mNum M) x) = 2
  · have hz := hz.trans (if_pos c_34_2)
    refine lv_tableIn (tgt := 95) hx hb dX8_does_34 (by rw [c_34_2]; decide) (by rw [c_34_2]; decide) (by rw [c_34_2]; rfl) (by decide) ?_
    refine lv_aload_n hx hb dX8_does_95 rfl (lv_at hl 3 rfl) ?_
    refine lv_iload_n hx hb dX8_does_96 rfl (lv_at hl 2 rfl) ?_
    refine lv_iload_n hx hb dX8_does_97 rfl (lv_at hl 1 rfl) ?_
    have hFc := va_free (wc := (mcells C b M)) hD hS hA [0, 1, 2, 3, 4, 5, 6, 7, 8, 9] rfl
    refine callRw (va_runV (As := [.int ((mNum M) (x + 1)), .int ((mNum M) (x + 2))]) (rest := []) ⟨hx, hb, hml, hown, hts⟩ (c_X8_dresses l D C b M (((mNum M) (x + 1))) (((mNum M) (x + 2))) _) (cwV 2 hts gX8_does_X8_dresses rfl rfl rfl (by decide +kernel) ⟨Nat.le_of_ble_eq_true rfl, Nat.le_of_ble_eq_true rfl⟩) (rwP_v hP hK hE hD (va_recv hK hP (ci := 9) (q0 := 0) rfl rfl)) rfl rfl hl.1 rfl (lv_room (Nat.le_of_ble_eq_true rfl)) dX8_does_98 ⟨Nat.le_refl _, Nat.le_refl _⟩) hS hFc (fun H1 locs hPn hk hS => ?_)
    obtain ⟨y98, hy98⟩ : ∃ y_, y_ = (f_X8_dresses (mNow M) (((mNum M) (x + 1))) (((mNum M) (x + 2)))) := ⟨_, rfl⟩
    have hPn : va_P D vwCl (mcells C b (mkM y98.2.1 (mBef M) (mSav M) (mHis M) (mIsS M) (mRem M) (mErA M) (mFaA M) (mTxt M) (mTyp M) (mLin M) (mLnd M) y98.2.2 (mFar M) (mGrp M) (mSiz M) (mPla M) (mWro M) (mTol M) (mNum M))) H1 := by rw [hy98]; exact hPn
    refine topI (y := y98.1) (congrArg Prod.fst hy98).symm ?_
    have hz := lt_eq hz hy98
    have hP : va_P D vwCl (mcells C b (mkM y98.2.1 (mBef M) (mSav M) (mHis M) (mIsS M) (mRem M) (mErA M) (mFaA M) (mTxt M) (mTyp M) (mLin M) (mLnd M) y98.2.2 (mFar M) (mGrp M) (mSiz M) (mPla M) (mWro M) (mTol M) (mNum M))) H1 := hPn
    have hD : va_D A (mcells C b (mkM y98.2.1 (mBef M) (mSav M) (mHis M) (mIsS M) (mRem M) (mErA M) (mFaA M) (mTxt M) (mTyp M) (mLin M) (mLnd M) y98.2.2 (mFar M) (mGrp M) (mSiz M) (mPla M) (mWro M) (mTol M) (mNum M))) := adr_D hD rfl
    generalize H1 = H at hP hS ⊢
    have hz : z = (y98.1, y98.2.1, y98.2.2) := hz
    rw [hz]
    exact rw_ret hx hb hr hP hS rfl dX8_does_101 hlocks
  have hz := hz.trans (if_neg c_34_2)
  by_cases c_34_3 : ((mNum M) x) = 3
  · have hz := hz.trans (if_pos c_34_3)
    refine lv_tableIn (tgt := 102) hx hb dX8_does_34 (by rw [c_34_3]; decide) (by rw [c_34_3]; decide) (by rw [c_34_3]; rfl) (by decide) ?_
    refine lv_aload_n hx hb dX8_does_102 rfl (lv_at hl 3 rfl) ?_
    refine lv_iload_n hx hb dX8_does_103 rfl (lv_at hl 2 rfl) ?_
    have hFc := va_free (wc := (mcells C b M)) hD hS hA [0, 1, 2, 3, 4, 5, 6, 7, 8, 9] rfl
    refine callRw (va_runV (As := [.int ((mNum M) (x + 1))]) (rest := []) ⟨hx, hb, hml, hown, hts⟩ (c_X8_floods l D C b M (((mNum M) (x + 1))) _) (cwV 1 hts gX8_does_X8_floods rfl rfl rfl (by decide +kernel) ⟨Nat.le_of_ble_eq_true rfl, Nat.le_of_ble_eq_true rfl⟩) (rwP_v hP hK hE hD (va_recv hK hP (ci := 9) (q0 := 0) rfl rfl)) rfl rfl hl.1 rfl (lv_room (Nat.le_of_ble_eq_true rfl)) dX8_does_104 ⟨Nat.le_refl _, Nat.le_refl _⟩) hS hFc (fun H1 locs hPn hk hS => ?_)
    obtain ⟨y104, hy104⟩ : ∃ y_, y_ = (f_X8_floods (mNow M) (((mNum M) (x + 1)))) := ⟨_, rfl⟩
    have hPn : va_P D vwCl (mcells C b (mkM y104.2.1 (mBef M) (mSav M) (mHis M) (mIsS M) (mRem M) (mErA M) (mFaA M) (mTxt M) (mTyp M) (mLin M) (mLnd M) y104.2.2 (mFar M) (mGrp M) (mSiz M) (mPla M) (mWro M) (mTol M) (mNum M))) H1 := by rw [hy104]; exact hPn
    refine topI (y := y104.1) (congrArg Prod.fst hy104).symm ?_
    have hz := lt_eq hz hy104
    have hP : va_P D vwCl (mcells C b (mkM y104.2.1 (mBef M) (mSav M) (mHis M) (mIsS M) (mRem M) (mErA M) (mFaA M) (mTxt M) (mTyp M) (mLin M) (mLnd M) y104.2.2 (mFar M) (mGrp M) (mSiz M) (mPla M) (mWro M) (mTol M) (mNum M))) H1 := hPn
    have hD : va_D A (mcells C b (mkM y104.2.1 (mBef M) (mSav M) (mHis M) (mIsS M) (mRem M) (mErA M) (mFaA M) (mTxt M) (mTyp M) (mLin M) (mLnd M) y104.2.2 (mFar M) (mGrp M) (mSiz M) (mPla M) (mWro M) (mTol M) (mNum M))) := adr_D hD rfl
    generalize H1 = H at hP hS ⊢
    have hz : z = (y104.1, y104.2.1, y104.2.2) := hz
    rw [hz]
    exact rw_ret hx hb hr hP hS rfl dX8_does_107 hlocks
  have hz := hz.trans (if_neg c_34_3)
  by_cases c_34_4 : ((mNum M) x) = 4
  · have hz := hz.trans (if_pos c_34_4)
    refine lv_tableIn (tgt := 108) hx hb dX8_does_34 (by rw [c_34_4]; decide) (by rw [c_34_4]; decide) (by rw [c_34_4]; rfl) (by decide) ?_
    refine lv_aload_n hx hb dX8_does_108 rfl (lv_at hl 3 rfl) ?_
    refine lv_iload_n hx hb dX8_does_109 rfl (lv_at hl 2 rfl) ?_
    refine lv_iload_n hx hb dX8_does_110 rfl (lv_at hl 1 rfl) ?_
    refine lv_iload hx hb dX8_does_111 (lv_at hl 0 rfl) ?_
    refine lv_iconst (v := 0) hx hb dX8_does_113 (by decide) ?_
    have hFc := va_free (wc := (mcells C b M)) hD hS hA [0, 1, 2, 3, 4, 5, 6, 7, 8, 9] rfl
    refine callRw (va_runV (As := [.int ((mNum M) (x + 1)), .int ((mNum M) (x + 2)), .int ((mNum M) (x + 3)), .int (bI false)]) (rest := []) ⟨hx, hb, hml, hown, hts⟩ (c_X8_bids l D C b M (((mNum M) (x + 1))) (((mNum M) (x + 2))) (((mNum M) (x + 3))) (false) _ hM) (cwV 4 hts gX8_does_X8_bids rfl rfl rfl (by decide +kernel) ⟨Nat.le_of_ble_eq_true rfl, Nat.le_of_ble_eq_true rfl⟩) (rwP_v hP hK hE hD (va_recv hK hP (ci := 9) (q0 := 0) rfl rfl)) rfl rfl hl.1 rfl (lv_room (Nat.le_of_ble_eq_true rfl)) dX8_does_114 ⟨Nat.le_refl _, Nat.le_refl _⟩) hS hFc (fun H1 locs hPn hk hS => ?_)
    obtain ⟨y114, hy114⟩ : ∃ y_, y_ = (f_X8_bids (mNow M) (((mNum M) (x + 1))) (((mNum M) (x + 2))) (((mNum M) (x + 3))) (false)) := ⟨_, rfl⟩
    have hPn : va_P D vwCl (mcells C b (mkM y114.2.1 (mBef M) (mSav M) (mHis M) (mIsS M) (mRem M) (mErA M) (mFaA M) (mTxt M) (mTyp M) (mLin M) (mLnd M) y114.2.2 (mFar M) (mGrp M) (mSiz M) (mPla M) (mWro M) (mTol M) (mNum M))) H1 := by rw [hy114]; exact hPn
    refine topI (y := y114.1) (congrArg Prod.fst hy114).symm ?_
    have hz := lt_eq hz hy114
    have hP : va_P D vwCl (mcells C b (mkM y114.2.1 (mBef M) (mSav M) (mHis M) (mIsS M) (mRem M) (mErA M) (mFaA M) (mTxt M) (mTyp M) (mLin M) (mLnd M) y114.2.2 (mFar M) (mGrp M) (mSiz M) (mPla M) (mWro M) (mTol M) (mNum M))) H1 := hPn
    have hD : va_D A (mcells C b (mkM y114.2.1 (mBef M) (mSav M) (mHis M) (mIsS M) (mRem M) (mErA M) (mFaA M) (mTxt M) (mTyp M) (mLin M) (mLnd M) y114.2.2 (mFar M) (mGrp M) (mSiz M) (mPla M) (mWro M) (mTol M) (mNum M))) := adr_D hD rfl
    generalize H1 = H at hP hS ⊢
    have hz : z = (y114.1, y114.2.1, y114.2.2) := hz
    rw [hz]
    exact rw_ret hx hb hr hP hS rfl dX8_does_117 hlocks
  have hz := hz.trans (if_neg c_34_4)
  by_cases c_34_5 : ((mNum M) x) = 5
  · have hz := hz.trans (if_pos c_34_5)
    refine lv_tableIn (tgt := 118) hx hb dX8_does_34 (by rw [c_34_5]; decide) (by rw [c_34_5]; decide) (by rw [c_34_5]; rfl) (by decide) ?_
    refine lv_aload_n hx hb dX8_does_118 rfl (lv_at hl 3 rfl) ?_
    refine lv_iload_n hx hb dX8_does_119 rfl (lv_at hl 2 rfl) ?_
    refine lv_iload_n hx hb dX8_does_120 rfl (lv_at hl 1 rfl) ?_
    refine lv_iload hx hb dX8_does_121 (lv_at hl 0 rfl) ?_
    refine lv_iconst (v := 1) hx hb dX8_does_123 (by decide) ?_
    have hFc := va_free (wc := (mcells C b M)) hD hS hA [0, 1, 2, 3, 4, 5, 6, 7, 8, 9] rfl
    refine callRw (va_runV (As := [.int ((mNum M) (x + 1)), .int ((mNum M) (x + 2)), .int ((mNum M) (x + 3)), .int (bI true)]) (rest := []) ⟨hx, hb, hml, hown, hts⟩ (c_X8_bids l D C b M (((mNum M) (x + 1))) (((mNum M) (x + 2))) (((mNum M) (x + 3))) (true) _ hM) (cwV 4 hts gX8_does_X8_bids rfl rfl rfl (by decide +kernel) ⟨Nat.le_of_ble_eq_true rfl, Nat.le_of_ble_eq_true rfl⟩) (rwP_v hP hK hE hD (va_recv hK hP (ci := 9) (q0 := 0) rfl rfl)) rfl rfl hl.1 rfl (lv_room (Nat.le_of_ble_eq_true rfl)) dX8_does_124 ⟨Nat.le_refl _, Nat.le_refl _⟩) hS hFc (fun H1 locs hPn hk hS => ?_)
    obtain ⟨y124, hy124⟩ : ∃ y_, y_ = (f_X8_bids (mNow M) (((mNum M) (x + 1))) (((mNum M) (x + 2))) (((mNum M) (x + 3))) (true)) := ⟨_, rfl⟩
    have hPn : va_P D vwCl (mcells C b (mkM y124.2.1 (mBef M) (mSav M) (mHis M) (mIsS M) (mRem M) (mErA M) (mFaA M) (mTxt M) (mTyp M) (mLin M) (mLnd M) y124.2.2 (mFar M) (mGrp M) (mSiz M) (mPla M) (mWro M) (mTol M) (mNum M))) H1 := by rw [hy124]; exact hPn
    refine topI (y := y124.1) (congrArg Prod.fst hy124).symm ?_
    have hz := lt_eq hz hy124
    have hP : va_P D vwCl (mcells C b (mkM y124.2.1 (mBef M) (mSav M) (mHis M) (mIsS M) (mRem M) (mErA M) (mFaA M) (mTxt M) (mTyp M) (mLin M) (mLnd M) y124.2.2 (mFar M) (mGrp M) (mSiz M) (mPla M) (mWro M) (mTol M) (mNum M))) H1 := hPn
    have hD : va_D A (mcells C b (mkM y124.2.1 (mBef M) (mSav M) (mHis M) (mIsS M) (mRem M) (mErA M) (mFaA M) (mTxt M) (mTyp M) (mLin M) (mLnd M) y124.2.2 (mFar M) (mGrp M) (mSiz M) (mPla M) (mWro M) (mTol M) (mNum M))) := adr_D hD rfl
    generalize H1 = H at hP hS ⊢
    have hz : z = (y124.1, y124.2.1, y124.2.2) := hz
    rw [hz]
    exact rw_ret hx hb hr hP hS rfl dX8_does_127 hlocks
  have hz := hz.trans (if_neg c_34_5)
  by_cases c_34_6 : ((mNum M) x) = 6
  · have hz := hz.trans (if_pos c_34_6)
    refine lv_tableIn (tgt := 128) hx hb dX8_does_34 (by rw [c_34_6]; decide) (by rw [c_34_6]; decide) (by rw [c_34_6]; rfl) (by decide) ?_
    refine lv_aload_n hx hb dX8_does_128 rfl (lv_at hl 3 rfl) ?_
    refine lv_iload_n hx hb dX8_does_129 rfl (lv_at hl 2 rfl) ?_
    refine lv_iload_n hx hb dX8_does_130 rfl (lv_at hl 1 rfl) ?_
    have hFc := va_free (wc := (mcells C b M)) hD hS hA [0, 1, 2, 3, 4, 5, 6, 7, 8, 9] rfl
    refine callRw (va_runV (As := [.int ((mNum M) (x + 1)), .int ((mNum M) (x + 2))]) (rest := []) ⟨hx, hb, hml, hown, hts⟩ (c_X8_ferries l D C b M (((mNum M) (x + 1))) (((mNum M) (x + 2))) _ hM) (cwV 2 hts gX8_does_X8_ferries rfl rfl rfl (by decide +kernel) ⟨Nat.le_of_ble_eq_true rfl, Nat.le_of_ble_eq_true rfl⟩) (rwP_v hP hK hE hD (va_recv hK hP (ci := 9) (q0 := 0) rfl rfl)) rfl rfl hl.1 rfl (lv_room (Nat.le_of_ble_eq_true rfl)) dX8_does_131 ⟨Nat.le_refl _, Nat.le_refl _⟩) hS hFc (fun H1 locs hPn hk hS => ?_)
    obtain ⟨y131, hy131⟩ : ∃ y_, y_ = (f_X8_ferries (mNow M) (((mNum M) (x + 1))) (((mNum M) (x + 2)))) := ⟨_, rfl⟩
    have hPn : va_P D vwCl (mcells C b (mkM y131.2.1 (mBef M) (mSav M) (mHis M) (mIsS M) (mRem M) (mErA M) (mFaA M) (mTxt M) (mTyp M) (mLin M) (mLnd M) y131.2.2 (mFar M) (mGrp M) (mSiz M) (mPla M) (mWro M) (mTol M) (mNum M))) H1 := by rw [hy131]; exact hPn
    refine topI (y := y131.1) (congrArg Prod.fst hy131).symm ?_
    have hz := lt_eq hz hy131
    have hP : va_P D vwCl (mcells C b (mkM y131.2.1 (mBef M) (mSav M) (mHis M) (mIsS M) (mRem M) (mErA M) (mFaA M) (mTxt M) (mTyp M) (mLin M) (mLnd M) y131.2.2 (mFar M) (mGrp M) (mSiz M) (mPla M) (mWro M) (mTol M) (mNum M))) H1 := hPn
    have hD : va_D A (mcells C b (mkM y131.2.1 (mBef M) (mSav M) (mHis M) (mIsS M) (mRem M) (mErA M) (mFaA M) (mTxt M) (mTyp M) (mLin M) (mLnd M) y131.2.2 (mFar M) (mGrp M) (mSiz M) (mPla M) (mWro M) (mTol M) (mNum M))) := adr_D hD rfl
    generalize H1 = H at hP hS ⊢
    have hz : z = (y131.1, y131.2.1, y131.2.2) := hz
    rw [hz]
    exact rw_ret hx hb hr hP hS rfl dX8_does_134 hlocks
  have hz := hz.trans (if_neg c_34_6)
  by_cases c_34_7 : ((mNum M) x) = 7
  · have hz := hz.trans (if_pos c_34_7)
    refine lv_tableIn (tgt := 135) hx hb dX8_does_34 (by rw [c_34_7]; decide) (by rw [c_34_7]; decide) (by rw [c_34_7]; rfl) (by decide) ?_
    refine lv_aload_n hx hb dX8_does_135 rfl (lv_at hl 3 rfl) ?_
    refine lv_iload_n hx hb dX8_does_136 rfl (lv_at hl 2 rfl) ?_
    refine lv_iload_n hx hb dX8_does_137 rfl (lv_at hl 1 rfl) ?_
    have hFc := va_free (wc := (mcells C b M)) hD hS hA [0, 1, 2, 3, 4, 5, 6, 7, 8, 9] rfl
    refine callRw (va_runV (As := [.int ((mNum M) (x + 1)), .int ((mNum M) (x + 2))]) (rest := []) ⟨hx, hb, hml, hown, hts⟩ (c_X8_drops l D C b M (((mNum M) (x + 1))) (((mNum M) (x + 2))) _ hM) (cwV 2 hts gX8_does_X8_drops rfl rfl rfl (by decide +kernel) ⟨Nat.le_of_ble_eq_true rfl, Nat.le_of_ble_eq_true rfl⟩) (rwP_v hP hK hE hD (va_recv hK hP (ci := 9) (q0 := 0) rfl rfl)) rfl rfl hl.1 rfl (lv_room (Nat.le_of_ble_eq_true rfl)) dX8_does_138 ⟨Nat.le_refl _, Nat.le_refl _⟩) hS hFc (fun H1 locs hPn hk hS => ?_)
    obtain ⟨y138, hy138⟩ : ∃ y_, y_ = (f_X8_drops (mNow M) (((mNum M) (x + 1))) (((mNum M) (x + 2)))) := ⟨_, rfl⟩
    have hPn : va_P D vwCl (mcells C b (mkM y138.2.1 (mBef M) (mSav M) (mHis M) (mIsS M) (mRem M) (mErA M) (mFaA M) (mTxt M) (mTyp M) (mLin M) (mLnd M) y138.2.2 (mFar M) (mGrp M) (mSiz M) (mPla M) (mWro M) (mTol M) (mNum M))) H1 := by rw [hy138]; exact hPn
    refine topI (y := y138.1) (congrArg Prod.fst hy138).symm ?_
    have hz := lt_eq hz hy138
    have hP : va_P D vwCl (mcells C b (mkM y138.2.1 (mBef M) (mSav M) (mHis M) (mIsS M) (mRem M) (mErA M) (mFaA M) (mTxt M) (mTyp M) (mLin M) (mLnd M) y138.2.2 (mFar M) (mGrp M) (mSiz M) (mPla M) (mWro M) (mTol M) (mNum M))) H1 := hPn
    have hD : va_D A (mcells C b (mkM y138.2.1 (mBef M) (mSav M) (mHis M) (mIsS M) (mRem M) (mErA M) (mFaA M) (mTxt M) (mTyp M) (mLin M) (mLnd M) y138.2.2 (mFar M) (mGrp M) (mSiz M) (mPla M) (mWro M) (mTol M) (mNum M))) := adr_D hD rfl
    generalize H1 = H at hP hS ⊢
    have hz : z = (y138.1, y138.2.1, y138.2.2) := hz
    rw [hz]
    exact rw_ret hx hb hr hP hS rfl dX8_does_141 hlocks
  have hz := hz.trans (if_neg c_34_7)
  refine lv_tableOut (tgt := 142) hx hb dX8_does_34 (tsw_out (lo := 0) (n := 8) (by decide) (by intro i hi hi2; rcases (by omega : i = 0 ∨ i = 1 ∨ i = 2 ∨ i = 3 ∨ i = 4 ∨ i = 5 ∨ i = 6 ∨ i = 7) with rfl | rfl | rfl | rfl | rfl | rfl | rfl | rfl <;> first | exact fun h => c_34_0 (h.trans (by decide +kernel)) | exact fun h => c_34_1 (h.trans (by decide +kernel)) | exact fun h => c_34_2 (h.trans (by decide +kernel)) | exact fun h => c_34_3 (h.trans (by decide +kernel)) | exact fun h => c_34_4 (h.trans (by decide +kernel)) | exact fun h => c_34_5 (h.trans (by decide +kernel)) | exact fun h => c_34_6 (h.trans (by decide +kernel)) | exact fun h => c_34_7 (h.trans (by decide +kernel)))) (by decide) ?_
  refine lv_aload_n hx hb dX8_does_142 rfl (lv_at hl 3 rfl) ?_
  refine lv_iload_n hx hb dX8_does_143 rfl (lv_at hl 2 rfl) ?_
  have hFc := va_free (wc := (mcells C b M)) hD hS hA [0, 1, 2, 3, 4, 5, 6, 7, 8, 9] rfl
  refine callRw (va_runV (As := [.int ((mNum M) (x + 1))]) (rest := []) ⟨hx, hb, hml, hown, hts⟩ (c_X8_settles l D C b M (((mNum M) (x + 1))) _ hM) (cwV 1 hts gX8_does_X8_settles rfl rfl rfl (by decide +kernel) ⟨Nat.le_of_ble_eq_true rfl, Nat.le_of_ble_eq_true rfl⟩) (rwP_v hP hK hE hD (va_recv hK hP (ci := 9) (q0 := 0) rfl rfl)) rfl rfl hl.1 rfl (lv_room (Nat.le_of_ble_eq_true rfl)) dX8_does_144 ⟨Nat.le_refl _, Nat.le_refl _⟩) hS hFc (fun H1 locs hPn hk hS => ?_)
  obtain ⟨y144, hy144⟩ : ∃ y_, y_ = (f_X8_settles (mNow M) (((mNum M) (x + 1)))) := ⟨_, rfl⟩
  have hPn : va_P D vwCl (mcells C b (mkM y144.2.1 (mBef M) (mSav M) (mHis M) (mIsS M) (mRem M) (mErA M) (mFaA M) (mTxt M) (mTyp M) (mLin M) (mLnd M) y144.2.2 (mFar M) (mGrp M) (mSiz M) (mPla M) (mWro M) (mTol M) (mNum M))) H1 := by rw [hy144]; exact hPn
  refine topI (y := y144.1) (congrArg Prod.fst hy144).symm ?_
  have hz := lt_eq hz hy144
  have hP : va_P D vwCl (mcells C b (mkM y144.2.1 (mBef M) (mSav M) (mHis M) (mIsS M) (mRem M) (mErA M) (mFaA M) (mTxt M) (mTyp M) (mLin M) (mLnd M) y144.2.2 (mFar M) (mGrp M) (mSiz M) (mPla M) (mWro M) (mTol M) (mNum M))) H1 := hPn
  have hD : va_D A (mcells C b (mkM y144.2.1 (mBef M) (mSav M) (mHis M) (mIsS M) (mRem M) (mErA M) (mFaA M) (mTxt M) (mTyp M) (mLin M) (mLnd M) y144.2.2 (mFar M) (mGrp M) (mSiz M) (mPla M) (mWro M) (mTol M) (mNum M))) := adr_D hD rfl
  generalize H1 = H at hP hS ⊢
  have hz : z = (y144.1, y144.2.1, y144.2.2) := hz
  rw [hz]
  exact rw_ret hx hb hr hP hS rfl dX8_does_147 hlocks

