theorem X8_wN_le (li : Nat → Int32) (x : Nat) (y : Int32) : (f_X8_writesNumber li x y).1 ≤ x + 2 := by
  simp only [f_X8_writesNumber, f_X8_writesNumber_j22]
  split
  · show x + 1 + 1 ≤ x + 2; omega
  · show x + 1 ≤ x + 2; omega
def f_X8_writesBid_j87  (s0_87 : Nat) (lin0_87 : (Nat → Int32)) : Nat × (Nat → Int32) := (s0_87, lin0_87)
def f_X8_writesBid_j62 (nw : (Nat → Int32)) (q : Nat) (y : Int32) (s0_62 : Nat) (lin0_62 : (Nat → Int32)) : Nat × (Nat → Int32) := (if (f_X8_of nw (y) (4)) = (nI q) then (f_X8_writesBid_j87 ((s0_62 + 1)) ((upd lin0_62 s0_62 42))) else (f_X8_writesBid_j87 (s0_62) (lin0_62)))
def f_X8_writesBid (nw : (Nat → Int32)) (li : (Nat → Int32)) (x : Nat) (q : Nat) (y : Int32) : Nat × (Nat → Int32) := (lt_ (f_X8_writesNumber (upd li x 32) ((x + 1)) ((nI q))) (fun y10 => (lt_ (f_X8_writesNumber (upd y10.2 y10.1 58) ((y10.1 + 1)) ((f_X8_of nw (y) ((5 + q))))) (fun y31 => (if (f_X8_of nw (y) ((9 + q))) = 1 then (f_X8_writesBid_j62 nw q y ((y31.1 + 1)) ((upd y31.2 y31.1 63))) else (f_X8_writesBid_j62 nw q y (y31.1) (y31.2)))))))
set_option maxHeartbeats 4000000 in
set_option maxRecDepth 100000 in
theorem c_X8_writesBid (l : Launch) (D : va_G) (C : Nat → ClassId) (b : Nat → Nat) (M : MS) (x : Nat) (q : Nat) (y : Int32) (sz : Nat) (hM : MSafe M) (h_x : x < 53) (h_q : q < 4) : Met l yX8_writesBid wsX8_writesBid ({ frames := 3, cells := 0, slots := 0, locals := 65 } : Room) (rwP [.ref (b 0), .int (nI x), .int (nI q), .int y] D C (mcells C b M) sz) (rwO (some (.int (nI ((f_X8_writesBid (mNow M) (mLin M) x q y).1)))) D (mcells C b (mkM (mNow M) (mBef M) (mSav M) (mHis M) (mIsS M) (mRem M) (mErA M) (mFaA M) (mTxt M) (mTyp M) ((f_X8_writesBid (mNow M) (mLin M) x q y).2) (mLnd M) (mThr M) (mFar M) (mGrp M) (mSiz M) (mPla M) (mWro M) (mTol M) (mNum M))) (va_A (mcells C b M) sz)) 0 0 (va_A (mcells C b M) sz) := by
  refine Met.ofW (cc := cX8_writesBid) (maxL := 5) (ret := (some .int)) (by decide) rfl ?_
  intro p e s m args below meth c s₁ B hml hv
  obtain ⟨rfl, hsz, hP, hK, hD0, hE⟩ := hv
  have hx := B.exec
  have hb := B.bytes
  have hr := B.returns
  have hts := atoms_spec (ws := wsX8_writesBid) B.pre
  have hown : s.vm.findClass RX8 = some m.cls := findClass_of_methodNamed B.named
  have hlocks := B.notSynchronized
  subst hsz
  have hD := hD0.self (sz := s.heap.size)
  generalize hAe : va_A (mcells C b M) s.heap.size = A at hD ⊢
  have hA : ∀ q : Nat, s.heap.size ≤ q → A q := fun q h => by rw [← hAe]; exact Or.inr h
  have hS0 : va_S A s.heap s.heap [] := va_S.rf
  have hP : va_P D vwCl (mcells C b M) s.heap := hP
  have hS := hS0
  obtain ⟨⟨hS2, hS12⟩, ⟨hP2, hP4⟩, hLH, hFE⟩ := id hM
  have hl := lv_entry ([.ref (b 0), .int (nI x), .int (nI q), .int y]) (n := 5) (Nat.le_of_ble_eq_true rfl)
  rw [lg_entry_eq]
  generalize (lg_sl ([.ref (b 0), .int (nI x), .int (nI q), .int y]) ++ List.replicate (5 - (lg_sl ([.ref (b 0), .int (nI x), .int (nI q), .int y])).length) Slot.unset).toArray = ls at hl ⊢
  have hl : lv_has ls 5 [(0, .ref (b 0)), (1, .int (nI x)), (2, .int (nI q)), (3, .int y)] := hl
  obtain ⟨z, hz⟩ : ∃ z, z = f_X8_writesBid (mNow M) (mLin M) x q y := ⟨_, rfl⟩
  rw [← hz]
  have J87 : ∀ (s0_87 : Nat) (lin0_87 : (Nat → Int32))  (H : Heap) (locs : List Loc) (ls : Array Slot), z = f_X8_writesBid_j87 s0_87 lin0_87 → (s0_87 ≤ x + 8) → va_P D vwCl (mcells C b (mkM (mNow M) (mBef M) (mSav M) (mHis M) (mIsS M) (mRem M) (mErA M) (mFaA M) (mTxt M) (mTyp M) lin0_87 (mLnd M) (mThr M) (mFar M) (mGrp M) (mSiz M) (mPla M) (mWro M) (mTol M) (mNum M))) H → va_D A (mcells C b (mkM (mNow M) (mBef M) (mSav M) (mHis M) (mIsS M) (mRem M) (mErA M) (mFaA M) (mTxt M) (mTyp M) lin0_87 (mLnd M) (mThr M) (mFar M) (mGrp M) (mSiz M) (mPla M) (mWro M) (mTol M) (mNum M))) → va_S A s.heap H locs → lv_has ls 5 [] → W p l e ({ frames := 3, cells := 0, slots := 0, locals := 65 } : Room) s m ([.ref (b 0), .int (nI x), .int (nI q), .int y] : List Value).toArray below meth c H locs 0 0 (MQ below (rwO (some (.int (nI z.1))) D (mcells C b (mkM (mNow M) (mBef M) (mSav M) (mHis M) (mIsS M) (mRem M) (mErA M) (mFaA M) (mTxt M) (mTyp M) z.2 (mLnd M) (mThr M) (mFar M) (mGrp M) (mSiz M) (mPla M) (mWro M) (mTol M) (mNum M))) A) ([.ref (b 0), .int (nI x), .int (nI q), .int y] : List Value).toArray s 0 0 A) (F0 m 87 ls [.int (nI s0_87)]) := by
    intro s0_87 lin0_87 H locs ls hz iv87_0 hP hD hS hl
    have hz : z = (s0_87, lin0_87) := hz
    rw [hz]
    exact rw_ret hx hb hr hP hS rfl dX8_writesBid_87 hlocks
  have J62 : ∀ (s0_62 : Nat) (lin0_62 : (Nat → Int32))  (H : Heap) (locs : List Loc) (ls : Array Slot), z = f_X8_writesBid_j62 (mNow M) q y s0_62 lin0_62 → (s0_62 ≤ x + 7) → va_P D vwCl (mcells C b (mkM (mNow M) (mBef M) (mSav M) (mHis M) (mIsS M) (mRem M) (mErA M) (mFaA M) (mTxt M) (mTyp M) lin0_62 (mLnd M) (mThr M) (mFar M) (mGrp M) (mSiz M) (mPla M) (mWro M) (mTol M) (mNum M))) H → va_D A (mcells C b (mkM (mNow M) (mBef M) (mSav M) (mHis M) (mIsS M) (mRem M) (mErA M) (mFaA M) (mTxt M) (mTyp M) lin0_62 (mLnd M) (mThr M) (mFar M) (mGrp M) (mSiz M) (mPla M) (mWro M) (mTol M) (mNum M))) → va_S A s.heap H locs → lv_has ls 5 [(0, .ref (b 0)), (2, .int (nI q)), (3, .int y)] → W p l e ({ frames := 3, cells := 0, slots := 0, locals := 65 } : Room) s m ([.ref (b 0), .int (nI x), .int (nI q), .int y] : List Value).toArray below meth c H locs 0 0 (MQ below (rwO (some (.int (nI z.1))) D (mcells C b (mkM (mNow M) (mBef M) (mSav M) (mHis M) (mIsS M) (mRem M) (mErA M) (mFaA M) (mTxt M) (mTyp M) z.2 (mLnd M) (mThr M) (mFar M) (mGrp M) (mSiz M) (mPla M) (mWro M) (mTol M) (mNum M))) A) ([.ref (b 0), .int (nI x), .int (nI q), .int y] : List Value).toArray s 0 0 A) (F0 m 62 ls [.int (nI s0_62)]) := by
    intro s0_62 lin0_62 H locs ls hz iv62_0 hP hD hS hl
    refine lv_istore (lv' := [(4, .int (nI s0_62)), (0, .ref (b 0)), (2, .int (nI q)), (3, .int y)]) hx hb dX8_writesBid_62 hl (by decide) rfl (fun ls hl => ?_)
    refine lv_aload_n hx hb dX8_writesBid_64 rfl (lv_at hl 1 rfl) ?_
    refine lv_iload_n hx hb dX8_writesBid_65 rfl (lv_at hl 3 rfl) ?_
    refine lv_iconst (v := 4) hx hb dX8_writesBid_66 (by decide) ?_
    refine topN (k := 4) (by decide +kernel) ?_
    refine callRo (va_runV (As := [.int y, .int (nI 4)]) (rest := []) ⟨hx, hb, hml, hown, hts⟩ (c_X8_of l D C b (mkM (mNow M) (mBef M) (mSav M) (mHis M) (mIsS M) (mRem M) (mErA M) (mFaA M) (mTxt M) (mTyp M) lin0_62 (mLnd M) (mThr M) (mFar M) (mGrp M) (mSiz M) (mPla M) (mWro M) (mTol M) (mNum M)) (y) (4) (MSafe_of hM rfl) (by omega)) (cwV 2 hts gX8_writesBid_X8_of rfl rfl rfl (by decide +kernel) ⟨Nat.le_of_ble_eq_true rfl, Nat.le_of_ble_eq_true rfl⟩) (roP_v hP hK hE (va_recv hK hP (ci := 9) (q0 := 0) rfl rfl)) rfl rfl hl.1 rfl (lv_room (Nat.le_of_ble_eq_true rfl)) dX8_writesBid_67 ⟨Nat.le_refl _, Nat.le_refl _⟩) ?_
    refine topI (y := (f_X8_of (mNow M) (y) (4))) rfl ?_
    refine lv_iload_n hx hb dX8_writesBid_70 rfl (lv_at hl 2 rfl) ?_
    refine lv_icmp_ne (tgt := 85) hx hb dX8_writesBid_71 (by decide) (fun c_71 => ?_) (fun c_71 => ?_)
    · have hz := hz.trans (if_neg c_71)
      refine lv_iload hx hb dX8_writesBid_85 (lv_at hl 0 rfl) ?_
      exact J87 (s0_62) (lin0_62) _ _ ls hz (by omega) hP hD hS (lv_sub hl [] rfl)
    · have hz := hz.trans (if_pos c_71)
      refine lv_aload_n hx hb dX8_writesBid_74 rfl (lv_at hl 1 rfl) ?_
      refine lv_iload hx hb dX8_writesBid_75 (lv_at hl 0 rfl) ?_
      refine lv_bipush (v := 42) hx hb dX8_writesBid_77 (by decide +kernel) ?_
      have hFc := va_free (wc := (mcells C b (mkM (mNow M) (mBef M) (mSav M) (mHis M) (mIsS M) (mRem M) (mErA M) (mFaA M) (mTxt M) (mTyp M) lin0_62 (mLnd M) (mThr M) (mFar M) (mGrp M) (mSiz M) (mPla M) (mWro M) (mTol M) (mNum M)))) hD hS hA [0, 1, 2, 3, 4, 5, 6, 7, 8, 9] rfl
      refine callRw (va_runV (As := [.int (nI s0_62), .int 42]) (rest := []) ⟨hx, hb, hml, hown, hts⟩ (c_X8_put_ l D C b (mkM (mNow M) (mBef M) (mSav M) (mHis M) (mIsS M) (mRem M) (mErA M) (mFaA M) (mTxt M) (mTyp M) lin0_62 (mLnd M) (mThr M) (mFar M) (mGrp M) (mSiz M) (mPla M) (mWro M) (mTol M) (mNum M)) (s0_62) (42) _ (by omega)) (cwV 2 hts gX8_writesBid_X8_put rfl rfl rfl (by decide +kernel) ⟨Nat.le_of_ble_eq_true rfl, Nat.le_of_ble_eq_true rfl⟩) (rwP_v hP hK hE hD (va_recv hK hP (ci := 9) (q0 := 0) rfl rfl)) rfl rfl hl.1 rfl (lv_room (Nat.le_of_ble_eq_true rfl)) dX8_writesBid_79 ⟨Nat.le_refl _, Nat.le_refl _⟩) hS hFc (fun H1 locs hPn hk hS => ?_)
      have hP : va_P D vwCl (mcells C b (mkM (mNow M) (mBef M) (mSav M) (mHis M) (mIsS M) (mRem M) (mErA M) (mFaA M) (mTxt M) (mTyp M) (upd lin0_62 s0_62 42) (mLnd M) (mThr M) (mFar M) (mGrp M) (mSiz M) (mPla M) (mWro M) (mTol M) (mNum M))) H1 := hPn
      have hD : va_D A (mcells C b (mkM (mNow M) (mBef M) (mSav M) (mHis M) (mIsS M) (mRem M) (mErA M) (mFaA M) (mTxt M) (mTyp M) (upd lin0_62 s0_62 42) (mLnd M) (mThr M) (mFar M) (mGrp M) (mSiz M) (mPla M) (mWro M) (mTol M) (mNum M))) := adr_D hD rfl
      generalize H1 = H at hP hS ⊢
      refine topI (y := (nI (s0_62 + 1))) rfl ?_
      refine lv_goto (tgt := 87) hx hb dX8_writesBid_82 (by decide) ?_
      exact J87 ((s0_62 + 1)) ((upd lin0_62 s0_62 42)) _ _ ls hz (by omega) hP hD hS (lv_sub hl [] rfl)
  refine lv_aload_n hx hb dX8_writesBid_0 rfl (lv_at hl 0 rfl) ?_
  refine lv_aload_n hx hb dX8_writesBid_1 rfl (lv_at hl 0 rfl) ?_
  refine lv_aload_n hx hb dX8_writesBid_2 rfl (lv_at hl 0 rfl) ?_
  refine lv_iload_n hx hb dX8_writesBid_3 rfl (lv_at hl 1 rfl) ?_
  refine lv_bipush (v := 32) hx hb dX8_writesBid_4 (by decide +kernel) ?_
  have hFc := va_free (wc := (mcells C b M)) hD hS hA [0, 1, 2, 3, 4, 5, 6, 7, 8, 9] rfl
  refine callRw (va_runV (As := [.int (nI x), .int 32]) (rest := [.ref (b 0), .ref (b 0)]) ⟨hx, hb, hml, hown, hts⟩ (c_X8_put_ l D C b M (x) (32) _ (by omega)) (cwV 2 hts gX8_writesBid_X8_put rfl rfl rfl (by decide +kernel) ⟨Nat.le_of_ble_eq_true rfl, Nat.le_of_ble_eq_true rfl⟩) (rwP_v hP hK hE hD (va_recv hK hP (ci := 9) (q0 := 0) rfl rfl)) rfl rfl hl.1 rfl (lv_room (Nat.le_of_ble_eq_true rfl)) dX8_writesBid_6 ⟨Nat.le_refl _, Nat.le_refl _⟩) hS hFc (fun H1 locs hPn hk hS => ?_)
  have hP : va_P D vwCl (mcells C b (mkM (mNow M) (mBef M) (mSav M) (mHis M) (mIsS M) (mRem M) (mErA M) (mFaA M) (mTxt M) (mTyp M) (upd (mLin M) x 32) (mLnd M) (mThr M) (mFar M) (mGrp M) (mSiz M) (mPla M) (mWro M) (mTol M) (mNum M))) H1 := hPn
  have hD : va_D A (mcells C b (mkM (mNow M) (mBef M) (mSav M) (mHis M) (mIsS M) (mRem M) (mErA M) (mFaA M) (mTxt M) (mTyp M) (upd (mLin M) x 32) (mLnd M) (mThr M) (mFar M) (mGrp M) (mSiz M) (mPla M) (mWro M) (mTol M) (mNum M))) := adr_D hD rfl
  generalize H1 = H at hP hS ⊢
  refine topI (y := (nI (x + 1))) rfl ?_
  refine lv_iload_n hx hb dX8_writesBid_9 rfl (lv_at hl 2 rfl) ?_
  have hFc := va_free (wc := (mcells C b (mkM (mNow M) (mBef M) (mSav M) (mHis M) (mIsS M) (mRem M) (mErA M) (mFaA M) (mTxt M) (mTyp M) (upd (mLin M) x 32) (mLnd M) (mThr M) (mFar M) (mGrp M) (mSiz M) (mPla M) (mWro M) (mTol M) (mNum M)))) hD hS hA [0, 1, 2, 3, 4, 5, 6, 7, 8, 9] rfl
  refine callRw (va_runV (As := [.int (nI (x + 1)), .int (nI q)]) (rest := [.ref (b 0)]) ⟨hx, hb, hml, hown, hts⟩ (c_X8_writesNumber l D C b (mkM (mNow M) (mBef M) (mSav M) (mHis M) (mIsS M) (mRem M) (mErA M) (mFaA M) (mTxt M) (mTyp M) (upd (mLin M) x 32) (mLnd M) (mThr M) (mFar M) (mGrp M) (mSiz M) (mPla M) (mWro M) (mTol M) (mNum M)) ((x + 1)) ((nI q)) _ (by omega)) (cwV 2 hts gX8_writesBid_X8_writesNumber rfl rfl rfl (by decide +kernel) ⟨Nat.le_of_ble_eq_true rfl, Nat.le_of_ble_eq_true rfl⟩) (rwP_v hP hK hE hD (va_recv hK hP (ci := 9) (q0 := 0) rfl rfl)) rfl rfl hl.1 rfl (lv_room (Nat.le_of_ble_eq_true rfl)) dX8_writesBid_10 ⟨Nat.le_refl _, Nat.le_refl _⟩) hS hFc (fun H1 locs hPn hk hS => ?_)
  obtain ⟨y10, hy10⟩ : ∃ y_, y_ = (f_X8_writesNumber (upd (mLin M) x 32) ((x + 1)) ((nI q))) := ⟨_, rfl⟩
  have hPn : va_P D vwCl (mcells C b (mkM (mNow M) (mBef M) (mSav M) (mHis M) (mIsS M) (mRem M) (mErA M) (mFaA M) (mTxt M) (mTyp M) y10.2 (mLnd M) (mThr M) (mFar M) (mGrp M) (mSiz M) (mPla M) (mWro M) (mTol M) (mNum M))) H1 := by rw [hy10]; exact hPn
  refine topI (y := nI y10.1) (congrArg nI (congrArg Prod.fst hy10).symm) ?_
  have hz := lt_eq hz hy10
  have hP : va_P D vwCl (mcells C b (mkM (mNow M) (mBef M) (mSav M) (mHis M) (mIsS M) (mRem M) (mErA M) (mFaA M) (mTxt M) (mTyp M) y10.2 (mLnd M) (mThr M) (mFar M) (mGrp M) (mSiz M) (mPla M) (mWro M) (mTol M) (mNum M))) H1 := hPn
  have hD : va_D A (mcells C b (mkM (mNow M) (mBef M) (mSav M) (mHis M) (mIsS M) (mRem M) (mErA M) (mFaA M) (mTxt M) (mTyp M) y10.2 (mLnd M) (mThr M) (mFar M) (mGrp M) (mSiz M) (mPla M) (mWro M) (mTol M) (mNum M))) := adr_D hD rfl
  generalize H1 = H at hP hS ⊢
  have b10 : y10.1 ≤ _ := Nat.le_trans (Nat.le_of_eq (congrArg Prod.fst hy10)) (X8_wN_le _ _ _)
  refine lv_bipush (v := 58) hx hb dX8_writesBid_13 (by decide +kernel) ?_
  have hFc := va_free (wc := (mcells C b (mkM (mNow M) (mBef M) (mSav M) (mHis M) (mIsS M) (mRem M) (mErA M) (mFaA M) (mTxt M) (mTyp M) y10.2 (mLnd M) (mThr M) (mFar M) (mGrp M) (mSiz M) (mPla M) (mWro M) (mTol M) (mNum M)))) hD hS hA [0, 1, 2, 3, 4, 5, 6, 7, 8, 9] rfl
  refine callRw (va_runV (As := [.int (nI y10.1), .int 58]) (rest := []) ⟨hx, hb, hml, hown, hts⟩ (c_X8_put_ l D C b (mkM (mNow M) (mBef M) (mSav M) (mHis M) (mIsS M) (mRem M) (mErA M) (mFaA M) (mTxt M) (mTyp M) y10.2 (mLnd M) (mThr M) (mFar M) (mGrp M) (mSiz M) (mPla M) (mWro M) (mTol M) (mNum M)) (y10.1) (58) _ (by omega)) (cwV 2 hts gX8_writesBid_X8_put rfl rfl rfl (by decide +kernel) ⟨Nat.le_of_ble_eq_true rfl, Nat.le_of_ble_eq_true rfl⟩) (rwP_v hP hK hE hD (va_recv hK hP (ci := 9) (q0 := 0) rfl rfl)) rfl rfl hl.1 rfl (lv_room (Nat.le_of_ble_eq_true rfl)) dX8_writesBid_15 ⟨Nat.le_refl _, Nat.le_refl _⟩) hS hFc (fun H1 locs hPn hk hS => ?_)
  have hP : va_P D vwCl (mcells C b (mkM (mNow M) (mBef M) (mSav M) (mHis M) (mIsS M) (mRem M) (mErA M) (mFaA M) (mTxt M) (mTyp M) (upd y10.2 y10.1 58) (mLnd M) (mThr M) (mFar M) (mGrp M) (mSiz M) (mPla M) (mWro M) (mTol M) (mNum M))) H1 := hPn
  have hD : va_D A (mcells C b (mkM (mNow M) (mBef M) (mSav M) (mHis M) (mIsS M) (mRem M) (mErA M) (mFaA M) (mTxt M) (mTyp M) (upd y10.2 y10.1 58) (mLnd M) (mThr M) (mFar M) (mGrp M) (mSiz M) (mPla M) (mWro M) (mTol M) (mNum M))) := adr_D hD rfl
  generalize H1 = H at hP hS ⊢
  refine topI (y := (nI (y10.1 + 1))) rfl ?_
  refine lv_istore (lv' := [(4, .int (nI (y10.1 + 1))), (0, .ref (b 0)), (1, .int (nI x)), (2, .int (nI q)), (3, .int y)]) hx hb dX8_writesBid_18 hl (by decide) rfl (fun ls hl => ?_)
  refine lv_aload_n hx hb dX8_writesBid_20 rfl (lv_at hl 1 rfl) ?_
  refine lv_iload hx hb dX8_writesBid_21 (lv_at hl 0 rfl) ?_
  refine lv_aload_n hx hb dX8_writesBid_23 rfl (lv_at hl 1 rfl) ?_
  refine lv_iload_n hx hb dX8_writesBid_24 rfl (lv_at hl 4 rfl) ?_
  refine lv_iconst (v := 5) hx hb dX8_writesBid_25 (by decide) ?_
  refine lv_iload_n hx hb dX8_writesBid_26 rfl (lv_at hl 3 rfl) ?_
  refine topN2 (k := 5) (by decide +kernel) ?_
  refine addN hx hb dX8_writesBid_27 ?_
  refine callRo (va_runV (As := [.int y, .int (nI (5 + q))]) (rest := [.int (nI (y10.1 + 1)), .ref (b 0)]) ⟨hx, hb, hml, hown, hts⟩ (c_X8_of l D C b (mkM (mNow M) (mBef M) (mSav M) (mHis M) (mIsS M) (mRem M) (mErA M) (mFaA M) (mTxt M) (mTyp M) (upd y10.2 y10.1 58) (mLnd M) (mThr M) (mFar M) (mGrp M) (mSiz M) (mPla M) (mWro M) (mTol M) (mNum M)) (y) ((5 + q)) (MSafe_of hM rfl) (by omega)) (cwV 2 hts gX8_writesBid_X8_of rfl rfl rfl (by decide +kernel) ⟨Nat.le_of_ble_eq_true rfl, Nat.le_of_ble_eq_true rfl⟩) (roP_v hP hK hE (va_recv hK hP (ci := 9) (q0 := 0) rfl rfl)) rfl rfl hl.1 rfl (lv_room (Nat.le_of_ble_eq_true rfl)) dX8_writesBid_28 ⟨Nat.le_refl _, Nat.le_refl _⟩) ?_
  refine topI (y := (f_X8_of (mNow M) (y) ((5 + q)))) rfl ?_
  have hFc := va_free (wc := (mcells C b (mkM (mNow M) (mBef M) (mSav M) (mHis M) (mIsS M) (mRem M) (mErA M) (mFaA M) (mTxt M) (mTyp M) (upd y10.2 y10.1 58) (mLnd M) (mThr M) (mFar M) (mGrp M) (mSiz M) (mPla M) (mWro M) (mTol M) (mNum M)))) hD hS hA [0, 1, 2, 3, 4, 5, 6, 7, 8, 9] rfl
  refine callRw (va_runV (As := [.int (nI (y10.1 + 1)), .int (f_X8_of (mNow M) (y) ((5 + q)))]) (rest := []) ⟨hx, hb, hml, hown, hts⟩ (c_X8_writesNumber l D C b (mkM (mNow M) (mBef M) (mSav M) (mHis M) (mIsS M) (mRem M) (mErA M) (mFaA M) (mTxt M) (mTyp M) (upd y10.2 y10.1 58) (mLnd M) (mThr M) (mFar M) (mGrp M) (mSiz M) (mPla M) (mWro M) (mTol M) (mNum M)) ((y10.1 + 1)) ((f_X8_of (mNow M) (y) ((5 + q)))) _ (by omega)) (cwV 2 hts gX8_writesBid_X8_writesNumber rfl rfl rfl (by decide +kernel) ⟨Nat.le_of_ble_eq_true rfl, Nat.le_of_ble_eq_true rfl⟩) (rwP_v hP hK hE hD (va_recv hK hP (ci := 9) (q0 := 0) rfl rfl)) rfl rfl hl.1 rfl (lv_room (Nat.le_of_ble_eq_true rfl)) dX8_writesBid_31 ⟨Nat.le_refl _, Nat.le_refl _⟩) hS hFc (fun H1 locs hPn hk hS => ?_)
  obtain ⟨y31, hy31⟩ : ∃ y_, y_ = (f_X8_writesNumber (upd y10.2 y10.1 58) ((y10.1 + 1)) ((f_X8_of (mNow M) (y) ((5 + q))))) := ⟨_, rfl⟩
  have hPn : va_P D vwCl (mcells C b (mkM (mNow M) (mBef M) (mSav M) (mHis M) (mIsS M) (mRem M) (mErA M) (mFaA M) (mTxt M) (mTyp M) y31.2 (mLnd M) (mThr M) (mFar M) (mGrp M) (mSiz M) (mPla M) (mWro M) (mTol M) (mNum M))) H1 := by rw [hy31]; exact hPn
  refine topI (y := nI y31.1) (congrArg nI (congrArg Prod.fst hy31).symm) ?_
  have hz := lt_eq hz hy31
  have hP : va_P D vwCl (mcells C b (mkM (mNow M) (mBef M) (mSav M) (mHis M) (mIsS M) (mRem M) (mErA M) (mFaA M) (mTxt M) (mTyp M) y31.2 (mLnd M) (mThr M) (mFar M) (mGrp M) (mSiz M) (mPla M) (mWro M) (mTol M) (mNum M))) H1 := hPn
  have hD : va_D A (mcells C b (mkM (mNow M) (mBef M) (mSav M) (mHis M) (mIsS M) (mRem M) (mErA M) (mFaA M) (mTxt M) (mTyp M) y31.2 (mLnd M) (mThr M) (mFar M) (mGrp M) (mSiz M) (mPla M) (mWro M) (mTol M) (mNum M))) := adr_D hD rfl
  generalize H1 = H at hP hS ⊢
  have b31 : y31.1 ≤ _ := Nat.le_trans (Nat.le_of_eq (congrArg Prod.fst hy31)) (X8_wN_le _ _ _)
  refine lv_istore (lv' := [(4, .int (nI y31.1)), (0, .ref (b 0)), (1, .int (nI x)), (2, .int (nI q)), (3, .int y)]) hx hb dX8_writesBid_34 hl (by decide) rfl (fun ls hl => ?_)
  refine lv_aload_n hx hb dX8_writesBid_36 rfl (lv_at hl 1 rfl) ?_
  refine lv_iload_n hx hb dX8_writesBid_37 rfl (lv_at hl 4 rfl) ?_
  refine lv_bipush (v := 9) hx hb dX8_writesBid_38 (by decide +kernel) ?_
  refine lv_iload_n hx hb dX8_writesBid_40 rfl (lv_at hl 3 rfl) ?_
  refine topN2 (k := 9) (by decide +kernel) ?_
  refine addN hx hb dX8_writesBid_41 ?_
  refine callRo (va_runV (As := [.int y, .int (nI (9 + q))]) (rest := []) ⟨hx, hb, hml, hown, hts⟩ (c_X8_of l D C b (mkM (mNow M) (mBef M) (mSav M) (mHis M) (mIsS M) (mRem M) (mErA M) (mFaA M) (mTxt M) (mTyp M) y31.2 (mLnd M) (mThr M) (mFar M) (mGrp M) (mSiz M) (mPla M) (mWro M) (mTol M) (mNum M)) (y) ((9 + q)) (MSafe_of hM rfl) (by omega)) (cwV 2 hts gX8_writesBid_X8_of rfl rfl rfl (by decide +kernel) ⟨Nat.le_of_ble_eq_true rfl, Nat.le_of_ble_eq_true rfl⟩) (roP_v hP hK hE (va_recv hK hP (ci := 9) (q0 := 0) rfl rfl)) rfl rfl hl.1 rfl (lv_room (Nat.le_of_ble_eq_true rfl)) dX8_writesBid_42 ⟨Nat.le_refl _, Nat.le_refl _⟩) ?_
  refine topI (y := (f_X8_of (mNow M) (y) ((9 + q)))) rfl ?_
  refine lv_iconst (v := 1) hx hb dX8_writesBid_45 (by decide) ?_
  refine lv_icmp_ne (tgt := 60) hx hb dX8_writesBid_46 (by decide) (fun c_46 => ?_) (fun c_46 => ?_)
  · have hz := hz.trans (if_neg c_46)
    refine lv_iload hx hb dX8_writesBid_60 (lv_at hl 0 rfl) ?_
    exact J62 (y31.1) (y31.2) _ _ ls hz (by omega) hP hD hS (lv_sub hl [1, 3, 4] rfl)
  · have hz := hz.trans (if_pos c_46)
    refine lv_aload_n hx hb dX8_writesBid_49 rfl (lv_at hl 1 rfl) ?_
    refine lv_iload hx hb dX8_writesBid_50 (lv_at hl 0 rfl) ?_
    refine lv_bipush (v := 63) hx hb dX8_writesBid_52 (by decide +kernel) ?_
    have hFc := va_free (wc := (mcells C b (mkM (mNow M) (mBef M) (mSav M) (mHis M) (mIsS M) (mRem M) (mErA M) (mFaA M) (mTxt M) (mTyp M) y31.2 (mLnd M) (mThr M) (mFar M) (mGrp M) (mSiz M) (mPla M) (mWro M) (mTol M) (mNum M)))) hD hS hA [0, 1, 2, 3, 4, 5, 6, 7, 8, 9] rfl
    refine callRw (va_runV (As := [.int (nI y31.1), .int 63]) (rest := []) ⟨hx, hb, hml, hown, hts⟩ (c_X8_put_ l D C b (mkM (mNow M) (mBef M) (mSav M) (mHis M) (mIsS M) (mRem M) (mErA M) (mFaA M) (mTxt M) (mTyp M) y31.2 (mLnd M) (mThr M) (mFar M) (mGrp M) (mSiz M) (mPla M) (mWro M) (mTol M) (mNum M)) (y31.1) (63) _ (by omega)) (cwV 2 hts gX8_writesBid_X8_put rfl rfl rfl (by decide +kernel) ⟨Nat.le_of_ble_eq_true rfl, Nat.le_of_ble_eq_true rfl⟩) (rwP_v hP hK hE hD (va_recv hK hP (ci := 9) (q0 := 0) rfl rfl)) rfl rfl hl.1 rfl (lv_room (Nat.le_of_ble_eq_true rfl)) dX8_writesBid_54 ⟨Nat.le_refl _, Nat.le_refl _⟩) hS hFc (fun H1 locs hPn hk hS => ?_)
    have hP : va_P D vwCl (mcells C b (mkM (mNow M) (mBef M) (mSav M) (mHis M) (mIsS M) (mRem M) (mErA M) (mFaA M) (mTxt M) (mTyp M) (upd y31.2 y31.1 63) (mLnd M) (mThr M) (mFar M) (mGrp M) (mSiz M) (mPla M) (mWro M) (mTol M) (mNum M))) H1 := hPn
    have hD : va_D A (mcells C b (mkM (mNow M) (mBef M) (mSav M) (mHis M) (mIsS M) (mRem M) (mErA M) (mFaA M) (mTxt M) (mTyp M) (upd y31.2 y31.1 63) (mLnd M) (mThr M) (mFar M) (mGrp M) (mSiz M) (mPla M) (mWro M) (mTol M) (mNum M))) := adr_D hD rfl
    generalize H1 = H at hP hS ⊢
    refine topI (y := (nI (y31.1 + 1))) rfl ?_
    refine lv_goto (tgt := 62) hx hb dX8_writesBid_57 (by decide) ?_
    exact J62 ((y31.1 + 1)) ((upd y31.2 y31.1 63)) _ _ ls hz (by omega) hP hD hS (lv_sub hl [1, 3, 4] rfl)

