def f_X8_undo_j64  (s0_64 : Int32) (now0_64 : (Nat → Int32)) (rem0_64 : Nat) (thr0_64 : Int32) : Int32 × (Nat → Int32) × Nat × Int32 := (s0_64, now0_64, rem0_64, thr0_64)
def f_X8_undo_j49  (now0_49 : (Nat → Int32)) (rem0_49 : Nat) (thr0_49 : Int32) : Int32 × (Nat → Int32) × Nat × Int32 := (if thr0_49 = 0 then (f_X8_undo_j64 ((nI rem0_49)) (now0_49) (rem0_49) (thr0_49)) else (f_X8_undo_j64 (0) (now0_49) (rem0_49) (thr0_49)))
def f_X8_undo_j13 (nw : (Nat → Int32)) (hs : (Nat → Int32)) (rm : Nat) (s0_13 : Bool) : Int32 × (Nat → Int32) × Nat × Int32 := (if s0_13 = true then (lt_ (f_X8_copies hs nw (((rm - 1) * 178)) (0)) (fun y46 => (f_X8_undo_j49 (y46) ((rm - 1)) ((gThr s0_13))))) else (f_X8_undo_j49 (nw) (rm) ((gThr s0_13))))
def f_X8_undo (nw : (Nat → Int32)) (hs : (Nat → Int32)) (rm : Nat) : Int32 × (Nat → Int32) × Nat × Int32 := (if (nI rm) ≤ 0 then (f_X8_undo_j13 nw hs rm (false)) else (f_X8_undo_j13 nw hs rm (true)))
set_option maxHeartbeats 4000000 in
set_option maxRecDepth 100000 in
theorem c_X8_undo (l : Launch) (D : va_G) (C : Nat → ClassId) (b : Nat → Nat) (M : MS) (sz : Nat) (hRem : mRem M ≤ 8) : Met l yX8_undo wsX8_undo ({ frames := 2, cells := 0, slots := 0, locals := 45 } : Room) (rwP [.ref (b 0)] D C (mcells C b M) sz) (rwO (some (.int ((f_X8_undo (mNow M) (mHis M) (mRem M)).1))) D (mcells C b (mkM ((f_X8_undo (mNow M) (mHis M) (mRem M)).2.1) (mBef M) (mSav M) (mHis M) (mIsS M) ((f_X8_undo (mNow M) (mHis M) (mRem M)).2.2.1) (mErA M) (mFaA M) (mTxt M) (mTyp M) (mLin M) (mLnd M) ((f_X8_undo (mNow M) (mHis M) (mRem M)).2.2.2) (mFar M) (mGrp M) (mSiz M) (mPla M) (mWro M) (mTol M) (mNum M))) (va_A (mcells C b M) sz)) 0 0 (va_A (mcells C b M) sz) := by
  refine Met.ofW (cc := cX8_undo) (maxL := 1) (ret := (some .int)) (by decide) rfl ?_
  intro p e s m args below meth c s₁ B hml hv
  obtain ⟨rfl, hsz, hP, hK, hD0, hE⟩ := hv
  have hx := B.exec
  have hb := B.bytes
  have hr := B.returns
  have hts := atoms_spec (ws := wsX8_undo) B.pre
  have hown : s.vm.findClass RX8 = some m.cls := findClass_of_methodNamed B.named
  have hlocks := B.notSynchronized
  subst hsz
  have hD := hD0.self (sz := s.heap.size)
  generalize hAe : va_A (mcells C b M) s.heap.size = A at hD ⊢
  have hA : ∀ q : Nat, s.heap.size ≤ q → A q := fun q h => by rw [← hAe]; exact Or.inr h
  have hS0 : va_S A s.heap s.heap [] := va_S.rf
  have hP : va_P D vwCl (mcells C b M) s.heap := hP
  have hS := hS0
  have hinX8 : ∀ w ∈ u_ws RX8 TX8 20, w ∈ wsX8_undo := by decide +kernel
  have hl := lv_entry ([.ref (b 0)]) (n := 1) (Nat.le_of_ble_eq_true rfl)
  rw [lg_entry_eq]
  generalize (lg_sl ([.ref (b 0)]) ++ List.replicate (1 - (lg_sl ([.ref (b 0)])).length) Slot.unset).toArray = ls at hl ⊢
  have hl : lv_has ls 1 [(0, .ref (b 0))] := hl
  obtain ⟨z, hz⟩ : ∃ z, z = f_X8_undo (mNow M) (mHis M) (mRem M) := ⟨_, rfl⟩
  rw [← hz]
  have J64 : ∀ (s0_64 : Int32) (now0_64 : (Nat → Int32)) (rem0_64 : Nat) (thr0_64 : Int32)  (H : Heap) (locs : List Loc) (ls : Array Slot), z = f_X8_undo_j64 s0_64 now0_64 rem0_64 thr0_64 → va_P D vwCl (mcells C b (mkM now0_64 (mBef M) (mSav M) (mHis M) (mIsS M) rem0_64 (mErA M) (mFaA M) (mTxt M) (mTyp M) (mLin M) (mLnd M) thr0_64 (mFar M) (mGrp M) (mSiz M) (mPla M) (mWro M) (mTol M) (mNum M))) H → va_D A (mcells C b (mkM now0_64 (mBef M) (mSav M) (mHis M) (mIsS M) rem0_64 (mErA M) (mFaA M) (mTxt M) (mTyp M) (mLin M) (mLnd M) thr0_64 (mFar M) (mGrp M) (mSiz M) (mPla M) (mWro M) (mTol M) (mNum M))) → va_S A s.heap H locs → lv_has ls 1 [] → W p l e ({ frames := 2, cells := 0, slots := 0, locals := 45 } : Room) s m ([.ref (b 0)] : List Value).toArray below meth c H locs 0 0 (MQ below (rwO (some (.int z.1)) D (mcells C b (mkM z.2.1 (mBef M) (mSav M) (mHis M) (mIsS M) z.2.2.1 (mErA M) (mFaA M) (mTxt M) (mTyp M) (mLin M) (mLnd M) z.2.2.2 (mFar M) (mGrp M) (mSiz M) (mPla M) (mWro M) (mTol M) (mNum M))) A) ([.ref (b 0)] : List Value).toArray s 0 0 A) (F0 m 64 ls [.int s0_64]) := by
    intro s0_64 now0_64 rem0_64 thr0_64 H locs ls hz  hP hD hS hl
    have hz : z = (s0_64, now0_64, rem0_64, thr0_64) := hz
    rw [hz]
    exact rw_ret hx hb hr hP hS rfl dX8_undo_64 hlocks
  have J49 : ∀ (now0_49 : (Nat → Int32)) (rem0_49 : Nat) (thr0_49 : Int32)  (H : Heap) (locs : List Loc) (ls : Array Slot), z = f_X8_undo_j49 now0_49 rem0_49 thr0_49 → va_P D vwCl (mcells C b (mkM now0_49 (mBef M) (mSav M) (mHis M) (mIsS M) rem0_49 (mErA M) (mFaA M) (mTxt M) (mTyp M) (mLin M) (mLnd M) thr0_49 (mFar M) (mGrp M) (mSiz M) (mPla M) (mWro M) (mTol M) (mNum M))) H → va_D A (mcells C b (mkM now0_49 (mBef M) (mSav M) (mHis M) (mIsS M) rem0_49 (mErA M) (mFaA M) (mTxt M) (mTyp M) (mLin M) (mLnd M) thr0_49 (mFar M) (mGrp M) (mSiz M) (mPla M) (mWro M) (mTol M) (mNum M))) → va_S A s.heap H locs → lv_has ls 1 [(0, .ref (b 0))] → W p l e ({ frames := 2, cells := 0, slots := 0, locals := 45 } : Room) s m ([.ref (b 0)] : List Value).toArray below meth c H locs 0 0 (MQ below (rwO (some (.int z.1)) D (mcells C b (mkM z.2.1 (mBef M) (mSav M) (mHis M) (mIsS M) z.2.2.1 (mErA M) (mFaA M) (mTxt M) (mTyp M) (mLin M) (mLnd M) z.2.2.2 (mFar M) (mGrp M) (mSiz M) (mPla M) (mWro M) (mTol M) (mNum M))) A) ([.ref (b 0)] : List Value).toArray s 0 0 A) (F0 m 49 ls []) := by
    intro now0_49 rem0_49 thr0_49 H locs ls hz  hP hD hS hl
    refine lv_aload_n hx hb dX8_undo_49 rfl (lv_at hl 0 rfl) ?_
    refine va_get (D := D) (ci := 9) (v := .int thr0_49) (C := RX8) (T := TX8) (N := 20) hx hb hts hinX8 hown hK hP 0 rfl rfl 12 (by decide) (hts (.fieldLink RX8 44 "BridgeAuctionModel" "thrown" "I") (by decide +kernel)) (fun _ h9 => h9) rfl dX8_undo_50 ?_
    refine lv_if_ne (tgt := 63) hx hb dX8_undo_53 (by decide) (fun c_53 => ?_) (fun c_53 => ?_)
    · have hz := hz.trans (if_neg c_53)
      refine lv_iconst (v := 0) hx hb dX8_undo_63 (by decide) ?_
      exact J64 (0) (now0_49) (rem0_49) (thr0_49) _ _ ls hz  hP hD hS (lv_sub hl [] rfl)
    · have hz := hz.trans (if_pos c_53)
      refine lv_aload_n hx hb dX8_undo_56 rfl (lv_at hl 0 rfl) ?_
      refine va_get (D := D) (ci := 9) (v := .int (nI rem0_49)) (C := RX8) (T := TX8) (N := 20) hx hb hts hinX8 hown hK hP 0 rfl rfl 5 (by decide) (hts (.fieldLink RX8 55 "BridgeAuctionModel" "remembered" "I") (by decide +kernel)) (fun _ h9 => h9) rfl dX8_undo_57 ?_
      refine lv_goto (tgt := 64) hx hb dX8_undo_60 (by decide) ?_
      exact J64 ((nI rem0_49)) (now0_49) (rem0_49) (thr0_49) _ _ ls hz  hP hD hS (lv_sub hl [] rfl)
  have J13 : ∀ (s0_13 : Bool)  (H : Heap) (locs : List Loc) (ls : Array Slot), z = f_X8_undo_j13 (mNow M) (mHis M) (mRem M) s0_13 → (s0_13 = true → 0 < mRem M) → va_P D vwCl (mcells C b M) H → va_D A (mcells C b M) → va_S A s.heap H locs → lv_has ls 1 [(0, .ref (b 0))] → W p l e ({ frames := 2, cells := 0, slots := 0, locals := 45 } : Room) s m ([.ref (b 0)] : List Value).toArray below meth c H locs 0 0 (MQ below (rwO (some (.int z.1)) D (mcells C b (mkM z.2.1 (mBef M) (mSav M) (mHis M) (mIsS M) z.2.2.1 (mErA M) (mFaA M) (mTxt M) (mTyp M) (mLin M) (mLnd M) z.2.2.2 (mFar M) (mGrp M) (mSiz M) (mPla M) (mWro M) (mTol M) (mNum M))) A) ([.ref (b 0)] : List Value).toArray s 0 0 A) (F0 m 13 ls [.int (bI s0_13), .ref (b 0)]) := by
    intro s0_13 H locs ls hz iv13_0 hP hD hS hl
    have hFc := va_free (wc := (mcells C b M)) hD hS hA [0, 1, 2, 3, 4, 5, 6, 7, 8, 9] rfl
    refine callRw (va_runV (As := [.int (bI s0_13)]) (rest := []) ⟨hx, hb, hml, hown, hts⟩ (c_X8_goes_ l D C b M (s0_13) _) (cwV 1 hts gX8_undo_X8_goes rfl rfl rfl (by decide +kernel) ⟨Nat.le_of_ble_eq_true rfl, Nat.le_of_ble_eq_true rfl⟩) (rwP_v hP hK hE hD (va_recv hK hP (ci := 9) (q0 := 0) rfl rfl)) rfl rfl hl.1 rfl (lv_room (Nat.le_of_ble_eq_true rfl)) dX8_undo_13 ⟨Nat.le_refl _, Nat.le_refl _⟩) hS hFc (fun H1 locs hPn hk hS => ?_)
    have hP : va_P D vwCl (mcells C b (mkM (mNow M) (mBef M) (mSav M) (mHis M) (mIsS M) (mRem M) (mErA M) (mFaA M) (mTxt M) (mTyp M) (mLin M) (mLnd M) (gThr s0_13) (mFar M) (mGrp M) (mSiz M) (mPla M) (mWro M) (mTol M) (mNum M))) H1 := hPn
    have hD : va_D A (mcells C b (mkM (mNow M) (mBef M) (mSav M) (mHis M) (mIsS M) (mRem M) (mErA M) (mFaA M) (mTxt M) (mTyp M) (mLin M) (mLnd M) (gThr s0_13) (mFar M) (mGrp M) (mSiz M) (mPla M) (mWro M) (mTol M) (mNum M))) := adr_D hD rfl
    generalize H1 = H at hP hS ⊢
    refine topI (y := (bI s0_13)) rfl ?_
    refine bif_eq (tgt := 49) hx hb dX8_undo_16 (by decide) (fun c_16 => ?_) (fun c_16 => ?_)
    · have hz := hz.trans (ifB_f c_16)
      exact J49 ((mNow M)) ((mRem M)) ((gThr s0_13)) _ _ ls hz  hP hD hS (lv_sub hl [0] rfl)
    · have hz := hz.trans (ifB_t c_16)
      have h0 := iv13_0 c_16
      refine lv_aload_n hx hb dX8_undo_19 rfl (lv_at hl 0 rfl) ?_
      refine lv_dup hx hb dX8_undo_20 rfl ?_
      refine va_get (D := D) (ci := 9) (v := .int (nI (mRem M))) (C := RX8) (T := TX8) (N := 20) hx hb hts hinX8 hown hK hP 0 rfl rfl 5 (by decide) (hts (.fieldLink RX8 55 "BridgeAuctionModel" "remembered" "I") (by decide +kernel)) (fun _ h9 => h9) rfl dX8_undo_21 ?_
      refine lv_iconst (v := 1) hx hb dX8_undo_24 (by decide) ?_
      refine lv_isub hx hb dX8_undo_25 ?_
      refine topN (k := ((mRem M) - 1)) (show ((nI (mRem M)) - 1) = (nI ((mRem M) - 1)) from by exact nI_dec h0) ?_
      refine va_put (D := D) (ci := 9) (v := .int (nI ((mRem M) - 1))) (ty := .int) (C := RX8) (T := TX8) (N := 20) hx hb hts hinX8 tyX8 tyX8_ok nmX8 hown hK hP hD hS 0 rfl rfl 5 (by decide) (hts (.fieldLink RX8 55 "BridgeAuctionModel" "remembered" "I") (by decide +kernel)) (fun _ h9 => h9) rfl (by decide +kernel) rfl rfl (Nat.le_of_ble_eq_true rfl) dX8_undo_26 (fun H locs hP hD hS => ?_)
      have hP : va_P D vwCl (mcells C b (mkM (mNow M) (mBef M) (mSav M) (mHis M) (mIsS M) ((mRem M) - 1) (mErA M) (mFaA M) (mTxt M) (mTyp M) (mLin M) (mLnd M) (gThr s0_13) (mFar M) (mGrp M) (mSiz M) (mPla M) (mWro M) (mTol M) (mNum M))) H := hP
      have hD : va_D A (mcells C b (mkM (mNow M) (mBef M) (mSav M) (mHis M) (mIsS M) ((mRem M) - 1) (mErA M) (mFaA M) (mTxt M) (mTyp M) (mLin M) (mLnd M) (gThr s0_13) (mFar M) (mGrp M) (mSiz M) (mPla M) (mWro M) (mTol M) (mNum M))) := hD
      refine lv_aload_n hx hb dX8_undo_29 rfl (lv_at hl 0 rfl) ?_
      refine va_get (D := D) (ci := 9) (v := .ref (b 4)) (C := RX8) (T := TX8) (N := 20) hx hb hts hinX8 hown hK hP 0 rfl rfl 3 (by decide) (hts (.fieldLink RX8 19 "BridgeAuctionModel" "history" "[I") (by decide +kernel)) (fun _ h9 => h9) rfl dX8_undo_30 ?_
      refine lv_aload_n hx hb dX8_undo_33 rfl (lv_at hl 0 rfl) ?_
      refine va_get (D := D) (ci := 9) (v := .int (nI ((mRem M) - 1))) (C := RX8) (T := TX8) (N := 20) hx hb hts hinX8 hown hK hP 0 rfl rfl 5 (by decide) (hts (.fieldLink RX8 55 "BridgeAuctionModel" "remembered" "I") (by decide +kernel)) (fun _ h9 => h9) rfl dX8_undo_34 ?_
      refine lv_sipush (v := 178) hx hb dX8_undo_37 (by decide +kernel) ?_
      refine topN (k := 178) (by decide +kernel) ?_
      refine mulN hx hb dX8_undo_40 ?_
      refine lv_aload_n hx hb dX8_undo_41 rfl (lv_at hl 0 rfl) ?_
      refine va_get (D := D) (ci := 9) (v := .ref (b 1)) (C := RX8) (T := TX8) (N := 20) hx hb hts hinX8 hown hK hP 0 rfl rfl 0 (by decide) (hts (.fieldLink RX8 9 "BridgeAuctionModel" "now" "[I") (by decide +kernel)) (fun _ h9 => h9) rfl dX8_undo_42 ?_
      refine lv_iconst (v := 0) hx hb dX8_undo_45 (by decide) ?_
      refine topN (k := 0) (by decide +kernel) ?_
      have hPc := hP.sub (ws' := ([((b 4), .inl (C 0, 1424, .inl (mHis M)))] ++ [((b 1), .inl (C 0, 178, .inl (mNow M)))])) [4, 1] rfl
      have hDc := hD.sub (ws' := ([((b 4), .inl (C 0, 1424, .inl (mHis M)))] ++ [((b 1), .inl (C 0, 178, .inl (mNow M)))])) [4, 1] (by decide) rfl
      have hFc := va_free (wc := ([((b 4), .inl (C 0, 1424, .inl (mHis M)))] ++ [((b 1), .inl (C 0, 178, .inl (mNow M)))])) hD hS hA [4, 1] rfl
      refine callRw (va_runS (As := [.ref (b 4), .int (nI (((mRem M) - 1) * 178)), .ref (b 1), .int (nI 0)]) (rest := []) ⟨hx, hb, hml, hown, hts⟩ (c_X8_copies l D C 1424 178 (b 4) (mHis M) (b 1) (mNow M) ((((mRem M) - 1) * 178)) (0) _ (by first | omega | decide) (by first | omega | decide) (by first | omega | decide) (by first | omega | decide)) (va_cwS 4 hts gX8_undo_X8_copies rfl rfl rfl (by decide +kernel) ⟨Nat.le_of_ble_eq_true rfl, Nat.le_of_ble_eq_true rfl⟩) (rwP_s hPc hK hE hDc) rfl rfl hl.1 rfl (lv_room (Nat.le_of_ble_eq_true rfl)) dX8_undo_46 ⟨Nat.le_refl _, Nat.le_refl _⟩) hS hFc (fun H1 locs hPn hk hS => ?_)
      obtain ⟨y46, hy46⟩ : ∃ y_, y_ = (f_X8_copies (mHis M) (mNow M) ((((mRem M) - 1) * 178)) (0)) := ⟨_, rfl⟩
      have hPn : va_P D vwCl ([((b 4), .inl (C 0, 1424, .inl (mHis M)))] ++ [((b 1), .inl (C 0, 178, .inl y46))]) H1 := by rw [hy46]; exact hPn
      have hz := lt_eq hz hy46
      have hP : va_P D vwCl (mcells C b (mkM y46 (mBef M) (mSav M) (mHis M) (mIsS M) ((mRem M) - 1) (mErA M) (mFaA M) (mTxt M) (mTyp M) (mLin M) (mLnd M) (gThr s0_13) (mFar M) (mGrp M) (mSiz M) (mPla M) (mWro M) (mTol M) (mNum M))) H1 := rwJoin (wr := ([(b 0, .inr (9, [.ref (b 1), .ref (b 2), .ref (b 3), .ref (b 4), .int (bI (mIsS M)), .int (nI ((mRem M) - 1)), .int (mErA M), .int (mFaA M), .ref (b 5), .int (nI (mTyp M)), .ref (b 6), .int (nI (mLnd M)), .int (gThr s0_13), .ref (b 7), .ref (b 8), .int (nI (mSiz M)), .int (nI (mPla M)), .int (mWro M), .int (nI (mTol M)), .ref (b 9)])), (b 2, .inl (C 0, 178, .inl (mBef M))), (b 3, .inl (C 0, 178, .inl (mSav M))), (b 5, .inl (C 0, 60, .inl (mTxt M))), (b 6, .inl (C 0, 60, .inl (mLin M))), (b 7, .inl (C 0, 8, .inl (mFar M))), (b 8, .inl (C 0, 8, .inl (mGrp M))), (b 9, .inl (C 0, 120, .inl (mNum M)))])) (ws' := (mcells C b (mkM y46 (mBef M) (mSav M) (mHis M) (mIsS M) ((mRem M) - 1) (mErA M) (mFaA M) (mTxt M) (mTyp M) (mLin M) (mLnd M) (gThr s0_13) (mFar M) (mGrp M) (mSiz M) (mPla M) (mWro M) (mTol M) (mNum M)))) hP hD [4, 1] [0, 2, 3, 5, 6, 7, 8, 9] rfl rfl (by decide) (by decide) (by decide) hk hFc hPn rfl [0, 9, 1, 2, 8, 3, 4, 5, 6, 7] rfl
      have hD : va_D A (mcells C b (mkM y46 (mBef M) (mSav M) (mHis M) (mIsS M) ((mRem M) - 1) (mErA M) (mFaA M) (mTxt M) (mTyp M) (mLin M) (mLnd M) (gThr s0_13) (mFar M) (mGrp M) (mSiz M) (mPla M) (mWro M) (mTol M) (mNum M))) := adr_D hD rfl
      generalize H1 = H at hP hS ⊢
      exact J49 (y46) (((mRem M) - 1)) ((gThr s0_13)) _ _ ls hz  hP hD hS (lv_sub hl [0] rfl)
  refine lv_aload_n hx hb dX8_undo_0 rfl (lv_at hl 0 rfl) ?_
  refine lv_aload_n hx hb dX8_undo_1 rfl (lv_at hl 0 rfl) ?_
  refine va_get (D := D) (ci := 9) (v := .int (nI (mRem M))) (C := RX8) (T := TX8) (N := 20) hx hb hts hinX8 hown hK hP 0 rfl rfl 5 (by decide) (hts (.fieldLink RX8 55 "BridgeAuctionModel" "remembered" "I") (by decide +kernel)) (fun _ h9 => h9) rfl dX8_undo_2 ?_
  refine lv_if_le (tgt := 12) hx hb dX8_undo_5 (by decide) (fun c_5 => ?_) (fun c_5 => ?_)
  · have hz := hz.trans (if_pos c_5)
    refine lv_iconst (v := 0) hx hb dX8_undo_12 (by decide) ?_
    exact J13 (false) _ _ ls hz (by first | (intro h; cases h; done) | exact fun _ => posN (by omega) c_5) hP hD hS (lv_sub hl [0] rfl)
  · have hz := hz.trans (if_neg c_5)
    refine lv_iconst (v := 1) hx hb dX8_undo_8 (by decide) ?_
    refine lv_goto (tgt := 13) hx hb dX8_undo_9 (by decide) ?_
    exact J13 (true) _ _ ls hz (by first | (intro h; cases h; done) | exact fun _ => posN (by omega) c_5) hP hD hS (lv_sub hl [0] rfl)

