def f_X8_remembers_j50 (bf : (Nat → Int32)) (his0_50 : (Nat → Int32)) (rem0_50 : Nat) : (Nat → Int32) × Nat := (lt_ (f_X8_copies bf his0_50 (0) ((rem0_50 * 178))) (fun y67 => (y67, (rem0_50 + 1))))
def f_X8_remembers_l11b (bf : (Nat → Int32)) (rm : Nat) (k11 : Nat) (his0_11 : (Nat → Int32)) : Sum ((Nat → Int32) × Nat) ((Nat → Int32)) := (Sum.inr (upd his0_11 k11 (his0_11 (k11 + 178))))
def f_X8_remembers_l11x (bf : (Nat → Int32)) (rm : Nat) (his0_11 : (Nat → Int32)) : (Nat → Int32) × Nat := (f_X8_remembers_j50 bf (his0_11) ((rm - 1)))
def f_X8_remembers_l11s (bf : (Nat → Int32)) (rm : Nat) (k11 : Nat) (q_ : (Nat → Int32)) : Sum ((Nat → Int32) × Nat) ((Nat → Int32)) := f_X8_remembers_l11b bf rm k11 (q_)
def f_X8_remembers_l11e (bf : (Nat → Int32)) (rm : Nat) (q_ : (Nat → Int32)) : (Nat → Int32) × Nat := f_X8_remembers_l11x bf rm (q_)
def f_X8_remembers_l11 (bf : (Nat → Int32)) (rm : Nat) (n11 k11 : Nat) (his0_11 : (Nat → Int32)) : (Nat → Int32) × Nat := lpF (f_X8_remembers_l11s bf rm) (f_X8_remembers_l11e bf rm) n11 k11 his0_11
def f_X8_remembers (bf : (Nat → Int32)) (hs : (Nat → Int32)) (rm : Nat) : (Nat → Int32) × Nat := (if (nI rm) = 8 then (f_X8_remembers_l11 bf rm (1246) 0 (hs)) else (f_X8_remembers_j50 bf (hs) (rm)))
set_option maxHeartbeats 4000000 in
set_option maxRecDepth 100000 in
theorem c_X8_remembers (l : Launch) (D : va_G) (C : Nat → ClassId) (b : Nat → Nat) (M : MS) (sz : Nat) (hRem : mRem M ≤ 8) : Met l yX8_remembers wsX8_remembers ({ frames := 1, cells := 0, slots := 0, locals := 24 } : Room) (rwP [.ref (b 0)] D C (mcells C b M) sz) (rwO none D (mcells C b (mkM (mNow M) (mBef M) (mSav M) ((f_X8_remembers (mBef M) (mHis M) (mRem M)).1) (mIsS M) ((f_X8_remembers (mBef M) (mHis M) (mRem M)).2) (mErA M) (mFaA M) (mTxt M) (mTyp M) (mLin M) (mLnd M) (mThr M) (mFar M) (mGrp M) (mSiz M) (mPla M) (mWro M) (mTol M) (mNum M))) (va_A (mcells C b M) sz)) 0 0 (va_A (mcells C b M) sz) := by
  refine Met.ofW (cc := cX8_remembers) (maxL := 2) (ret := none) (by decide) rfl ?_
  intro p e s m args below meth c s₁ B hml hv
  obtain ⟨rfl, hsz, hP, hK, hD0, hE⟩ := hv
  have hx := B.exec
  have hb := B.bytes
  have hr := B.returns
  have hts := atoms_spec (ws := wsX8_remembers) B.pre
  have hown : s.vm.findClass RX8 = some m.cls := findClass_of_methodNamed B.named
  have hlocks := B.notSynchronized
  subst hsz
  have hD := hD0.self (sz := s.heap.size)
  generalize hAe : va_A (mcells C b M) s.heap.size = A at hD ⊢
  have hA : ∀ q : Nat, s.heap.size ≤ q → A q := fun q h => by rw [← hAe]; exact Or.inr h
  have hS0 : va_S A s.heap s.heap [] := va_S.rf
  have hP : va_P D vwCl (mcells C b M) s.heap := hP
  have hS := hS0
  have hinX8 : ∀ w ∈ u_ws RX8 TX8 20, w ∈ wsX8_remembers := by decide +kernel
  have hl := lv_entry ([.ref (b 0)]) (n := 2) (Nat.le_of_ble_eq_true rfl)
  rw [lg_entry_eq]
  generalize (lg_sl ([.ref (b 0)]) ++ List.replicate (2 - (lg_sl ([.ref (b 0)])).length) Slot.unset).toArray = ls at hl ⊢
  have hl : lv_has ls 2 [(0, .ref (b 0))] := hl
  obtain ⟨z, hz⟩ : ∃ z, z = f_X8_remembers (mBef M) (mHis M) (mRem M) := ⟨_, rfl⟩
  rw [← hz]
  have J50 : ∀ (his0_50 : (Nat → Int32)) (rem0_50 : Nat)  (H : Heap) (locs : List Loc) (ls : Array Slot), z = f_X8_remembers_j50 (mBef M) his0_50 rem0_50 → (rem0_50 ≤ 7) → va_P D vwCl (mcells C b (mkM (mNow M) (mBef M) (mSav M) his0_50 (mIsS M) rem0_50 (mErA M) (mFaA M) (mTxt M) (mTyp M) (mLin M) (mLnd M) (mThr M) (mFar M) (mGrp M) (mSiz M) (mPla M) (mWro M) (mTol M) (mNum M))) H → va_D A (mcells C b (mkM (mNow M) (mBef M) (mSav M) his0_50 (mIsS M) rem0_50 (mErA M) (mFaA M) (mTxt M) (mTyp M) (mLin M) (mLnd M) (mThr M) (mFar M) (mGrp M) (mSiz M) (mPla M) (mWro M) (mTol M) (mNum M))) → va_S A s.heap H locs → lv_has ls 2 [(0, .ref (b 0))] → W p l e ({ frames := 1, cells := 0, slots := 0, locals := 24 } : Room) s m ([.ref (b 0)] : List Value).toArray below meth c H locs 0 0 (MQ below (rwO none D (mcells C b (mkM (mNow M) (mBef M) (mSav M) z.1 (mIsS M) z.2 (mErA M) (mFaA M) (mTxt M) (mTyp M) (mLin M) (mLnd M) (mThr M) (mFar M) (mGrp M) (mSiz M) (mPla M) (mWro M) (mTol M) (mNum M))) A) ([.ref (b 0)] : List Value).toArray s 0 0 A) (F0 m 50 ls []) := by
    intro his0_50 rem0_50 H locs ls hz iv50_0 hP hD hS hl
    refine lv_aload_n hx hb dX8_remembers_50 rfl (lv_at hl 0 rfl) ?_
    refine va_get (D := D) (ci := 9) (v := .ref (b 2)) (C := RX8) (T := TX8) (N := 20) hx hb hts hinX8 hown hK hP 0 rfl rfl 1 (by decide) (hts (.fieldLink RX8 13 "BridgeAuctionModel" "before" "[I") (by decide +kernel)) (fun _ h9 => h9) rfl dX8_remembers_51 ?_
    refine lv_iconst (v := 0) hx hb dX8_remembers_54 (by decide) ?_
    refine lv_aload_n hx hb dX8_remembers_55 rfl (lv_at hl 0 rfl) ?_
    refine va_get (D := D) (ci := 9) (v := .ref (b 4)) (C := RX8) (T := TX8) (N := 20) hx hb hts hinX8 hown hK hP 0 rfl rfl 3 (by decide) (hts (.fieldLink RX8 19 "BridgeAuctionModel" "history" "[I") (by decide +kernel)) (fun _ h9 => h9) rfl dX8_remembers_56 ?_
    refine lv_aload_n hx hb dX8_remembers_59 rfl (lv_at hl 0 rfl) ?_
    refine va_get (D := D) (ci := 9) (v := .int (nI rem0_50)) (C := RX8) (T := TX8) (N := 20) hx hb hts hinX8 hown hK hP 0 rfl rfl 5 (by decide) (hts (.fieldLink RX8 55 "BridgeAuctionModel" "remembered" "I") (by decide +kernel)) (fun _ h9 => h9) rfl dX8_remembers_60 ?_
    refine lv_sipush (v := 178) hx hb dX8_remembers_63 (by decide +kernel) ?_
    refine topN (k := 178) (by decide +kernel) ?_
    refine mulN hx hb dX8_remembers_66 ?_
    refine topN3 (k := 0) (by decide +kernel) ?_
    have hPc := hP.sub (ws' := ([((b 2), .inl (C 0, 178, .inl (mBef M)))] ++ [((b 4), .inl (C 0, 1424, .inl his0_50))])) [2, 4] rfl
    have hDc := hD.sub (ws' := ([((b 2), .inl (C 0, 178, .inl (mBef M)))] ++ [((b 4), .inl (C 0, 1424, .inl his0_50))])) [2, 4] (by decide) rfl
    have hFc := va_free (wc := ([((b 2), .inl (C 0, 178, .inl (mBef M)))] ++ [((b 4), .inl (C 0, 1424, .inl his0_50))])) hD hS hA [2, 4] rfl
    refine callRw (va_runS (As := [.ref (b 2), .int (nI 0), .ref (b 4), .int (nI (rem0_50 * 178))]) (rest := []) ⟨hx, hb, hml, hown, hts⟩ (c_X8_copies l D C 178 1424 (b 2) (mBef M) (b 4) his0_50 (0) ((rem0_50 * 178)) _ (by first | omega | decide) (by first | omega | decide) (by first | omega | decide) (by first | omega | decide)) (va_cwS 4 hts gX8_remembers_X8_copies rfl rfl rfl (by decide +kernel) ⟨Nat.le_of_ble_eq_true rfl, Nat.le_of_ble_eq_true rfl⟩) (rwP_s hPc hK hE hDc) rfl rfl hl.1 rfl (lv_room (Nat.le_of_ble_eq_true rfl)) dX8_remembers_67 ⟨Nat.le_refl _, Nat.le_refl _⟩) hS hFc (fun H1 locs hPn hk hS => ?_)
    obtain ⟨y67, hy67⟩ : ∃ y_, y_ = (f_X8_copies (mBef M) his0_50 (0) ((rem0_50 * 178))) := ⟨_, rfl⟩
    have hPn : va_P D vwCl ([((b 2), .inl (C 0, 178, .inl (mBef M)))] ++ [((b 4), .inl (C 0, 1424, .inl y67))]) H1 := by rw [hy67]; exact hPn
    have hz := lt_eq hz hy67
    have hP : va_P D vwCl (mcells C b (mkM (mNow M) (mBef M) (mSav M) y67 (mIsS M) rem0_50 (mErA M) (mFaA M) (mTxt M) (mTyp M) (mLin M) (mLnd M) (mThr M) (mFar M) (mGrp M) (mSiz M) (mPla M) (mWro M) (mTol M) (mNum M))) H1 := rwJoin (wr := ([(b 0, .inr (9, [.ref (b 1), .ref (b 2), .ref (b 3), .ref (b 4), .int (bI (mIsS M)), .int (nI rem0_50), .int (mErA M), .int (mFaA M), .ref (b 5), .int (nI (mTyp M)), .ref (b 6), .int (nI (mLnd M)), .int (mThr M), .ref (b 7), .ref (b 8), .int (nI (mSiz M)), .int (nI (mPla M)), .int (mWro M), .int (nI (mTol M)), .ref (b 9)])), (b 1, .inl (C 0, 178, .inl (mNow M))), (b 3, .inl (C 0, 178, .inl (mSav M))), (b 5, .inl (C 0, 60, .inl (mTxt M))), (b 6, .inl (C 0, 60, .inl (mLin M))), (b 7, .inl (C 0, 8, .inl (mFar M))), (b 8, .inl (C 0, 8, .inl (mGrp M))), (b 9, .inl (C 0, 120, .inl (mNum M)))])) (ws' := (mcells C b (mkM (mNow M) (mBef M) (mSav M) y67 (mIsS M) rem0_50 (mErA M) (mFaA M) (mTxt M) (mTyp M) (mLin M) (mLnd M) (mThr M) (mFar M) (mGrp M) (mSiz M) (mPla M) (mWro M) (mTol M) (mNum M)))) hP hD [2, 4] [0, 1, 3, 5, 6, 7, 8, 9] rfl rfl (by decide) (by decide) (by decide) hk hFc hPn rfl [0, 1, 8, 2, 9, 3, 4, 5, 6, 7] rfl
    have hD : va_D A (mcells C b (mkM (mNow M) (mBef M) (mSav M) y67 (mIsS M) rem0_50 (mErA M) (mFaA M) (mTxt M) (mTyp M) (mLin M) (mLnd M) (mThr M) (mFar M) (mGrp M) (mSiz M) (mPla M) (mWro M) (mTol M) (mNum M))) := adr_D hD rfl
    generalize H1 = H at hP hS ⊢
    refine lv_aload_n hx hb dX8_remembers_70 rfl (lv_at hl 0 rfl) ?_
    refine lv_dup hx hb dX8_remembers_71 rfl ?_
    refine va_get (D := D) (ci := 9) (v := .int (nI rem0_50)) (C := RX8) (T := TX8) (N := 20) hx hb hts hinX8 hown hK hP 0 rfl rfl 5 (by decide) (hts (.fieldLink RX8 55 "BridgeAuctionModel" "remembered" "I") (by decide +kernel)) (fun _ h9 => h9) rfl dX8_remembers_72 ?_
    refine lv_iconst (v := 1) hx hb dX8_remembers_75 (by decide) ?_
    refine topN (k := 1) (by decide +kernel) ?_
    refine addN hx hb dX8_remembers_76 ?_
    refine va_put (D := D) (ci := 9) (v := .int (nI (rem0_50 + 1))) (ty := .int) (C := RX8) (T := TX8) (N := 20) hx hb hts hinX8 tyX8 tyX8_ok nmX8 hown hK hP hD hS 0 rfl rfl 5 (by decide) (hts (.fieldLink RX8 55 "BridgeAuctionModel" "remembered" "I") (by decide +kernel)) (fun _ h9 => h9) rfl (by decide +kernel) rfl rfl (Nat.le_of_ble_eq_true rfl) dX8_remembers_77 (fun H locs hP hD hS => ?_)
    have hP : va_P D vwCl (mcells C b (mkM (mNow M) (mBef M) (mSav M) y67 (mIsS M) (rem0_50 + 1) (mErA M) (mFaA M) (mTxt M) (mTyp M) (mLin M) (mLnd M) (mThr M) (mFar M) (mGrp M) (mSiz M) (mPla M) (mWro M) (mTol M) (mNum M))) H := hP
    have hD : va_D A (mcells C b (mkM (mNow M) (mBef M) (mSav M) y67 (mIsS M) (rem0_50 + 1) (mErA M) (mFaA M) (mTxt M) (mTyp M) (mLin M) (mLnd M) (mThr M) (mFar M) (mGrp M) (mSiz M) (mPla M) (mWro M) (mTol M) (mNum M))) := hD
    have hz : z = (y67, (rem0_50 + 1)) := hz
    rw [hz]
    exact rw_retV hx hb hr hP hS dX8_remembers_80 hlocks
  have J11 : ∀ (n11 k11 : Nat) (his0_11 : (Nat → Int32)) (H : Heap) (locs : List Loc) (ls : Array Slot), k11 + n11 = 1246 → z = f_X8_remembers_l11 (mBef M) (mRem M) n11 k11 his0_11 → (mRem M = 8) → va_P D vwCl (mcells C b (mkM (mNow M) (mBef M) (mSav M) his0_11 (mIsS M) (mRem M) (mErA M) (mFaA M) (mTxt M) (mTyp M) (mLin M) (mLnd M) (mThr M) (mFar M) (mGrp M) (mSiz M) (mPla M) (mWro M) (mTol M) (mNum M))) H → va_D A (mcells C b (mkM (mNow M) (mBef M) (mSav M) his0_11 (mIsS M) (mRem M) (mErA M) (mFaA M) (mTxt M) (mTyp M) (mLin M) (mLnd M) (mThr M) (mFar M) (mGrp M) (mSiz M) (mPla M) (mWro M) (mTol M) (mNum M))) → va_S A s.heap H locs → lv_has ls 2 [(0, .ref (b 0)), (1, .int (nI k11))] → W p l e ({ frames := 1, cells := 0, slots := 0, locals := 24 } : Room) s m ([.ref (b 0)] : List Value).toArray below meth c H locs 0 0 (MQ below (rwO none D (mcells C b (mkM (mNow M) (mBef M) (mSav M) z.1 (mIsS M) z.2 (mErA M) (mFaA M) (mTxt M) (mTyp M) (mLin M) (mLnd M) (mThr M) (mFar M) (mGrp M) (mSiz M) (mPla M) (mWro M) (mTol M) (mNum M))) A) ([.ref (b 0)] : List Value).toArray s 0 0 A) (F0 m 11 ls []) := by
    intro n11
    induction n11 with
    | zero =>
      intro k11 his0_11 H locs ls hk11 hz iv11_0 hP hD hS hl
      have hz : z = f_X8_remembers_l11x (mBef M) (mRem M) his0_11 := hz
      refine lv_iload_n hx hb dX8_remembers_11 rfl (lv_at hl 1 rfl) ?_
      refine lv_sipush (v := 1246) hx hb dX8_remembers_12 (by decide +kernel) ?_
      refine lv_icmp_ge (tgt := 40) hx hb dX8_remembers_15 (by decide) (fun c_15 => ?_) (fun c_15 => absurd (by have e : (1246 : Int32) = nI 1246 := (by decide +kernel); rw [e]; exact nI_le (by omega) (by omega)) c_15)
      refine lv_aload_n hx hb dX8_remembers_40 rfl (lv_at hl 0 rfl) ?_
      refine lv_dup hx hb dX8_remembers_41 rfl ?_
      refine va_get (D := D) (ci := 9) (v := .int (nI (mRem M))) (C := RX8) (T := TX8) (N := 20) hx hb hts hinX8 hown hK hP 0 rfl rfl 5 (by decide) (hts (.fieldLink RX8 55 "BridgeAuctionModel" "remembered" "I") (by decide +kernel)) (fun _ h9 => h9) rfl dX8_remembers_42 ?_
      refine lv_iconst (v := 1) hx hb dX8_remembers_45 (by decide) ?_
      refine lv_isub hx hb dX8_remembers_46 ?_
      refine topN (k := ((mRem M) - 1)) (show ((nI (mRem M)) - 1) = (nI ((mRem M) - 1)) from by exact nI_dec (by omega)) ?_
      refine va_put (D := D) (ci := 9) (v := .int (nI ((mRem M) - 1))) (ty := .int) (C := RX8) (T := TX8) (N := 20) hx hb hts hinX8 tyX8 tyX8_ok nmX8 hown hK hP hD hS 0 rfl rfl 5 (by decide) (hts (.fieldLink RX8 55 "BridgeAuctionModel" "remembered" "I") (by decide +kernel)) (fun _ h9 => h9) rfl (by decide +kernel) rfl rfl (Nat.le_of_ble_eq_true rfl) dX8_remembers_47 (fun H locs hP hD hS => ?_)
      have hP : va_P D vwCl (mcells C b (mkM (mNow M) (mBef M) (mSav M) his0_11 (mIsS M) ((mRem M) - 1) (mErA M) (mFaA M) (mTxt M) (mTyp M) (mLin M) (mLnd M) (mThr M) (mFar M) (mGrp M) (mSiz M) (mPla M) (mWro M) (mTol M) (mNum M))) H := hP
      have hD : va_D A (mcells C b (mkM (mNow M) (mBef M) (mSav M) his0_11 (mIsS M) ((mRem M) - 1) (mErA M) (mFaA M) (mTxt M) (mTyp M) (mLin M) (mLnd M) (mThr M) (mFar M) (mGrp M) (mSiz M) (mPla M) (mWro M) (mTol M) (mNum M))) := hD
      exact J50 (his0_11) (((mRem M) - 1)) _ _ ls hz (by first | omega | (have := neN (n := 8) (by decide) c_6; omega)) hP hD hS (lv_sub hl [0] rfl)
    | succ n11 ih11 =>
      intro k11 his0_11 H locs ls hk11 hz11 iv11_0 hP hD hS hl
      obtain ⟨z11, hz⟩ : ∃ zz_, zz_ = f_X8_remembers_l11b (mBef M) (mRem M) k11 his0_11 := ⟨_, rfl⟩
      have hq11 : z = sE id (fun q_ => lpF (f_X8_remembers_l11s (mBef M) (mRem M)) (f_X8_remembers_l11e (mBef M) (mRem M)) n11 (k11 + 1) q_) z11 := by rw [hz11, hz]; rfl
      refine lv_iload_n hx hb dX8_remembers_11 rfl (lv_at hl 1 rfl) ?_
      refine lv_sipush (v := 1246) hx hb dX8_remembers_12 (by decide +kernel) ?_
      refine lv_icmp_ge (tgt := 40) hx hb dX8_remembers_15 (by decide) (fun c_15 => absurd c_15 (by have e : (1246 : Int32) = nI 1246 := (by decide +kernel); rw [e]; exact nI_ge (by omega) (by omega))) (fun c_15 => ?_)
      refine lv_aload_n hx hb dX8_remembers_18 rfl (lv_at hl 0 rfl) ?_
      refine va_get (D := D) (ci := 9) (v := .ref (b 4)) (C := RX8) (T := TX8) (N := 20) hx hb hts hinX8 hown hK hP 0 rfl rfl 3 (by decide) (hts (.fieldLink RX8 19 "BridgeAuctionModel" "history" "[I") (by decide +kernel)) (fun _ h9 => h9) rfl dX8_remembers_19 ?_
      refine lv_iload_n hx hb dX8_remembers_22 rfl (lv_at hl 1 rfl) ?_
      refine lv_aload_n hx hb dX8_remembers_23 rfl (lv_at hl 0 rfl) ?_
      refine va_get (D := D) (ci := 9) (v := .ref (b 4)) (C := RX8) (T := TX8) (N := 20) hx hb hts hinX8 hown hK hP 0 rfl rfl 3 (by decide) (hts (.fieldLink RX8 19 "BridgeAuctionModel" "history" "[I") (by decide +kernel)) (fun _ h9 => h9) rfl dX8_remembers_24 ?_
      refine lv_iload_n hx hb dX8_remembers_27 rfl (lv_at hl 1 rfl) ?_
      refine lv_sipush (v := 178) hx hb dX8_remembers_28 (by decide +kernel) ?_
      refine topN (k := 178) (by decide +kernel) ?_
      refine addN hx hb dX8_remembers_31 ?_
      refine ialdN (tys := tyA C) hx hb hK hP 4 0 rfl rfl (i := (k11 + 178)) (by omega) (by decide) dX8_remembers_32 ?_
      refine iastN (tys := tyA C) hx hb hK hP hD hS 4 0 rfl rfl (i := k11) (by omega) (by decide) dX8_remembers_33 (fun H locs hP hD hS => ?_)
      have hP : va_P D vwCl (mcells C b (mkM (mNow M) (mBef M) (mSav M) (upd his0_11 k11 (his0_11 (k11 + 178))) (mIsS M) (mRem M) (mErA M) (mFaA M) (mTxt M) (mTyp M) (mLin M) (mLnd M) (mThr M) (mFar M) (mGrp M) (mSiz M) (mPla M) (mWro M) (mTol M) (mNum M))) H := hP
      have hD : va_D A (mcells C b (mkM (mNow M) (mBef M) (mSav M) (upd his0_11 k11 (his0_11 (k11 + 178))) (mIsS M) (mRem M) (mErA M) (mFaA M) (mTxt M) (mTyp M) (mLin M) (mLnd M) (mThr M) (mFar M) (mGrp M) (mSiz M) (mPla M) (mWro M) (mTol M) (mNum M))) := hD
      refine lv_iinc (v := (nI (k11 + 1))) (lv' := [(1, .int (nI (k11 + 1))), (0, .ref (b 0))]) hx hb dX8_remembers_34 hl (k := 1) rfl (by exact nI_1 _) (by decide) rfl (fun ls hl => ?_)
      refine lv_goto (tgt := 11) hx hb dX8_remembers_37 (by decide) ?_
      exact ih11 (k11 + 1) ((upd his0_11 k11 (his0_11 (k11 + 178)))) _ _ ls (by omega) (by rw [hq11, hz]; rfl) (by first | assumption | exact eqN (n := 8) (by decide) (by omega) (by decide) c_6) hP hD hS (lv_sub hl [1, 0] rfl)
  refine lv_aload_n hx hb dX8_remembers_0 rfl (lv_at hl 0 rfl) ?_
  refine va_get (D := D) (ci := 9) (v := .int (nI (mRem M))) (C := RX8) (T := TX8) (N := 20) hx hb hts hinX8 hown hK hP 0 rfl rfl 5 (by decide) (hts (.fieldLink RX8 55 "BridgeAuctionModel" "remembered" "I") (by decide +kernel)) (fun _ h9 => h9) rfl dX8_remembers_1 ?_
  refine lv_bipush (v := 8) hx hb dX8_remembers_4 (by decide +kernel) ?_
  refine lv_icmp_ne (tgt := 50) hx hb dX8_remembers_6 (by decide) (fun c_6 => ?_) (fun c_6 => ?_)
  · have hz := hz.trans (if_neg c_6)
    exact J50 ((mHis M)) ((mRem M)) _ _ ls hz (by first | omega | (have := neN (n := 8) (by decide) c_6; omega)) (by rw [mkM_eta M]; exact hP) (by rw [mkM_eta M]; exact hD) hS (lv_sub hl [0] rfl)
  · have hz := hz.trans (if_pos c_6)
    refine lv_iconst (v := 0) hx hb dX8_remembers_9 (by decide) ?_
    refine lv_istore_n (lv' := [(1, .int 0), (0, .ref (b 0))]) hx hb dX8_remembers_10 rfl hl (by decide) rfl (fun ls hl => ?_)
    exact J11 (1246) 0 ((mHis M)) _ _ ls (by omega) hz (by first | assumption | exact eqN (n := 8) (by decide) (by omega) (by decide) c_6) (by rw [mkM_eta M]; exact hP) (by rw [mkM_eta M]; exact hD) hS (lv_sub hl [1, 0] rfl)

