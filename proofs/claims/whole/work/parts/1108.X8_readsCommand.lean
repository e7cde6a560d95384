theorem X8_readsRest_pl (tx : Nat → Int32) (si pl : Nat) (wr : Int32) (nm : Nat → Int32) (x : Nat) (y : Int32) (hp : pl ≤ si) : (f_X8_readsRest tx si pl wr nm x y).1 ≤ si ∧ pl ≤ (f_X8_readsRest tx si pl wr nm x y).1 := by
  have k93 : ∀ (p : Nat) (w : Int32) (nn : Nat → Int32), pl ≤ p → p ≤ si → (f_X8_readsRest_j93 tx si x y p w nn).1 ≤ si ∧ pl ≤ (f_X8_readsRest_j93 tx si x y p w nn).1 := by
    intro p w nn h1 h2
    have b1 := X8_blank_pl tx si p w h2
    simp only [f_X8_readsRest_j93, f_X8_readsRest_j120, f_X8_readsRest_j121, lt_]
    generalize f_X8_blank tx si p w = q at b1 ⊢
    split
    · have b2 := X8_digit_pl tx si q.1 q.2 b1.1
      exact ⟨b2.1, by omega⟩
    · have b2 := X8_number_pl tx si q.1 q.2 b1.1
      exact ⟨b2.1, by omega⟩
  have k77 : ∀ (s0 : Int32) (s1 p : Nat) (w : Int32) (nn : Nat → Int32), pl ≤ p → p ≤ si → (f_X8_readsRest_j77 tx si x y s0 s1 p w nn).1 ≤ si ∧ pl ≤ (f_X8_readsRest_j77 tx si x y s0 s1 p w nn).1 := by
    intro s0 s1 p w nn h1 h2
    simp only [f_X8_readsRest_j77, f_X8_readsRest_j121]
    split
    · exact k93 _ _ _ h1 h2
    · split
      · exact k93 _ _ _ h1 h2
      · split
        · exact k93 _ _ _ h1 h2
        · exact ⟨h2, h1⟩
  have k66 : ∀ (s0 p : Nat) (w : Int32) (nn : Nat → Int32), pl ≤ p → p ≤ si → (f_X8_readsRest_j66 tx si x y s0 p w nn).1 ≤ si ∧ pl ≤ (f_X8_readsRest_j66 tx si x y s0 p w nn).1 := by
    intro s0 p w nn h1 h2
    have b2 := X8_digit_pl tx si p w h2
    simp only [f_X8_readsRest_j66, lt_]
    exact k77 _ _ _ _ _ (by omega) b2.1
  have k28 : ∀ (s0 : Int32) (s1 p : Nat) (w : Int32), pl ≤ p → p ≤ si → (f_X8_readsRest_j28 tx si nm x y s0 s1 p w).1 ≤ si ∧ pl ≤ (f_X8_readsRest_j28 tx si nm x y s0 s1 p w).1 := by
    intro s0 s1 p w h1 h2
    have b1 := X8_blank_pl tx si p w h2
    simp only [f_X8_readsRest_j28, f_X8_readsRest_j44, lt_]
    generalize f_X8_blank tx si p w = q at b1 ⊢
    have b2 := X8_number_pl tx si q.1 q.2 b1.1
    split
    · exact ⟨h2, h1⟩
    · split
      · exact ⟨h2, h1⟩
      · split
        · exact ⟨h2, h1⟩
        · split
          · exact k66 _ _ _ _ (by omega) b1.1
          · split
            · exact k66 _ _ _ _ (by omega) b1.1
            · exact k77 _ _ _ _ _ (by omega) b2.1
  have b1 := X8_number_pl tx si pl wr hp
  have b2 := X8_digit_pl tx si pl wr hp
  simp only [f_X8_readsRest, f_X8_readsRest_j17, lt_]
  split
  · exact k28 _ _ _ _ b1.2 b1.1
  · split
    · exact k28 _ _ _ _ b1.2 b1.1
    · exact k28 _ _ _ _ b2.2 b2.1
def f_X8_readsCommand_j43  (pla0_43 : Nat) (wro0_43 : Int32) (tol0_43 : Nat) (num0_43 : (Nat → Int32)) : Nat × Int32 × Nat × (Nat → Int32) := (pla0_43, wro0_43, tol0_43, num0_43)
def f_X8_readsCommand (tx : (Nat → Int32)) (sz : Nat) (pl : Nat) (wr : Int32) (tl : Nat) (nm : (Nat → Int32)) : Nat × Int32 × Nat × (Nat → Int32) := (lt_ (f_X8_kindHere tx sz pl wr) (fun y8 => (if y8.2.2 = (-1) then (lt_ (f_X8_readsRest tx sz y8.2.1 y8.2.2 (upd nm (4 * tl) y8.1) ((4 * tl)) (y8.1)) (fun y40 => (f_X8_readsCommand_j43 (y40.1) (y40.2.1) ((tl + 1)) (y40.2.2)))) else (f_X8_readsCommand_j43 (y8.2.1) (y8.2.2) ((tl + 1)) ((upd nm (4 * tl) y8.1))))))
set_option maxHeartbeats 4000000 in
set_option maxRecDepth 100000 in
theorem c_X8_readsCommand (l : Launch) (D : va_G) (C : Nat → ClassId) (ev : Nat → Nat) (b : Nat → Nat) (M : MS) (sz : Nat) (hSi : mSiz M ≤ 60) (hPl : mPla M ≤ mSiz M) (hTo : mTol M ≤ 29) : Met l yX8_readsCommand wsX8_readsCommand ({ frames := 5, cells := 0, slots := 0, locals := 110 } : Room) (rwPE [.ref (b 0)] D C ev (mcells C b M) sz) (rwO none D (mcells C b (mkM (mNow M) (mBef M) (mSav M) (mHis M) (mIsS M) (mRem M) (mErA M) (mFaA M) (mTxt M) (mTyp M) (mLin M) (mLnd M) (mThr M) (mFar M) (mGrp M) (mSiz M) ((f_X8_readsCommand (mTxt M) (mSiz M) (mPla M) (mWro M) (mTol M) (mNum M)).1) ((f_X8_readsCommand (mTxt M) (mSiz M) (mPla M) (mWro M) (mTol M) (mNum M)).2.1) ((f_X8_readsCommand (mTxt M) (mSiz M) (mPla M) (mWro M) (mTol M) (mNum M)).2.2.1) ((f_X8_readsCommand (mTxt M) (mSiz M) (mPla M) (mWro M) (mTol M) (mNum M)).2.2.2))) (va_A (mcells C b M) sz)) 0 0 (va_A (mcells C b M) sz) := by
  refine Met.ofW (cc := cX8_readsCommand) (maxL := 3) (ret := none) (by decide) rfl ?_
  intro p e s m args below meth c s₁ B hml hv
  obtain ⟨rfl, hsz, hP, hK, hD0, hE, hR, hX⟩ := hv
  have hx := B.exec
  have hb := B.bytes
  have hr := B.returns
  have hts := atoms_spec (ws := wsX8_readsCommand) B.pre
  have hown : s.vm.findClass RX8 = some m.cls := findClass_of_methodNamed B.named
  have hlocks := B.notSynchronized
  subst hsz
  have hD := hD0.self (sz := s.heap.size)
  generalize hAe : va_A (mcells C b M) s.heap.size = A at hD hX ⊢
  have hA : ∀ q : Nat, s.heap.size ≤ q → A q := fun q h => by rw [← hAe]; exact Or.inr h
  have hS0 : va_S A s.heap s.heap [] := va_S.rf
  have hP : va_P D vwCl (mcells C b M) s.heap := hP
  have hS := hS0
  obtain ⟨⟨hV, hB, hMV, hMB, hAL, hEk, hEa, hTX, hXZ⟩, hCS, hSF⟩ := id hX
  have hinX8 : ∀ w ∈ u_ws RX8 TX8 20, w ∈ wsX8_readsCommand := by decide +kernel
  have hl := lv_entry ([.ref (b 0)]) (n := 3) (Nat.le_of_ble_eq_true rfl)
  rw [lg_entry_eq]
  generalize (lg_sl ([.ref (b 0)]) ++ List.replicate (3 - (lg_sl ([.ref (b 0)])).length) Slot.unset).toArray = ls at hl ⊢
  have hl : lv_has ls 3 [(0, .ref (b 0))] := hl
  obtain ⟨z, hz⟩ : ∃ z, z = f_X8_readsCommand (mTxt M) (mSiz M) (mPla M) (mWro M) (mTol M) (mNum M) := ⟨_, rfl⟩
  rw [← hz]
  have J43 : ∀ (pla0_43 : Nat) (wro0_43 : Int32) (tol0_43 : Nat) (num0_43 : (Nat → Int32))  (H : Heap) (locs : List Loc) (ls : Array Slot), z = f_X8_readsCommand_j43 pla0_43 wro0_43 tol0_43 num0_43 → va_P D vwCl (mcells C b (mkM (mNow M) (mBef M) (mSav M) (mHis M) (mIsS M) (mRem M) (mErA M) (mFaA M) (mTxt M) (mTyp M) (mLin M) (mLnd M) (mThr M) (mFar M) (mGrp M) (mSiz M) pla0_43 wro0_43 tol0_43 num0_43)) H → va_D A (mcells C b (mkM (mNow M) (mBef M) (mSav M) (mHis M) (mIsS M) (mRem M) (mErA M) (mFaA M) (mTxt M) (mTyp M) (mLin M) (mLnd M) (mThr M) (mFar M) (mGrp M) (mSiz M) pla0_43 wro0_43 tol0_43 num0_43)) → va_S A s.heap H locs → lv_has ls 3 [] → W p l e ({ frames := 5, cells := 0, slots := 0, locals := 110 } : Room) s m ([.ref (b 0)] : List Value).toArray below meth c H locs 0 0 (MQ below (rwO none D (mcells C b (mkM (mNow M) (mBef M) (mSav M) (mHis M) (mIsS M) (mRem M) (mErA M) (mFaA M) (mTxt M) (mTyp M) (mLin M) (mLnd M) (mThr M) (mFar M) (mGrp M) (mSiz M) z.1 z.2.1 z.2.2.1 z.2.2.2)) A) ([.ref (b 0)] : List Value).toArray s 0 0 A) (F0 m 43 ls []) := by
    intro pla0_43 wro0_43 tol0_43 num0_43 H locs ls hz  hP hD hS hl
    have hz : z = (pla0_43, wro0_43, tol0_43, num0_43) := hz
    rw [hz]
    exact rw_retV hx hb hr hP hS dX8_readsCommand_43 hlocks
  refine lv_iconst (v := 4) hx hb dX8_readsCommand_0 (by decide) ?_
  refine lv_aload_n hx hb dX8_readsCommand_1 rfl (lv_at hl 0 rfl) ?_
  refine va_get (D := D) (ci := 9) (v := .int (nI (mTol M))) (C := RX8) (T := TX8) (N := 20) hx hb hts hinX8 hown hK hP 0 rfl rfl 18 (by decide) (hts (.fieldLink RX8 242 "BridgeAuctionModel" "told" "I") (by decide +kernel)) (fun _ h9 => h9) rfl dX8_readsCommand_2 ?_
  refine topN2 (k := 4) (by decide +kernel) ?_
  refine mulN hx hb dX8_readsCommand_5 ?_
  refine lv_istore_n (lv' := [(1, .int (nI (4 * (mTol M)))), (0, .ref (b 0))]) hx hb dX8_readsCommand_6 rfl hl (by decide) rfl (fun ls hl => ?_)
  refine lv_aload_n hx hb dX8_readsCommand_7 rfl (lv_at hl 1 rfl) ?_
  have hFc := va_free (wc := (mcells C b M)) hD hS hA [0, 1, 2, 3, 4, 5, 6, 7, 8, 9] rfl
  refine callRw (va_runV (As := []) (rest := []) ⟨hx, hb, hml, hown, hts⟩ (c_X8_kindHere l D C ev b M _ (by show (mSiz M) ≤ 60; first | assumption | omega) (by show (mPla M) ≤ (mSiz M); first | assumption | omega)) (cwV 0 hts gX8_readsCommand_X8_kindHere rfl rfl rfl (by decide +kernel) ⟨Nat.le_of_ble_eq_true rfl, Nat.le_of_ble_eq_true rfl⟩) (rwPE_v hP hK hE hD hR hX hS hFc (va_recv hK hP (ci := 9) (q0 := 0) rfl rfl)) rfl rfl hl.1 rfl (lv_room (Nat.le_of_ble_eq_true rfl)) dX8_readsCommand_8 ⟨Nat.le_refl _, Nat.le_refl _⟩) hS hFc (fun H1 locs hPn hk hS => ?_)
  obtain ⟨y8, hy8⟩ : ∃ y_, y_ = (f_X8_kindHere (mTxt M) (mSiz M) (mPla M) (mWro M)) := ⟨_, rfl⟩
  have hPn : va_P D vwCl (mcells C b (mkM (mNow M) (mBef M) (mSav M) (mHis M) (mIsS M) (mRem M) (mErA M) (mFaA M) (mTxt M) (mTyp M) (mLin M) (mLnd M) (mThr M) (mFar M) (mGrp M) (mSiz M) y8.2.1 y8.2.2 (mTol M) (mNum M))) H1 := by rw [hy8]; exact hPn
  refine topI (y := y8.1) (congrArg Prod.fst hy8).symm ?_
  have hz := lt_eq hz hy8
  have hP : va_P D vwCl (mcells C b (mkM (mNow M) (mBef M) (mSav M) (mHis M) (mIsS M) (mRem M) (mErA M) (mFaA M) (mTxt M) (mTyp M) (mLin M) (mLnd M) (mThr M) (mFar M) (mGrp M) (mSiz M) y8.2.1 y8.2.2 (mTol M) (mNum M))) H1 := hPn
  have hD : va_D A (mcells C b (mkM (mNow M) (mBef M) (mSav M) (mHis M) (mIsS M) (mRem M) (mErA M) (mFaA M) (mTxt M) (mTyp M) (mLin M) (mLnd M) (mThr M) (mFar M) (mGrp M) (mSiz M) y8.2.1 y8.2.2 (mTol M) (mNum M))) := adr_D hD rfl
  generalize H1 = H at hP hS ⊢
  have b8 := X8_kindHere_q hy8 (by omega) (by omega)
  refine lv_istore_n (lv' := [(2, .int y8.1), (1, .int (nI (4 * (mTol M)))), (0, .ref (b 0))]) hx hb dX8_readsCommand_11 rfl hl (by decide) rfl (fun ls hl => ?_)
  refine lv_aload_n hx hb dX8_readsCommand_12 rfl (lv_at hl 2 rfl) ?_
  refine va_get (D := D) (ci := 9) (v := .ref (b 9)) (C := RX8) (T := TX8) (N := 20) hx hb hts hinX8 hown hK hP 0 rfl rfl 19 (by decide) (hts (.fieldLink RX8 41 "BridgeAuctionModel" "numbers" "[I") (by decide +kernel)) (fun _ h9 => h9) rfl dX8_readsCommand_13 ?_
  refine lv_iload_n hx hb dX8_readsCommand_16 rfl (lv_at hl 1 rfl) ?_
  refine lv_iload_n hx hb dX8_readsCommand_17 rfl (lv_at hl 0 rfl) ?_
  have hP := mX_P hP
  have hD := mX_D hD
  refine iastN (tys := tyA C) hx hb hK hP hD hS 9 0 rfl rfl (i := (4 * (mTol M))) (by omega) (by decide) dX8_readsCommand_18 (fun H locs hP hD hS => ?_)
  have hP : va_P D vwCl (mcells C b (mkM (mNow M) (mBef M) (mSav M) (mHis M) (mIsS M) (mRem M) (mErA M) (mFaA M) (mTxt M) (mTyp M) (mLin M) (mLnd M) (mThr M) (mFar M) (mGrp M) (mSiz M) y8.2.1 y8.2.2 (mTol M) (upd (mNum M) (4 * (mTol M)) y8.1))) H := mX_Q (show va_P D vwCl (mX C b (mNow M) (mBef M) (mSav M) (mHis M) (mIsS M) (mRem M) (mErA M) (mFaA M) (mTxt M) (mTyp M) (mLin M) (mLnd M) (mThr M) (mFar M) (mGrp M) (mSiz M) y8.2.1 y8.2.2 (mTol M) (upd (mNum M) (4 * (mTol M)) y8.1)) H from hP)
  have hD : va_D A (mcells C b (mkM (mNow M) (mBef M) (mSav M) (mHis M) (mIsS M) (mRem M) (mErA M) (mFaA M) (mTxt M) (mTyp M) (mLin M) (mLnd M) (mThr M) (mFar M) (mGrp M) (mSiz M) y8.2.1 y8.2.2 (mTol M) (upd (mNum M) (4 * (mTol M)) y8.1))) := mX_R (show va_D A (mX C b (mNow M) (mBef M) (mSav M) (mHis M) (mIsS M) (mRem M) (mErA M) (mFaA M) (mTxt M) (mTyp M) (mLin M) (mLnd M) (mThr M) (mFar M) (mGrp M) (mSiz M) y8.2.1 y8.2.2 (mTol M) (upd (mNum M) (4 * (mTol M)) y8.1)) from hD)
  refine lv_aload_n hx hb dX8_readsCommand_19 rfl (lv_at hl 2 rfl) ?_
  refine lv_dup hx hb dX8_readsCommand_20 rfl ?_
  refine va_get (D := D) (ci := 9) (v := .int (nI (mTol M))) (C := RX8) (T := TX8) (N := 20) hx hb hts hinX8 hown hK hP 0 rfl rfl 18 (by decide) (hts (.fieldLink RX8 242 "BridgeAuctionModel" "told" "I") (by decide +kernel)) (fun _ h9 => h9) rfl dX8_readsCommand_21 ?_
  refine lv_iconst (v := 1) hx hb dX8_readsCommand_24 (by decide) ?_
  refine topN (k := 1) (by decide +kernel) ?_
  refine addN hx hb dX8_readsCommand_25 ?_
  have hP := mX_P hP
  have hD := mX_D hD
  refine va_put (D := D) (ci := 9) (v := .int (nI ((mTol M) + 1))) (ty := .int) (C := RX8) (T := TX8) (N := 20) hx hb hts hinX8 tyX8 tyX8_ok nmX8 hown hK hP hD hS 0 rfl rfl 18 (by decide) (hts (.fieldLink RX8 242 "BridgeAuctionModel" "told" "I") (by decide +kernel)) (fun _ h9 => h9) rfl (by decide +kernel) rfl rfl (Nat.le_of_ble_eq_true rfl) dX8_readsCommand_26 (fun H locs hP hD hS => ?_)
  have hP : va_P D vwCl (mcells C b (mkM (mNow M) (mBef M) (mSav M) (mHis M) (mIsS M) (mRem M) (mErA M) (mFaA M) (mTxt M) (mTyp M) (mLin M) (mLnd M) (mThr M) (mFar M) (mGrp M) (mSiz M) y8.2.1 y8.2.2 ((mTol M) + 1) (upd (mNum M) (4 * (mTol M)) y8.1))) H := mX_Q (show va_P D vwCl (mX C b (mNow M) (mBef M) (mSav M) (mHis M) (mIsS M) (mRem M) (mErA M) (mFaA M) (mTxt M) (mTyp M) (mLin M) (mLnd M) (mThr M) (mFar M) (mGrp M) (mSiz M) y8.2.1 y8.2.2 ((mTol M) + 1) (upd (mNum M) (4 * (mTol M)) y8.1)) H from hP)
  have hD : va_D A (mcells C b (mkM (mNow M) (mBef M) (mSav M) (mHis M) (mIsS M) (mRem M) (mErA M) (mFaA M) (mTxt M) (mTyp M) (mLin M) (mLnd M) (mThr M) (mFar M) (mGrp M) (mSiz M) y8.2.1 y8.2.2 ((mTol M) + 1) (upd (mNum M) (4 * (mTol M)) y8.1))) := mX_R (show va_D A (mX C b (mNow M) (mBef M) (mSav M) (mHis M) (mIsS M) (mRem M) (mErA M) (mFaA M) (mTxt M) (mTyp M) (mLin M) (mLnd M) (mThr M) (mFar M) (mGrp M) (mSiz M) y8.2.1 y8.2.2 ((mTol M) + 1) (upd (mNum M) (4 * (mTol M)) y8.1)) from hD)
  refine lv_aload_n hx hb dX8_readsCommand_29 rfl (lv_at hl 2 rfl) ?_
  refine va_get (D := D) (ci := 9) (v := .int y8.2.2) (C := RX8) (T := TX8) (N := 20) hx hb hts hinX8 hown hK hP 0 rfl rfl 17 (by decide) (hts (.fieldLink RX8 213 "BridgeAuctionModel" "wrong" "I") (by decide +kernel)) (fun _ h9 => h9) rfl dX8_readsCommand_30 ?_
  refine lv_iconst (v := (-1)) hx hb dX8_readsCommand_33 (by decide) ?_
  refine lv_icmp_ne (tgt := 43) hx hb dX8_readsCommand_34 (by decide) (fun c_34 => ?_) (fun c_34 => ?_)
  · have hz := hz.trans (if_neg c_34)
    exact J43 (y8.2.1) (y8.2.2) (((mTol M) + 1)) ((upd (mNum M) (4 * (mTol M)) y8.1)) _ _ ls hz  hP hD hS (lv_sub hl [] rfl)
  · have hz := hz.trans (if_pos c_34)
    refine lv_aload_n hx hb dX8_readsCommand_37 rfl (lv_at hl 2 rfl) ?_
    refine lv_iload_n hx hb dX8_readsCommand_38 rfl (lv_at hl 1 rfl) ?_
    refine lv_iload_n hx hb dX8_readsCommand_39 rfl (lv_at hl 0 rfl) ?_
    have hFc := va_free (wc := (mcells C b (mkM (mNow M) (mBef M) (mSav M) (mHis M) (mIsS M) (mRem M) (mErA M) (mFaA M) (mTxt M) (mTyp M) (mLin M) (mLnd M) (mThr M) (mFar M) (mGrp M) (mSiz M) y8.2.1 y8.2.2 ((mTol M) + 1) (upd (mNum M) (4 * (mTol M)) y8.1)))) hD hS hA [0, 1, 2, 3, 4, 5, 6, 7, 8, 9] rfl
    refine callRw (va_runV (As := [.int (nI (4 * (mTol M))), .int y8.1]) (rest := []) ⟨hx, hb, hml, hown, hts⟩ (c_X8_readsRest l D C b (mkM (mNow M) (mBef M) (mSav M) (mHis M) (mIsS M) (mRem M) (mErA M) (mFaA M) (mTxt M) (mTyp M) (mLin M) (mLnd M) (mThr M) (mFar M) (mGrp M) (mSiz M) y8.2.1 y8.2.2 ((mTol M) + 1) (upd (mNum M) (4 * (mTol M)) y8.1)) ((4 * (mTol M))) (y8.1) _ (by show (mSiz M) ≤ 60; first | assumption | omega) (by show y8.2.1 ≤ (mSiz M); first | assumption | omega) (by first | assumption | omega)) (cwV 2 hts gX8_readsCommand_X8_readsRest rfl rfl rfl (by decide +kernel) ⟨Nat.le_of_ble_eq_true rfl, Nat.le_of_ble_eq_true rfl⟩) (rwP_v hP hK hE hD (va_recv hK hP (ci := 9) (q0 := 0) rfl rfl)) rfl rfl hl.1 rfl (lv_room (Nat.le_of_ble_eq_true rfl)) dX8_readsCommand_40 ⟨Nat.le_refl _, Nat.le_refl _⟩) hS hFc (fun H1 locs hPn hk hS => ?_)
    obtain ⟨y40, hy40⟩ : ∃ y_, y_ = (f_X8_readsRest (mTxt M) (mSiz M) y8.2.1 y8.2.2 (upd (mNum M) (4 * (mTol M)) y8.1) ((4 * (mTol M))) (y8.1)) := ⟨_, rfl⟩
    have hPn : va_P D vwCl (mcells C b (mkM (mNow M) (mBef M) (mSav M) (mHis M) (mIsS M) (mRem M) (mErA M) (mFaA M) (mTxt M) (mTyp M) (mLin M) (mLnd M) (mThr M) (mFar M) (mGrp M) (mSiz M) y40.1 y40.2.1 ((mTol M) + 1) y40.2.2)) H1 := by rw [hy40]; exact hPn
    have hz := lt_eq hz hy40
    have hP : va_P D vwCl (mcells C b (mkM (mNow M) (mBef M) (mSav M) (mHis M) (mIsS M) (mRem M) (mErA M) (mFaA M) (mTxt M) (mTyp M) (mLin M) (mLnd M) (mThr M) (mFar M) (mGrp M) (mSiz M) y40.1 y40.2.1 ((mTol M) + 1) y40.2.2)) H1 := hPn
    have hD : va_D A (mcells C b (mkM (mNow M) (mBef M) (mSav M) (mHis M) (mIsS M) (mRem M) (mErA M) (mFaA M) (mTxt M) (mTyp M) (mLin M) (mLnd M) (mThr M) (mFar M) (mGrp M) (mSiz M) y40.1 y40.2.1 ((mTol M) + 1) y40.2.2)) := adr_D hD rfl
    generalize H1 = H at hP hS ⊢
    exact J43 (y40.1) (y40.2.1) (((mTol M) + 1)) (y40.2.2) _ _ ls hz  hP hD hS (lv_sub hl [] rfl)

