def f_X8_floods_j28  (v2_28 : Int32) (now0_28 : (Nat → Int32)) (thr0_28 : Int32) : Int32 × (Nat → Int32) × Int32 := (v2_28, now0_28, thr0_28)
def f_X8_floods (nw : (Nat → Int32)) (x : Int32) : Int32 × (Nat → Int32) × Int32 := (if (f_X8_isIn (x) (0) (9)) = true then (f_X8_floods_j28 ((nw 0)) ((upd nw 0 x)) ((gThr (f_X8_isIn (x) (0) (9))))) else (f_X8_floods_j28 ((nw 0)) (nw) ((gThr (f_X8_isIn (x) (0) (9))))))
set_option maxHeartbeats 4000000 in
set_option maxRecDepth 100000 in
theorem c_X8_floods (l : Launch) (D : va_G) (C : Nat → ClassId) (b : Nat → Nat) (M : MS) (x : Int32) (sz : Nat) : Met l yX8_floods wsX8_floods ({ frames := 2, cells := 0, slots := 0, locals := 45 } : Room) (rwP [.ref (b 0), .int x] D C (mcells C b M) sz) (rwO (some (.int ((f_X8_floods (mNow M) x).1))) D (mcells C b (mkM ((f_X8_floods (mNow M) x).2.1) (mBef M) (mSav M) (mHis M) (mIsS M) (mRem M) (mErA M) (mFaA M) (mTxt M) (mTyp M) (mLin M) (mLnd M) ((f_X8_floods (mNow M) x).2.2) (mFar M) (mGrp M) (mSiz M) (mPla M) (mWro M) (mTol M) (mNum M))) (va_A (mcells C b M) sz)) 0 0 (va_A (mcells C b M) sz) := by
  refine Met.ofW (cc := cX8_floods) (maxL := 3) (ret := (some .int)) (by decide) rfl ?_
  intro p e s m args below meth c s₁ B hml hv
  obtain ⟨rfl, hsz, hP, hK, hD0, hE⟩ := hv
  have hx := B.exec
  have hb := B.bytes
  have hr := B.returns
  have hts := atoms_spec (ws := wsX8_floods) B.pre
  have hown : s.vm.findClass RX8 = some m.cls := findClass_of_methodNamed B.named
  have hlocks := B.notSynchronized
  subst hsz
  have hD := hD0.self (sz := s.heap.size)
  generalize hAe : va_A (mcells C b M) s.heap.size = A at hD ⊢
  have hA : ∀ q : Nat, s.heap.size ≤ q → A q := fun q h => by rw [← hAe]; exact Or.inr h
  have hS0 : va_S A s.heap s.heap [] := va_S.rf
  have hP : va_P D vwCl (mcells C b M) s.heap := hP
  have hS := hS0
  have hinX8 : ∀ w ∈ u_ws RX8 TX8 20, w ∈ wsX8_floods := by decide +kernel
  have hl := lv_entry ([.ref (b 0), .int x]) (n := 3) (Nat.le_of_ble_eq_true rfl)
  rw [lg_entry_eq]
  generalize (lg_sl ([.ref (b 0), .int x]) ++ List.replicate (3 - (lg_sl ([.ref (b 0), .int x])).length) Slot.unset).toArray = ls at hl ⊢
  have hl : lv_has ls 3 [(0, .ref (b 0)), (1, .int x)] := hl
  obtain ⟨z, hz⟩ : ∃ z, z = f_X8_floods (mNow M) x := ⟨_, rfl⟩
  rw [← hz]
  have J28 : ∀ (v2_28 : Int32) (now0_28 : (Nat → Int32)) (thr0_28 : Int32)  (H : Heap) (locs : List Loc) (ls : Array Slot), z = f_X8_floods_j28 v2_28 now0_28 thr0_28 → va_P D vwCl (mcells C b (mkM now0_28 (mBef M) (mSav M) (mHis M) (mIsS M) (mRem M) (mErA M) (mFaA M) (mTxt M) (mTyp M) (mLin M) (mLnd M) thr0_28 (mFar M) (mGrp M) (mSiz M) (mPla M) (mWro M) (mTol M) (mNum M))) H → va_D A (mcells C b (mkM now0_28 (mBef M) (mSav M) (mHis M) (mIsS M) (mRem M) (mErA M) (mFaA M) (mTxt M) (mTyp M) (mLin M) (mLnd M) thr0_28 (mFar M) (mGrp M) (mSiz M) (mPla M) (mWro M) (mTol M) (mNum M))) → va_S A s.heap H locs → lv_has ls 3 [(2, .int v2_28)] → W p l e ({ frames := 2, cells := 0, slots := 0, locals := 45 } : Room) s m ([.ref (b 0), .int x] : List Value).toArray below meth c H locs 0 0 (MQ below (rwO (some (.int z.1)) D (mcells C b (mkM z.2.1 (mBef M) (mSav M) (mHis M) (mIsS M) (mRem M) (mErA M) (mFaA M) (mTxt M) (mTyp M) (mLin M) (mLnd M) z.2.2 (mFar M) (mGrp M) (mSiz M) (mPla M) (mWro M) (mTol M) (mNum M))) A) ([.ref (b 0), .int x] : List Value).toArray s 0 0 A) (F0 m 28 ls []) := by
    intro v2_28 now0_28 thr0_28 H locs ls hz  hP hD hS hl
    refine lv_iload_n hx hb dX8_floods_28 rfl (lv_at hl 0 rfl) ?_
    have hz : z = (v2_28, now0_28, thr0_28) := hz
    rw [hz]
    exact rw_ret hx hb hr hP hS rfl dX8_floods_29 hlocks
  refine lv_aload_n hx hb dX8_floods_0 rfl (lv_at hl 0 rfl) ?_
  refine va_get (D := D) (ci := 9) (v := .ref (b 1)) (C := RX8) (T := TX8) (N := 20) hx hb hts hinX8 hown hK hP 0 rfl rfl 0 (by decide) (hts (.fieldLink RX8 9 "BridgeAuctionModel" "now" "[I") (by decide +kernel)) (fun _ h9 => h9) rfl dX8_floods_1 ?_
  refine lv_iconst (v := 0) hx hb dX8_floods_4 (by decide) ?_
  refine topN (k := 0) (by decide +kernel) ?_
  refine ialdN (tys := tyA C) hx hb hK hP 1 0 rfl rfl (i := 0) (by omega) (by decide) dX8_floods_5 ?_
  refine lv_istore_n (lv' := [(2, .int ((mNow M) 0)), (0, .ref (b 0)), (1, .int x)]) hx hb dX8_floods_6 rfl hl (by decide) rfl (fun ls hl => ?_)
  refine lv_aload_n hx hb dX8_floods_7 rfl (lv_at hl 1 rfl) ?_
  refine lv_iload_n hx hb dX8_floods_8 rfl (lv_at hl 2 rfl) ?_
  refine lv_iconst (v := 0) hx hb dX8_floods_9 (by decide) ?_
  refine lv_bipush (v := 9) hx hb dX8_floods_10 (by decide +kernel) ?_
  refine callRo (va_runS (As := [.int x, .int 0, .int 9]) (rest := [.ref (b 0)]) ⟨hx, hb, hml, hown, hts⟩ (c_X8_isIn l D C (x) (0) (9)) (va_cwS 3 hts gX8_floods_X8_isIn rfl rfl rfl (by decide +kernel) ⟨Nat.le_of_ble_eq_true rfl, Nat.le_of_ble_eq_true rfl⟩) (roP_s (hP.sub (ws' := ([] : va_W)) [] rfl) hK hE) rfl rfl hl.1 rfl (lv_room (Nat.le_of_ble_eq_true rfl)) dX8_floods_12 ⟨Nat.le_refl _, Nat.le_refl _⟩) ?_
  have hFc := va_free (wc := (mcells C b M)) hD hS hA [0, 1, 2, 3, 4, 5, 6, 7, 8, 9] rfl
  refine callRw (va_runV (As := [.int (bI (f_X8_isIn (x) (0) (9)))]) (rest := []) ⟨hx, hb, hml, hown, hts⟩ (c_X8_goes_ l D C b M ((f_X8_isIn (x) (0) (9))) _) (cwV 1 hts gX8_floods_X8_goes rfl rfl rfl (by decide +kernel) ⟨Nat.le_of_ble_eq_true rfl, Nat.le_of_ble_eq_true rfl⟩) (rwP_v hP hK hE hD (va_recv hK hP (ci := 9) (q0 := 0) rfl rfl)) rfl rfl hl.1 rfl (lv_room (Nat.le_of_ble_eq_true rfl)) dX8_floods_15 ⟨Nat.le_refl _, Nat.le_refl _⟩) hS hFc (fun H1 locs hPn hk hS => ?_)
  have hP : va_P D vwCl (mcells C b (mkM (mNow M) (mBef M) (mSav M) (mHis M) (mIsS M) (mRem M) (mErA M) (mFaA M) (mTxt M) (mTyp M) (mLin M) (mLnd M) (gThr (f_X8_isIn (x) (0) (9))) (mFar M) (mGrp M) (mSiz M) (mPla M) (mWro M) (mTol M) (mNum M))) H1 := hPn
  have hD : va_D A (mcells C b (mkM (mNow M) (mBef M) (mSav M) (mHis M) (mIsS M) (mRem M) (mErA M) (mFaA M) (mTxt M) (mTyp M) (mLin M) (mLnd M) (gThr (f_X8_isIn (x) (0) (9))) (mFar M) (mGrp M) (mSiz M) (mPla M) (mWro M) (mTol M) (mNum M))) := adr_D hD rfl
  generalize H1 = H at hP hS ⊢
  refine topI (y := (bI (f_X8_isIn (x) (0) (9)))) rfl ?_
  refine bif_eq (tgt := 28) hx hb dX8_floods_18 (by decide) (fun c_18 => ?_) (fun c_18 => ?_)
  · have hz := hz.trans (ifB_f c_18)
    exact J28 (((mNow M) 0)) ((mNow M)) ((gThr (f_X8_isIn (x) (0) (9)))) _ _ ls hz  hP hD hS (lv_sub hl [0] rfl)
  · have hz := hz.trans (ifB_t c_18)
    refine lv_aload_n hx hb dX8_floods_21 rfl (lv_at hl 1 rfl) ?_
    refine va_get (D := D) (ci := 9) (v := .ref (b 1)) (C := RX8) (T := TX8) (N := 20) hx hb hts hinX8 hown hK hP 0 rfl rfl 0 (by decide) (hts (.fieldLink RX8 9 "BridgeAuctionModel" "now" "[I") (by decide +kernel)) (fun _ h9 => h9) rfl dX8_floods_22 ?_
    refine lv_iconst (v := 0) hx hb dX8_floods_25 (by decide) ?_
    refine lv_iload_n hx hb dX8_floods_26 rfl (lv_at hl 2 rfl) ?_
    refine topN2 (k := 0) (by decide +kernel) ?_
    refine iastN (tys := tyA C) hx hb hK hP hD hS 1 0 rfl rfl (i := 0) (by omega) (by decide) dX8_floods_27 (fun H locs hP hD hS => ?_)
    have hP : va_P D vwCl (mcells C b (mkM (upd (mNow M) 0 x) (mBef M) (mSav M) (mHis M) (mIsS M) (mRem M) (mErA M) (mFaA M) (mTxt M) (mTyp M) (mLin M) (mLnd M) (gThr (f_X8_isIn (x) (0) (9))) (mFar M) (mGrp M) (mSiz M) (mPla M) (mWro M) (mTol M) (mNum M))) H := hP
    have hD : va_D A (mcells C b (mkM (upd (mNow M) 0 x) (mBef M) (mSav M) (mHis M) (mIsS M) (mRem M) (mErA M) (mFaA M) (mTxt M) (mTyp M) (mLin M) (mLnd M) (gThr (f_X8_isIn (x) (0) (9))) (mFar M) (mGrp M) (mSiz M) (mPla M) (mWro M) (mTol M) (mNum M))) := hD
    exact J28 (((mNow M) 0)) ((upd (mNow M) 0 x)) ((gThr (f_X8_isIn (x) (0) (9)))) _ _ ls hz  hP hD hS (lv_sub hl [0] rfl)

