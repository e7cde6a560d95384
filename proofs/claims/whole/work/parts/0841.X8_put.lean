def f_X8_put (li : (Nat → Int32)) (x : Nat) (y : Int32) : Nat × (Nat → Int32) := ((x + 1), (upd li x y))
set_option maxHeartbeats 4000000 in
set_option maxRecDepth 100000 in
theorem c_X8_put (l : Launch) (D : va_G) (C : Nat → ClassId) (b : Nat → Nat) (M : MS) (x : Nat) (y : Int32) (sz : Nat) (h_x : x < 60) : Met l yX8_put wsX8_put ({ frames := 0, cells := 0, slots := 0, locals := 0 } : Room) (rwP [.ref (b 0), .int (nI x), .int y] D C (mcells C b M) sz) (rwO (some (.int (nI ((f_X8_put (mLin M) x y).1)))) D (mcells C b (mkM (mNow M) (mBef M) (mSav M) (mHis M) (mIsS M) (mRem M) (mErA M) (mFaA M) (mTxt M) (mTyp M) ((f_X8_put (mLin M) x y).2) (mLnd M) (mThr M) (mFar M) (mGrp M) (mSiz M) (mPla M) (mWro M) (mTol M) (mNum M))) (va_A (mcells C b M) sz)) 0 0 (va_A (mcells C b M) sz) := by
  refine Met.ofW (cc := cX8_put) (maxL := 3) (ret := (some .int)) (by decide) rfl ?_
  intro p e s m args below meth c s₁ B hml hv
  obtain ⟨rfl, hsz, hP, hK, hD0, hE⟩ := hv
  have hx := B.exec
  have hb := B.bytes
  have hr := B.returns
  have hts := atoms_spec (ws := wsX8_put) B.pre
  have hown : s.vm.findClass RX8 = some m.cls := findClass_of_methodNamed B.named
  have hlocks := B.notSynchronized
  subst hsz
  have hD := hD0.self (sz := s.heap.size)
  generalize hAe : va_A (mcells C b M) s.heap.size = A at hD ⊢
  have hA : ∀ q : Nat, s.heap.size ≤ q → A q := fun q h => by rw [← hAe]; exact Or.inr h
  have hS0 : va_S A s.heap s.heap [] := va_S.rf
  have hP : va_P D vwCl (mcells C b M) s.heap := hP
  have hS := hS0
  have hinX8 : ∀ w ∈ u_ws RX8 TX8 20, w ∈ wsX8_put := by decide +kernel
  have hl := lv_entry ([.ref (b 0), .int (nI x), .int y]) (n := 3) (Nat.le_of_ble_eq_true rfl)
  rw [lg_entry_eq]
  generalize (lg_sl ([.ref (b 0), .int (nI x), .int y]) ++ List.replicate (3 - (lg_sl ([.ref (b 0), .int (nI x), .int y])).length) Slot.unset).toArray = ls at hl ⊢
  have hl : lv_has ls 3 [(0, .ref (b 0)), (1, .int (nI x)), (2, .int y)] := hl
  obtain ⟨z, hz⟩ : ∃ z, z = f_X8_put (mLin M) x y := ⟨_, rfl⟩
  rw [← hz]
  refine lv_aload_n hx hb dX8_put_0 rfl (lv_at hl 0 rfl) ?_
  refine va_get (D := D) (ci := 9) (v := .ref (b 6)) (C := RX8) (T := TX8) (N := 20) hx hb hts hinX8 hown hK hP 0 rfl rfl 10 (by decide) (hts (.fieldLink RX8 32 "BridgeAuctionModel" "line" "[I") (by decide +kernel)) (fun _ h9 => h9) rfl dX8_put_1 ?_
  refine lv_iload_n hx hb dX8_put_4 rfl (lv_at hl 1 rfl) ?_
  refine lv_iload_n hx hb dX8_put_5 rfl (lv_at hl 2 rfl) ?_
  refine iastN (tys := tyA C) hx hb hK hP hD hS 6 0 rfl rfl (i := x) (by omega) (by decide) dX8_put_6 (fun H locs hP hD hS => ?_)
  have hP : va_P D vwCl (mcells C b (mkM (mNow M) (mBef M) (mSav M) (mHis M) (mIsS M) (mRem M) (mErA M) (mFaA M) (mTxt M) (mTyp M) (upd (mLin M) x y) (mLnd M) (mThr M) (mFar M) (mGrp M) (mSiz M) (mPla M) (mWro M) (mTol M) (mNum M))) H := hP
  have hD : va_D A (mcells C b (mkM (mNow M) (mBef M) (mSav M) (mHis M) (mIsS M) (mRem M) (mErA M) (mFaA M) (mTxt M) (mTyp M) (upd (mLin M) x y) (mLnd M) (mThr M) (mFar M) (mGrp M) (mSiz M) (mPla M) (mWro M) (mTol M) (mNum M))) := hD
  refine lv_iload_n hx hb dX8_put_7 rfl (lv_at hl 1 rfl) ?_
  refine lv_iconst (v := 1) hx hb dX8_put_8 (by decide) ?_
  refine topN (k := 1) (by decide +kernel) ?_
  refine addN hx hb dX8_put_9 ?_
  have hz : z = ((x + 1), (upd (mLin M) x y)) := hz
  rw [hz]
  exact rw_ret hx hb hr hP hS rfl dX8_put_10 hlocks

