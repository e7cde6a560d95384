theorem X8_holds_eq (c1 c2 c3 c4 : Bool) : f_X8_holds c1 c2 c3 c4 = (hOk c1 c2 c3 c4, hThr c1 c2 c3 c4) := by
  cases c1 <;> cases c2 <;> cases c3 <;> cases c4 <;> rfl

theorem c_X8_holds_ (l : Launch) (D : va_G) (C : Nat → ClassId) (b : Nat → Nat) (M : MS) (c1 : Bool) (c2 : Bool) (c3 : Bool) (c4 : Bool) (sz : Nat) : Met l yX8_holds wsX8_holds ({ frames := 0, cells := 0, slots := 0, locals := 0 } : Room) (rwP [.ref (b 0), .int (bI c1), .int (bI c2), .int (bI c3), .int (bI c4)] D C (mcells C b M) sz) (rwO (some (.int (bI (hOk c1 c2 c3 c4)))) D (mcells C b (mkM (mNow M) (mBef M) (mSav M) (mHis M) (mIsS M) (mRem M) (mErA M) (mFaA M) (mTxt M) (mTyp M) (mLin M) (mLnd M) (hThr c1 c2 c3 c4) (mFar M) (mGrp M) (mSiz M) (mPla M) (mWro M) (mTol M) (mNum M))) (va_A (mcells C b M) sz)) 0 0 (va_A (mcells C b M) sz) := by
  have h := c_X8_holds l D C b M c1 c2 c3 c4 sz
  rw [show (f_X8_holds c1 c2 c3 c4) = ((hOk c1 c2 c3 c4), (hThr c1 c2 c3 c4)) from X8_holds_eq _ _ _ _] at h
  exact h

