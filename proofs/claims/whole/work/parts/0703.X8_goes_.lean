theorem X8_goes_eq (c1 : Bool) : f_X8_goes c1 = (c1, gThr c1) := by cases c1 <;> rfl

theorem c_X8_goes_ (l : Launch) (D : va_G) (C : Nat → ClassId) (b : Nat → Nat) (M : MS) (c1 : Bool) (sz : Nat) : Met l yX8_goes wsX8_goes ({ frames := 1, cells := 0, slots := 0, locals := 24 } : Room) (rwP [.ref (b 0), .int (bI c1)] D C (mcells C b M) sz) (rwO (some (.int (bI c1))) D (mcells C b (mkM (mNow M) (mBef M) (mSav M) (mHis M) (mIsS M) (mRem M) (mErA M) (mFaA M) (mTxt M) (mTyp M) (mLin M) (mLnd M) (gThr c1) (mFar M) (mGrp M) (mSiz M) (mPla M) (mWro M) (mTol M) (mNum M))) (va_A (mcells C b M) sz)) 0 0 (va_A (mcells C b M) sz) := by
  have h := c_X8_goes l D C b M c1 sz
  rw [show (f_X8_goes c1) = (c1, (gThr c1)) from X8_goes_eq _] at h
  exact h

