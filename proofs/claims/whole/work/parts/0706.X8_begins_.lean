theorem c_X8_begins_ (l : Launch) (D : va_G) (C : Nat → ClassId) (b : Nat → Nat) (M : MS) (sz : Nat) : Met l yX8_begins wsX8_begins ({ frames := 1, cells := 0, slots := 0, locals := 24 } : Room) (rwP [.ref (b 0)] D C (mcells C b M) sz) (rwO none D (mcells C b (mkM (mNow M) (f_X8_copies (mNow M) (mBef M) 0 0) (mSav M) (mHis M) (mIsS M) (mRem M) (mErA M) (mFaA M) (mTxt M) (mTyp M) (mLin M) (mLnd M) (mThr M) (mFar M) (mGrp M) (mSiz M) (mPla M) (mWro M) (mTol M) (mNum M))) (va_A (mcells C b M) sz)) 0 0 (va_A (mcells C b M) sz) := by
  have h := c_X8_begins l D C b M sz
  rw [show (f_X8_begins (mNow M) (mBef M)) = (f_X8_copies (mNow M) (mBef M) 0 0) from by unfold f_X8_begins; exact lt_eq rfl rfl] at h
  exact h

