theorem c_X8_put_ (l : Launch) (D : va_G) (C : Nat → ClassId) (b : Nat → Nat) (M : MS) (x : Nat) (y : Int32) (sz : Nat) (h_x : x < 60) : Met l yX8_put wsX8_put ({ frames := 0, cells := 0, slots := 0, locals := 0 } : Room) (rwP [.ref (b 0), .int (nI x), .int y] D C (mcells C b M) sz) (rwO (some (.int (nI (x + 1)))) D (mcells C b (mkM (mNow M) (mBef M) (mSav M) (mHis M) (mIsS M) (mRem M) (mErA M) (mFaA M) (mTxt M) (mTyp M) (upd (mLin M) x y) (mLnd M) (mThr M) (mFar M) (mGrp M) (mSiz M) (mPla M) (mWro M) (mTol M) (mNum M))) (va_A (mcells C b M) sz)) 0 0 (va_A (mcells C b M) sz) := by
  have h := c_X8_put l D C b M x y sz h_x
  rw [show (f_X8_put (mLin M) x y) = ((x + 1), (upd (mLin M) x y)) from rfl] at h
  exact h

