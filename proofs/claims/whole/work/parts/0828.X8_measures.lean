def f_X8_measures_j137  (far0_137 : (Nat → Int32)) : Sum (Sum ((Nat → Int32)) ((Nat → Int32))) ((Nat → Int32)) := (Sum.inr far0_137)
def f_X8_measures_l41b (nw : (Nat → Int32)) (k41 : Nat) (far0_41 : (Nat → Int32)) : Sum (Sum ((Nat → Int32)) ((Nat → Int32))) ((Nat → Int32)) := (if (f_X8_isDone nw ((nI k41))) = true then (lt_ (f_X8_of nw (nI k41) 0).toNatClampNeg (fun n62 => (lt_ (f_X8_of nw (nI k41) 1).toNatClampNeg (fun n70 => (f_X8_measures_j137 ((upd (upd far0_41 n70 (imin (far0_41 n70) ((far0_41 n62) + (f_X8_of nw ((nI k41)) (2))))) n62 (imin ((upd far0_41 n70 (imin (far0_41 n70) ((far0_41 n62) + (f_X8_of nw ((nI k41)) (2))))) n62) (((upd far0_41 n70 (imin (far0_41 n70) ((far0_41 n62) + (f_X8_of nw ((nI k41)) (2))))) n70) + (f_X8_of nw ((nI k41)) (2))))))))))) else (f_X8_measures_j137 (far0_41)))
def f_X8_measures_l41x (nw : (Nat → Int32)) (far0_41 : (Nat → Int32)) : Sum ((Nat → Int32)) ((Nat → Int32)) := (Sum.inr far0_41)
def f_X8_measures_l41s (nw : (Nat → Int32)) (k41 : Nat) (q_ : (Nat → Int32)) : Sum (Sum ((Nat → Int32)) ((Nat → Int32))) ((Nat → Int32)) := f_X8_measures_l41b nw k41 (q_)
def f_X8_measures_l41e (nw : (Nat → Int32)) (q_ : (Nat → Int32)) : Sum ((Nat → Int32)) ((Nat → Int32)) := f_X8_measures_l41x nw (q_)
def f_X8_measures_l41 (nw : (Nat → Int32)) (n41 k41 : Nat) (far0_41 : (Nat → Int32)) : Sum ((Nat → Int32)) ((Nat → Int32)) := lpF (f_X8_measures_l41s nw) (f_X8_measures_l41e nw) n41 k41 far0_41
def f_X8_measures_l33b (nw : (Nat → Int32)) (k33 : Nat) (far0_33 : (Nat → Int32)) : Sum ((Nat → Int32)) ((Nat → Int32)) := (f_X8_measures_l41 nw (mS nw) 0 (far0_33))
def f_X8_measures_l33x (nw : (Nat → Int32)) (far0_33 : (Nat → Int32)) : (Nat → Int32) := far0_33
def f_X8_measures_l33s (nw : (Nat → Int32)) (k33 : Nat) (q_ : (Nat → Int32)) : Sum ((Nat → Int32)) ((Nat → Int32)) := f_X8_measures_l33b nw k33 (q_)
def f_X8_measures_l33e (nw : (Nat → Int32)) (q_ : (Nat → Int32)) : (Nat → Int32) := f_X8_measures_l33x nw (q_)
def f_X8_measures_l33 (nw : (Nat → Int32)) (n33 k33 : Nat) (far0_33 : (Nat → Int32)) : (Nat → Int32) := lpF (f_X8_measures_l33s nw) (f_X8_measures_l33e nw) n33 k33 far0_33
def f_X8_measures_j24  (s0_24 : Int32) (s1_24 : Nat) (far0_24 : (Nat → Int32)) : Sum ((Nat → Int32)) ((Nat → Int32)) := (Sum.inr (upd far0_24 s1_24 s0_24))
def f_X8_measures_l2b (nw : (Nat → Int32)) (x : Int32) (k2 : Nat) (far0_2 : (Nat → Int32)) : Sum ((Nat → Int32)) ((Nat → Int32)) := (if (nI k2) = x then (f_X8_measures_j24 (0) (k2) (far0_2)) else (f_X8_measures_j24 (1000000) (k2) (far0_2)))
def f_X8_measures_l2x (nw : (Nat → Int32)) (x : Int32) (far0_2 : (Nat → Int32)) : (Nat → Int32) := (f_X8_measures_l33 nw (8) 0 (far0_2))
def f_X8_measures_l2s (nw : (Nat → Int32)) (x : Int32) (k2 : Nat) (q_ : (Nat → Int32)) : Sum ((Nat → Int32)) ((Nat → Int32)) := f_X8_measures_l2b nw x k2 (q_)
def f_X8_measures_l2e (nw : (Nat → Int32)) (x : Int32) (q_ : (Nat → Int32)) : (Nat → Int32) := f_X8_measures_l2x nw x (q_)
def f_X8_measures_l2 (nw : (Nat → Int32)) (x : Int32) (n2 k2 : Nat) (far0_2 : (Nat → Int32)) : (Nat → Int32) := lpF (f_X8_measures_l2s nw x) (f_X8_measures_l2e nw x) n2 k2 far0_2
def f_X8_measures (nw : (Nat → Int32)) (fr : (Nat → Int32)) (x : Int32) : (Nat → Int32) := (f_X8_measures_l2 nw x (8) 0 (fr))
set_option maxHeartbeats 4000000 in
set_option maxRecDepth 100000 in
theorem c_X8_measures (l : Launch) (D : va_G) (C : Nat → ClassId) (b : Nat → Nat) (M : MS) (x : Int32) (sz : Nat) (hM : MSafe M) : Met l yX8_measures wsX8_measures ({ frames := 4, cells := 0, slots := 0, locals := 86 } : Room) (rwP [.ref (b 0), .int x] D C (mcells C b M) sz) (rwO none D (mcells C b (mkM (mNow M) (mBef M) (mSav M) (mHis M) (mIsS M) (mRem M) (mErA M) (mFaA M) (mTxt M) (mTyp M) (mLin M) (mLnd M) (mThr M) ((f_X8_measures (mNow M) (mFar M) x)) (mGrp M) (mSiz M) (mPla M) (mWro M) (mTol M) (mNum M))) (va_A (mcells C b M) sz)) 0 0 (va_A (mcells C b M) sz) := by
  sorry
