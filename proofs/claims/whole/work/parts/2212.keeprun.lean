theorem REL_run {Q : QS} {G : GS} {S : HS} {Sc : SS} {G1 G2 : GS} {T : TX} {Rr : GR} {M : MS} (h : REL Q G S Sc G1 G2 T Rr M) (t : Int32) (nm tx2 : Nat → Int32) (tl pl si : Nat) (wr : Int32) : REL (f_X7_runScript Q G S Sc G2).2.2.1 (f_X7_runScript Q G S Sc G2).2.2.2.1 (f_X7_runScript Q G S Sc G2).2.2.2.2.1 (f_X7_runScript Q G S Sc G2).2.2.2.2.2.1 G1 (f_X7_runScript Q G S Sc G2).2.2.2.2.2.2 T Rr (mkM (f_X8_runScript (mNow M) (mBef M) (mHis M) (mRem M) (mErA M) (mFaA M) (mTxt M) (mTyp M) (mNum M)).2.1 (f_X8_runScript (mNow M) (mBef M) (mHis M) (mRem M) (mErA M) (mFaA M) (mTxt M) (mTyp M) (mNum M)).2.2.1 (mSav M) (f_X8_runScript (mNow M) (mBef M) (mHis M) (mRem M) (mErA M) (mFaA M) (mTxt M) (mTyp M) (mNum M)).2.2.2.1 (mIsS M) (f_X8_runScript (mNow M) (mBef M) (mHis M) (mRem M) (mErA M) (mFaA M) (mTxt M) (mTyp M) (mNum M)).2.2.2.2.1 (f_X8_runScript (mNow M) (mBef M) (mHis M) (mRem M) (mErA M) (mFaA M) (mTxt M) (mTyp M) (mNum M)).2.2.2.2.2.1 (f_X8_runScript (mNow M) (mBef M) (mHis M) (mRem M) (mErA M) (mFaA M) (mTxt M) (mTyp M) (mNum M)).2.2.2.2.2.2.1 tx2 (f_X8_runScript (mNow M) (mBef M) (mHis M) (mRem M) (mErA M) (mFaA M) (mTxt M) (mTyp M) (mNum M)).2.2.2.2.2.2.2.1 (mLin M) (mLnd M) t (mFar M) (mGrp M) si pl wr tl nm) := by
  obtain ⟨r1, r2, r3, r4, ⟨e1, e2⟩, ⟨q1, q2, q3, q4⟩, r7⟩ := h
  have k := b_runScript (Q := Q) (G2 := G2) (Sc := Sc) (nm := mNum M) (bf := mBef M) r1 r2 r4 q1 q2 q3 q4
  rw [e1, e2] at k
  generalize f_X8_runScript (mNow M) (mBef M) (mHis M) (mRem M) (mErA M) (mFaA M) (mTxt M) (mTyp M) (mNum M) = B at k ⊢
  generalize f_X7_runScript Q G S Sc G2 = A at k ⊢
  obtain ⟨_, _, _, k4, k5, k6, k7, k8, ⟨k9, k10, k11⟩, k12⟩ := k
  refine ⟨k4, k5, ⟨k6.trans r3.1, r3.2⟩, k12, ⟨k7, k8⟩, ⟨k9.trans k10.symm, ?_, fun j hj => ?_, k11⟩, r7⟩
  · show B.2.2.2.2.2.2.2.1 ≤ 60
    rw [k10]; decide
  · have hj : j < B.2.2.2.2.2.2.2.1 := hj
    rw [k10] at hj
    exact absurd hj (Nat.not_lt_zero j)
