/-! the relation is kept -/
section
variable {Q : QS} {G : GS} {S : HS} {Sc : SS} {G1 G2 : GS} {T : TX} {Rr : GR} {M : MS}
theorem REL_aux (h : REL Q G S Sc G1 G2 T Rr M) {Rr' : GR} (hR : RSafe Rr') (bf : Nat → Int32) (t : Int32) (fr gp : Nat → Int32) (si pl : Nat) (wr : Int32) (tl : Nat) (nm : Nat → Int32) : REL Q G S Sc G1 G2 T Rr' (mkM (mNow M) bf (mSav M) (mHis M) (mIsS M) (mRem M) (mErA M) (mFaA M) (mTxt M) (mTyp M) (mLin M) (mLnd M) t fr gp si pl wr tl nm) :=
  ⟨h.1, h.2.1, h.2.2.1, h.2.2.2.1, h.2.2.2.2.1, h.2.2.2.2.2.1, h.2.2.2.2.2.2.1, hR⟩
theorem REL_ch (h : REL Q G S Sc G1 G2 T Rr M) {L : List Nat} {A : Nat × Int32 × GS × HS} {B : Int32 × (Nat → Int32) × (Nat → Int32) × (Nat → Int32) × Nat × Int32} (c : CH L A B) : REL Q A.2.2.1 A.2.2.2 Sc G1 G2 T Rr (mkM B.2.1 B.2.2.1 (mSav M) B.2.2.2.1 (mIsS M) B.2.2.2.2.1 (mErA M) (mFaA M) (mTxt M) (mTyp M) (mLin M) (mLnd M) B.2.2.2.2.2 (mFar M) (mGrp M) (mSiz M) (mPla M) (mWro M) (mTol M) (mNum M)) :=
  ⟨c.2.2.2.1, c.2.2.2.2, h.2.2⟩
theorem REL_chB (h : REL Q G S Sc G1 G2 T Rr M) {L : List Nat} {A : Nat × Bool × GS × HS} {B : Bool × (Nat → Int32) × (Nat → Int32) × (Nat → Int32) × Nat × Int32} (c : CHB L A B) : REL Q A.2.2.1 A.2.2.2 Sc G1 G2 T Rr (mkM B.2.1 B.2.2.1 (mSav M) B.2.2.2.1 (mIsS M) B.2.2.2.2.1 (mErA M) (mFaA M) (mTxt M) (mTyp M) (mLin M) (mLnd M) B.2.2.2.2.2 (mFar M) (mGrp M) (mSiz M) (mPla M) (mWro M) (mTol M) (mNum M)) :=
  ⟨c.2.2.2.1, c.2.2.2.2, h.2.2⟩
theorem REL_undo (h : REL Q G S Sc G1 G2 T Rr M) (t : Int32) : REL Q (f_X7_undo Q G S).2.2.1 (f_X7_undo Q G S).2.2.2 Sc G1 G2 T Rr (mkM (f_X8_undo (mNow M) (mHis M) (mRem M)).2.1 (mBef M) (mSav M) (mHis M) (mIsS M) (f_X8_undo (mNow M) (mHis M) (mRem M)).2.2.1 (mErA M) (mFaA M) (mTxt M) (mTyp M) (mLin M) (mLnd M) t (mFar M) (mGrp M) (mSiz M) (mPla M) (mWro M) (mTol M) (mNum M)) := by
  obtain ⟨_, _, _, b4, b5⟩ := b_undo (Q := Q) h.1 h.2.1
  exact ⟨b4, b5, h.2.2⟩
theorem REL_save (h : REL Q G S Sc G1 G2 T Rr M) (t : Int32) : REL (f_X7_save Q G G1).2.2.1 G S Sc (f_X7_save Q G G1).2.2.2 G2 T Rr (mkM (mNow M) (mBef M) (f_X8_save (mNow M) (mSav M)).2.1 (mHis M) (f_X8_save (mNow M) (mSav M)).2.2.1 (mRem M) (mErA M) (mFaA M) (mTxt M) (mTyp M) (mLin M) (mLnd M) t (mFar M) (mGrp M) (mSiz M) (mPla M) (mWro M) (mTol M) (mNum M)) := by
  obtain ⟨_, _, _, b4, b5, b6⟩ := b_save (Q := Q) (sv := mSav M) h.1 h.2.2.1.2.2
  obtain ⟨r1, r2, r3, r4, r5, r6⟩ := h
  generalize f_X8_save (mNow M) (mSav M) = B at b4 b6 ⊢
  generalize f_X7_save Q G G1 = A at b5 b6 ⊢
  refine ⟨r1, r2, ⟨?_, fun _ => b6, GI_safe b6.1⟩, r4, ?_, r6⟩
  · rw [b5]; exact b4.symm
  · rw [b5]; exact r5
theorem REL_restore (h : REL Q G S Sc G1 G2 T Rr M) (t : Int32) : REL (f_X7_restore Q G G1 S).2.2.1 (f_X7_restore Q G G1 S).2.2.2.1 (f_X7_restore Q G G1 S).2.2.2.2 Sc G1 G2 T Rr (mkM (f_X8_restore (mNow M) (mSav M) (mIsS M) (mRem M)).2.1 (mBef M) (mSav M) (mHis M) (mIsS M) (f_X8_restore (mNow M) (mSav M) (mIsS M) (mRem M)).2.2.1 (mErA M) (mFaA M) (mTxt M) (mTyp M) (mLin M) (mLnd M) t (mFar M) (mGrp M) (mSiz M) (mPla M) (mWro M) (mTol M) (mNum M)) := by
  obtain ⟨_, _, _, b4, b5, b6⟩ := b_restore (Q := Q) h.1 h.2.1 h.2.2.1.1 h.2.2.1.2.2 h.2.2.1.2.1
  rw [b4]
  exact ⟨b5, b6, h.2.2⟩
theorem REL_type (h : REL Q G S Sc G1 G2 T Rr M) (x t : Int32) : REL Q G S (f_X7_type Q Sc x).2.2 G1 G2 T Rr (mkM (mNow M) (mBef M) (mSav M) (mHis M) (mIsS M) (mRem M) (mErA M) (mFaA M) (f_X8_type (mTxt M) (mTyp M) x).2.1 (f_X8_type (mTxt M) (mTyp M) x).2.2.1 (mLin M) (mLnd M) t (mFar M) (mGrp M) (mSiz M) (mPla M) (mWro M) (mTol M) (mNum M)) := by
  obtain ⟨r1, r2, r3, r4, r5, ⟨q1, q2, q3, q4⟩, r7⟩ := h
  obtain ⟨_, _, _, b4, b5, b6, b7⟩ := b_type (Q := Q) q1 q2 q3 x
  exact ⟨r1, r2, r3, r4, r5, ⟨b4, b5, b6, by rw [b7]; exact q4⟩, r7⟩
theorem REL_render (h : REL Q G S Sc G1 G2 T Rr M) {O : OS} (x t : Int32) (hO : OT (f_X7_renderSite Q G T x).2 O) : REL Q G S Sc G1 G2 (f_X7_renderSite Q G T x).2 Rr (mkM (mNow M) (mBef M) (mSav M) (mHis M) (mIsS M) (mRem M) (mErA M) (mFaA M) (mTxt M) (mTyp M) (f_X8_renderSite (mNow M) (mLin M) (mLnd M) x).2.1 (f_X8_renderSite (mNow M) (mLin M) (mLnd M) x).2.2.1 t (mFar M) (mGrp M) (mSiz M) (mPla M) (mWro M) (mTol M) (mNum M)) := by
  obtain ⟨r1, r2, r3, r4, r5, r6, ⟨q1, q2⟩, r8⟩ := h
  obtain ⟨_, _, _, b4⟩ := b_renderSite r1.1 r1.2.1 Q q1 x
  exact ⟨r1, r2, r3, r4, r5, r6, ⟨b4, by have := hO.2.1; rw [b4.1] at this; exact this⟩, r8⟩
end
