def f_X8_settles_j255  (s0_255 : Bool) (now0_255 : (Nat → Int32)) (thr0_255 : Int32) : Int32 × (Nat → Int32) × Int32 := ((bI s0_255), now0_255, thr0_255)
def f_X8_settles_j244  (v4_244 : Bool) (s0_244 : Int32) (s1_244 : Nat) (now0_244 : (Nat → Int32)) (thr0_244 : Int32) : Int32 × (Nat → Int32) × Int32 := (if v4_244 = true then (f_X8_settles_j255 (true) ((upd now0_244 s1_244 s0_244)) (thr0_244)) else (f_X8_settles_j255 (false) ((upd now0_244 s1_244 s0_244)) (thr0_244)))
def f_X8_settles_j222 (x : Int32) (v2_222 : Nat) (v4_222 : Bool) (s0_222 : Bool) (s1_222 : Int32) (now0_222 : (Nat → Int32)) (thr0_222 : Int32) : Int32 × (Nat → Int32) × Int32 := (if v4_222 = true then (f_X8_settles_j244 (v4_222) ((nI v2_222)) (((22 + 13 * x.toNatClampNeg) + 3)) ((upd now0_222 5 (s1_222 + (bI s0_222)))) (thr0_222)) else (f_X8_settles_j244 (v4_222) ((-1)) (((22 + 13 * x.toNatClampNeg) + 3)) ((upd now0_222 5 (s1_222 + (bI s0_222)))) (thr0_222)))
def f_X8_settles_j167 (x : Int32) (v2_167 : Nat) (v3_167 : Bool) (v4_167 : Bool) (s0_167 : Int32) (now0_167 : (Nat → Int32)) (thr0_167 : Int32) : Int32 × (Nat → Int32) × Int32 := (if v3_167 = true then (f_X8_settles_j222 x (v2_167) (v4_167) (true) (((upd (upd (upd now0_167 ((14 + 2 * v2_167) + 0) ((now0_167 ((14 + 2 * v2_167) + 0)) - s0_167)) 3 (((upd now0_167 ((14 + 2 * v2_167) + 0) ((now0_167 ((14 + 2 * v2_167) + 0)) - s0_167)) 3) + s0_167)) 4 (((upd (upd now0_167 ((14 + 2 * v2_167) + 0) ((now0_167 ((14 + 2 * v2_167) + 0)) - s0_167)) 3 (((upd now0_167 ((14 + 2 * v2_167) + 0) ((now0_167 ((14 + 2 * v2_167) + 0)) - s0_167)) 3) + s0_167)) 4) + 1)) 5)) ((upd (upd (upd now0_167 ((14 + 2 * v2_167) + 0) ((now0_167 ((14 + 2 * v2_167) + 0)) - s0_167)) 3 (((upd now0_167 ((14 + 2 * v2_167) + 0) ((now0_167 ((14 + 2 * v2_167) + 0)) - s0_167)) 3) + s0_167)) 4 (((upd (upd now0_167 ((14 + 2 * v2_167) + 0) ((now0_167 ((14 + 2 * v2_167) + 0)) - s0_167)) 3 (((upd now0_167 ((14 + 2 * v2_167) + 0) ((now0_167 ((14 + 2 * v2_167) + 0)) - s0_167)) 3) + s0_167)) 4) + 1))) (thr0_167)) else (f_X8_settles_j222 x (v2_167) (v4_167) (false) (((upd (upd (upd now0_167 ((14 + 2 * v2_167) + 0) ((now0_167 ((14 + 2 * v2_167) + 0)) - s0_167)) 3 (((upd now0_167 ((14 + 2 * v2_167) + 0) ((now0_167 ((14 + 2 * v2_167) + 0)) - s0_167)) 3) + s0_167)) 4 (((upd (upd now0_167 ((14 + 2 * v2_167) + 0) ((now0_167 ((14 + 2 * v2_167) + 0)) - s0_167)) 3 (((upd now0_167 ((14 + 2 * v2_167) + 0) ((now0_167 ((14 + 2 * v2_167) + 0)) - s0_167)) 3) + s0_167)) 4) + 1)) 5)) ((upd (upd (upd now0_167 ((14 + 2 * v2_167) + 0) ((now0_167 ((14 + 2 * v2_167) + 0)) - s0_167)) 3 (((upd now0_167 ((14 + 2 * v2_167) + 0) ((now0_167 ((14 + 2 * v2_167) + 0)) - s0_167)) 3) + s0_167)) 4 (((upd (upd now0_167 ((14 + 2 * v2_167) + 0) ((now0_167 ((14 + 2 * v2_167) + 0)) - s0_167)) 3 (((upd now0_167 ((14 + 2 * v2_167) + 0) ((now0_167 ((14 + 2 * v2_167) + 0)) - s0_167)) 3) + s0_167)) 4) + 1))) (thr0_167)))
def f_X8_settles_l94b (x : Int32) (k94 : Nat) (v2_94 : Nat) (v3_94 : Bool) (v4_94 : Bool) (v5_94 : Int32) (now0_94 : (Nat → Int32)) (thr0_94 : Int32) : Sum (Int32 × (Nat → Int32) × Int32) (Nat × Bool × Bool × Int32 × (Nat → Int32) × Int32) := (Sum.inr (v2_94, v3_94, v4_94, v5_94, (upd (upd now0_94 (((22 + 13 * x.toNatClampNeg) + 5) + k94) 0) (((22 + 13 * x.toNatClampNeg) + 9) + k94) 0), thr0_94))
def f_X8_settles_l94x (x : Int32) (v2_94 : Nat) (v3_94 : Bool) (v4_94 : Bool) (v5_94 : Int32) (now0_94 : (Nat → Int32)) (thr0_94 : Int32) : Int32 × (Nat → Int32) × Int32 := (if v3_94 = true then (f_X8_settles_j167 x (v2_94) (v3_94) (v4_94) ((imin 5 (f_X8_available (upd now0_94 ((22 + 13 * x.toNatClampNeg) + 4) (-1)) (v2_94)))) ((upd now0_94 ((22 + 13 * x.toNatClampNeg) + 4) (-1))) (thr0_94)) else (f_X8_settles_j167 x (v2_94) (v3_94) (v4_94) (v5_94) ((upd now0_94 ((22 + 13 * x.toNatClampNeg) + 4) (-1))) (thr0_94)))
def f_X8_settles_l94s (x : Int32) (k94 : Nat) (q_ : Nat × Bool × Bool × Int32 × (Nat → Int32) × Int32) : Sum (Int32 × (Nat → Int32) × Int32) (Nat × Bool × Bool × Int32 × (Nat → Int32) × Int32) := f_X8_settles_l94b x k94 (q_.1) (q_.2.1) (q_.2.2.1) (q_.2.2.2.1) (q_.2.2.2.2.1) (q_.2.2.2.2.2)
def f_X8_settles_l94e (x : Int32) (q_ : Nat × Bool × Bool × Int32 × (Nat → Int32) × Int32) : Int32 × (Nat → Int32) × Int32 := f_X8_settles_l94x x (q_.1) (q_.2.1) (q_.2.2.1) (q_.2.2.2.1) (q_.2.2.2.2.1) (q_.2.2.2.2.2)
def f_X8_settles_l94 (x : Int32) (n94 k94 : Nat) (v2_94 : Nat) (v3_94 : Bool) (v4_94 : Bool) (v5_94 : Int32) (now0_94 : (Nat → Int32)) (thr0_94 : Int32) : Int32 × (Nat → Int32) × Int32 := lpF (f_X8_settles_l94s x) (f_X8_settles_l94e x) n94 k94 (v2_94, v3_94, v4_94, v5_94, now0_94, thr0_94)
def f_X8_settles_j73 (nw : (Nat → Int32)) (x : Int32) (v2_73 : Nat) (s0_73 : Bool) (thr0_73 : Int32) : Int32 × (Nat → Int32) × Int32 := (f_X8_settles_l94 x (4) 0 (v2_73) (s0_73) ((f_X8_doesBuild nw (x))) ((f_X8_of nw (x) ((5 + v2_73)))) (nw) (thr0_73))
def f_X8_settles_j40 (nw : (Nat → Int32)) (x : Int32) (s0_40 : Bool) (s1_40 : Bool) (s2_40 : Bool) : Int32 × (Nat → Int32) × Int32 := (if (hOk s2_40 s1_40 s0_40 true) = true then (if (f_X8_of nw (x) ((9 + (f_X8_winner nw x).toNatClampNeg))) = 1 then (f_X8_settles_j73 nw x ((f_X8_winner nw x).toNatClampNeg) (true) ((hThr s2_40 s1_40 s0_40 true))) else (f_X8_settles_j73 nw x ((f_X8_winner nw x).toNatClampNeg) (false) ((hThr s2_40 s1_40 s0_40 true)))) else (0, nw, (hThr s2_40 s1_40 s0_40 true)))
def f_X8_settles_j39 (nw : (Nat → Int32)) (x : Int32) (s0_39 : Bool) (s1_39 : Bool) : Int32 × (Nat → Int32) × Int32 := (f_X8_settles_j40 nw x (false) (s0_39) (s1_39))
def f_X8_settles_j19 (nw : (Nat → Int32)) (x : Int32) (s0_19 : Bool) (s1_19 : Bool) : Int32 × (Nat → Int32) × Int32 := (if (f_X8_isSite nw (x)) = true then (if (f_X8_bidsOn nw (x)) ≤ 0 then (f_X8_settles_j39 nw x (s0_19) (s1_19)) else (f_X8_settles_j40 nw x (true) (s0_19) (s1_19))) else (f_X8_settles_j39 nw x (s0_19) (s1_19)))
def f_X8_settles (nw : (Nat → Int32)) (x : Int32) : Int32 × (Nat → Int32) × Int32 := (if (f_X8_isDone nw (x)) = true then (f_X8_settles_j19 nw x (false) ((f_X8_isSite nw (x)))) else (f_X8_settles_j19 nw x (true) ((f_X8_isSite nw (x)))))
set_option maxHeartbeats 4000000 in
set_option maxRecDepth 100000 in
theorem c_X8_settles (l : Launch) (D : va_G) (C : Nat → ClassId) (b : Nat → Nat) (M : MS) (x : Int32) (sz : Nat) (hM : MSafe M) : Met l yX8_settles wsX8_settles ({ frames := 5, cells := 0, slots := 0, locals := 110 } : Room) (rwP [.ref (b 0), .int x] D C (mcells C b M) sz) (rwO (some (.int ((f_X8_settles (mNow M) x).1))) D (mcells C b (mkM ((f_X8_settles (mNow M) x).2.1) (mBef M) (mSav M) (mHis M) (mIsS M) (mRem M) (mErA M) (mFaA M) (mTxt M) (mTyp M) (mLin M) (mLnd M) ((f_X8_settles (mNow M) x).2.2) (mFar M) (mGrp M) (mSiz M) (mPla M) (mWro M) (mTol M) (mNum M))) (va_A (mcells C b M) sz)) 0 0 (va_A (mcells C b M) sz) := by
  refine Met.ofW (cc := cX8_settles) (maxL := 7) (ret := (some .int)) (by decide) rfl ?_
  intro p e s m args below meth c s₁ B hml hv
  obtain ⟨rfl, hsz, hP, hK, hD0, hE⟩ := hv
  have hx := B.exec
  have hb := B.bytes
  have hr := B.returns
  have hts := atoms_spec (ws := wsX8_settles) B.pre
  have hown : s.vm.findClass RX8 = some m.cls := findClass_of_methodNamed B.named
  have hlocks := B.notSynchronized
  subst hsz
  have hD := hD0.self (sz := s.heap.size)
  generalize hAe : va_A (mcells C b M) s.heap.size = A at hD ⊢
  have hA : ∀ q : Nat, s.heap.size ≤ q → A q := fun q h => by rw [← hAe]; exact Or.inr h
  have hS0 : va_S A s.heap s.heap [] := va_S.rf
  have hP : va_P D vwCl (mcells C b M) s.heap := hP
  have hS := hS0
  obtain ⟨⟨hS2, hS12⟩, ⟨hP2, hP4⟩, hLH, hFE⟩ := id hM
  have hinX8 : ∀ w ∈ u_ws RX8 TX8 20, w ∈ wsX8_settles := by decide +kernel
  have hl := lv_entry ([.ref (b 0), .int x]) (n := 7) (Nat.le_of_ble_eq_true rfl)
  rw [lg_entry_eq]
  generalize (lg_sl ([.ref (b 0), .int x]) ++ List.replicate (7 - (lg_sl ([.ref (b 0), .int x])).length) Slot.unset).toArray = ls at hl ⊢
  have hl : lv_has ls 7 [(0, .ref (b 0)), (1, .int x)] := hl
  obtain ⟨z, hz⟩ : ∃ z, z = f_X8_settles (mNow M) x := ⟨_, rfl⟩
  rw [← hz]
  have J255 : ∀ (s0_255 : Bool) (now0_255 : (Nat → Int32)) (thr0_255 : Int32)  (H : Heap) (locs : List Loc) (ls : Array Slot), z = f_X8_settles_j255 s0_255 now0_255 thr0_255 → va_P D vwCl (mcells C b (mkM now0_255 (mBef M) (mSav M) (mHis M) (mIsS M) (mRem M) (mErA M) (mFaA M) (mTxt M) (mTyp M) (mLin M) (mLnd M) thr0_255 (mFar M) (mGrp M) (mSiz M) (mPla M) (mWro M) (mTol M) (mNum M))) H → va_D A (mcells C b (mkM now0_255 (mBef M) (mSav M) (mHis M) (mIsS M) (mRem M) (mErA M) (mFaA M) (mTxt M) (mTyp M) (mLin M) (mLnd M) thr0_255 (mFar M) (mGrp M) (mSiz M) (mPla M) (mWro M) (mTol M) (mNum M))) → va_S A s.heap H locs → lv_has ls 7 [] → W p l e ({ frames := 5, cells := 0, slots := 0, locals := 110 } : Room) s m ([.ref (b 0), .int x] : List Value).toArray below meth c H locs 0 0 (MQ below (rwO (some (.int z.1)) D (mcells C b (mkM z.2.1 (mBef M) (mSav M) (mHis M) (mIsS M) (mRem M) (mErA M) (mFaA M) (mTxt M) (mTyp M) (mLin M) (mLnd M) z.2.2 (mFar M) (mGrp M) (mSiz M) (mPla M) (mWro M) (mTol M) (mNum M))) A) ([.ref (b 0), .int x] : List Value).toArray s 0 0 A) (F0 m 255 ls [.int (bI s0_255)]) := by
    intro s0_255 now0_255 thr0_255 H locs ls hz  hP hD hS hl
    have hz : z = ((bI s0_255), now0_255, thr0_255) := hz
    rw [hz]
    exact rw_ret hx hb hr hP hS rfl dX8_settles_255 hlocks
  have J244 : ∀ (v4_244 : Bool) (s0_244 : Int32) (s1_244 : Nat) (now0_244 : (Nat → Int32)) (thr0_244 : Int32)  (H : Heap) (locs : List Loc) (ls : Array Slot), z = f_X8_settles_j244 v4_244 s0_244 s1_244 now0_244 thr0_244 → (vp_in x 12) → (s1_244 = 22 + 13 * x.toNatClampNeg + 3) → va_P D vwCl (mcells C b (mkM now0_244 (mBef M) (mSav M) (mHis M) (mIsS M) (mRem M) (mErA M) (mFaA M) (mTxt M) (mTyp M) (mLin M) (mLnd M) thr0_244 (mFar M) (mGrp M) (mSiz M) (mPla M) (mWro M) (mTol M) (mNum M))) H → va_D A (mcells C b (mkM now0_244 (mBef M) (mSav M) (mHis M) (mIsS M) (mRem M) (mErA M) (mFaA M) (mTxt M) (mTyp M) (mLin M) (mLnd M) thr0_244 (mFar M) (mGrp M) (mSiz M) (mPla M) (mWro M) (mTol M) (mNum M))) → va_S A s.heap H locs → lv_has ls 7 [(4, .int (bI v4_244))] → W p l e ({ frames := 5, cells := 0, slots := 0, locals := 110 } : Room) s m ([.ref (b 0), .int x] : List Value).toArray below meth c H locs 0 0 (MQ below (rwO (some (.int z.1)) D (mcells C b (mkM z.2.1 (mBef M) (mSav M) (mHis M) (mIsS M) (mRem M) (mErA M) (mFaA M) (mTxt M) (mTyp M) (mLin M) (mLnd M) z.2.2 (mFar M) (mGrp M) (mSiz M) (mPla M) (mWro M) (mTol M) (mNum M))) A) ([.ref (b 0), .int x] : List Value).toArray s 0 0 A) (F0 m 244 ls [.int s0_244, .int (nI s1_244), .ref (b 1)]) := by
    intro v4_244 s0_244 s1_244 now0_244 thr0_244 H locs ls hz iv244_0 iv244_1 hP hD hS hl
    have ex := (nat_of iv244_0 (by decide)).1
    have lx := (nat_of iv244_0 (by decide)).2
    refine iastN (tys := tyA C) hx hb hK hP hD hS 1 0 rfl rfl (i := s1_244) (by omega) (by decide) dX8_settles_244 (fun H locs hP hD hS => ?_)
    have hP : va_P D vwCl (mcells C b (mkM (upd now0_244 s1_244 s0_244) (mBef M) (mSav M) (mHis M) (mIsS M) (mRem M) (mErA M) (mFaA M) (mTxt M) (mTyp M) (mLin M) (mLnd M) thr0_244 (mFar M) (mGrp M) (mSiz M) (mPla M) (mWro M) (mTol M) (mNum M))) H := hP
    have hD : va_D A (mcells C b (mkM (upd now0_244 s1_244 s0_244) (mBef M) (mSav M) (mHis M) (mIsS M) (mRem M) (mErA M) (mFaA M) (mTxt M) (mTyp M) (mLin M) (mLnd M) thr0_244 (mFar M) (mGrp M) (mSiz M) (mPla M) (mWro M) (mTol M) (mNum M))) := hD
    refine lv_iload hx hb dX8_settles_245 (lv_at hl 0 rfl) ?_
    refine bif_eq (tgt := 254) hx hb dX8_settles_247 (by decide) (fun c_247 => ?_) (fun c_247 => ?_)
    · have hz := hz.trans (ifB_f c_247)
      refine lv_iconst (v := 0) hx hb dX8_settles_254 (by decide) ?_
      exact J255 (false) ((upd now0_244 s1_244 s0_244)) (thr0_244) _ _ ls hz  hP hD hS (lv_sub hl [] rfl)
    · have hz := hz.trans (ifB_t c_247)
      refine lv_iconst (v := 1) hx hb dX8_settles_250 (by decide) ?_
      refine lv_goto (tgt := 255) hx hb dX8_settles_251 (by decide) ?_
      exact J255 (true) ((upd now0_244 s1_244 s0_244)) (thr0_244) _ _ ls hz  hP hD hS (lv_sub hl [] rfl)
  have J222 : ∀ (v2_222 : Nat) (v4_222 : Bool) (s0_222 : Bool) (s1_222 : Int32) (now0_222 : (Nat → Int32)) (thr0_222 : Int32)  (H : Heap) (locs : List Loc) (ls : Array Slot), z = f_X8_settles_j222 x v2_222 v4_222 s0_222 s1_222 now0_222 thr0_222 → (vp_in x 12) → (v2_222 < 4) → va_P D vwCl (mcells C b (mkM now0_222 (mBef M) (mSav M) (mHis M) (mIsS M) (mRem M) (mErA M) (mFaA M) (mTxt M) (mTyp M) (mLin M) (mLnd M) thr0_222 (mFar M) (mGrp M) (mSiz M) (mPla M) (mWro M) (mTol M) (mNum M))) H → va_D A (mcells C b (mkM now0_222 (mBef M) (mSav M) (mHis M) (mIsS M) (mRem M) (mErA M) (mFaA M) (mTxt M) (mTyp M) (mLin M) (mLnd M) thr0_222 (mFar M) (mGrp M) (mSiz M) (mPla M) (mWro M) (mTol M) (mNum M))) → va_S A s.heap H locs → lv_has ls 7 [(0, .ref (b 0)), (1, .int x), (2, .int (nI v2_222)), (4, .int (bI v4_222))] → W p l e ({ frames := 5, cells := 0, slots := 0, locals := 110 } : Room) s m ([.ref (b 0), .int x] : List Value).toArray below meth c H locs 0 0 (MQ below (rwO (some (.int z.1)) D (mcells C b (mkM z.2.1 (mBef M) (mSav M) (mHis M) (mIsS M) (mRem M) (mErA M) (mFaA M) (mTxt M) (mTyp M) (mLin M) (mLnd M) z.2.2 (mFar M) (mGrp M) (mSiz M) (mPla M) (mWro M) (mTol M) (mNum M))) A) ([.ref (b 0), .int x] : List Value).toArray s 0 0 A) (F0 m 222 ls [.int (bI s0_222), .int s1_222, .int 5, .ref (b 1)]) := by
    intro v2_222 v4_222 s0_222 s1_222 now0_222 thr0_222 H locs ls hz iv222_0 iv222_1 hP hD hS hl
    have ex := (nat_of iv222_0 (by decide)).1
    have lx := (nat_of iv222_0 (by decide)).2
    refine lv_iadd hx hb dX8_settles_222 ?_
    refine topN2 (k := 5) (by decide +kernel) ?_
    refine iastN (tys := tyA C) hx hb hK hP hD hS 1 0 rfl rfl (i := 5) (by omega) (by decide) dX8_settles_223 (fun H locs hP hD hS => ?_)
    have hP : va_P D vwCl (mcells C b (mkM (upd now0_222 5 (s1_222 + (bI s0_222))) (mBef M) (mSav M) (mHis M) (mIsS M) (mRem M) (mErA M) (mFaA M) (mTxt M) (mTyp M) (mLin M) (mLnd M) thr0_222 (mFar M) (mGrp M) (mSiz M) (mPla M) (mWro M) (mTol M) (mNum M))) H := hP
    have hD : va_D A (mcells C b (mkM (upd now0_222 5 (s1_222 + (bI s0_222))) (mBef M) (mSav M) (mHis M) (mIsS M) (mRem M) (mErA M) (mFaA M) (mTxt M) (mTyp M) (mLin M) (mLnd M) thr0_222 (mFar M) (mGrp M) (mSiz M) (mPla M) (mWro M) (mTol M) (mNum M))) := hD
    refine lv_aload_n hx hb dX8_settles_224 rfl (lv_at hl 0 rfl) ?_
    refine va_get (D := D) (ci := 9) (v := .ref (b 1)) (C := RX8) (T := TX8) (N := 20) hx hb hts hinX8 hown hK hP 0 rfl rfl 0 (by decide) (hts (.fieldLink RX8 9 "BridgeAuctionModel" "now" "[I") (by decide +kernel)) (fun _ h9 => h9) rfl dX8_settles_225 ?_
    refine lv_iload_n hx hb dX8_settles_228 rfl (lv_at hl 1 rfl) ?_
    obtain ⟨ehn_1, lhn_1⟩ := nat_of (x := x) (n := 12) (by first | assumption) (by omega)
    refine topN ehn_1 ?_
    refine callRo (va_runS (As := [.int (nI x.toNatClampNeg)]) (rest := [.ref (b 1)]) ⟨hx, hb, hml, hown, hts⟩ (c_X8_siteAt l D C (x.toNatClampNeg) (by omega)) (va_cwS 1 hts gX8_settles_X8_siteAt rfl rfl rfl (by decide +kernel) ⟨Nat.le_of_ble_eq_true rfl, Nat.le_of_ble_eq_true rfl⟩) (roP_s (hP.sub (ws' := ([] : va_W)) [] rfl) hK hE) rfl rfl hl.1 rfl (lv_room (Nat.le_of_ble_eq_true rfl)) dX8_settles_229 ⟨Nat.le_refl _, Nat.le_refl _⟩) ?_
    refine topN (k := (22 + 13 * x.toNatClampNeg)) rfl ?_
    refine lv_iconst (v := 3) hx hb dX8_settles_232 (by decide) ?_
    refine topN (k := 3) (by decide +kernel) ?_
    refine addN hx hb dX8_settles_233 ?_
    refine lv_iload hx hb dX8_settles_234 (lv_at hl 3 rfl) ?_
    refine bif_eq (tgt := 243) hx hb dX8_settles_236 (by decide) (fun c_236 => ?_) (fun c_236 => ?_)
    · have hz := hz.trans (ifB_f c_236)
      refine lv_iconst (v := (-1)) hx hb dX8_settles_243 (by decide) ?_
      exact J244 (v4_222) ((-1)) (((22 + 13 * x.toNatClampNeg) + 3)) ((upd now0_222 5 (s1_222 + (bI s0_222)))) (thr0_222) _ _ ls hz (by assumption) (by rfl) hP hD hS (lv_sub hl [3] rfl)
    · have hz := hz.trans (ifB_t c_236)
      refine lv_iload_n hx hb dX8_settles_239 rfl (lv_at hl 2 rfl) ?_
      refine lv_goto (tgt := 244) hx hb dX8_settles_240 (by decide) ?_
      exact J244 (v4_222) ((nI v2_222)) (((22 + 13 * x.toNatClampNeg) + 3)) ((upd now0_222 5 (s1_222 + (bI s0_222)))) (thr0_222) _ _ ls hz (by assumption) (by rfl) hP hD hS (lv_sub hl [3] rfl)
  have J167 : ∀ (v2_167 : Nat) (v3_167 : Bool) (v4_167 : Bool) (s0_167 : Int32) (now0_167 : (Nat → Int32)) (thr0_167 : Int32)  (H : Heap) (locs : List Loc) (ls : Array Slot), z = f_X8_settles_j167 x v2_167 v3_167 v4_167 s0_167 now0_167 thr0_167 → (vp_in x 12) → (v2_167 < 4) → va_P D vwCl (mcells C b (mkM now0_167 (mBef M) (mSav M) (mHis M) (mIsS M) (mRem M) (mErA M) (mFaA M) (mTxt M) (mTyp M) (mLin M) (mLnd M) thr0_167 (mFar M) (mGrp M) (mSiz M) (mPla M) (mWro M) (mTol M) (mNum M))) H → va_D A (mcells C b (mkM now0_167 (mBef M) (mSav M) (mHis M) (mIsS M) (mRem M) (mErA M) (mFaA M) (mTxt M) (mTyp M) (mLin M) (mLnd M) thr0_167 (mFar M) (mGrp M) (mSiz M) (mPla M) (mWro M) (mTol M) (mNum M))) → va_S A s.heap H locs → lv_has ls 7 [(0, .ref (b 0)), (1, .int x), (2, .int (nI v2_167)), (3, .int (bI v3_167)), (4, .int (bI v4_167))] → W p l e ({ frames := 5, cells := 0, slots := 0, locals := 110 } : Room) s m ([.ref (b 0), .int x] : List Value).toArray below meth c H locs 0 0 (MQ below (rwO (some (.int z.1)) D (mcells C b (mkM z.2.1 (mBef M) (mSav M) (mHis M) (mIsS M) (mRem M) (mErA M) (mFaA M) (mTxt M) (mTyp M) (mLin M) (mLnd M) z.2.2 (mFar M) (mGrp M) (mSiz M) (mPla M) (mWro M) (mTol M) (mNum M))) A) ([.ref (b 0), .int x] : List Value).toArray s 0 0 A) (F0 m 167 ls [.int s0_167]) := by
    intro v2_167 v3_167 v4_167 s0_167 now0_167 thr0_167 H locs ls hz iv167_0 iv167_1 hP hD hS hl
    have ex := (nat_of iv167_0 (by decide)).1
    have lx := (nat_of iv167_0 (by decide)).2
    refine lv_istore (lv' := [(6, .int s0_167), (0, .ref (b 0)), (1, .int x), (2, .int (nI v2_167)), (3, .int (bI v3_167)), (4, .int (bI v4_167))]) hx hb dX8_settles_167 hl (by decide) rfl (fun ls hl => ?_)
    refine lv_aload_n hx hb dX8_settles_169 rfl (lv_at hl 1 rfl) ?_
    refine va_get (D := D) (ci := 9) (v := .ref (b 1)) (C := RX8) (T := TX8) (N := 20) hx hb hts hinX8 hown hK hP 0 rfl rfl 0 (by decide) (hts (.fieldLink RX8 9 "BridgeAuctionModel" "now" "[I") (by decide +kernel)) (fun _ h9 => h9) rfl dX8_settles_170 ?_
    refine lv_iload_n hx hb dX8_settles_173 rfl (lv_at hl 3 rfl) ?_
    refine callRo (va_runS (As := [.int (nI v2_167)]) (rest := [.ref (b 1)]) ⟨hx, hb, hml, hown, hts⟩ (c_X8_playerAt l D C (v2_167) (by omega)) (va_cwS 1 hts gX8_settles_X8_playerAt rfl rfl rfl (by decide +kernel) ⟨Nat.le_of_ble_eq_true rfl, Nat.le_of_ble_eq_true rfl⟩) (roP_s (hP.sub (ws' := ([] : va_W)) [] rfl) hK hE) rfl rfl hl.1 rfl (lv_room (Nat.le_of_ble_eq_true rfl)) dX8_settles_174 ⟨Nat.le_refl _, Nat.le_refl _⟩) ?_
    refine topN (k := (14 + 2 * v2_167)) rfl ?_
    refine lv_iconst (v := 0) hx hb dX8_settles_177 (by decide) ?_
    refine topN (k := 0) (by decide +kernel) ?_
    refine addN hx hb dX8_settles_178 ?_
    refine lv_dup2_11 hx hb dX8_settles_179 rfl rfl ?_
    refine ialdN (tys := tyA C) hx hb hK hP 1 0 rfl rfl (i := ((14 + 2 * v2_167) + 0)) (by omega) (by decide) dX8_settles_180 ?_
    refine lv_iload hx hb dX8_settles_181 (lv_at hl 0 rfl) ?_
    refine lv_isub hx hb dX8_settles_183 ?_
    refine iastN (tys := tyA C) hx hb hK hP hD hS 1 0 rfl rfl (i := ((14 + 2 * v2_167) + 0)) (by omega) (by decide) dX8_settles_184 (fun H locs hP hD hS => ?_)
    have hP : va_P D vwCl (mcells C b (mkM (upd now0_167 ((14 + 2 * v2_167) + 0) ((now0_167 ((14 + 2 * v2_167) + 0)) - s0_167)) (mBef M) (mSav M) (mHis M) (mIsS M) (mRem M) (mErA M) (mFaA M) (mTxt M) (mTyp M) (mLin M) (mLnd M) thr0_167 (mFar M) (mGrp M) (mSiz M) (mPla M) (mWro M) (mTol M) (mNum M))) H := hP
    have hD : va_D A (mcells C b (mkM (upd now0_167 ((14 + 2 * v2_167) + 0) ((now0_167 ((14 + 2 * v2_167) + 0)) - s0_167)) (mBef M) (mSav M) (mHis M) (mIsS M) (mRem M) (mErA M) (mFaA M) (mTxt M) (mTyp M) (mLin M) (mLnd M) thr0_167 (mFar M) (mGrp M) (mSiz M) (mPla M) (mWro M) (mTol M) (mNum M))) := hD
    refine lv_aload_n hx hb dX8_settles_185 rfl (lv_at hl 1 rfl) ?_
    refine va_get (D := D) (ci := 9) (v := .ref (b 1)) (C := RX8) (T := TX8) (N := 20) hx hb hts hinX8 hown hK hP 0 rfl rfl 0 (by decide) (hts (.fieldLink RX8 9 "BridgeAuctionModel" "now" "[I") (by decide +kernel)) (fun _ h9 => h9) rfl dX8_settles_186 ?_
    refine lv_iconst (v := 3) hx hb dX8_settles_189 (by decide) ?_
    refine lv_dup2_11 hx hb dX8_settles_190 rfl rfl ?_
    refine topN (k := 3) (by decide +kernel) ?_
    refine ialdN (tys := tyA C) hx hb hK hP 1 0 rfl rfl (i := 3) (by omega) (by decide) dX8_settles_191 ?_
    refine lv_iload hx hb dX8_settles_192 (lv_at hl 0 rfl) ?_
    refine lv_iadd hx hb dX8_settles_194 ?_
    refine topN2 (k := 3) (by decide +kernel) ?_
    refine iastN (tys := tyA C) hx hb hK hP hD hS 1 0 rfl rfl (i := 3) (by omega) (by decide) dX8_settles_195 (fun H locs hP hD hS => ?_)
    have hP : va_P D vwCl (mcells C b (mkM (upd (upd now0_167 ((14 + 2 * v2_167) + 0) ((now0_167 ((14 + 2 * v2_167) + 0)) - s0_167)) 3 (((upd now0_167 ((14 + 2 * v2_167) + 0) ((now0_167 ((14 + 2 * v2_167) + 0)) - s0_167)) 3) + s0_167)) (mBef M) (mSav M) (mHis M) (mIsS M) (mRem M) (mErA M) (mFaA M) (mTxt M) (mTyp M) (mLin M) (mLnd M) thr0_167 (mFar M) (mGrp M) (mSiz M) (mPla M) (mWro M) (mTol M) (mNum M))) H := hP
    have hD : va_D A (mcells C b (mkM (upd (upd now0_167 ((14 + 2 * v2_167) + 0) ((now0_167 ((14 + 2 * v2_167) + 0)) - s0_167)) 3 (((upd now0_167 ((14 + 2 * v2_167) + 0) ((now0_167 ((14 + 2 * v2_167) + 0)) - s0_167)) 3) + s0_167)) (mBef M) (mSav M) (mHis M) (mIsS M) (mRem M) (mErA M) (mFaA M) (mTxt M) (mTyp M) (mLin M) (mLnd M) thr0_167 (mFar M) (mGrp M) (mSiz M) (mPla M) (mWro M) (mTol M) (mNum M))) := hD
    refine lv_aload_n hx hb dX8_settles_196 rfl (lv_at hl 1 rfl) ?_
    refine va_get (D := D) (ci := 9) (v := .ref (b 1)) (C := RX8) (T := TX8) (N := 20) hx hb hts hinX8 hown hK hP 0 rfl rfl 0 (by decide) (hts (.fieldLink RX8 9 "BridgeAuctionModel" "now" "[I") (by decide +kernel)) (fun _ h9 => h9) rfl dX8_settles_197 ?_
    refine lv_iconst (v := 4) hx hb dX8_settles_200 (by decide) ?_
    refine lv_dup2_11 hx hb dX8_settles_201 rfl rfl ?_
    refine topN (k := 4) (by decide +kernel) ?_
    refine ialdN (tys := tyA C) hx hb hK hP 1 0 rfl rfl (i := 4) (by omega) (by decide) dX8_settles_202 ?_
    refine lv_iconst (v := 1) hx hb dX8_settles_203 (by decide) ?_
    refine lv_iadd hx hb dX8_settles_204 ?_
    refine topN2 (k := 4) (by decide +kernel) ?_
    refine iastN (tys := tyA C) hx hb hK hP hD hS 1 0 rfl rfl (i := 4) (by omega) (by decide) dX8_settles_205 (fun H locs hP hD hS => ?_)
    have hP : va_P D vwCl (mcells C b (mkM (upd (upd (upd now0_167 ((14 + 2 * v2_167) + 0) ((now0_167 ((14 + 2 * v2_167) + 0)) - s0_167)) 3 (((upd now0_167 ((14 + 2 * v2_167) + 0) ((now0_167 ((14 + 2 * v2_167) + 0)) - s0_167)) 3) + s0_167)) 4 (((upd (upd now0_167 ((14 + 2 * v2_167) + 0) ((now0_167 ((14 + 2 * v2_167) + 0)) - s0_167)) 3 (((upd now0_167 ((14 + 2 * v2_167) + 0) ((now0_167 ((14 + 2 * v2_167) + 0)) - s0_167)) 3) + s0_167)) 4) + 1)) (mBef M) (mSav M) (mHis M) (mIsS M) (mRem M) (mErA M) (mFaA M) (mTxt M) (mTyp M) (mLin M) (mLnd M) thr0_167 (mFar M) (mGrp M) (mSiz M) (mPla M) (mWro M) (mTol M) (mNum M))) H := hP
    have hD : va_D A (mcells C b (mkM (upd (upd (upd now0_167 ((14 + 2 * v2_167) + 0) ((now0_167 ((14 + 2 * v2_167) + 0)) - s0_167)) 3 (((upd now0_167 ((14 + 2 * v2_167) + 0) ((now0_167 ((14 + 2 * v2_167) + 0)) - s0_167)) 3) + s0_167)) 4 (((upd (upd now0_167 ((14 + 2 * v2_167) + 0) ((now0_167 ((14 + 2 * v2_167) + 0)) - s0_167)) 3 (((upd now0_167 ((14 + 2 * v2_167) + 0) ((now0_167 ((14 + 2 * v2_167) + 0)) - s0_167)) 3) + s0_167)) 4) + 1)) (mBef M) (mSav M) (mHis M) (mIsS M) (mRem M) (mErA M) (mFaA M) (mTxt M) (mTyp M) (mLin M) (mLnd M) thr0_167 (mFar M) (mGrp M) (mSiz M) (mPla M) (mWro M) (mTol M) (mNum M))) := hD
    refine lv_aload_n hx hb dX8_settles_206 rfl (lv_at hl 1 rfl) ?_
    refine va_get (D := D) (ci := 9) (v := .ref (b 1)) (C := RX8) (T := TX8) (N := 20) hx hb hts hinX8 hown hK hP 0 rfl rfl 0 (by decide) (hts (.fieldLink RX8 9 "BridgeAuctionModel" "now" "[I") (by decide +kernel)) (fun _ h9 => h9) rfl dX8_settles_207 ?_
    refine lv_iconst (v := 5) hx hb dX8_settles_210 (by decide) ?_
    refine lv_dup2_11 hx hb dX8_settles_211 rfl rfl ?_
    refine topN (k := 5) (by decide +kernel) ?_
    refine ialdN (tys := tyA C) hx hb hK hP 1 0 rfl rfl (i := 5) (by omega) (by decide) dX8_settles_212 ?_
    refine lv_iload_n hx hb dX8_settles_213 rfl (lv_at hl 4 rfl) ?_
    refine bif_eq (tgt := 221) hx hb dX8_settles_214 (by decide) (fun c_214 => ?_) (fun c_214 => ?_)
    · have hz := hz.trans (ifB_f c_214)
      refine lv_iconst (v := 0) hx hb dX8_settles_221 (by decide) ?_
      exact J222 (v2_167) (v4_167) (false) (((upd (upd (upd now0_167 ((14 + 2 * v2_167) + 0) ((now0_167 ((14 + 2 * v2_167) + 0)) - s0_167)) 3 (((upd now0_167 ((14 + 2 * v2_167) + 0) ((now0_167 ((14 + 2 * v2_167) + 0)) - s0_167)) 3) + s0_167)) 4 (((upd (upd now0_167 ((14 + 2 * v2_167) + 0) ((now0_167 ((14 + 2 * v2_167) + 0)) - s0_167)) 3 (((upd now0_167 ((14 + 2 * v2_167) + 0) ((now0_167 ((14 + 2 * v2_167) + 0)) - s0_167)) 3) + s0_167)) 4) + 1)) 5)) ((upd (upd (upd now0_167 ((14 + 2 * v2_167) + 0) ((now0_167 ((14 + 2 * v2_167) + 0)) - s0_167)) 3 (((upd now0_167 ((14 + 2 * v2_167) + 0) ((now0_167 ((14 + 2 * v2_167) + 0)) - s0_167)) 3) + s0_167)) 4 (((upd (upd now0_167 ((14 + 2 * v2_167) + 0) ((now0_167 ((14 + 2 * v2_167) + 0)) - s0_167)) 3 (((upd now0_167 ((14 + 2 * v2_167) + 0) ((now0_167 ((14 + 2 * v2_167) + 0)) - s0_167)) 3) + s0_167)) 4) + 1))) (thr0_167) _ _ ls hz (by assumption) (by omega) hP hD hS (lv_sub hl [1, 2, 3, 5] rfl)
    · have hz := hz.trans (ifB_t c_214)
      refine lv_iconst (v := 1) hx hb dX8_settles_217 (by decide) ?_
      refine lv_goto (tgt := 222) hx hb dX8_settles_218 (by decide) ?_
      exact J222 (v2_167) (v4_167) (true) (((upd (upd (upd now0_167 ((14 + 2 * v2_167) + 0) ((now0_167 ((14 + 2 * v2_167) + 0)) - s0_167)) 3 (((upd now0_167 ((14 + 2 * v2_167) + 0) ((now0_167 ((14 + 2 * v2_167) + 0)) - s0_167)) 3) + s0_167)) 4 (((upd (upd now0_167 ((14 + 2 * v2_167) + 0) ((now0_167 ((14 + 2 * v2_167) + 0)) - s0_167)) 3 (((upd now0_167 ((14 + 2 * v2_167) + 0) ((now0_167 ((14 + 2 * v2_167) + 0)) - s0_167)) 3) + s0_167)) 4) + 1)) 5)) ((upd (upd (upd now0_167 ((14 + 2 * v2_167) + 0) ((now0_167 ((14 + 2 * v2_167) + 0)) - s0_167)) 3 (((upd now0_167 ((14 + 2 * v2_167) + 0) ((now0_167 ((14 + 2 * v2_167) + 0)) - s0_167)) 3) + s0_167)) 4 (((upd (upd now0_167 ((14 + 2 * v2_167) + 0) ((now0_167 ((14 + 2 * v2_167) + 0)) - s0_167)) 3 (((upd now0_167 ((14 + 2 * v2_167) + 0) ((now0_167 ((14 + 2 * v2_167) + 0)) - s0_167)) 3) + s0_167)) 4) + 1))) (thr0_167) _ _ ls hz (by assumption) (by omega) hP hD hS (lv_sub hl [1, 2, 3, 5] rfl)
  have J94 : ∀ (n94 k94 : Nat) (v2_94 : Nat) (v3_94 : Bool) (v4_94 : Bool) (v5_94 : Int32) (now0_94 : (Nat → Int32)) (thr0_94 : Int32) (H : Heap) (locs : List Loc) (ls : Array Slot), k94 + n94 = 4 → z = f_X8_settles_l94 x n94 k94 v2_94 v3_94 v4_94 v5_94 now0_94 thr0_94 → (vp_in x 12) → (v2_94 < 4) → (NowOK now0_94) → va_P D vwCl (mcells C b (mkM now0_94 (mBef M) (mSav M) (mHis M) (mIsS M) (mRem M) (mErA M) (mFaA M) (mTxt M) (mTyp M) (mLin M) (mLnd M) thr0_94 (mFar M) (mGrp M) (mSiz M) (mPla M) (mWro M) (mTol M) (mNum M))) H → va_D A (mcells C b (mkM now0_94 (mBef M) (mSav M) (mHis M) (mIsS M) (mRem M) (mErA M) (mFaA M) (mTxt M) (mTyp M) (mLin M) (mLnd M) thr0_94 (mFar M) (mGrp M) (mSiz M) (mPla M) (mWro M) (mTol M) (mNum M))) → va_S A s.heap H locs → lv_has ls 7 [(0, .ref (b 0)), (1, .int x), (2, .int (nI v2_94)), (3, .int (bI v3_94)), (4, .int (bI v4_94)), (5, .int v5_94), (6, .int (nI k94))] → W p l e ({ frames := 5, cells := 0, slots := 0, locals := 110 } : Room) s m ([.ref (b 0), .int x] : List Value).toArray below meth c H locs 0 0 (MQ below (rwO (some (.int z.1)) D (mcells C b (mkM z.2.1 (mBef M) (mSav M) (mHis M) (mIsS M) (mRem M) (mErA M) (mFaA M) (mTxt M) (mTyp M) (mLin M) (mLnd M) z.2.2 (mFar M) (mGrp M) (mSiz M) (mPla M) (mWro M) (mTol M) (mNum M))) A) ([.ref (b 0), .int x] : List Value).toArray s 0 0 A) (F0 m 94 ls []) := by
    intro n94
    induction n94 with
    | zero =>
      intro k94 v2_94 v3_94 v4_94 v5_94 now0_94 thr0_94 H locs ls hk94 hz iv94_0 iv94_1 iv94_2 hP hD hS hl
      have ex := (nat_of iv94_0 (by decide)).1
      have lx := (nat_of iv94_0 (by decide)).2
      have hz : z = f_X8_settles_l94x x v2_94 v3_94 v4_94 v5_94 now0_94 thr0_94 := hz
      refine lv_iload hx hb dX8_settles_94 (lv_at hl 6 rfl) ?_
      refine lv_iconst (v := 4) hx hb dX8_settles_96 (by decide) ?_
      refine lv_icmp_ge (tgt := 137) hx hb dX8_settles_97 (by decide) (fun c_97 => ?_) (fun c_97 => absurd (by have e : (4 : Int32) = nI 4 := (by decide +kernel); rw [e]; exact nI_le (by omega) (by omega)) c_97)
      refine lv_aload_n hx hb dX8_settles_137 rfl (lv_at hl 0 rfl) ?_
      refine va_get (D := D) (ci := 9) (v := .ref (b 1)) (C := RX8) (T := TX8) (N := 20) hx hb hts hinX8 hown hK hP 0 rfl rfl 0 (by decide) (hts (.fieldLink RX8 9 "BridgeAuctionModel" "now" "[I") (by decide +kernel)) (fun _ h9 => h9) rfl dX8_settles_138 ?_
      refine lv_iload_n hx hb dX8_settles_141 rfl (lv_at hl 1 rfl) ?_
      obtain ⟨ehn_2, lhn_2⟩ := nat_of (x := x) (n := 12) (by first | assumption) (by omega)
      refine topN ehn_2 ?_
      refine callRo (va_runS (As := [.int (nI x.toNatClampNeg)]) (rest := [.ref (b 1)]) ⟨hx, hb, hml, hown, hts⟩ (c_X8_siteAt l D C (x.toNatClampNeg) (by omega)) (va_cwS 1 hts gX8_settles_X8_siteAt rfl rfl rfl (by decide +kernel) ⟨Nat.le_of_ble_eq_true rfl, Nat.le_of_ble_eq_true rfl⟩) (roP_s (hP.sub (ws' := ([] : va_W)) [] rfl) hK hE) rfl rfl hl.1 rfl (lv_room (Nat.le_of_ble_eq_true rfl)) dX8_settles_142 ⟨Nat.le_refl _, Nat.le_refl _⟩) ?_
      refine topN (k := (22 + 13 * x.toNatClampNeg)) rfl ?_
      refine lv_iconst (v := 4) hx hb dX8_settles_145 (by decide) ?_
      refine topN (k := 4) (by decide +kernel) ?_
      refine addN hx hb dX8_settles_146 ?_
      refine lv_iconst (v := (-1)) hx hb dX8_settles_147 (by decide) ?_
      refine iastN (tys := tyA C) hx hb hK hP hD hS 1 0 rfl rfl (i := ((22 + 13 * x.toNatClampNeg) + 4)) (by omega) (by decide) dX8_settles_148 (fun H locs hP hD hS => ?_)
      have hP : va_P D vwCl (mcells C b (mkM (upd now0_94 ((22 + 13 * x.toNatClampNeg) + 4) (-1)) (mBef M) (mSav M) (mHis M) (mIsS M) (mRem M) (mErA M) (mFaA M) (mTxt M) (mTyp M) (mLin M) (mLnd M) thr0_94 (mFar M) (mGrp M) (mSiz M) (mPla M) (mWro M) (mTol M) (mNum M))) H := hP
      have hD : va_D A (mcells C b (mkM (upd now0_94 ((22 + 13 * x.toNatClampNeg) + 4) (-1)) (mBef M) (mSav M) (mHis M) (mIsS M) (mRem M) (mErA M) (mFaA M) (mTxt M) (mTyp M) (mLin M) (mLnd M) thr0_94 (mFar M) (mGrp M) (mSiz M) (mPla M) (mWro M) (mTol M) (mNum M))) := hD
      refine lv_iload_n hx hb dX8_settles_149 rfl (lv_at hl 3 rfl) ?_
      refine bif_eq (tgt := 165) hx hb dX8_settles_150 (by decide) (fun c_150 => ?_) (fun c_150 => ?_)
      · have hz := hz.trans (ifB_f c_150)
        refine lv_iload hx hb dX8_settles_165 (lv_at hl 5 rfl) ?_
        exact J167 (v2_94) (v3_94) (v4_94) (v5_94) ((upd now0_94 ((22 + 13 * x.toNatClampNeg) + 4) (-1))) (thr0_94) _ _ ls hz (by assumption) (by omega) hP hD hS (lv_sub hl [0, 1, 2, 3, 4] rfl)
      · have hz := hz.trans (ifB_t c_150)
        refine lv_iconst (v := 5) hx hb dX8_settles_153 (by decide) ?_
        refine lv_aload_n hx hb dX8_settles_154 rfl (lv_at hl 0 rfl) ?_
        refine lv_iload_n hx hb dX8_settles_155 rfl (lv_at hl 2 rfl) ?_
        refine callRo (va_runV (As := [.int (nI v2_94)]) (rest := [.int 5]) ⟨hx, hb, hml, hown, hts⟩ (c_X8_available l D C b (mkM (upd now0_94 ((22 + 13 * x.toNatClampNeg) + 4) (-1)) (mBef M) (mSav M) (mHis M) (mIsS M) (mRem M) (mErA M) (mFaA M) (mTxt M) (mTyp M) (mLin M) (mLnd M) thr0_94 (mFar M) (mGrp M) (mSiz M) (mPla M) (mWro M) (mTol M) (mNum M)) (v2_94) (NowOK_fer iv94_2 (k := x.toNatClampNeg) lx (by omega) (Or.inl rfl)) (by omega)) (cwV 1 hts gX8_settles_X8_available rfl rfl rfl (by decide +kernel) ⟨Nat.le_of_ble_eq_true rfl, Nat.le_of_ble_eq_true rfl⟩) (roP_v hP hK hE (va_recv hK hP (ci := 9) (q0 := 0) rfl rfl)) rfl rfl hl.1 rfl (lv_room (Nat.le_of_ble_eq_true rfl)) dX8_settles_156 ⟨Nat.le_refl _, Nat.le_refl _⟩) ?_
        refine topI (y := (f_X8_available (upd now0_94 ((22 + 13 * x.toNatClampNeg) + 4) (-1)) (v2_94))) rfl ?_
        refine va_mmin hx hb (hml.trans hl.1.symm) hown (hts (.methodLink RX8 114 Lib.Math.min.name) (by decide +kernel)) (hts (.static Lib.Math.min.name) (by decide +kernel)) (hts (.initialized "java/lang/Math") (by decide +kernel)) (hts (.code Lib.Math.min.name Lib.Math.min.code 2 (some .int)) (by decide +kernel)) (Nat.le_of_ble_eq_true rfl) (Nat.le_of_ble_eq_true rfl) (Nat.le_of_ble_eq_true rfl) (Nat.le_of_ble_eq_true rfl) dX8_settles_159 ?_
        refine topI (y := (imin 5 (f_X8_available (upd now0_94 ((22 + 13 * x.toNatClampNeg) + 4) (-1)) (v2_94)))) rfl ?_
        refine lv_goto (tgt := 167) hx hb dX8_settles_162 (by decide) ?_
        exact J167 (v2_94) (v3_94) (v4_94) ((imin 5 (f_X8_available (upd now0_94 ((22 + 13 * x.toNatClampNeg) + 4) (-1)) (v2_94)))) ((upd now0_94 ((22 + 13 * x.toNatClampNeg) + 4) (-1))) (thr0_94) _ _ ls hz (by assumption) (by omega) hP hD hS (lv_sub hl [0, 1, 2, 3, 4] rfl)
    | succ n94 ih94 =>
      intro k94 v2_94 v3_94 v4_94 v5_94 now0_94 thr0_94 H locs ls hk94 hz94 iv94_0 iv94_1 iv94_2 hP hD hS hl
      have ex := (nat_of iv94_0 (by decide)).1
      have lx := (nat_of iv94_0 (by decide)).2
      obtain ⟨z94, hz⟩ : ∃ zz_, zz_ = f_X8_settles_l94b x k94 v2_94 v3_94 v4_94 v5_94 now0_94 thr0_94 := ⟨_, rfl⟩
      have hq94 : z = sE id (fun q_ => lpF (f_X8_settles_l94s x) (f_X8_settles_l94e x) n94 (k94 + 1) q_) z94 := by rw [hz94, hz]; rfl
      refine lv_iload hx hb dX8_settles_94 (lv_at hl 6 rfl) ?_
      refine lv_iconst (v := 4) hx hb dX8_settles_96 (by decide) ?_
      refine lv_icmp_ge (tgt := 137) hx hb dX8_settles_97 (by decide) (fun c_97 => absurd c_97 (by have e : (4 : Int32) = nI 4 := (by decide +kernel); rw [e]; exact nI_ge (by omega) (by omega))) (fun c_97 => ?_)
      refine lv_aload_n hx hb dX8_settles_100 rfl (lv_at hl 0 rfl) ?_
      refine va_get (D := D) (ci := 9) (v := .ref (b 1)) (C := RX8) (T := TX8) (N := 20) hx hb hts hinX8 hown hK hP 0 rfl rfl 0 (by decide) (hts (.fieldLink RX8 9 "BridgeAuctionModel" "now" "[I") (by decide +kernel)) (fun _ h9 => h9) rfl dX8_settles_101 ?_
      refine lv_iload_n hx hb dX8_settles_104 rfl (lv_at hl 1 rfl) ?_
      obtain ⟨ehn_3, lhn_3⟩ := nat_of (x := x) (n := 12) (by first | assumption) (by omega)
      refine topN ehn_3 ?_
      refine callRo (va_runS (As := [.int (nI x.toNatClampNeg)]) (rest := [.ref (b 1)]) ⟨hx, hb, hml, hown, hts⟩ (c_X8_siteAt l D C (x.toNatClampNeg) (by omega)) (va_cwS 1 hts gX8_settles_X8_siteAt rfl rfl rfl (by decide +kernel) ⟨Nat.le_of_ble_eq_true rfl, Nat.le_of_ble_eq_true rfl⟩) (roP_s (hP.sub (ws' := ([] : va_W)) [] rfl) hK hE) rfl rfl hl.1 rfl (lv_room (Nat.le_of_ble_eq_true rfl)) dX8_settles_105 ⟨Nat.le_refl _, Nat.le_refl _⟩) ?_
      refine topN (k := (22 + 13 * x.toNatClampNeg)) rfl ?_
      refine lv_iconst (v := 5) hx hb dX8_settles_108 (by decide) ?_
      refine topN (k := 5) (by decide +kernel) ?_
      refine addN hx hb dX8_settles_109 ?_
      refine lv_iload hx hb dX8_settles_110 (lv_at hl 6 rfl) ?_
      refine addN hx hb dX8_settles_112 ?_
      refine lv_iconst (v := 0) hx hb dX8_settles_113 (by decide) ?_
      refine iastN (tys := tyA C) hx hb hK hP hD hS 1 0 rfl rfl (i := (((22 + 13 * x.toNatClampNeg) + 5) + k94)) (by omega) (by decide) dX8_settles_114 (fun H locs hP hD hS => ?_)
      have hP : va_P D vwCl (mcells C b (mkM (upd now0_94 (((22 + 13 * x.toNatClampNeg) + 5) + k94) 0) (mBef M) (mSav M) (mHis M) (mIsS M) (mRem M) (mErA M) (mFaA M) (mTxt M) (mTyp M) (mLin M) (mLnd M) thr0_94 (mFar M) (mGrp M) (mSiz M) (mPla M) (mWro M) (mTol M) (mNum M))) H := hP
      have hD : va_D A (mcells C b (mkM (upd now0_94 (((22 + 13 * x.toNatClampNeg) + 5) + k94) 0) (mBef M) (mSav M) (mHis M) (mIsS M) (mRem M) (mErA M) (mFaA M) (mTxt M) (mTyp M) (mLin M) (mLnd M) thr0_94 (mFar M) (mGrp M) (mSiz M) (mPla M) (mWro M) (mTol M) (mNum M))) := hD
      refine lv_aload_n hx hb dX8_settles_115 rfl (lv_at hl 0 rfl) ?_
      refine va_get (D := D) (ci := 9) (v := .ref (b 1)) (C := RX8) (T := TX8) (N := 20) hx hb hts hinX8 hown hK hP 0 rfl rfl 0 (by decide) (hts (.fieldLink RX8 9 "BridgeAuctionModel" "now" "[I") (by decide +kernel)) (fun _ h9 => h9) rfl dX8_settles_116 ?_
      refine lv_iload_n hx hb dX8_settles_119 rfl (lv_at hl 1 rfl) ?_
      obtain ⟨ehn_4, lhn_4⟩ := nat_of (x := x) (n := 12) (by first | assumption) (by omega)
      refine topN ehn_4 ?_
      refine callRo (va_runS (As := [.int (nI x.toNatClampNeg)]) (rest := [.ref (b 1)]) ⟨hx, hb, hml, hown, hts⟩ (c_X8_siteAt l D C (x.toNatClampNeg) (by omega)) (va_cwS 1 hts gX8_settles_X8_siteAt rfl rfl rfl (by decide +kernel) ⟨Nat.le_of_ble_eq_true rfl, Nat.le_of_ble_eq_true rfl⟩) (roP_s (hP.sub (ws' := ([] : va_W)) [] rfl) hK hE) rfl rfl hl.1 rfl (lv_room (Nat.le_of_ble_eq_true rfl)) dX8_settles_120 ⟨Nat.le_refl _, Nat.le_refl _⟩) ?_
      refine topN (k := (22 + 13 * x.toNatClampNeg)) rfl ?_
      refine lv_bipush (v := 9) hx hb dX8_settles_123 (by decide +kernel) ?_
      refine topN (k := 9) (by decide +kernel) ?_
      refine addN hx hb dX8_settles_125 ?_
      refine lv_iload hx hb dX8_settles_126 (lv_at hl 6 rfl) ?_
      refine addN hx hb dX8_settles_128 ?_
      refine lv_iconst (v := 0) hx hb dX8_settles_129 (by decide) ?_
      refine iastN (tys := tyA C) hx hb hK hP hD hS 1 0 rfl rfl (i := (((22 + 13 * x.toNatClampNeg) + 9) + k94)) (by omega) (by decide) dX8_settles_130 (fun H locs hP hD hS => ?_)
      have hP : va_P D vwCl (mcells C b (mkM (upd (upd now0_94 (((22 + 13 * x.toNatClampNeg) + 5) + k94) 0) (((22 + 13 * x.toNatClampNeg) + 9) + k94) 0) (mBef M) (mSav M) (mHis M) (mIsS M) (mRem M) (mErA M) (mFaA M) (mTxt M) (mTyp M) (mLin M) (mLnd M) thr0_94 (mFar M) (mGrp M) (mSiz M) (mPla M) (mWro M) (mTol M) (mNum M))) H := hP
      have hD : va_D A (mcells C b (mkM (upd (upd now0_94 (((22 + 13 * x.toNatClampNeg) + 5) + k94) 0) (((22 + 13 * x.toNatClampNeg) + 9) + k94) 0) (mBef M) (mSav M) (mHis M) (mIsS M) (mRem M) (mErA M) (mFaA M) (mTxt M) (mTyp M) (mLin M) (mLnd M) thr0_94 (mFar M) (mGrp M) (mSiz M) (mPla M) (mWro M) (mTol M) (mNum M))) := hD
      refine lv_iinc (v := (nI (k94 + 1))) (lv' := [(6, .int (nI (k94 + 1))), (0, .ref (b 0)), (1, .int x), (2, .int (nI v2_94)), (3, .int (bI v3_94)), (4, .int (bI v4_94)), (5, .int v5_94)]) hx hb dX8_settles_131 hl (k := 6) rfl (by exact nI_1 _) (by decide) rfl (fun ls hl => ?_)
      refine lv_goto (tgt := 94) hx hb dX8_settles_134 (by decide) ?_
      exact ih94 (k94 + 1) (v2_94) (v3_94) (v4_94) (v5_94) ((upd (upd now0_94 (((22 + 13 * x.toNatClampNeg) + 5) + k94) 0) (((22 + 13 * x.toNatClampNeg) + 9) + k94) 0)) (thr0_94) _ _ ls (by omega) (by rw [hq94, hz]; rfl) (by assumption) (by omega) (by first | exact hM | exact NowOK_upd (NowOK_upd iv94_2 (k := x.toNatClampNeg) (j := 5 + k94) lx (by omega) (by omega)) (k := x.toNatClampNeg) (j := 9 + k94) lx (by omega) (by omega)) hP hD hS (lv_sub hl [1, 2, 3, 4, 5, 6, 0] rfl)
  have J73 : ∀ (v2_73 : Nat) (s0_73 : Bool) (thr0_73 : Int32)  (H : Heap) (locs : List Loc) (ls : Array Slot), z = f_X8_settles_j73 (mNow M) x v2_73 s0_73 thr0_73 → (vp_in x 12) → (v2_73 < 4) → va_P D vwCl (mcells C b (mkM (mNow M) (mBef M) (mSav M) (mHis M) (mIsS M) (mRem M) (mErA M) (mFaA M) (mTxt M) (mTyp M) (mLin M) (mLnd M) thr0_73 (mFar M) (mGrp M) (mSiz M) (mPla M) (mWro M) (mTol M) (mNum M))) H → va_D A (mcells C b (mkM (mNow M) (mBef M) (mSav M) (mHis M) (mIsS M) (mRem M) (mErA M) (mFaA M) (mTxt M) (mTyp M) (mLin M) (mLnd M) thr0_73 (mFar M) (mGrp M) (mSiz M) (mPla M) (mWro M) (mTol M) (mNum M))) → va_S A s.heap H locs → lv_has ls 7 [(0, .ref (b 0)), (1, .int x), (2, .int (nI v2_73))] → W p l e ({ frames := 5, cells := 0, slots := 0, locals := 110 } : Room) s m ([.ref (b 0), .int x] : List Value).toArray below meth c H locs 0 0 (MQ below (rwO (some (.int z.1)) D (mcells C b (mkM z.2.1 (mBef M) (mSav M) (mHis M) (mIsS M) (mRem M) (mErA M) (mFaA M) (mTxt M) (mTyp M) (mLin M) (mLnd M) z.2.2 (mFar M) (mGrp M) (mSiz M) (mPla M) (mWro M) (mTol M) (mNum M))) A) ([.ref (b 0), .int x] : List Value).toArray s 0 0 A) (F0 m 73 ls [.int (bI s0_73)]) := by
    intro v2_73 s0_73 thr0_73 H locs ls hz iv73_0 iv73_1 hP hD hS hl
    have ex := (nat_of iv73_0 (by decide)).1
    have lx := (nat_of iv73_0 (by decide)).2
    refine lv_istore_n (lv' := [(3, .int (bI s0_73)), (0, .ref (b 0)), (1, .int x), (2, .int (nI v2_73))]) hx hb dX8_settles_73 rfl hl (by decide) rfl (fun ls hl => ?_)
    refine lv_aload_n hx hb dX8_settles_74 rfl (lv_at hl 1 rfl) ?_
    refine lv_iload_n hx hb dX8_settles_75 rfl (lv_at hl 2 rfl) ?_
    refine callRo (va_runV (As := [.int x]) (rest := []) ⟨hx, hb, hml, hown, hts⟩ (c_X8_doesBuild l D C b (mkM (mNow M) (mBef M) (mSav M) (mHis M) (mIsS M) (mRem M) (mErA M) (mFaA M) (mTxt M) (mTyp M) (mLin M) (mLnd M) thr0_73 (mFar M) (mGrp M) (mSiz M) (mPla M) (mWro M) (mTol M) (mNum M)) (x) (MSafe_of hM rfl)) (cwV 1 hts gX8_settles_X8_doesBuild rfl rfl rfl (by decide +kernel) ⟨Nat.le_of_ble_eq_true rfl, Nat.le_of_ble_eq_true rfl⟩) (roP_v hP hK hE (va_recv hK hP (ci := 9) (q0 := 0) rfl rfl)) rfl rfl hl.1 rfl (lv_room (Nat.le_of_ble_eq_true rfl)) dX8_settles_76 ⟨Nat.le_refl _, Nat.le_refl _⟩) ?_
    refine topI (y := (bI (f_X8_doesBuild (mNow M) (x)))) rfl ?_
    refine lv_istore (lv' := [(4, .int (bI (f_X8_doesBuild (mNow M) (x)))), (3, .int (bI s0_73)), (0, .ref (b 0)), (1, .int x), (2, .int (nI v2_73))]) hx hb dX8_settles_79 hl (by decide) rfl (fun ls hl => ?_)
    refine lv_aload_n hx hb dX8_settles_81 rfl (lv_at hl 2 rfl) ?_
    refine lv_iload_n hx hb dX8_settles_82 rfl (lv_at hl 3 rfl) ?_
    refine lv_iconst (v := 5) hx hb dX8_settles_83 (by decide) ?_
    refine lv_iload_n hx hb dX8_settles_84 rfl (lv_at hl 4 rfl) ?_
    refine topN2 (k := 5) (by decide +kernel) ?_
    refine addN hx hb dX8_settles_85 ?_
    refine callRo (va_runV (As := [.int x, .int (nI (5 + v2_73))]) (rest := []) ⟨hx, hb, hml, hown, hts⟩ (c_X8_of l D C b (mkM (mNow M) (mBef M) (mSav M) (mHis M) (mIsS M) (mRem M) (mErA M) (mFaA M) (mTxt M) (mTyp M) (mLin M) (mLnd M) thr0_73 (mFar M) (mGrp M) (mSiz M) (mPla M) (mWro M) (mTol M) (mNum M)) (x) ((5 + v2_73)) (MSafe_of hM rfl) (by omega)) (cwV 2 hts gX8_settles_X8_of rfl rfl rfl (by decide +kernel) ⟨Nat.le_of_ble_eq_true rfl, Nat.le_of_ble_eq_true rfl⟩) (roP_v hP hK hE (va_recv hK hP (ci := 9) (q0 := 0) rfl rfl)) rfl rfl hl.1 rfl (lv_room (Nat.le_of_ble_eq_true rfl)) dX8_settles_86 ⟨Nat.le_refl _, Nat.le_refl _⟩) ?_
    refine topI (y := (f_X8_of (mNow M) (x) ((5 + v2_73)))) rfl ?_
    refine lv_istore (lv' := [(5, .int (f_X8_of (mNow M) (x) ((5 + v2_73)))), (4, .int (bI (f_X8_doesBuild (mNow M) (x)))), (3, .int (bI s0_73)), (0, .ref (b 0)), (1, .int x), (2, .int (nI v2_73))]) hx hb dX8_settles_89 hl (by decide) rfl (fun ls hl => ?_)
    refine lv_iconst (v := 0) hx hb dX8_settles_91 (by decide) ?_
    refine lv_istore (lv' := [(6, .int 0), (5, .int (f_X8_of (mNow M) (x) ((5 + v2_73)))), (4, .int (bI (f_X8_doesBuild (mNow M) (x)))), (3, .int (bI s0_73)), (0, .ref (b 0)), (1, .int x), (2, .int (nI v2_73))]) hx hb dX8_settles_92 hl (by decide) rfl (fun ls hl => ?_)
    exact J94 (4) 0 (v2_73) (s0_73) ((f_X8_doesBuild (mNow M) (x))) ((f_X8_of (mNow M) (x) ((5 + v2_73)))) ((mNow M)) (thr0_73) _ _ ls (by omega) hz (by assumption) (by omega) (by first | exact hM | exact NowOK_upd (NowOK_upd iv94_2 (k := x.toNatClampNeg) (j := 5 + k94) lx (by omega) (by omega)) (k := x.toNatClampNeg) (j := 9 + k94) lx (by omega) (by omega)) hP hD hS (lv_sub hl [4, 5, 6, 3, 2, 1, 0] rfl)
  have J40 : ∀ (s0_40 : Bool) (s1_40 : Bool) (s2_40 : Bool)  (H : Heap) (locs : List Loc) (ls : Array Slot), z = f_X8_settles_j40 (mNow M) x s0_40 s1_40 s2_40 → (s2_40 = true → vp_in x (mS (mNow M))) → va_P D vwCl (mcells C b M) H → va_D A (mcells C b M) → va_S A s.heap H locs → lv_has ls 7 [(0, .ref (b 0)), (1, .int x)] → W p l e ({ frames := 5, cells := 0, slots := 0, locals := 110 } : Room) s m ([.ref (b 0), .int x] : List Value).toArray below meth c H locs 0 0 (MQ below (rwO (some (.int z.1)) D (mcells C b (mkM z.2.1 (mBef M) (mSav M) (mHis M) (mIsS M) (mRem M) (mErA M) (mFaA M) (mTxt M) (mTyp M) (mLin M) (mLnd M) z.2.2 (mFar M) (mGrp M) (mSiz M) (mPla M) (mWro M) (mTol M) (mNum M))) A) ([.ref (b 0), .int x] : List Value).toArray s 0 0 A) (F0 m 40 ls [.int (bI s0_40), .int (bI s1_40), .int (bI s2_40), .ref (b 0)]) := by
    intro s0_40 s1_40 s2_40 H locs ls hz iv40_0 hP hD hS hl
    refine lv_iconst (v := 1) hx hb dX8_settles_40 (by decide) ?_
    have hFc := va_free (wc := (mcells C b M)) hD hS hA [0, 1, 2, 3, 4, 5, 6, 7, 8, 9] rfl
    refine callRw (va_runV (As := [.int (bI s2_40), .int (bI s1_40), .int (bI s0_40), .int (bI true)]) (rest := []) ⟨hx, hb, hml, hown, hts⟩ (c_X8_holds_ l D C b M (s2_40) (s1_40) (s0_40) (true) _) (cwV 4 hts gX8_settles_X8_holds rfl rfl rfl (by decide +kernel) ⟨Nat.le_of_ble_eq_true rfl, Nat.le_of_ble_eq_true rfl⟩) (rwP_v hP hK hE hD (va_recv hK hP (ci := 9) (q0 := 0) rfl rfl)) rfl rfl hl.1 rfl (lv_room (Nat.le_of_ble_eq_true rfl)) dX8_settles_41 ⟨Nat.le_refl _, Nat.le_refl _⟩) hS hFc (fun H1 locs hPn hk hS => ?_)
    have hP : va_P D vwCl (mcells C b (mkM (mNow M) (mBef M) (mSav M) (mHis M) (mIsS M) (mRem M) (mErA M) (mFaA M) (mTxt M) (mTyp M) (mLin M) (mLnd M) (hThr s2_40 s1_40 s0_40 true) (mFar M) (mGrp M) (mSiz M) (mPla M) (mWro M) (mTol M) (mNum M))) H1 := hPn
    have hD : va_D A (mcells C b (mkM (mNow M) (mBef M) (mSav M) (mHis M) (mIsS M) (mRem M) (mErA M) (mFaA M) (mTxt M) (mTyp M) (mLin M) (mLnd M) (hThr s2_40 s1_40 s0_40 true) (mFar M) (mGrp M) (mSiz M) (mPla M) (mWro M) (mTol M) (mNum M))) := adr_D hD rfl
    generalize H1 = H at hP hS ⊢
    refine topI (y := (bI (hOk s2_40 s1_40 s0_40 true))) rfl ?_
    refine bif_ne (tgt := 49) hx hb dX8_settles_44 (by decide) (fun c_44 => ?_) (fun c_44 => ?_)
    · have hz := hz.trans (ifB_t c_44)
      have q := iv40_0 (hOk_1 c_44).1
      have hs := vp_mono q hS12
      have ex := (nat_of hs (by decide)).1
      have lx := (nat_of hs (by decide)).2
      refine lv_aload_n hx hb dX8_settles_49 rfl (lv_at hl 0 rfl) ?_
      refine lv_iload_n hx hb dX8_settles_50 rfl (lv_at hl 1 rfl) ?_
      refine callRo (va_runV (As := [.int x]) (rest := []) ⟨hx, hb, hml, hown, hts⟩ (c_X8_winner l D C b (mkM (mNow M) (mBef M) (mSav M) (mHis M) (mIsS M) (mRem M) (mErA M) (mFaA M) (mTxt M) (mTyp M) (mLin M) (mLnd M) (hThr s2_40 s1_40 s0_40 true) (mFar M) (mGrp M) (mSiz M) (mPla M) (mWro M) (mTol M) (mNum M)) (x) (MSafe_of hM rfl)) (cwV 1 hts gX8_settles_X8_winner rfl rfl rfl (by decide +kernel) ⟨Nat.le_of_ble_eq_true rfl, Nat.le_of_ble_eq_true rfl⟩) (roP_v hP hK hE (va_recv hK hP (ci := 9) (q0 := 0) rfl rfl)) rfl rfl hl.1 rfl (lv_room (Nat.le_of_ble_eq_true rfl)) dX8_settles_51 ⟨Nat.le_refl _, Nat.le_refl _⟩) ?_
      refine topI (y := (f_X8_winner (mNow M) (x))) rfl ?_
      have hw := X8_winner_in hM x
      have lw := (nat_of hw (by decide)).2
      refine topN (k := (f_X8_winner (mNow M) x).toNatClampNeg) (show (f_X8_winner (mNow M) (x)) = (nI (f_X8_winner (mNow M) x).toNatClampNeg) from by exact (nat_of hw (by decide)).1) ?_
      refine lv_istore_n (lv' := [(2, .int (nI (f_X8_winner (mNow M) x).toNatClampNeg)), (0, .ref (b 0)), (1, .int x)]) hx hb dX8_settles_54 rfl hl (by decide) rfl (fun ls hl => ?_)
      refine lv_aload_n hx hb dX8_settles_55 rfl (lv_at hl 1 rfl) ?_
      refine lv_iload_n hx hb dX8_settles_56 rfl (lv_at hl 2 rfl) ?_
      refine lv_bipush (v := 9) hx hb dX8_settles_57 (by decide +kernel) ?_
      refine lv_iload_n hx hb dX8_settles_59 rfl (lv_at hl 0 rfl) ?_
      refine topN2 (k := 9) (by decide +kernel) ?_
      refine addN hx hb dX8_settles_60 ?_
      refine callRo (va_runV (As := [.int x, .int (nI (9 + (f_X8_winner (mNow M) x).toNatClampNeg))]) (rest := []) ⟨hx, hb, hml, hown, hts⟩ (c_X8_of l D C b (mkM (mNow M) (mBef M) (mSav M) (mHis M) (mIsS M) (mRem M) (mErA M) (mFaA M) (mTxt M) (mTyp M) (mLin M) (mLnd M) (hThr s2_40 s1_40 s0_40 true) (mFar M) (mGrp M) (mSiz M) (mPla M) (mWro M) (mTol M) (mNum M)) (x) ((9 + (f_X8_winner (mNow M) x).toNatClampNeg)) (MSafe_of hM rfl) (by omega)) (cwV 2 hts gX8_settles_X8_of rfl rfl rfl (by decide +kernel) ⟨Nat.le_of_ble_eq_true rfl, Nat.le_of_ble_eq_true rfl⟩) (roP_v hP hK hE (va_recv hK hP (ci := 9) (q0 := 0) rfl rfl)) rfl rfl hl.1 rfl (lv_room (Nat.le_of_ble_eq_true rfl)) dX8_settles_61 ⟨Nat.le_refl _, Nat.le_refl _⟩) ?_
      refine topI (y := (f_X8_of (mNow M) (x) ((9 + (f_X8_winner (mNow M) x).toNatClampNeg)))) rfl ?_
      refine lv_iconst (v := 1) hx hb dX8_settles_64 (by decide) ?_
      refine lv_icmp_ne (tgt := 72) hx hb dX8_settles_65 (by decide) (fun c_65 => ?_) (fun c_65 => ?_)
      · have hz := hz.trans (if_neg c_65)
        refine lv_iconst (v := 0) hx hb dX8_settles_72 (by decide) ?_
        exact J73 ((f_X8_winner (mNow M) x).toNatClampNeg) (false) ((hThr s2_40 s1_40 s0_40 true)) _ _ ls hz (by assumption) (by omega) hP hD hS (lv_sub hl [1, 2, 0] rfl)
      · have hz := hz.trans (if_pos c_65)
        refine lv_iconst (v := 1) hx hb dX8_settles_68 (by decide) ?_
        refine lv_goto (tgt := 73) hx hb dX8_settles_69 (by decide) ?_
        exact J73 ((f_X8_winner (mNow M) x).toNatClampNeg) (true) ((hThr s2_40 s1_40 s0_40 true)) _ _ ls hz (by assumption) (by omega) hP hD hS (lv_sub hl [1, 2, 0] rfl)
    · have hz := hz.trans (ifB_f c_44)
      refine lv_iconst (v := 0) hx hb dX8_settles_47 (by decide) ?_
      have hz : z = (0, (mNow M), (hThr s2_40 s1_40 s0_40 true)) := hz
      rw [hz]
      exact rw_ret hx hb hr hP hS rfl dX8_settles_48 hlocks
  have J39 : ∀ (s0_39 : Bool) (s1_39 : Bool)  (H : Heap) (locs : List Loc) (ls : Array Slot), z = f_X8_settles_j39 (mNow M) x s0_39 s1_39 → (s1_39 = true → vp_in x (mS (mNow M))) → va_P D vwCl (mcells C b M) H → va_D A (mcells C b M) → va_S A s.heap H locs → lv_has ls 7 [(0, .ref (b 0)), (1, .int x)] → W p l e ({ frames := 5, cells := 0, slots := 0, locals := 110 } : Room) s m ([.ref (b 0), .int x] : List Value).toArray below meth c H locs 0 0 (MQ below (rwO (some (.int z.1)) D (mcells C b (mkM z.2.1 (mBef M) (mSav M) (mHis M) (mIsS M) (mRem M) (mErA M) (mFaA M) (mTxt M) (mTyp M) (mLin M) (mLnd M) z.2.2 (mFar M) (mGrp M) (mSiz M) (mPla M) (mWro M) (mTol M) (mNum M))) A) ([.ref (b 0), .int x] : List Value).toArray s 0 0 A) (F0 m 39 ls [.int (bI s0_39), .int (bI s1_39), .ref (b 0)]) := by
    intro s0_39 s1_39 H locs ls hz iv39_0 hP hD hS hl
    refine lv_iconst (v := 0) hx hb dX8_settles_39 (by decide) ?_
    exact J40 (false) (s0_39) (s1_39) _ _ ls hz (by assumption) hP hD hS (lv_sub hl [0, 1] rfl)
  have J19 : ∀ (s0_19 : Bool) (s1_19 : Bool)  (H : Heap) (locs : List Loc) (ls : Array Slot), z = f_X8_settles_j19 (mNow M) x s0_19 s1_19 → (s1_19 = true → vp_in x (mS (mNow M))) → va_P D vwCl (mcells C b M) H → va_D A (mcells C b M) → va_S A s.heap H locs → lv_has ls 7 [(0, .ref (b 0)), (1, .int x)] → W p l e ({ frames := 5, cells := 0, slots := 0, locals := 110 } : Room) s m ([.ref (b 0), .int x] : List Value).toArray below meth c H locs 0 0 (MQ below (rwO (some (.int z.1)) D (mcells C b (mkM z.2.1 (mBef M) (mSav M) (mHis M) (mIsS M) (mRem M) (mErA M) (mFaA M) (mTxt M) (mTyp M) (mLin M) (mLnd M) z.2.2 (mFar M) (mGrp M) (mSiz M) (mPla M) (mWro M) (mTol M) (mNum M))) A) ([.ref (b 0), .int x] : List Value).toArray s 0 0 A) (F0 m 19 ls [.int (bI s0_19), .int (bI s1_19), .ref (b 0)]) := by
    intro s0_19 s1_19 H locs ls hz iv19_0 hP hD hS hl
    refine lv_aload_n hx hb dX8_settles_19 rfl (lv_at hl 0 rfl) ?_
    refine lv_iload_n hx hb dX8_settles_20 rfl (lv_at hl 1 rfl) ?_
    refine callRo (va_runV (As := [.int x]) (rest := [.int (bI s0_19), .int (bI s1_19), .ref (b 0)]) ⟨hx, hb, hml, hown, hts⟩ (c_X8_isSite l D C b M (x) hM) (cwV 1 hts gX8_settles_X8_isSite rfl rfl rfl (by decide +kernel) ⟨Nat.le_of_ble_eq_true rfl, Nat.le_of_ble_eq_true rfl⟩) (roP_v hP hK hE (va_recv hK hP (ci := 9) (q0 := 0) rfl rfl)) rfl rfl hl.1 rfl (lv_room (Nat.le_of_ble_eq_true rfl)) dX8_settles_21 ⟨Nat.le_refl _, Nat.le_refl _⟩) ?_
    refine bif_eq (tgt := 39) hx hb dX8_settles_24 (by decide) (fun c_24 => ?_) (fun c_24 => ?_)
    · have hz := hz.trans (ifB_f c_24)
      exact J39 (s0_19) (s1_19) _ _ ls hz (by assumption) hP hD hS (lv_sub hl [0, 1] rfl)
    · have hz := hz.trans (ifB_t c_24)
      refine lv_aload_n hx hb dX8_settles_27 rfl (lv_at hl 0 rfl) ?_
      refine lv_iload_n hx hb dX8_settles_28 rfl (lv_at hl 1 rfl) ?_
      refine callRo (va_runV (As := [.int x]) (rest := [.int (bI s0_19), .int (bI s1_19), .ref (b 0)]) ⟨hx, hb, hml, hown, hts⟩ (c_X8_bidsOn l D C b M (x) hM) (cwV 1 hts gX8_settles_X8_bidsOn rfl rfl rfl (by decide +kernel) ⟨Nat.le_of_ble_eq_true rfl, Nat.le_of_ble_eq_true rfl⟩) (roP_v hP hK hE (va_recv hK hP (ci := 9) (q0 := 0) rfl rfl)) rfl rfl hl.1 rfl (lv_room (Nat.le_of_ble_eq_true rfl)) dX8_settles_29 ⟨Nat.le_refl _, Nat.le_refl _⟩) ?_
      refine lv_if_le (tgt := 39) hx hb dX8_settles_32 (by decide) (fun c_32 => ?_) (fun c_32 => ?_)
      · have hz := hz.trans (if_pos c_32)
        exact J39 (s0_19) (s1_19) _ _ ls hz (by assumption) hP hD hS (lv_sub hl [0, 1] rfl)
      · have hz := hz.trans (if_neg c_32)
        refine lv_iconst (v := 1) hx hb dX8_settles_35 (by decide) ?_
        refine lv_goto (tgt := 40) hx hb dX8_settles_36 (by decide) ?_
        exact J40 (true) (s0_19) (s1_19) _ _ ls hz (by assumption) hP hD hS (lv_sub hl [0, 1] rfl)
  refine lv_aload_n hx hb dX8_settles_0 rfl (lv_at hl 0 rfl) ?_
  refine lv_aload_n hx hb dX8_settles_1 rfl (lv_at hl 0 rfl) ?_
  refine lv_iload_n hx hb dX8_settles_2 rfl (lv_at hl 1 rfl) ?_
  refine callRo (va_runV (As := [.int x]) (rest := [.ref (b 0)]) ⟨hx, hb, hml, hown, hts⟩ (c_X8_isSite l D C b M (x) hM) (cwV 1 hts gX8_settles_X8_isSite rfl rfl rfl (by decide +kernel) ⟨Nat.le_of_ble_eq_true rfl, Nat.le_of_ble_eq_true rfl⟩) (roP_v hP hK hE (va_recv hK hP (ci := 9) (q0 := 0) rfl rfl)) rfl rfl hl.1 rfl (lv_room (Nat.le_of_ble_eq_true rfl)) dX8_settles_3 ⟨Nat.le_refl _, Nat.le_refl _⟩) ?_
  refine lv_aload_n hx hb dX8_settles_6 rfl (lv_at hl 0 rfl) ?_
  refine lv_iload_n hx hb dX8_settles_7 rfl (lv_at hl 1 rfl) ?_
  refine callRo (va_runV (As := [.int x]) (rest := [.int (bI (f_X8_isSite (mNow M) (x))), .ref (b 0)]) ⟨hx, hb, hml, hown, hts⟩ (c_X8_isDone l D C b M (x) hM) (cwV 1 hts gX8_settles_X8_isDone rfl rfl rfl (by decide +kernel) ⟨Nat.le_of_ble_eq_true rfl, Nat.le_of_ble_eq_true rfl⟩) (roP_v hP hK hE (va_recv hK hP (ci := 9) (q0 := 0) rfl rfl)) rfl rfl hl.1 rfl (lv_room (Nat.le_of_ble_eq_true rfl)) dX8_settles_8 ⟨Nat.le_refl _, Nat.le_refl _⟩) ?_
  refine bif_ne (tgt := 18) hx hb dX8_settles_11 (by decide) (fun c_11 => ?_) (fun c_11 => ?_)
  · have hz := hz.trans (ifB_t c_11)
    refine lv_iconst (v := 0) hx hb dX8_settles_18 (by decide) ?_
    exact J19 (false) ((f_X8_isSite (mNow M) (x))) _ _ ls hz (by exact fun h => X8_isSite_in hM h) hP hD hS (lv_sub hl [0, 1] rfl)
  · have hz := hz.trans (ifB_f c_11)
    refine lv_iconst (v := 1) hx hb dX8_settles_14 (by decide) ?_
    refine lv_goto (tgt := 19) hx hb dX8_settles_15 (by decide) ?_
    exact J19 (true) ((f_X8_isSite (mNow M) (x))) _ _ ls hz (by exact fun h => X8_isSite_in hM h) hP hD hS (lv_sub hl [0, 1] rfl)

