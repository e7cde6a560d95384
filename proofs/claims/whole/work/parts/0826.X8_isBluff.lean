def f_X8_isBluff_j27  (s0_27 : Bool) (thr0_27 : Int32) : Bool × Int32 := (s0_27, thr0_27)
def f_X8_isBluff_j26  (thr0_26 : Int32) : Bool × Int32 := (f_X8_isBluff_j27 (false) (thr0_26))
def f_X8_isBluff (nw : (Nat → Int32)) (x : Int32) (y : Int32) : Bool × Int32 := (lt_ (f_X8_hasBid nw (x) (y)) (fun y3 => (if y3.1 = true then (if (f_X8_of nw (y) ((9 + x.toNatClampNeg))) = 1 then (f_X8_isBluff_j27 (true) (y3.2)) else (f_X8_isBluff_j26 (y3.2))) else (f_X8_isBluff_j26 (y3.2)))))
set_option maxHeartbeats 4000000 in
set_option maxRecDepth 100000 in
theorem c_X8_isBluff (l : Launch) (D : va_G) (C : Nat → ClassId) (b : Nat → Nat) (M : MS) (x : Int32) (y : Int32) (sz : Nat) (hM : MSafe M) : Met l yX8_isBluff wsX8_isBluff ({ frames := 5, cells := 0, slots := 0, locals := 109 } : Room) (rwP [.ref (b 0), .int x, .int y] D C (mcells C b M) sz) (rwO (some (.int (bI ((f_X8_isBluff (mNow M) x y).1)))) D (mcells C b (mkM (mNow M) (mBef M) (mSav M) (mHis M) (mIsS M) (mRem M) (mErA M) (mFaA M) (mTxt M) (mTyp M) (mLin M) (mLnd M) ((f_X8_isBluff (mNow M) x y).2) (mFar M) (mGrp M) (mSiz M) (mPla M) (mWro M) (mTol M) (mNum M))) (va_A (mcells C b M) sz)) 0 0 (va_A (mcells C b M) sz) := by
  refine Met.ofW (cc := cX8_isBluff) (maxL := 3) (ret := (some .boolean)) (by decide) rfl ?_
  intro p e s m args below meth c s₁ B hml hv
  obtain ⟨rfl, hsz, hP, hK, hD0, hE⟩ := hv
  have hx := B.exec
  have hb := B.bytes
  have hr := B.returns
  have hts := atoms_spec (ws := wsX8_isBluff) B.pre
  have hown : s.vm.findClass RX8 = some m.cls := findClass_of_methodNamed B.named
  have hlocks := B.notSynchronized
  subst hsz
  have hD := hD0.self (sz := s.heap.size)
  generalize hAe : va_A (mcells C b M) s.heap.size = A at hD ⊢
  have hA : ∀ q : Nat, s.heap.size ≤ q → A q := fun q h => by rw [← hAe]; exact Or.inr h
  have hS0 : va_S A s.heap s.heap [] := va_S.rf
  have hP : va_P D vwCl (mcells C b M) s.heap := hP
  have hS := hS0
  obtain ⟨⟨hS2, hS12⟩, ⟨hP2, hP4⟩, hLH, hFE⟩ := id hM
  have hl := lv_entry ([.ref (b 0), .int x, .int y]) (n := 3) (Nat.le_of_ble_eq_true rfl)
  rw [lg_entry_eq]
  generalize (lg_sl ([.ref (b 0), .int x, .int y]) ++ List.replicate (3 - (lg_sl ([.ref (b 0), .int x, .int y])).length) Slot.unset).toArray = ls at hl ⊢
  have hl : lv_has ls 3 [(0, .ref (b 0)), (1, .int x), (2, .int y)] := hl
  obtain ⟨z, hz⟩ : ∃ z, z = f_X8_isBluff (mNow M) x y := ⟨_, rfl⟩
  rw [← hz]
  have J27 : ∀ (s0_27 : Bool) (thr0_27 : Int32)  (H : Heap) (locs : List Loc) (ls : Array Slot), z = f_X8_isBluff_j27 s0_27 thr0_27 → va_P D vwCl (mcells C b (mkM (mNow M) (mBef M) (mSav M) (mHis M) (mIsS M) (mRem M) (mErA M) (mFaA M) (mTxt M) (mTyp M) (mLin M) (mLnd M) thr0_27 (mFar M) (mGrp M) (mSiz M) (mPla M) (mWro M) (mTol M) (mNum M))) H → va_D A (mcells C b (mkM (mNow M) (mBef M) (mSav M) (mHis M) (mIsS M) (mRem M) (mErA M) (mFaA M) (mTxt M) (mTyp M) (mLin M) (mLnd M) thr0_27 (mFar M) (mGrp M) (mSiz M) (mPla M) (mWro M) (mTol M) (mNum M))) → va_S A s.heap H locs → lv_has ls 3 [] → W p l e ({ frames := 5, cells := 0, slots := 0, locals := 109 } : Room) s m ([.ref (b 0), .int x, .int y] : List Value).toArray below meth c H locs 0 0 (MQ below (rwO (some (.int (bI z.1))) D (mcells C b (mkM (mNow M) (mBef M) (mSav M) (mHis M) (mIsS M) (mRem M) (mErA M) (mFaA M) (mTxt M) (mTyp M) (mLin M) (mLnd M) z.2 (mFar M) (mGrp M) (mSiz M) (mPla M) (mWro M) (mTol M) (mNum M))) A) ([.ref (b 0), .int x, .int y] : List Value).toArray s 0 0 A) (F0 m 27 ls [.int (bI s0_27)]) := by
    intro s0_27 thr0_27 H locs ls hz  hP hD hS hl
    have hz : z = (s0_27, thr0_27) := hz
    rw [hz]
    exact rw_retB hx hb hr hP hS rfl dX8_isBluff_27 hlocks
  have J26 : ∀ (thr0_26 : Int32)  (H : Heap) (locs : List Loc) (ls : Array Slot), z = f_X8_isBluff_j26 thr0_26 → va_P D vwCl (mcells C b (mkM (mNow M) (mBef M) (mSav M) (mHis M) (mIsS M) (mRem M) (mErA M) (mFaA M) (mTxt M) (mTyp M) (mLin M) (mLnd M) thr0_26 (mFar M) (mGrp M) (mSiz M) (mPla M) (mWro M) (mTol M) (mNum M))) H → va_D A (mcells C b (mkM (mNow M) (mBef M) (mSav M) (mHis M) (mIsS M) (mRem M) (mErA M) (mFaA M) (mTxt M) (mTyp M) (mLin M) (mLnd M) thr0_26 (mFar M) (mGrp M) (mSiz M) (mPla M) (mWro M) (mTol M) (mNum M))) → va_S A s.heap H locs → lv_has ls 3 [] → W p l e ({ frames := 5, cells := 0, slots := 0, locals := 109 } : Room) s m ([.ref (b 0), .int x, .int y] : List Value).toArray below meth c H locs 0 0 (MQ below (rwO (some (.int (bI z.1))) D (mcells C b (mkM (mNow M) (mBef M) (mSav M) (mHis M) (mIsS M) (mRem M) (mErA M) (mFaA M) (mTxt M) (mTyp M) (mLin M) (mLnd M) z.2 (mFar M) (mGrp M) (mSiz M) (mPla M) (mWro M) (mTol M) (mNum M))) A) ([.ref (b 0), .int x, .int y] : List Value).toArray s 0 0 A) (F0 m 26 ls []) := by
    intro thr0_26 H locs ls hz  hP hD hS hl
    refine lv_iconst (v := 0) hx hb dX8_isBluff_26 (by decide) ?_
    exact J27 (false) (thr0_26) _ _ ls hz  hP hD hS (lv_sub hl [] rfl)
  refine lv_aload_n hx hb dX8_isBluff_0 rfl (lv_at hl 0 rfl) ?_
  refine lv_iload_n hx hb dX8_isBluff_1 rfl (lv_at hl 1 rfl) ?_
  refine lv_iload_n hx hb dX8_isBluff_2 rfl (lv_at hl 2 rfl) ?_
  have hFc := va_free (wc := (mcells C b M)) hD hS hA [0, 1, 2, 3, 4, 5, 6, 7, 8, 9] rfl
  refine callRw (va_runV (As := [.int x, .int y]) (rest := []) ⟨hx, hb, hml, hown, hts⟩ (c_X8_hasBid l D C b M (x) (y) _ hM) (cwV 2 hts gX8_isBluff_X8_hasBid rfl rfl rfl (by decide +kernel) ⟨Nat.le_of_ble_eq_true rfl, Nat.le_of_ble_eq_true rfl⟩) (rwP_v hP hK hE hD (va_recv hK hP (ci := 9) (q0 := 0) rfl rfl)) rfl rfl hl.1 rfl (lv_room (Nat.le_of_ble_eq_true rfl)) dX8_isBluff_3 ⟨Nat.le_refl _, Nat.le_refl _⟩) hS hFc (fun H1 locs hPn hk hS => ?_)
  obtain ⟨y3, hy3⟩ : ∃ y_, y_ = (f_X8_hasBid (mNow M) (x) (y)) := ⟨_, rfl⟩
  have hPn : va_P D vwCl (mcells C b (mkM (mNow M) (mBef M) (mSav M) (mHis M) (mIsS M) (mRem M) (mErA M) (mFaA M) (mTxt M) (mTyp M) (mLin M) (mLnd M) y3.2 (mFar M) (mGrp M) (mSiz M) (mPla M) (mWro M) (mTol M) (mNum M))) H1 := by rw [hy3]; exact hPn
  refine topI (y := bI y3.1) (congrArg bI (congrArg Prod.fst hy3).symm) ?_
  have hz := lt_eq hz hy3
  have hP : va_P D vwCl (mcells C b (mkM (mNow M) (mBef M) (mSav M) (mHis M) (mIsS M) (mRem M) (mErA M) (mFaA M) (mTxt M) (mTyp M) (mLin M) (mLnd M) y3.2 (mFar M) (mGrp M) (mSiz M) (mPla M) (mWro M) (mTol M) (mNum M))) H1 := hPn
  have hD : va_D A (mcells C b (mkM (mNow M) (mBef M) (mSav M) (mHis M) (mIsS M) (mRem M) (mErA M) (mFaA M) (mTxt M) (mTyp M) (mLin M) (mLnd M) y3.2 (mFar M) (mGrp M) (mSiz M) (mPla M) (mWro M) (mTol M) (mNum M))) := adr_D hD rfl
  generalize H1 = H at hP hS ⊢
  refine bif_eq (tgt := 26) hx hb dX8_isBluff_6 (by decide) (fun c_6 => ?_) (fun c_6 => ?_)
  · have hz := hz.trans (ifB_f c_6)
    exact J26 (y3.2) _ _ ls hz  hP hD hS (lv_sub hl [] rfl)
  · have hz := hz.trans (ifB_t c_6)
    have q := X8_hasBid_in (x := x) (y := y) hM (by rw [← hy3]; exact c_6)
    have hp := vp_mono q.1 hP4
    have ex := (nat_of hp (by decide)).1
    have lx := (nat_of hp (by decide)).2
    refine lv_aload_n hx hb dX8_isBluff_9 rfl (lv_at hl 0 rfl) ?_
    refine lv_iload_n hx hb dX8_isBluff_10 rfl (lv_at hl 2 rfl) ?_
    refine lv_bipush (v := 9) hx hb dX8_isBluff_11 (by decide +kernel) ?_
    refine lv_iload_n hx hb dX8_isBluff_13 rfl (lv_at hl 1 rfl) ?_
    refine topN (k := x.toNatClampNeg) (show x = (nI x.toNatClampNeg) from by exact ex) ?_
    refine topN2 (k := 9) (by decide +kernel) ?_
    refine addN hx hb dX8_isBluff_14 ?_
    refine callRo (va_runV (As := [.int y, .int (nI (9 + x.toNatClampNeg))]) (rest := []) ⟨hx, hb, hml, hown, hts⟩ (c_X8_of l D C b (mkM (mNow M) (mBef M) (mSav M) (mHis M) (mIsS M) (mRem M) (mErA M) (mFaA M) (mTxt M) (mTyp M) (mLin M) (mLnd M) y3.2 (mFar M) (mGrp M) (mSiz M) (mPla M) (mWro M) (mTol M) (mNum M)) (y) ((9 + x.toNatClampNeg)) (MSafe_of hM rfl) (by omega)) (cwV 2 hts gX8_isBluff_X8_of rfl rfl rfl (by decide +kernel) ⟨Nat.le_of_ble_eq_true rfl, Nat.le_of_ble_eq_true rfl⟩) (roP_v hP hK hE (va_recv hK hP (ci := 9) (q0 := 0) rfl rfl)) rfl rfl hl.1 rfl (lv_room (Nat.le_of_ble_eq_true rfl)) dX8_isBluff_15 ⟨Nat.le_refl _, Nat.le_refl _⟩) ?_
    refine topI (y := (f_X8_of (mNow M) (y) ((9 + x.toNatClampNeg)))) rfl ?_
    refine lv_iconst (v := 1) hx hb dX8_isBluff_18 (by decide) ?_
    refine lv_icmp_ne (tgt := 26) hx hb dX8_isBluff_19 (by decide) (fun c_19 => ?_) (fun c_19 => ?_)
    · have hz := hz.trans (if_neg c_19)
      exact J26 (y3.2) _ _ ls hz  hP hD hS (lv_sub hl [] rfl)
    · have hz := hz.trans (if_pos c_19)
      refine lv_iconst (v := 1) hx hb dX8_isBluff_22 (by decide) ?_
      refine lv_goto (tgt := 27) hx hb dX8_isBluff_23 (by decide) ?_
      exact J27 (true) (y3.2) _ _ ls hz  hP hD hS (lv_sub hl [] rfl)

