def f_X8_wouldBuild_j60  (s0_60 : Bool) (thr0_60 : Int32) : Bool × Int32 := (s0_60, thr0_60)
def f_X8_wouldBuild_j59  (thr0_59 : Int32) : Bool × Int32 := (f_X8_wouldBuild_j60 (false) (thr0_59))
def f_X8_wouldBuild_j40 (nw : (Nat → Int32)) (x : Int32) (s0_40 : Bool) (s1_40 : Bool) (s2_40 : Bool) : Bool × Int32 := (if (hOk s2_40 s1_40 s0_40 true) = true then (if (f_X8_doesBuild nw (x)) = true then (f_X8_wouldBuild_j60 (true) ((hThr s2_40 s1_40 s0_40 true))) else (f_X8_wouldBuild_j59 ((hThr s2_40 s1_40 s0_40 true)))) else (f_X8_wouldBuild_j59 ((hThr s2_40 s1_40 s0_40 true))))
def f_X8_wouldBuild_j39 (nw : (Nat → Int32)) (x : Int32) (s0_39 : Bool) (s1_39 : Bool) : Bool × Int32 := (f_X8_wouldBuild_j40 nw x (false) (s0_39) (s1_39))
def f_X8_wouldBuild_j19 (nw : (Nat → Int32)) (x : Int32) (s0_19 : Bool) (s1_19 : Bool) : Bool × Int32 := (if (f_X8_isSite nw (x)) = true then (if (f_X8_bidsOn nw (x)) ≤ 0 then (f_X8_wouldBuild_j39 nw x (s0_19) (s1_19)) else (f_X8_wouldBuild_j40 nw x (true) (s0_19) (s1_19))) else (f_X8_wouldBuild_j39 nw x (s0_19) (s1_19)))
def f_X8_wouldBuild (nw : (Nat → Int32)) (x : Int32) : Bool × Int32 := (if (f_X8_isDone nw (x)) = true then (f_X8_wouldBuild_j19 nw x (false) ((f_X8_isSite nw (x)))) else (f_X8_wouldBuild_j19 nw x (true) ((f_X8_isSite nw (x)))))
set_option maxHeartbeats 4000000 in
set_option maxRecDepth 100000 in
theorem c_X8_wouldBuild (l : Launch) (D : va_G) (C : Nat → ClassId) (b : Nat → Nat) (M : MS) (x : Int32) (sz : Nat) (hM : MSafe M) : Met l yX8_wouldBuild wsX8_wouldBuild ({ frames := 5, cells := 0, slots := 0, locals := 110 } : Room) (rwP [.ref (b 0), .int x] D C (mcells C b M) sz) (rwO (some (.int (bI ((f_X8_wouldBuild (mNow M) x).1)))) D (mcells C b (mkM (mNow M) (mBef M) (mSav M) (mHis M) (mIsS M) (mRem M) (mErA M) (mFaA M) (mTxt M) (mTyp M) (mLin M) (mLnd M) ((f_X8_wouldBuild (mNow M) x).2) (mFar M) (mGrp M) (mSiz M) (mPla M) (mWro M) (mTol M) (mNum M))) (va_A (mcells C b M) sz)) 0 0 (va_A (mcells C b M) sz) := by
  refine Met.ofW (cc := cX8_wouldBuild) (maxL := 2) (ret := (some .boolean)) (by decide) rfl ?_
  intro p e s m args below meth c s₁ B hml hv
  obtain ⟨rfl, hsz, hP, hK, hD0, hE⟩ := hv
  have hx := B.exec
  have hb := B.bytes
  have hr := B.returns
  have hts := atoms_spec (ws := wsX8_wouldBuild) B.pre
  have hown : s.vm.findClass RX8 = some m.cls := findClass_of_methodNamed B.named
  have hlocks := B.notSynchronized
  subst hsz
  have hD := hD0.self (sz := s.heap.size)
  generalize hAe : va_A (mcells C b M) s.heap.size = A at hD ⊢
  have hA : ∀ q : Nat, s.heap.size ≤ q → A q := fun q h => by rw [← hAe]; exact Or.inr h
  have hS0 : va_S A s.heap s.heap [] := va_S.rf
  have hP : va_P D vwCl (mcells C b M) s.heap := hP
  have hS := hS0
  obtain ⟨⟨hS2, hS12⟩, ⟨hP2, hP4⟩, hLH, hFE⟩ := id hM
  have hl := lv_entry ([.ref (b 0), .int x]) (n := 2) (Nat.le_of_ble_eq_true rfl)
  rw [lg_entry_eq]
  generalize (lg_sl ([.ref (b 0), .int x]) ++ List.replicate (2 - (lg_sl ([.ref (b 0), .int x])).length) Slot.unset).toArray = ls at hl ⊢
  have hl : lv_has ls 2 [(0, .ref (b 0)), (1, .int x)] := hl
  obtain ⟨z, hz⟩ : ∃ z, z = f_X8_wouldBuild (mNow M) x := ⟨_, rfl⟩
  rw [← hz]
  have J60 : ∀ (s0_60 : Bool) (thr0_60 : Int32)  (H : Heap) (locs : List Loc) (ls : Array Slot), z = f_X8_wouldBuild_j60 s0_60 thr0_60 → va_P D vwCl (mcells C b (mkM (mNow M) (mBef M) (mSav M) (mHis M) (mIsS M) (mRem M) (mErA M) (mFaA M) (mTxt M) (mTyp M) (mLin M) (mLnd M) thr0_60 (mFar M) (mGrp M) (mSiz M) (mPla M) (mWro M) (mTol M) (mNum M))) H → va_D A (mcells C b (mkM (mNow M) (mBef M) (mSav M) (mHis M) (mIsS M) (mRem M) (mErA M) (mFaA M) (mTxt M) (mTyp M) (mLin M) (mLnd M) thr0_60 (mFar M) (mGrp M) (mSiz M) (mPla M) (mWro M) (mTol M) (mNum M))) → va_S A s.heap H locs → lv_has ls 2 [] → W p l e ({ frames := 5, cells := 0, slots := 0, locals := 110 } : Room) s m ([.ref (b 0), .int x] : List Value).toArray below meth c H locs 0 0 (MQ below (rwO (some (.int (bI z.1))) D (mcells C b (mkM (mNow M) (mBef M) (mSav M) (mHis M) (mIsS M) (mRem M) (mErA M) (mFaA M) (mTxt M) (mTyp M) (mLin M) (mLnd M) z.2 (mFar M) (mGrp M) (mSiz M) (mPla M) (mWro M) (mTol M) (mNum M))) A) ([.ref (b 0), .int x] : List Value).toArray s 0 0 A) (F0 m 60 ls [.int (bI s0_60)]) := by
    intro s0_60 thr0_60 H locs ls hz  hP hD hS hl
    have hz : z = (s0_60, thr0_60) := hz
    rw [hz]
    exact rw_retB hx hb hr hP hS rfl dX8_wouldBuild_60 hlocks
  have J59 : ∀ (thr0_59 : Int32)  (H : Heap) (locs : List Loc) (ls : Array Slot), z = f_X8_wouldBuild_j59 thr0_59 → va_P D vwCl (mcells C b (mkM (mNow M) (mBef M) (mSav M) (mHis M) (mIsS M) (mRem M) (mErA M) (mFaA M) (mTxt M) (mTyp M) (mLin M) (mLnd M) thr0_59 (mFar M) (mGrp M) (mSiz M) (mPla M) (mWro M) (mTol M) (mNum M))) H → va_D A (mcells C b (mkM (mNow M) (mBef M) (mSav M) (mHis M) (mIsS M) (mRem M) (mErA M) (mFaA M) (mTxt M) (mTyp M) (mLin M) (mLnd M) thr0_59 (mFar M) (mGrp M) (mSiz M) (mPla M) (mWro M) (mTol M) (mNum M))) → va_S A s.heap H locs → lv_has ls 2 [] → W p l e ({ frames := 5, cells := 0, slots := 0, locals := 110 } : Room) s m ([.ref (b 0), .int x] : List Value).toArray below meth c H locs 0 0 (MQ below (rwO (some (.int (bI z.1))) D (mcells C b (mkM (mNow M) (mBef M) (mSav M) (mHis M) (mIsS M) (mRem M) (mErA M) (mFaA M) (mTxt M) (mTyp M) (mLin M) (mLnd M) z.2 (mFar M) (mGrp M) (mSiz M) (mPla M) (mWro M) (mTol M) (mNum M))) A) ([.ref (b 0), .int x] : List Value).toArray s 0 0 A) (F0 m 59 ls []) := by
    intro thr0_59 H locs ls hz  hP hD hS hl
    refine lv_iconst (v := 0) hx hb dX8_wouldBuild_59 (by decide) ?_
    exact J60 (false) (thr0_59) _ _ ls hz  hP hD hS (lv_sub hl [] rfl)
  have J40 : ∀ (s0_40 : Bool) (s1_40 : Bool) (s2_40 : Bool)  (H : Heap) (locs : List Loc) (ls : Array Slot), z = f_X8_wouldBuild_j40 (mNow M) x s0_40 s1_40 s2_40 → va_P D vwCl (mcells C b M) H → va_D A (mcells C b M) → va_S A s.heap H locs → lv_has ls 2 [(0, .ref (b 0)), (1, .int x)] → W p l e ({ frames := 5, cells := 0, slots := 0, locals := 110 } : Room) s m ([.ref (b 0), .int x] : List Value).toArray below meth c H locs 0 0 (MQ below (rwO (some (.int (bI z.1))) D (mcells C b (mkM (mNow M) (mBef M) (mSav M) (mHis M) (mIsS M) (mRem M) (mErA M) (mFaA M) (mTxt M) (mTyp M) (mLin M) (mLnd M) z.2 (mFar M) (mGrp M) (mSiz M) (mPla M) (mWro M) (mTol M) (mNum M))) A) ([.ref (b 0), .int x] : List Value).toArray s 0 0 A) (F0 m 40 ls [.int (bI s0_40), .int (bI s1_40), .int (bI s2_40), .ref (b 0)]) := by
    intro s0_40 s1_40 s2_40 H locs ls hz  hP hD hS hl
    refine lv_iconst (v := 1) hx hb dX8_wouldBuild_40 (by decide) ?_
    have hFc := va_free (wc := (mcells C b M)) hD hS hA [0, 1, 2, 3, 4, 5, 6, 7, 8, 9] rfl
    refine callRw (va_runV (As := [.int (bI s2_40), .int (bI s1_40), .int (bI s0_40), .int (bI true)]) (rest := []) ⟨hx, hb, hml, hown, hts⟩ (c_X8_holds_ l D C b M (s2_40) (s1_40) (s0_40) (true) _) (cwV 4 hts gX8_wouldBuild_X8_holds rfl rfl rfl (by decide +kernel) ⟨Nat.le_of_ble_eq_true rfl, Nat.le_of_ble_eq_true rfl⟩) (rwP_v hP hK hE hD (va_recv hK hP (ci := 9) (q0 := 0) rfl rfl)) rfl rfl hl.1 rfl (lv_room (Nat.le_of_ble_eq_true rfl)) dX8_wouldBuild_41 ⟨Nat.le_refl _, Nat.le_refl _⟩) hS hFc (fun H1 locs hPn hk hS => ?_)
    have hP : va_P D vwCl (mcells C b (mkM (mNow M) (mBef M) (mSav M) (mHis M) (mIsS M) (mRem M) (mErA M) (mFaA M) (mTxt M) (mTyp M) (mLin M) (mLnd M) (hThr s2_40 s1_40 s0_40 true) (mFar M) (mGrp M) (mSiz M) (mPla M) (mWro M) (mTol M) (mNum M))) H1 := hPn
    have hD : va_D A (mcells C b (mkM (mNow M) (mBef M) (mSav M) (mHis M) (mIsS M) (mRem M) (mErA M) (mFaA M) (mTxt M) (mTyp M) (mLin M) (mLnd M) (hThr s2_40 s1_40 s0_40 true) (mFar M) (mGrp M) (mSiz M) (mPla M) (mWro M) (mTol M) (mNum M))) := adr_D hD rfl
    generalize H1 = H at hP hS ⊢
    refine topI (y := (bI (hOk s2_40 s1_40 s0_40 true))) rfl ?_
    refine bif_eq (tgt := 59) hx hb dX8_wouldBuild_44 (by decide) (fun c_44 => ?_) (fun c_44 => ?_)
    · have hz := hz.trans (ifB_f c_44)
      exact J59 ((hThr s2_40 s1_40 s0_40 true)) _ _ ls hz  hP hD hS (lv_sub hl [] rfl)
    · have hz := hz.trans (ifB_t c_44)
      refine lv_aload_n hx hb dX8_wouldBuild_47 rfl (lv_at hl 0 rfl) ?_
      refine lv_iload_n hx hb dX8_wouldBuild_48 rfl (lv_at hl 1 rfl) ?_
      refine callRo (va_runV (As := [.int x]) (rest := []) ⟨hx, hb, hml, hown, hts⟩ (c_X8_doesBuild l D C b (mkM (mNow M) (mBef M) (mSav M) (mHis M) (mIsS M) (mRem M) (mErA M) (mFaA M) (mTxt M) (mTyp M) (mLin M) (mLnd M) (hThr s2_40 s1_40 s0_40 true) (mFar M) (mGrp M) (mSiz M) (mPla M) (mWro M) (mTol M) (mNum M)) (x) (MSafe_of hM rfl)) (cwV 1 hts gX8_wouldBuild_X8_doesBuild rfl rfl rfl (by decide +kernel) ⟨Nat.le_of_ble_eq_true rfl, Nat.le_of_ble_eq_true rfl⟩) (roP_v hP hK hE (va_recv hK hP (ci := 9) (q0 := 0) rfl rfl)) rfl rfl hl.1 rfl (lv_room (Nat.le_of_ble_eq_true rfl)) dX8_wouldBuild_49 ⟨Nat.le_refl _, Nat.le_refl _⟩) ?_
      refine topI (y := (bI (f_X8_doesBuild (mNow M) (x)))) rfl ?_
      refine bif_eq (tgt := 59) hx hb dX8_wouldBuild_52 (by decide) (fun c_52 => ?_) (fun c_52 => ?_)
      · have hz := hz.trans (ifB_f c_52)
        exact J59 ((hThr s2_40 s1_40 s0_40 true)) _ _ ls hz  hP hD hS (lv_sub hl [] rfl)
      · have hz := hz.trans (ifB_t c_52)
        refine lv_iconst (v := 1) hx hb dX8_wouldBuild_55 (by decide) ?_
        refine lv_goto (tgt := 60) hx hb dX8_wouldBuild_56 (by decide) ?_
        exact J60 (true) ((hThr s2_40 s1_40 s0_40 true)) _ _ ls hz  hP hD hS (lv_sub hl [] rfl)
  have J39 : ∀ (s0_39 : Bool) (s1_39 : Bool)  (H : Heap) (locs : List Loc) (ls : Array Slot), z = f_X8_wouldBuild_j39 (mNow M) x s0_39 s1_39 → va_P D vwCl (mcells C b M) H → va_D A (mcells C b M) → va_S A s.heap H locs → lv_has ls 2 [(0, .ref (b 0)), (1, .int x)] → W p l e ({ frames := 5, cells := 0, slots := 0, locals := 110 } : Room) s m ([.ref (b 0), .int x] : List Value).toArray below meth c H locs 0 0 (MQ below (rwO (some (.int (bI z.1))) D (mcells C b (mkM (mNow M) (mBef M) (mSav M) (mHis M) (mIsS M) (mRem M) (mErA M) (mFaA M) (mTxt M) (mTyp M) (mLin M) (mLnd M) z.2 (mFar M) (mGrp M) (mSiz M) (mPla M) (mWro M) (mTol M) (mNum M))) A) ([.ref (b 0), .int x] : List Value).toArray s 0 0 A) (F0 m 39 ls [.int (bI s0_39), .int (bI s1_39), .ref (b 0)]) := by
    intro s0_39 s1_39 H locs ls hz  hP hD hS hl
    refine lv_iconst (v := 0) hx hb dX8_wouldBuild_39 (by decide) ?_
    exact J40 (false) (s0_39) (s1_39) _ _ ls hz  hP hD hS (lv_sub hl [0, 1] rfl)
  have J19 : ∀ (s0_19 : Bool) (s1_19 : Bool)  (H : Heap) (locs : List Loc) (ls : Array Slot), z = f_X8_wouldBuild_j19 (mNow M) x s0_19 s1_19 → va_P D vwCl (mcells C b M) H → va_D A (mcells C b M) → va_S A s.heap H locs → lv_has ls 2 [(0, .ref (b 0)), (1, .int x)] → W p l e ({ frames := 5, cells := 0, slots := 0, locals := 110 } : Room) s m ([.ref (b 0), .int x] : List Value).toArray below meth c H locs 0 0 (MQ below (rwO (some (.int (bI z.1))) D (mcells C b (mkM (mNow M) (mBef M) (mSav M) (mHis M) (mIsS M) (mRem M) (mErA M) (mFaA M) (mTxt M) (mTyp M) (mLin M) (mLnd M) z.2 (mFar M) (mGrp M) (mSiz M) (mPla M) (mWro M) (mTol M) (mNum M))) A) ([.ref (b 0), .int x] : List Value).toArray s 0 0 A) (F0 m 19 ls [.int (bI s0_19), .int (bI s1_19), .ref (b 0)]) := by
    intro s0_19 s1_19 H locs ls hz  hP hD hS hl
    refine lv_aload_n hx hb dX8_wouldBuild_19 rfl (lv_at hl 0 rfl) ?_
    refine lv_iload_n hx hb dX8_wouldBuild_20 rfl (lv_at hl 1 rfl) ?_
    refine callRo (va_runV (As := [.int x]) (rest := [.int (bI s0_19), .int (bI s1_19), .ref (b 0)]) ⟨hx, hb, hml, hown, hts⟩ (c_X8_isSite l D C b M (x) hM) (cwV 1 hts gX8_wouldBuild_X8_isSite rfl rfl rfl (by decide +kernel) ⟨Nat.le_of_ble_eq_true rfl, Nat.le_of_ble_eq_true rfl⟩) (roP_v hP hK hE (va_recv hK hP (ci := 9) (q0 := 0) rfl rfl)) rfl rfl hl.1 rfl (lv_room (Nat.le_of_ble_eq_true rfl)) dX8_wouldBuild_21 ⟨Nat.le_refl _, Nat.le_refl _⟩) ?_
    refine bif_eq (tgt := 39) hx hb dX8_wouldBuild_24 (by decide) (fun c_24 => ?_) (fun c_24 => ?_)
    · have hz := hz.trans (ifB_f c_24)
      exact J39 (s0_19) (s1_19) _ _ ls hz  hP hD hS (lv_sub hl [0, 1] rfl)
    · have hz := hz.trans (ifB_t c_24)
      refine lv_aload_n hx hb dX8_wouldBuild_27 rfl (lv_at hl 0 rfl) ?_
      refine lv_iload_n hx hb dX8_wouldBuild_28 rfl (lv_at hl 1 rfl) ?_
      refine callRo (va_runV (As := [.int x]) (rest := [.int (bI s0_19), .int (bI s1_19), .ref (b 0)]) ⟨hx, hb, hml, hown, hts⟩ (c_X8_bidsOn l D C b M (x) hM) (cwV 1 hts gX8_wouldBuild_X8_bidsOn rfl rfl rfl (by decide +kernel) ⟨Nat.le_of_ble_eq_true rfl, Nat.le_of_ble_eq_true rfl⟩) (roP_v hP hK hE (va_recv hK hP (ci := 9) (q0 := 0) rfl rfl)) rfl rfl hl.1 rfl (lv_room (Nat.le_of_ble_eq_true rfl)) dX8_wouldBuild_29 ⟨Nat.le_refl _, Nat.le_refl _⟩) ?_
      refine lv_if_le (tgt := 39) hx hb dX8_wouldBuild_32 (by decide) (fun c_32 => ?_) (fun c_32 => ?_)
      · have hz := hz.trans (if_pos c_32)
        exact J39 (s0_19) (s1_19) _ _ ls hz  hP hD hS (lv_sub hl [0, 1] rfl)
      · have hz := hz.trans (if_neg c_32)
        refine lv_iconst (v := 1) hx hb dX8_wouldBuild_35 (by decide) ?_
        refine lv_goto (tgt := 40) hx hb dX8_wouldBuild_36 (by decide) ?_
        exact J40 (true) (s0_19) (s1_19) _ _ ls hz  hP hD hS (lv_sub hl [0, 1] rfl)
  refine lv_aload_n hx hb dX8_wouldBuild_0 rfl (lv_at hl 0 rfl) ?_
  refine lv_aload_n hx hb dX8_wouldBuild_1 rfl (lv_at hl 0 rfl) ?_
  refine lv_iload_n hx hb dX8_wouldBuild_2 rfl (lv_at hl 1 rfl) ?_
  refine callRo (va_runV (As := [.int x]) (rest := [.ref (b 0)]) ⟨hx, hb, hml, hown, hts⟩ (c_X8_isSite l D C b M (x) hM) (cwV 1 hts gX8_wouldBuild_X8_isSite rfl rfl rfl (by decide +kernel) ⟨Nat.le_of_ble_eq_true rfl, Nat.le_of_ble_eq_true rfl⟩) (roP_v hP hK hE (va_recv hK hP (ci := 9) (q0 := 0) rfl rfl)) rfl rfl hl.1 rfl (lv_room (Nat.le_of_ble_eq_true rfl)) dX8_wouldBuild_3 ⟨Nat.le_refl _, Nat.le_refl _⟩) ?_
  refine lv_aload_n hx hb dX8_wouldBuild_6 rfl (lv_at hl 0 rfl) ?_
  refine lv_iload_n hx hb dX8_wouldBuild_7 rfl (lv_at hl 1 rfl) ?_
  refine callRo (va_runV (As := [.int x]) (rest := [.int (bI (f_X8_isSite (mNow M) (x))), .ref (b 0)]) ⟨hx, hb, hml, hown, hts⟩ (c_X8_isDone l D C b M (x) hM) (cwV 1 hts gX8_wouldBuild_X8_isDone rfl rfl rfl (by decide +kernel) ⟨Nat.le_of_ble_eq_true rfl, Nat.le_of_ble_eq_true rfl⟩) (roP_v hP hK hE (va_recv hK hP (ci := 9) (q0 := 0) rfl rfl)) rfl rfl hl.1 rfl (lv_room (Nat.le_of_ble_eq_true rfl)) dX8_wouldBuild_8 ⟨Nat.le_refl _, Nat.le_refl _⟩) ?_
  refine bif_ne (tgt := 18) hx hb dX8_wouldBuild_11 (by decide) (fun c_11 => ?_) (fun c_11 => ?_)
  · have hz := hz.trans (ifB_t c_11)
    refine lv_iconst (v := 0) hx hb dX8_wouldBuild_18 (by decide) ?_
    exact J19 (false) ((f_X8_isSite (mNow M) (x))) _ _ ls hz  hP hD hS (lv_sub hl [0, 1] rfl)
  · have hz := hz.trans (ifB_f c_11)
    refine lv_iconst (v := 1) hx hb dX8_wouldBuild_14 (by decide) ?_
    refine lv_goto (tgt := 19) hx hb dX8_wouldBuild_15 (by decide) ?_
    exact J19 (true) ((f_X8_isSite (mNow M) (x))) _ _ ls hz  hP hD hS (lv_sub hl [0, 1] rfl)

