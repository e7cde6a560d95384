def f_X8_builder_j29  (s0_29 : Int32) (thr0_29 : Int32) : Int32 × Int32 := (s0_29, thr0_29)
def f_X8_builder (nw : (Nat → Int32)) (x : Int32) : Int32 × Int32 := (if (hOk (f_X8_isSite nw (x)) (f_X8_isDone nw (x)) true true) = true then (f_X8_builder_j29 ((f_X8_of nw (x) (3))) ((hThr (f_X8_isSite nw (x)) (f_X8_isDone nw (x)) true true))) else (f_X8_builder_j29 (0) ((hThr (f_X8_isSite nw (x)) (f_X8_isDone nw (x)) true true))))
set_option maxHeartbeats 4000000 in
set_option maxRecDepth 100000 in
theorem c_X8_builder (l : Launch) (D : va_G) (C : Nat → ClassId) (b : Nat → Nat) (M : MS) (x : Int32) (sz : Nat) (hM : MSafe M) : Met l yX8_builder wsX8_builder ({ frames := 4, cells := 0, slots := 0, locals := 86 } : Room) (rwP [.ref (b 0), .int x] D C (mcells C b M) sz) (rwO (some (.int ((f_X8_builder (mNow M) x).1))) D (mcells C b (mkM (mNow M) (mBef M) (mSav M) (mHis M) (mIsS M) (mRem M) (mErA M) (mFaA M) (mTxt M) (mTyp M) (mLin M) (mLnd M) ((f_X8_builder (mNow M) x).2) (mFar M) (mGrp M) (mSiz M) (mPla M) (mWro M) (mTol M) (mNum M))) (va_A (mcells C b M) sz)) 0 0 (va_A (mcells C b M) sz) := by
  refine Met.ofW (cc := cX8_builder) (maxL := 2) (ret := (some .int)) (by decide) rfl ?_
  intro p e s m args below meth c s₁ B hml hv
  obtain ⟨rfl, hsz, hP, hK, hD0, hE⟩ := hv
  have hx := B.exec
  have hb := B.bytes
  have hr := B.returns
  have hts := atoms_spec (ws := wsX8_builder) B.pre
  have hown : s.vm.findClass RX8 = some m.cls := findClass_of_methodNamed B.named
  have hlocks := B.notSynchronized
  subst hsz
  have hD := hD0.self (sz := s.heap.size)
  generalize hAe : va_A (mcells C b M) s.heap.size = A at hD ⊢
  have hA : ∀ q : Nat, s.heap.size ≤ q → A q := fun q h => by rw [← hAe]; exact Or.inr h
  have hS0 : va_S A s.heap s.heap [] := va_S.rf
  have hP : va_P D vwCl (mcells C b M) s.heap := hP
  have hS := hS0
  obtain ⟨⟨hS2, hS12⟩, ⟨hP2, hP4⟩, hLH, hFE⟩ := id hM
  have hl := lv_entry ([.ref (b 0), .int x]) (n := 2) (Nat.le_of_ble_eq_true rfl)
  rw [lg_entry_eq]
  generalize (lg_sl ([.ref (b 0), .int x]) ++ List.replicate (2 - (lg_sl ([.ref (b 0), .int x])).length) Slot.unset).toArray = ls at hl ⊢
  have hl : lv_has ls 2 [(0, .ref (b 0)), (1, .int x)] := hl
  obtain ⟨z, hz⟩ : ∃ z, z = f_X8_builder (mNow M) x := ⟨_, rfl⟩
  rw [← hz]
  have J29 : ∀ (s0_29 : Int32) (thr0_29 : Int32)  (H : Heap) (locs : List Loc) (ls : Array Slot), z = f_X8_builder_j29 s0_29 thr0_29 → va_P D vwCl (mcells C b (mkM (mNow M) (mBef M) (mSav M) (mHis M) (mIsS M) (mRem M) (mErA M) (mFaA M) (mTxt M) (mTyp M) (mLin M) (mLnd M) thr0_29 (mFar M) (mGrp M) (mSiz M) (mPla M) (mWro M) (mTol M) (mNum M))) H → va_D A (mcells C b (mkM (mNow M) (mBef M) (mSav M) (mHis M) (mIsS M) (mRem M) (mErA M) (mFaA M) (mTxt M) (mTyp M) (mLin M) (mLnd M) thr0_29 (mFar M) (mGrp M) (mSiz M) (mPla M) (mWro M) (mTol M) (mNum M))) → va_S A s.heap H locs → lv_has ls 2 [] → W p l e ({ frames := 4, cells := 0, slots := 0, locals := 86 } : Room) s m ([.ref (b 0), .int x] : List Value).toArray below meth c H locs 0 0 (MQ below (rwO (some (.int z.1)) D (mcells C b (mkM (mNow M) (mBef M) (mSav M) (mHis M) (mIsS M) (mRem M) (mErA M) (mFaA M) (mTxt M) (mTyp M) (mLin M) (mLnd M) z.2 (mFar M) (mGrp M) (mSiz M) (mPla M) (mWro M) (mTol M) (mNum M))) A) ([.ref (b 0), .int x] : List Value).toArray s 0 0 A) (F0 m 29 ls [.int s0_29]) := by
    intro s0_29 thr0_29 H locs ls hz  hP hD hS hl
    have hz : z = (s0_29, thr0_29) := hz
    rw [hz]
    exact rw_ret hx hb hr hP hS rfl dX8_builder_29 hlocks
  refine lv_aload_n hx hb dX8_builder_0 rfl (lv_at hl 0 rfl) ?_
  refine lv_aload_n hx hb dX8_builder_1 rfl (lv_at hl 0 rfl) ?_
  refine lv_iload_n hx hb dX8_builder_2 rfl (lv_at hl 1 rfl) ?_
  refine callRo (va_runV (As := [.int x]) (rest := [.ref (b 0)]) ⟨hx, hb, hml, hown, hts⟩ (c_X8_isSite l D C b M (x) hM) (cwV 1 hts gX8_builder_X8_isSite rfl rfl rfl (by decide +kernel) ⟨Nat.le_of_ble_eq_true rfl, Nat.le_of_ble_eq_true rfl⟩) (roP_v hP hK hE (va_recv hK hP (ci := 9) (q0 := 0) rfl rfl)) rfl rfl hl.1 rfl (lv_room (Nat.le_of_ble_eq_true rfl)) dX8_builder_3 ⟨Nat.le_refl _, Nat.le_refl _⟩) ?_
  refine lv_aload_n hx hb dX8_builder_6 rfl (lv_at hl 0 rfl) ?_
  refine lv_iload_n hx hb dX8_builder_7 rfl (lv_at hl 1 rfl) ?_
  refine callRo (va_runV (As := [.int x]) (rest := [.int (bI (f_X8_isSite (mNow M) (x))), .ref (b 0)]) ⟨hx, hb, hml, hown, hts⟩ (c_X8_isDone l D C b M (x) hM) (cwV 1 hts gX8_builder_X8_isDone rfl rfl rfl (by decide +kernel) ⟨Nat.le_of_ble_eq_true rfl, Nat.le_of_ble_eq_true rfl⟩) (roP_v hP hK hE (va_recv hK hP (ci := 9) (q0 := 0) rfl rfl)) rfl rfl hl.1 rfl (lv_room (Nat.le_of_ble_eq_true rfl)) dX8_builder_8 ⟨Nat.le_refl _, Nat.le_refl _⟩) ?_
  refine lv_iconst (v := 1) hx hb dX8_builder_11 (by decide) ?_
  refine lv_iconst (v := 1) hx hb dX8_builder_12 (by decide) ?_
  have hFc := va_free (wc := (mcells C b M)) hD hS hA [0, 1, 2, 3, 4, 5, 6, 7, 8, 9] rfl
  refine callRw (va_runV (As := [.int (bI (f_X8_isSite (mNow M) (x))), .int (bI (f_X8_isDone (mNow M) (x))), .int (bI true), .int (bI true)]) (rest := []) ⟨hx, hb, hml, hown, hts⟩ (c_X8_holds_ l D C b M ((f_X8_isSite (mNow M) (x))) ((f_X8_isDone (mNow M) (x))) (true) (true) _) (cwV 4 hts gX8_builder_X8_holds rfl rfl rfl (by decide +kernel) ⟨Nat.le_of_ble_eq_true rfl, Nat.le_of_ble_eq_true rfl⟩) (rwP_v hP hK hE hD (va_recv hK hP (ci := 9) (q0 := 0) rfl rfl)) rfl rfl hl.1 rfl (lv_room (Nat.le_of_ble_eq_true rfl)) dX8_builder_13 ⟨Nat.le_refl _, Nat.le_refl _⟩) hS hFc (fun H1 locs hPn hk hS => ?_)
  have hP : va_P D vwCl (mcells C b (mkM (mNow M) (mBef M) (mSav M) (mHis M) (mIsS M) (mRem M) (mErA M) (mFaA M) (mTxt M) (mTyp M) (mLin M) (mLnd M) (hThr (f_X8_isSite (mNow M) (x)) (f_X8_isDone (mNow M) (x)) true true) (mFar M) (mGrp M) (mSiz M) (mPla M) (mWro M) (mTol M) (mNum M))) H1 := hPn
  have hD : va_D A (mcells C b (mkM (mNow M) (mBef M) (mSav M) (mHis M) (mIsS M) (mRem M) (mErA M) (mFaA M) (mTxt M) (mTyp M) (mLin M) (mLnd M) (hThr (f_X8_isSite (mNow M) (x)) (f_X8_isDone (mNow M) (x)) true true) (mFar M) (mGrp M) (mSiz M) (mPla M) (mWro M) (mTol M) (mNum M))) := adr_D hD rfl
  generalize H1 = H at hP hS ⊢
  refine topI (y := (bI (hOk (f_X8_isSite (mNow M) (x)) (f_X8_isDone (mNow M) (x)) true true))) rfl ?_
  refine bif_eq (tgt := 28) hx hb dX8_builder_16 (by decide) (fun c_16 => ?_) (fun c_16 => ?_)
  · have hz := hz.trans (ifB_f c_16)
    refine lv_iconst (v := 0) hx hb dX8_builder_28 (by decide) ?_
    exact J29 (0) ((hThr (f_X8_isSite (mNow M) (x)) (f_X8_isDone (mNow M) (x)) true true)) _ _ ls hz  hP hD hS (lv_sub hl [] rfl)
  · have hz := hz.trans (ifB_t c_16)
    refine lv_aload_n hx hb dX8_builder_19 rfl (lv_at hl 0 rfl) ?_
    refine lv_iload_n hx hb dX8_builder_20 rfl (lv_at hl 1 rfl) ?_
    refine lv_iconst (v := 3) hx hb dX8_builder_21 (by decide) ?_
    refine topN (k := 3) (by decide +kernel) ?_
    refine callRo (va_runV (As := [.int x, .int (nI 3)]) (rest := []) ⟨hx, hb, hml, hown, hts⟩ (c_X8_of l D C b (mkM (mNow M) (mBef M) (mSav M) (mHis M) (mIsS M) (mRem M) (mErA M) (mFaA M) (mTxt M) (mTyp M) (mLin M) (mLnd M) (hThr (f_X8_isSite (mNow M) (x)) (f_X8_isDone (mNow M) (x)) true true) (mFar M) (mGrp M) (mSiz M) (mPla M) (mWro M) (mTol M) (mNum M)) (x) (3) (MSafe_of hM rfl) (by omega)) (cwV 2 hts gX8_builder_X8_of rfl rfl rfl (by decide +kernel) ⟨Nat.le_of_ble_eq_true rfl, Nat.le_of_ble_eq_true rfl⟩) (roP_v hP hK hE (va_recv hK hP (ci := 9) (q0 := 0) rfl rfl)) rfl rfl hl.1 rfl (lv_room (Nat.le_of_ble_eq_true rfl)) dX8_builder_22 ⟨Nat.le_refl _, Nat.le_refl _⟩) ?_
    refine topI (y := (f_X8_of (mNow M) (x) (3))) rfl ?_
    refine lv_goto (tgt := 29) hx hb dX8_builder_25 (by decide) ?_
    exact J29 ((f_X8_of (mNow M) (x) (3))) ((hThr (f_X8_isSite (mNow M) (x)) (f_X8_isDone (mNow M) (x)) true true)) _ _ ls hz  hP hD hS (lv_sub hl [] rfl)

