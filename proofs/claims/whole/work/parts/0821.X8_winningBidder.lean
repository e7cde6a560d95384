def f_X8_winningBidder_j44  (s0_44 : Int32) (thr0_44 : Int32) : Int32 × Int32 := (s0_44, thr0_44)
def f_X8_winningBidder_j27 (nw : (Nat → Int32)) (x : Int32) (s0_27 : Bool) (s1_27 : Bool) : Int32 × Int32 := (if (hOk s1_27 s0_27 true true) = true then (f_X8_winningBidder_j44 ((f_X8_winner nw (x))) ((hThr s1_27 s0_27 true true))) else (f_X8_winningBidder_j44 (0) ((hThr s1_27 s0_27 true true))))
def f_X8_winningBidder_j26 (nw : (Nat → Int32)) (x : Int32) (s0_26 : Bool) : Int32 × Int32 := (f_X8_winningBidder_j27 nw x (false) (s0_26))
def f_X8_winningBidder (nw : (Nat → Int32)) (x : Int32) : Int32 × Int32 := (if (f_X8_isSite nw (x)) = true then (if (f_X8_bidsOn nw (x)) ≤ 0 then (f_X8_winningBidder_j26 nw x ((f_X8_isSite nw (x)))) else (f_X8_winningBidder_j27 nw x (true) ((f_X8_isSite nw (x))))) else (f_X8_winningBidder_j26 nw x ((f_X8_isSite nw (x)))))
set_option maxHeartbeats 4000000 in
set_option maxRecDepth 100000 in
theorem c_X8_winningBidder (l : Launch) (D : va_G) (C : Nat → ClassId) (b : Nat → Nat) (M : MS) (x : Int32) (sz : Nat) (hM : MSafe M) : Met l yX8_winningBidder wsX8_winningBidder ({ frames := 4, cells := 0, slots := 0, locals := 88 } : Room) (rwP [.ref (b 0), .int x] D C (mcells C b M) sz) (rwO (some (.int ((f_X8_winningBidder (mNow M) x).1))) D (mcells C b (mkM (mNow M) (mBef M) (mSav M) (mHis M) (mIsS M) (mRem M) (mErA M) (mFaA M) (mTxt M) (mTyp M) (mLin M) (mLnd M) ((f_X8_winningBidder (mNow M) x).2) (mFar M) (mGrp M) (mSiz M) (mPla M) (mWro M) (mTol M) (mNum M))) (va_A (mcells C b M) sz)) 0 0 (va_A (mcells C b M) sz) := by
  refine Met.ofW (cc := cX8_winningBidder) (maxL := 2) (ret := (some .int)) (by decide) rfl ?_
  intro p e s m args below meth c s₁ B hml hv
  obtain ⟨rfl, hsz, hP, hK, hD0, hE⟩ := hv
  have hx := B.exec
  have hb := B.bytes
  have hr := B.returns
  have hts := atoms_spec (ws := wsX8_winningBidder) B.pre
  have hown : s.vm.findClass RX8 = some m.cls := findClass_of_methodNamed B.named
  have hlocks := B.notSynchronized
  subst hsz
  have hD := hD0.self (sz := s.heap.size)
  generalize hAe : va_A (mcells C b M) s.heap.size = A at hD ⊢
  have hA : ∀ q : Nat, s.heap.size ≤ q → A q := fun q h => by rw [← hAe]; exact Or.inr h
  have hS0 : va_S A s.heap s.heap [] := va_S.rf
  have hP : va_P D vwCl (mcells C b M) s.heap := hP
  have hS := hS0
  obtain ⟨⟨hS2, hS12⟩, ⟨hP2, hP4⟩, hLH, hFE⟩ := id hM
  have hl := lv_entry ([.ref (b 0), .int x]) (n := 2) (Nat.le_of_ble_eq_true rfl)
  rw [lg_entry_eq]
  generalize (lg_sl ([.ref (b 0), .int x]) ++ List.replicate (2 - (lg_sl ([.ref (b 0), .int x])).length) Slot.unset).toArray = ls at hl ⊢
  have hl : lv_has ls 2 [(0, .ref (b 0)), (1, .int x)] := hl
  obtain ⟨z, hz⟩ : ∃ z, z = f_X8_winningBidder (mNow M) x := ⟨_, rfl⟩
  rw [← hz]
  have J44 : ∀ (s0_44 : Int32) (thr0_44 : Int32)  (H : Heap) (locs : List Loc) (ls : Array Slot), z = f_X8_winningBidder_j44 s0_44 thr0_44 → va_P D vwCl (mcells C b (mkM (mNow M) (mBef M) (mSav M) (mHis M) (mIsS M) (mRem M) (mErA M) (mFaA M) (mTxt M) (mTyp M) (mLin M) (mLnd M) thr0_44 (mFar M) (mGrp M) (mSiz M) (mPla M) (mWro M) (mTol M) (mNum M))) H → va_D A (mcells C b (mkM (mNow M) (mBef M) (mSav M) (mHis M) (mIsS M) (mRem M) (mErA M) (mFaA M) (mTxt M) (mTyp M) (mLin M) (mLnd M) thr0_44 (mFar M) (mGrp M) (mSiz M) (mPla M) (mWro M) (mTol M) (mNum M))) → va_S A s.heap H locs → lv_has ls 2 [] → W p l e ({ frames := 4, cells := 0, slots := 0, locals := 88 } : Room) s m ([.ref (b 0), .int x] : List Value).toArray below meth c H locs 0 0 (MQ below (rwO (some (.int z.1)) D (mcells C b (mkM (mNow M) (mBef M) (mSav M) (mHis M) (mIsS M) (mRem M) (mErA M) (mFaA M) (mTxt M) (mTyp M) (mLin M) (mLnd M) z.2 (mFar M) (mGrp M) (mSiz M) (mPla M) (mWro M) (mTol M) (mNum M))) A) ([.ref (b 0), .int x] : List Value).toArray s 0 0 A) (F0 m 44 ls [.int s0_44]) := by
    intro s0_44 thr0_44 H locs ls hz  hP hD hS hl
    have hz : z = (s0_44, thr0_44) := hz
    rw [hz]
    exact rw_ret hx hb hr hP hS rfl dX8_winningBidder_44 hlocks
  have J27 : ∀ (s0_27 : Bool) (s1_27 : Bool)  (H : Heap) (locs : List Loc) (ls : Array Slot), z = f_X8_winningBidder_j27 (mNow M) x s0_27 s1_27 → va_P D vwCl (mcells C b M) H → va_D A (mcells C b M) → va_S A s.heap H locs → lv_has ls 2 [(0, .ref (b 0)), (1, .int x)] → W p l e ({ frames := 4, cells := 0, slots := 0, locals := 88 } : Room) s m ([.ref (b 0), .int x] : List Value).toArray below meth c H locs 0 0 (MQ below (rwO (some (.int z.1)) D (mcells C b (mkM (mNow M) (mBef M) (mSav M) (mHis M) (mIsS M) (mRem M) (mErA M) (mFaA M) (mTxt M) (mTyp M) (mLin M) (mLnd M) z.2 (mFar M) (mGrp M) (mSiz M) (mPla M) (mWro M) (mTol M) (mNum M))) A) ([.ref (b 0), .int x] : List Value).toArray s 0 0 A) (F0 m 27 ls [.int (bI s0_27), .int (bI s1_27), .ref (b 0)]) := by
    intro s0_27 s1_27 H locs ls hz  hP hD hS hl
    refine lv_iconst (v := 1) hx hb dX8_winningBidder_27 (by decide) ?_
    refine lv_iconst (v := 1) hx hb dX8_winningBidder_28 (by decide) ?_
    have hFc := va_free (wc := (mcells C b M)) hD hS hA [0, 1, 2, 3, 4, 5, 6, 7, 8, 9] rfl
    refine callRw (va_runV (As := [.int (bI s1_27), .int (bI s0_27), .int (bI true), .int (bI true)]) (rest := []) ⟨hx, hb, hml, hown, hts⟩ (c_X8_holds_ l D C b M (s1_27) (s0_27) (true) (true) _) (cwV 4 hts gX8_winningBidder_X8_holds rfl rfl rfl (by decide +kernel) ⟨Nat.le_of_ble_eq_true rfl, Nat.le_of_ble_eq_true rfl⟩) (rwP_v hP hK hE hD (va_recv hK hP (ci := 9) (q0 := 0) rfl rfl)) rfl rfl hl.1 rfl (lv_room (Nat.le_of_ble_eq_true rfl)) dX8_winningBidder_29 ⟨Nat.le_refl _, Nat.le_refl _⟩) hS hFc (fun H1 locs hPn hk hS => ?_)
    have hP : va_P D vwCl (mcells C b (mkM (mNow M) (mBef M) (mSav M) (mHis M) (mIsS M) (mRem M) (mErA M) (mFaA M) (mTxt M) (mTyp M) (mLin M) (mLnd M) (hThr s1_27 s0_27 true true) (mFar M) (mGrp M) (mSiz M) (mPla M) (mWro M) (mTol M) (mNum M))) H1 := hPn
    have hD : va_D A (mcells C b (mkM (mNow M) (mBef M) (mSav M) (mHis M) (mIsS M) (mRem M) (mErA M) (mFaA M) (mTxt M) (mTyp M) (mLin M) (mLnd M) (hThr s1_27 s0_27 true true) (mFar M) (mGrp M) (mSiz M) (mPla M) (mWro M) (mTol M) (mNum M))) := adr_D hD rfl
    generalize H1 = H at hP hS ⊢
    refine topI (y := (bI (hOk s1_27 s0_27 true true))) rfl ?_
    refine bif_eq (tgt := 43) hx hb dX8_winningBidder_32 (by decide) (fun c_32 => ?_) (fun c_32 => ?_)
    · have hz := hz.trans (ifB_f c_32)
      refine lv_iconst (v := 0) hx hb dX8_winningBidder_43 (by decide) ?_
      exact J44 (0) ((hThr s1_27 s0_27 true true)) _ _ ls hz  hP hD hS (lv_sub hl [] rfl)
    · have hz := hz.trans (ifB_t c_32)
      refine lv_aload_n hx hb dX8_winningBidder_35 rfl (lv_at hl 0 rfl) ?_
      refine lv_iload_n hx hb dX8_winningBidder_36 rfl (lv_at hl 1 rfl) ?_
      refine callRo (va_runV (As := [.int x]) (rest := []) ⟨hx, hb, hml, hown, hts⟩ (c_X8_winner l D C b (mkM (mNow M) (mBef M) (mSav M) (mHis M) (mIsS M) (mRem M) (mErA M) (mFaA M) (mTxt M) (mTyp M) (mLin M) (mLnd M) (hThr s1_27 s0_27 true true) (mFar M) (mGrp M) (mSiz M) (mPla M) (mWro M) (mTol M) (mNum M)) (x) (MSafe_of hM rfl)) (cwV 1 hts gX8_winningBidder_X8_winner rfl rfl rfl (by decide +kernel) ⟨Nat.le_of_ble_eq_true rfl, Nat.le_of_ble_eq_true rfl⟩) (roP_v hP hK hE (va_recv hK hP (ci := 9) (q0 := 0) rfl rfl)) rfl rfl hl.1 rfl (lv_room (Nat.le_of_ble_eq_true rfl)) dX8_winningBidder_37 ⟨Nat.le_refl _, Nat.le_refl _⟩) ?_
      refine topI (y := (f_X8_winner (mNow M) (x))) rfl ?_
      refine lv_goto (tgt := 44) hx hb dX8_winningBidder_40 (by decide) ?_
      exact J44 ((f_X8_winner (mNow M) (x))) ((hThr s1_27 s0_27 true true)) _ _ ls hz  hP hD hS (lv_sub hl [] rfl)
  have J26 : ∀ (s0_26 : Bool)  (H : Heap) (locs : List Loc) (ls : Array Slot), z = f_X8_winningBidder_j26 (mNow M) x s0_26 → va_P D vwCl (mcells C b M) H → va_D A (mcells C b M) → va_S A s.heap H locs → lv_has ls 2 [(0, .ref (b 0)), (1, .int x)] → W p l e ({ frames := 4, cells := 0, slots := 0, locals := 88 } : Room) s m ([.ref (b 0), .int x] : List Value).toArray below meth c H locs 0 0 (MQ below (rwO (some (.int z.1)) D (mcells C b (mkM (mNow M) (mBef M) (mSav M) (mHis M) (mIsS M) (mRem M) (mErA M) (mFaA M) (mTxt M) (mTyp M) (mLin M) (mLnd M) z.2 (mFar M) (mGrp M) (mSiz M) (mPla M) (mWro M) (mTol M) (mNum M))) A) ([.ref (b 0), .int x] : List Value).toArray s 0 0 A) (F0 m 26 ls [.int (bI s0_26), .ref (b 0)]) := by
    intro s0_26 H locs ls hz  hP hD hS hl
    refine lv_iconst (v := 0) hx hb dX8_winningBidder_26 (by decide) ?_
    exact J27 (false) (s0_26) _ _ ls hz  hP hD hS (lv_sub hl [0, 1] rfl)
  refine lv_aload_n hx hb dX8_winningBidder_0 rfl (lv_at hl 0 rfl) ?_
  refine lv_aload_n hx hb dX8_winningBidder_1 rfl (lv_at hl 0 rfl) ?_
  refine lv_iload_n hx hb dX8_winningBidder_2 rfl (lv_at hl 1 rfl) ?_
  refine callRo (va_runV (As := [.int x]) (rest := [.ref (b 0)]) ⟨hx, hb, hml, hown, hts⟩ (c_X8_isSite l D C b M (x) hM) (cwV 1 hts gX8_winningBidder_X8_isSite rfl rfl rfl (by decide +kernel) ⟨Nat.le_of_ble_eq_true rfl, Nat.le_of_ble_eq_true rfl⟩) (roP_v hP hK hE (va_recv hK hP (ci := 9) (q0 := 0) rfl rfl)) rfl rfl hl.1 rfl (lv_room (Nat.le_of_ble_eq_true rfl)) dX8_winningBidder_3 ⟨Nat.le_refl _, Nat.le_refl _⟩) ?_
  refine lv_aload_n hx hb dX8_winningBidder_6 rfl (lv_at hl 0 rfl) ?_
  refine lv_iload_n hx hb dX8_winningBidder_7 rfl (lv_at hl 1 rfl) ?_
  refine callRo (va_runV (As := [.int x]) (rest := [.int (bI (f_X8_isSite (mNow M) (x))), .ref (b 0)]) ⟨hx, hb, hml, hown, hts⟩ (c_X8_isSite l D C b M (x) hM) (cwV 1 hts gX8_winningBidder_X8_isSite rfl rfl rfl (by decide +kernel) ⟨Nat.le_of_ble_eq_true rfl, Nat.le_of_ble_eq_true rfl⟩) (roP_v hP hK hE (va_recv hK hP (ci := 9) (q0 := 0) rfl rfl)) rfl rfl hl.1 rfl (lv_room (Nat.le_of_ble_eq_true rfl)) dX8_winningBidder_8 ⟨Nat.le_refl _, Nat.le_refl _⟩) ?_
  refine bif_eq (tgt := 26) hx hb dX8_winningBidder_11 (by decide) (fun c_11 => ?_) (fun c_11 => ?_)
  · have hz := hz.trans (ifB_f c_11)
    exact J26 ((f_X8_isSite (mNow M) (x))) _ _ ls hz  hP hD hS (lv_sub hl [0, 1] rfl)
  · have hz := hz.trans (ifB_t c_11)
    refine lv_aload_n hx hb dX8_winningBidder_14 rfl (lv_at hl 0 rfl) ?_
    refine lv_iload_n hx hb dX8_winningBidder_15 rfl (lv_at hl 1 rfl) ?_
    refine callRo (va_runV (As := [.int x]) (rest := [.int (bI (f_X8_isSite (mNow M) (x))), .ref (b 0)]) ⟨hx, hb, hml, hown, hts⟩ (c_X8_bidsOn l D C b M (x) hM) (cwV 1 hts gX8_winningBidder_X8_bidsOn rfl rfl rfl (by decide +kernel) ⟨Nat.le_of_ble_eq_true rfl, Nat.le_of_ble_eq_true rfl⟩) (roP_v hP hK hE (va_recv hK hP (ci := 9) (q0 := 0) rfl rfl)) rfl rfl hl.1 rfl (lv_room (Nat.le_of_ble_eq_true rfl)) dX8_winningBidder_16 ⟨Nat.le_refl _, Nat.le_refl _⟩) ?_
    refine lv_if_le (tgt := 26) hx hb dX8_winningBidder_19 (by decide) (fun c_19 => ?_) (fun c_19 => ?_)
    · have hz := hz.trans (if_pos c_19)
      exact J26 ((f_X8_isSite (mNow M) (x))) _ _ ls hz  hP hD hS (lv_sub hl [0, 1] rfl)
    · have hz := hz.trans (if_neg c_19)
      refine lv_iconst (v := 1) hx hb dX8_winningBidder_22 (by decide) ?_
      refine lv_goto (tgt := 27) hx hb dX8_winningBidder_23 (by decide) ?_
      exact J27 (true) ((f_X8_isSite (mNow M) (x))) _ _ ls hz  hP hD hS (lv_sub hl [0, 1] rfl)

