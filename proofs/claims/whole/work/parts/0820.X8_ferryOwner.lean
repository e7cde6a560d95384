def f_X8_ferryOwner_j39  (s0_39 : Int32) (thr0_39 : Int32) : Int32 × Int32 := (s0_39, thr0_39)
def f_X8_ferryOwner_j21 (nw : (Nat → Int32)) (x : Int32) (s0_21 : Bool) (s1_21 : Bool) : Int32 × Int32 := (if (hOk s1_21 s0_21 true true) = true then (f_X8_ferryOwner_j39 ((f_X8_of nw (x) (4))) ((hThr s1_21 s0_21 true true))) else (f_X8_ferryOwner_j39 (0) ((hThr s1_21 s0_21 true true))))
def f_X8_ferryOwner (nw : (Nat → Int32)) (x : Int32) : Int32 × Int32 := (if (f_X8_of nw (x) (4)) = (-1) then (f_X8_ferryOwner_j21 nw x (false) ((f_X8_isSite nw (x)))) else (f_X8_ferryOwner_j21 nw x (true) ((f_X8_isSite nw (x)))))
set_option maxHeartbeats 4000000 in
set_option maxRecDepth 100000 in
theorem c_X8_ferryOwner (l : Launch) (D : va_G) (C : Nat → ClassId) (b : Nat → Nat) (M : MS) (x : Int32) (sz : Nat) (hM : MSafe M) : Met l yX8_ferryOwner wsX8_ferryOwner ({ frames := 3, cells := 0, slots := 0, locals := 65 } : Room) (rwP [.ref (b 0), .int x] D C (mcells C b M) sz) (rwO (some (.int ((f_X8_ferryOwner (mNow M) x).1))) D (mcells C b (mkM (mNow M) (mBef M) (mSav M) (mHis M) (mIsS M) (mRem M) (mErA M) (mFaA M) (mTxt M) (mTyp M) (mLin M) (mLnd M) ((f_X8_ferryOwner (mNow M) x).2) (mFar M) (mGrp M) (mSiz M) (mPla M) (mWro M) (mTol M) (mNum M))) (va_A (mcells C b M) sz)) 0 0 (va_A (mcells C b M) sz) := by
  refine Met.ofW (cc := cX8_ferryOwner) (maxL := 2) (ret := (some .int)) (by decide) rfl ?_
  intro p e s m args below meth c s₁ B hml hv
  obtain ⟨rfl, hsz, hP, hK, hD0, hE⟩ := hv
  have hx := B.exec
  have hb := B.bytes
  have hr := B.returns
  have hts := atoms_spec (ws := wsX8_ferryOwner) B.pre
  have hown : s.vm.findClass RX8 = some m.cls := findClass_of_methodNamed B.named
  have hlocks := B.notSynchronized
  subst hsz
  have hD := hD0.self (sz := s.heap.size)
  generalize hAe : va_A (mcells C b M) s.heap.size = A at hD ⊢
  have hA : ∀ q : Nat, s.heap.size ≤ q → A q := fun q h => by rw [← hAe]; exact Or.inr h
  have hS0 : va_S A s.heap s.heap [] := va_S.rf
  have hP : va_P D vwCl (mcells C b M) s.heap := hP
  have hS := hS0
  obtain ⟨⟨hS2, hS12⟩, ⟨hP2, hP4⟩, hLH, hFE⟩ := id hM
  have hl := lv_entry ([.ref (b 0), .int x]) (n := 2) (Nat.le_of_ble_eq_true rfl)
  rw [lg_entry_eq]
  generalize (lg_sl ([.ref (b 0), .int x]) ++ List.replicate (2 - (lg_sl ([.ref (b 0), .int x])).length) Slot.unset).toArray = ls at hl ⊢
  have hl : lv_has ls 2 [(0, .ref (b 0)), (1, .int x)] := hl
  obtain ⟨z, hz⟩ : ∃ z, z = f_X8_ferryOwner (mNow M) x := ⟨_, rfl⟩
  rw [← hz]
  have J39 : ∀ (s0_39 : Int32) (thr0_39 : Int32)  (H : Heap) (locs : List Loc) (ls : Array Slot), z = f_X8_ferryOwner_j39 s0_39 thr0_39 → va_P D vwCl (mcells C b (mkM (mNow M) (mBef M) (mSav M) (mHis M) (mIsS M) (mRem M) (mErA M) (mFaA M) (mTxt M) (mTyp M) (mLin M) (mLnd M) thr0_39 (mFar M) (mGrp M) (mSiz M) (mPla M) (mWro M) (mTol M) (mNum M))) H → va_D A (mcells C b (mkM (mNow M) (mBef M) (mSav M) (mHis M) (mIsS M) (mRem M) (mErA M) (mFaA M) (mTxt M) (mTyp M) (mLin M) (mLnd M) thr0_39 (mFar M) (mGrp M) (mSiz M) (mPla M) (mWro M) (mTol M) (mNum M))) → va_S A s.heap H locs → lv_has ls 2 [] → W p l e ({ frames := 3, cells := 0, slots := 0, locals := 65 } : Room) s m ([.ref (b 0), .int x] : List Value).toArray below meth c H locs 0 0 (MQ below (rwO (some (.int z.1)) D (mcells C b (mkM (mNow M) (mBef M) (mSav M) (mHis M) (mIsS M) (mRem M) (mErA M) (mFaA M) (mTxt M) (mTyp M) (mLin M) (mLnd M) z.2 (mFar M) (mGrp M) (mSiz M) (mPla M) (mWro M) (mTol M) (mNum M))) A) ([.ref (b 0), .int x] : List Value).toArray s 0 0 A) (F0 m 39 ls [.int s0_39]) := by
    intro s0_39 thr0_39 H locs ls hz  hP hD hS hl
    have hz : z = (s0_39, thr0_39) := hz
    rw [hz]
    exact rw_ret hx hb hr hP hS rfl dX8_ferryOwner_39 hlocks
  have J21 : ∀ (s0_21 : Bool) (s1_21 : Bool)  (H : Heap) (locs : List Loc) (ls : Array Slot), z = f_X8_ferryOwner_j21 (mNow M) x s0_21 s1_21 → va_P D vwCl (mcells C b M) H → va_D A (mcells C b M) → va_S A s.heap H locs → lv_has ls 2 [(0, .ref (b 0)), (1, .int x)] → W p l e ({ frames := 3, cells := 0, slots := 0, locals := 65 } : Room) s m ([.ref (b 0), .int x] : List Value).toArray below meth c H locs 0 0 (MQ below (rwO (some (.int z.1)) D (mcells C b (mkM (mNow M) (mBef M) (mSav M) (mHis M) (mIsS M) (mRem M) (mErA M) (mFaA M) (mTxt M) (mTyp M) (mLin M) (mLnd M) z.2 (mFar M) (mGrp M) (mSiz M) (mPla M) (mWro M) (mTol M) (mNum M))) A) ([.ref (b 0), .int x] : List Value).toArray s 0 0 A) (F0 m 21 ls [.int (bI s0_21), .int (bI s1_21), .ref (b 0)]) := by
    intro s0_21 s1_21 H locs ls hz  hP hD hS hl
    refine lv_iconst (v := 1) hx hb dX8_ferryOwner_21 (by decide) ?_
    refine lv_iconst (v := 1) hx hb dX8_ferryOwner_22 (by decide) ?_
    have hFc := va_free (wc := (mcells C b M)) hD hS hA [0, 1, 2, 3, 4, 5, 6, 7, 8, 9] rfl
    refine callRw (va_runV (As := [.int (bI s1_21), .int (bI s0_21), .int (bI true), .int (bI true)]) (rest := []) ⟨hx, hb, hml, hown, hts⟩ (c_X8_holds_ l D C b M (s1_21) (s0_21) (true) (true) _) (cwV 4 hts gX8_ferryOwner_X8_holds rfl rfl rfl (by decide +kernel) ⟨Nat.le_of_ble_eq_true rfl, Nat.le_of_ble_eq_true rfl⟩) (rwP_v hP hK hE hD (va_recv hK hP (ci := 9) (q0 := 0) rfl rfl)) rfl rfl hl.1 rfl (lv_room (Nat.le_of_ble_eq_true rfl)) dX8_ferryOwner_23 ⟨Nat.le_refl _, Nat.le_refl _⟩) hS hFc (fun H1 locs hPn hk hS => ?_)
    have hP : va_P D vwCl (mcells C b (mkM (mNow M) (mBef M) (mSav M) (mHis M) (mIsS M) (mRem M) (mErA M) (mFaA M) (mTxt M) (mTyp M) (mLin M) (mLnd M) (hThr s1_21 s0_21 true true) (mFar M) (mGrp M) (mSiz M) (mPla M) (mWro M) (mTol M) (mNum M))) H1 := hPn
    have hD : va_D A (mcells C b (mkM (mNow M) (mBef M) (mSav M) (mHis M) (mIsS M) (mRem M) (mErA M) (mFaA M) (mTxt M) (mTyp M) (mLin M) (mLnd M) (hThr s1_21 s0_21 true true) (mFar M) (mGrp M) (mSiz M) (mPla M) (mWro M) (mTol M) (mNum M))) := adr_D hD rfl
    generalize H1 = H at hP hS ⊢
    refine topI (y := (bI (hOk s1_21 s0_21 true true))) rfl ?_
    refine bif_eq (tgt := 38) hx hb dX8_ferryOwner_26 (by decide) (fun c_26 => ?_) (fun c_26 => ?_)
    · have hz := hz.trans (ifB_f c_26)
      refine lv_iconst (v := 0) hx hb dX8_ferryOwner_38 (by decide) ?_
      exact J39 (0) ((hThr s1_21 s0_21 true true)) _ _ ls hz  hP hD hS (lv_sub hl [] rfl)
    · have hz := hz.trans (ifB_t c_26)
      refine lv_aload_n hx hb dX8_ferryOwner_29 rfl (lv_at hl 0 rfl) ?_
      refine lv_iload_n hx hb dX8_ferryOwner_30 rfl (lv_at hl 1 rfl) ?_
      refine lv_iconst (v := 4) hx hb dX8_ferryOwner_31 (by decide) ?_
      refine topN (k := 4) (by decide +kernel) ?_
      refine callRo (va_runV (As := [.int x, .int (nI 4)]) (rest := []) ⟨hx, hb, hml, hown, hts⟩ (c_X8_of l D C b (mkM (mNow M) (mBef M) (mSav M) (mHis M) (mIsS M) (mRem M) (mErA M) (mFaA M) (mTxt M) (mTyp M) (mLin M) (mLnd M) (hThr s1_21 s0_21 true true) (mFar M) (mGrp M) (mSiz M) (mPla M) (mWro M) (mTol M) (mNum M)) (x) (4) (MSafe_of hM rfl) (by omega)) (cwV 2 hts gX8_ferryOwner_X8_of rfl rfl rfl (by decide +kernel) ⟨Nat.le_of_ble_eq_true rfl, Nat.le_of_ble_eq_true rfl⟩) (roP_v hP hK hE (va_recv hK hP (ci := 9) (q0 := 0) rfl rfl)) rfl rfl hl.1 rfl (lv_room (Nat.le_of_ble_eq_true rfl)) dX8_ferryOwner_32 ⟨Nat.le_refl _, Nat.le_refl _⟩) ?_
      refine topI (y := (f_X8_of (mNow M) (x) (4))) rfl ?_
      refine lv_goto (tgt := 39) hx hb dX8_ferryOwner_35 (by decide) ?_
      exact J39 ((f_X8_of (mNow M) (x) (4))) ((hThr s1_21 s0_21 true true)) _ _ ls hz  hP hD hS (lv_sub hl [] rfl)
  refine lv_aload_n hx hb dX8_ferryOwner_0 rfl (lv_at hl 0 rfl) ?_
  refine lv_aload_n hx hb dX8_ferryOwner_1 rfl (lv_at hl 0 rfl) ?_
  refine lv_iload_n hx hb dX8_ferryOwner_2 rfl (lv_at hl 1 rfl) ?_
  refine callRo (va_runV (As := [.int x]) (rest := [.ref (b 0)]) ⟨hx, hb, hml, hown, hts⟩ (c_X8_isSite l D C b M (x) hM) (cwV 1 hts gX8_ferryOwner_X8_isSite rfl rfl rfl (by decide +kernel) ⟨Nat.le_of_ble_eq_true rfl, Nat.le_of_ble_eq_true rfl⟩) (roP_v hP hK hE (va_recv hK hP (ci := 9) (q0 := 0) rfl rfl)) rfl rfl hl.1 rfl (lv_room (Nat.le_of_ble_eq_true rfl)) dX8_ferryOwner_3 ⟨Nat.le_refl _, Nat.le_refl _⟩) ?_
  refine lv_aload_n hx hb dX8_ferryOwner_6 rfl (lv_at hl 0 rfl) ?_
  refine lv_iload_n hx hb dX8_ferryOwner_7 rfl (lv_at hl 1 rfl) ?_
  refine lv_iconst (v := 4) hx hb dX8_ferryOwner_8 (by decide) ?_
  refine topN (k := 4) (by decide +kernel) ?_
  refine callRo (va_runV (As := [.int x, .int (nI 4)]) (rest := [.int (bI (f_X8_isSite (mNow M) (x))), .ref (b 0)]) ⟨hx, hb, hml, hown, hts⟩ (c_X8_of l D C b M (x) (4) hM (by omega)) (cwV 2 hts gX8_ferryOwner_X8_of rfl rfl rfl (by decide +kernel) ⟨Nat.le_of_ble_eq_true rfl, Nat.le_of_ble_eq_true rfl⟩) (roP_v hP hK hE (va_recv hK hP (ci := 9) (q0 := 0) rfl rfl)) rfl rfl hl.1 rfl (lv_room (Nat.le_of_ble_eq_true rfl)) dX8_ferryOwner_9 ⟨Nat.le_refl _, Nat.le_refl _⟩) ?_
  refine lv_iconst (v := (-1)) hx hb dX8_ferryOwner_12 (by decide) ?_
  refine lv_icmp_eq (tgt := 20) hx hb dX8_ferryOwner_13 (by decide) (fun c_13 => ?_) (fun c_13 => ?_)
  · have hz := hz.trans (if_pos c_13)
    refine lv_iconst (v := 0) hx hb dX8_ferryOwner_20 (by decide) ?_
    exact J21 (false) ((f_X8_isSite (mNow M) (x))) _ _ ls hz  hP hD hS (lv_sub hl [0, 1] rfl)
  · have hz := hz.trans (if_neg c_13)
    refine lv_iconst (v := 1) hx hb dX8_ferryOwner_16 (by decide) ?_
    refine lv_goto (tgt := 21) hx hb dX8_ferryOwner_17 (by decide) ?_
    exact J21 (true) ((f_X8_isSite (mNow M) (x))) _ _ ls hz  hP hD hS (lv_sub hl [0, 1] rfl)

