def f_X8_hasBid_j36  (s0_36 : Bool) (s1_36 : Bool) : Bool × Int32 := ((hOk s1_36 s0_36 true true), (hThr s1_36 s0_36 true true))
def f_X8_hasBid_j22 (nw : (Nat → Int32)) (x : Int32) (y : Int32) (s0_22 : Bool) : Bool × Int32 := (if (f_X8_amountOf nw (x) (y)) ≤ 0 then (f_X8_hasBid_j36 (false) (s0_22)) else (f_X8_hasBid_j36 (true) (s0_22)))
def f_X8_hasBid_j21 (nw : (Nat → Int32)) (x : Int32) (y : Int32) : Bool × Int32 := (f_X8_hasBid_j22 nw x y (false))
def f_X8_hasBid (nw : (Nat → Int32)) (x : Int32) (y : Int32) : Bool × Int32 := (if (f_X8_isPlayer nw (x)) = true then (if (f_X8_isSite nw (y)) = true then (f_X8_hasBid_j22 nw x y (true)) else (f_X8_hasBid_j21 nw x y)) else (f_X8_hasBid_j21 nw x y))
set_option maxHeartbeats 4000000 in
set_option maxRecDepth 100000 in
theorem c_X8_hasBid (l : Launch) (D : va_G) (C : Nat → ClassId) (b : Nat → Nat) (M : MS) (x : Int32) (y : Int32) (sz : Nat) (hM : MSafe M) : Met l yX8_hasBid wsX8_hasBid ({ frames := 4, cells := 0, slots := 0, locals := 87 } : Room) (rwP [.ref (b 0), .int x, .int y] D C (mcells C b M) sz) (rwO (some (.int (bI ((f_X8_hasBid (mNow M) x y).1)))) D (mcells C b (mkM (mNow M) (mBef M) (mSav M) (mHis M) (mIsS M) (mRem M) (mErA M) (mFaA M) (mTxt M) (mTyp M) (mLin M) (mLnd M) ((f_X8_hasBid (mNow M) x y).2) (mFar M) (mGrp M) (mSiz M) (mPla M) (mWro M) (mTol M) (mNum M))) (va_A (mcells C b M) sz)) 0 0 (va_A (mcells C b M) sz) := by
  refine Met.ofW (cc := cX8_hasBid) (maxL := 3) (ret := (some .boolean)) (by decide) rfl ?_
  intro p e s m args below meth c s₁ B hml hv
  obtain ⟨rfl, hsz, hP, hK, hD0, hE⟩ := hv
  have hx := B.exec
  have hb := B.bytes
  have hr := B.returns
  have hts := atoms_spec (ws := wsX8_hasBid) B.pre
  have hown : s.vm.findClass RX8 = some m.cls := findClass_of_methodNamed B.named
  have hlocks := B.notSynchronized
  subst hsz
  have hD := hD0.self (sz := s.heap.size)
  generalize hAe : va_A (mcells C b M) s.heap.size = A at hD ⊢
  have hA : ∀ q : Nat, s.heap.size ≤ q → A q := fun q h => by rw [← hAe]; exact Or.inr h
  have hS0 : va_S A s.heap s.heap [] := va_S.rf
  have hP : va_P D vwCl (mcells C b M) s.heap := hP
  have hS := hS0
  obtain ⟨⟨hS2, hS12⟩, ⟨hP2, hP4⟩, hLH, hFE⟩ := id hM
  have hl := lv_entry ([.ref (b 0), .int x, .int y]) (n := 3) (Nat.le_of_ble_eq_true rfl)
  rw [lg_entry_eq]
  generalize (lg_sl ([.ref (b 0), .int x, .int y]) ++ List.replicate (3 - (lg_sl ([.ref (b 0), .int x, .int y])).length) Slot.unset).toArray = ls at hl ⊢
  have hl : lv_has ls 3 [(0, .ref (b 0)), (1, .int x), (2, .int y)] := hl
  obtain ⟨z, hz⟩ : ∃ z, z = f_X8_hasBid (mNow M) x y := ⟨_, rfl⟩
  rw [← hz]
  have J36 : ∀ (s0_36 : Bool) (s1_36 : Bool)  (H : Heap) (locs : List Loc) (ls : Array Slot), z = f_X8_hasBid_j36 s0_36 s1_36 → va_P D vwCl (mcells C b M) H → va_D A (mcells C b M) → va_S A s.heap H locs → lv_has ls 3 [] → W p l e ({ frames := 4, cells := 0, slots := 0, locals := 87 } : Room) s m ([.ref (b 0), .int x, .int y] : List Value).toArray below meth c H locs 0 0 (MQ below (rwO (some (.int (bI z.1))) D (mcells C b (mkM (mNow M) (mBef M) (mSav M) (mHis M) (mIsS M) (mRem M) (mErA M) (mFaA M) (mTxt M) (mTyp M) (mLin M) (mLnd M) z.2 (mFar M) (mGrp M) (mSiz M) (mPla M) (mWro M) (mTol M) (mNum M))) A) ([.ref (b 0), .int x, .int y] : List Value).toArray s 0 0 A) (F0 m 36 ls [.int (bI s0_36), .int (bI s1_36), .ref (b 0)]) := by
    intro s0_36 s1_36 H locs ls hz  hP hD hS hl
    refine lv_iconst (v := 1) hx hb dX8_hasBid_36 (by decide) ?_
    refine lv_iconst (v := 1) hx hb dX8_hasBid_37 (by decide) ?_
    have hFc := va_free (wc := (mcells C b M)) hD hS hA [0, 1, 2, 3, 4, 5, 6, 7, 8, 9] rfl
    refine callRw (va_runV (As := [.int (bI s1_36), .int (bI s0_36), .int (bI true), .int (bI true)]) (rest := []) ⟨hx, hb, hml, hown, hts⟩ (c_X8_holds_ l D C b M (s1_36) (s0_36) (true) (true) _) (cwV 4 hts gX8_hasBid_X8_holds rfl rfl rfl (by decide +kernel) ⟨Nat.le_of_ble_eq_true rfl, Nat.le_of_ble_eq_true rfl⟩) (rwP_v hP hK hE hD (va_recv hK hP (ci := 9) (q0 := 0) rfl rfl)) rfl rfl hl.1 rfl (lv_room (Nat.le_of_ble_eq_true rfl)) dX8_hasBid_38 ⟨Nat.le_refl _, Nat.le_refl _⟩) hS hFc (fun H1 locs hPn hk hS => ?_)
    have hP : va_P D vwCl (mcells C b (mkM (mNow M) (mBef M) (mSav M) (mHis M) (mIsS M) (mRem M) (mErA M) (mFaA M) (mTxt M) (mTyp M) (mLin M) (mLnd M) (hThr s1_36 s0_36 true true) (mFar M) (mGrp M) (mSiz M) (mPla M) (mWro M) (mTol M) (mNum M))) H1 := hPn
    have hD : va_D A (mcells C b (mkM (mNow M) (mBef M) (mSav M) (mHis M) (mIsS M) (mRem M) (mErA M) (mFaA M) (mTxt M) (mTyp M) (mLin M) (mLnd M) (hThr s1_36 s0_36 true true) (mFar M) (mGrp M) (mSiz M) (mPla M) (mWro M) (mTol M) (mNum M))) := adr_D hD rfl
    generalize H1 = H at hP hS ⊢
    refine topI (y := (bI (hOk s1_36 s0_36 true true))) rfl ?_
    have hz : z = ((hOk s1_36 s0_36 true true), (hThr s1_36 s0_36 true true)) := hz
    rw [hz]
    exact rw_retB hx hb hr hP hS rfl dX8_hasBid_41 hlocks
  have J22 : ∀ (s0_22 : Bool)  (H : Heap) (locs : List Loc) (ls : Array Slot), z = f_X8_hasBid_j22 (mNow M) x y s0_22 → va_P D vwCl (mcells C b M) H → va_D A (mcells C b M) → va_S A s.heap H locs → lv_has ls 3 [(0, .ref (b 0)), (1, .int x), (2, .int y)] → W p l e ({ frames := 4, cells := 0, slots := 0, locals := 87 } : Room) s m ([.ref (b 0), .int x, .int y] : List Value).toArray below meth c H locs 0 0 (MQ below (rwO (some (.int (bI z.1))) D (mcells C b (mkM (mNow M) (mBef M) (mSav M) (mHis M) (mIsS M) (mRem M) (mErA M) (mFaA M) (mTxt M) (mTyp M) (mLin M) (mLnd M) z.2 (mFar M) (mGrp M) (mSiz M) (mPla M) (mWro M) (mTol M) (mNum M))) A) ([.ref (b 0), .int x, .int y] : List Value).toArray s 0 0 A) (F0 m 22 ls [.int (bI s0_22), .ref (b 0)]) := by
    intro s0_22 H locs ls hz  hP hD hS hl
    refine lv_aload_n hx hb dX8_hasBid_22 rfl (lv_at hl 0 rfl) ?_
    refine lv_iload_n hx hb dX8_hasBid_23 rfl (lv_at hl 1 rfl) ?_
    refine lv_iload_n hx hb dX8_hasBid_24 rfl (lv_at hl 2 rfl) ?_
    refine callRo (va_runV (As := [.int x, .int y]) (rest := [.int (bI s0_22), .ref (b 0)]) ⟨hx, hb, hml, hown, hts⟩ (c_X8_amountOf l D C b M (x) (y) hM) (cwV 2 hts gX8_hasBid_X8_amountOf rfl rfl rfl (by decide +kernel) ⟨Nat.le_of_ble_eq_true rfl, Nat.le_of_ble_eq_true rfl⟩) (roP_v hP hK hE (va_recv hK hP (ci := 9) (q0 := 0) rfl rfl)) rfl rfl hl.1 rfl (lv_room (Nat.le_of_ble_eq_true rfl)) dX8_hasBid_25 ⟨Nat.le_refl _, Nat.le_refl _⟩) ?_
    refine lv_if_le (tgt := 35) hx hb dX8_hasBid_28 (by decide) (fun c_28 => ?_) (fun c_28 => ?_)
    · have hz := hz.trans (if_pos c_28)
      refine lv_iconst (v := 0) hx hb dX8_hasBid_35 (by decide) ?_
      exact J36 (false) (s0_22) _ _ ls hz  hP hD hS (lv_sub hl [] rfl)
    · have hz := hz.trans (if_neg c_28)
      refine lv_iconst (v := 1) hx hb dX8_hasBid_31 (by decide) ?_
      refine lv_goto (tgt := 36) hx hb dX8_hasBid_32 (by decide) ?_
      exact J36 (true) (s0_22) _ _ ls hz  hP hD hS (lv_sub hl [] rfl)
  have J21 : ∀  (H : Heap) (locs : List Loc) (ls : Array Slot), z = f_X8_hasBid_j21 (mNow M) x y → va_P D vwCl (mcells C b M) H → va_D A (mcells C b M) → va_S A s.heap H locs → lv_has ls 3 [(0, .ref (b 0)), (1, .int x), (2, .int y)] → W p l e ({ frames := 4, cells := 0, slots := 0, locals := 87 } : Room) s m ([.ref (b 0), .int x, .int y] : List Value).toArray below meth c H locs 0 0 (MQ below (rwO (some (.int (bI z.1))) D (mcells C b (mkM (mNow M) (mBef M) (mSav M) (mHis M) (mIsS M) (mRem M) (mErA M) (mFaA M) (mTxt M) (mTyp M) (mLin M) (mLnd M) z.2 (mFar M) (mGrp M) (mSiz M) (mPla M) (mWro M) (mTol M) (mNum M))) A) ([.ref (b 0), .int x, .int y] : List Value).toArray s 0 0 A) (F0 m 21 ls [.ref (b 0)]) := by
    intro  H locs ls hz  hP hD hS hl
    refine lv_iconst (v := 0) hx hb dX8_hasBid_21 (by decide) ?_
    exact J22 (false) _ _ ls hz  hP hD hS (lv_sub hl [0, 1, 2] rfl)
  refine lv_aload_n hx hb dX8_hasBid_0 rfl (lv_at hl 0 rfl) ?_
  refine lv_aload_n hx hb dX8_hasBid_1 rfl (lv_at hl 0 rfl) ?_
  refine lv_iload_n hx hb dX8_hasBid_2 rfl (lv_at hl 1 rfl) ?_
  refine callRo (va_runV (As := [.int x]) (rest := [.ref (b 0)]) ⟨hx, hb, hml, hown, hts⟩ (c_X8_isPlayer l D C b M (x) hM) (cwV 1 hts gX8_hasBid_X8_isPlayer rfl rfl rfl (by decide +kernel) ⟨Nat.le_of_ble_eq_true rfl, Nat.le_of_ble_eq_true rfl⟩) (roP_v hP hK hE (va_recv hK hP (ci := 9) (q0 := 0) rfl rfl)) rfl rfl hl.1 rfl (lv_room (Nat.le_of_ble_eq_true rfl)) dX8_hasBid_3 ⟨Nat.le_refl _, Nat.le_refl _⟩) ?_
  refine bif_eq (tgt := 21) hx hb dX8_hasBid_6 (by decide) (fun c_6 => ?_) (fun c_6 => ?_)
  · have hz := hz.trans (ifB_f c_6)
    exact J21  _ _ ls hz  hP hD hS (lv_sub hl [0, 1, 2] rfl)
  · have hz := hz.trans (ifB_t c_6)
    refine lv_aload_n hx hb dX8_hasBid_9 rfl (lv_at hl 0 rfl) ?_
    refine lv_iload_n hx hb dX8_hasBid_10 rfl (lv_at hl 2 rfl) ?_
    refine callRo (va_runV (As := [.int y]) (rest := [.ref (b 0)]) ⟨hx, hb, hml, hown, hts⟩ (c_X8_isSite l D C b M (y) hM) (cwV 1 hts gX8_hasBid_X8_isSite rfl rfl rfl (by decide +kernel) ⟨Nat.le_of_ble_eq_true rfl, Nat.le_of_ble_eq_true rfl⟩) (roP_v hP hK hE (va_recv hK hP (ci := 9) (q0 := 0) rfl rfl)) rfl rfl hl.1 rfl (lv_room (Nat.le_of_ble_eq_true rfl)) dX8_hasBid_11 ⟨Nat.le_refl _, Nat.le_refl _⟩) ?_
    refine bif_eq (tgt := 21) hx hb dX8_hasBid_14 (by decide) (fun c_14 => ?_) (fun c_14 => ?_)
    · have hz := hz.trans (ifB_f c_14)
      exact J21  _ _ ls hz  hP hD hS (lv_sub hl [0, 1, 2] rfl)
    · have hz := hz.trans (ifB_t c_14)
      refine lv_iconst (v := 1) hx hb dX8_hasBid_17 (by decide) ?_
      refine lv_goto (tgt := 22) hx hb dX8_hasBid_18 (by decide) ?_
      exact J22 (true) _ _ ls hz  hP hD hS (lv_sub hl [0, 1, 2] rfl)

