theorem X8_hasBid_in {nw : Nat → Int32} (hM : NowOK nw) {x y : Int32} (h : (f_X8_hasBid nw x y).1 = true) : vp_in x (mP nw) ∧ vp_in y (mS nw) := by
  simp only [f_X8_hasBid, f_X8_hasBid_j21, f_X8_hasBid_j22, f_X8_hasBid_j36] at h
  split at h
  · rename_i c1
    split at h
    · rename_i c2
      exact ⟨X8_isPlayer_in hM c1, X8_isSite_in hM c2⟩
    · split at h
      all_goals exact absurd h (by decide)
  · split at h
    all_goals exact absurd h (by decide)
def f_X8_bidAmount_j19  (s0_19 : Int32) (thr0_19 : Int32) : Int32 × Int32 := (s0_19, thr0_19)
def f_X8_bidAmount (nw : (Nat → Int32)) (x : Int32) (y : Int32) : Int32 × Int32 := (lt_ (f_X8_hasBid nw (x) (y)) (fun y3 => (if y3.1 = true then (f_X8_bidAmount_j19 ((f_X8_amountOf nw (x) (y))) (y3.2)) else (f_X8_bidAmount_j19 (0) (y3.2)))))
set_option maxHeartbeats 4000000 in
set_option maxRecDepth 100000 in
theorem c_X8_bidAmount (l : Launch) (D : va_G) (C : Nat → ClassId) (b : Nat → Nat) (M : MS) (x : Int32) (y : Int32) (sz : Nat) (hM : MSafe M) : Met l yX8_bidAmount wsX8_bidAmount ({ frames := 5, cells := 0, slots := 0, locals := 109 } : Room) (rwP [.ref (b 0), .int x, .int y] D C (mcells C b M) sz) (rwO (some (.int ((f_X8_bidAmount (mNow M) x y).1))) D (mcells C b (mkM (mNow M) (mBef M) (mSav M) (mHis M) (mIsS M) (mRem M) (mErA M) (mFaA M) (mTxt M) (mTyp M) (mLin M) (mLnd M) ((f_X8_bidAmount (mNow M) x y).2) (mFar M) (mGrp M) (mSiz M) (mPla M) (mWro M) (mTol M) (mNum M))) (va_A (mcells C b M) sz)) 0 0 (va_A (mcells C b M) sz) := by
  refine Met.ofW (cc := cX8_bidAmount) (maxL := 3) (ret := (some .int)) (by decide) rfl ?_
  intro p e s m args below meth c s₁ B hml hv
  obtain ⟨rfl, hsz, hP, hK, hD0, hE⟩ := hv
  have hx := B.exec
  have hb := B.bytes
  have hr := B.returns
  have hts := atoms_spec (ws := wsX8_bidAmount) B.pre
  have hown : s.vm.findClass RX8 = some m.cls := findClass_of_methodNamed B.named
  have hlocks := B.notSynchronized
  subst hsz
  have hD := hD0.self (sz := s.heap.size)
  generalize hAe : va_A (mcells C b M) s.heap.size = A at hD ⊢
  have hA : ∀ q : Nat, s.heap.size ≤ q → A q := fun q h => by rw [← hAe]; exact Or.inr h
  have hS0 : va_S A s.heap s.heap [] := va_S.rf
  have hP : va_P D vwCl (mcells C b M) s.heap := hP
  have hS := hS0
  obtain ⟨⟨hS2, hS12⟩, ⟨hP2, hP4⟩, hLH, hFE⟩ := id hM
  have hl := lv_entry ([.ref (b 0), .int x, .int y]) (n := 3) (Nat.le_of_ble_eq_true rfl)
  rw [lg_entry_eq]
  generalize (lg_sl ([.ref (b 0), .int x, .int y]) ++ List.replicate (3 - (lg_sl ([.ref (b 0), .int x, .int y])).length) Slot.unset).toArray = ls at hl ⊢
  have hl : lv_has ls 3 [(0, .ref (b 0)), (1, .int x), (2, .int y)] := hl
  obtain ⟨z, hz⟩ : ∃ z, z = f_X8_bidAmount (mNow M) x y := ⟨_, rfl⟩
  rw [← hz]
  have J19 : ∀ (s0_19 : Int32) (thr0_19 : Int32)  (H : Heap) (locs : List Loc) (ls : Array Slot), z = f_X8_bidAmount_j19 s0_19 thr0_19 → va_P D vwCl (mcells C b (mkM (mNow M) (mBef M) (mSav M) (mHis M) (mIsS M) (mRem M) (mErA M) (mFaA M) (mTxt M) (mTyp M) (mLin M) (mLnd M) thr0_19 (mFar M) (mGrp M) (mSiz M) (mPla M) (mWro M) (mTol M) (mNum M))) H → va_D A (mcells C b (mkM (mNow M) (mBef M) (mSav M) (mHis M) (mIsS M) (mRem M) (mErA M) (mFaA M) (mTxt M) (mTyp M) (mLin M) (mLnd M) thr0_19 (mFar M) (mGrp M) (mSiz M) (mPla M) (mWro M) (mTol M) (mNum M))) → va_S A s.heap H locs → lv_has ls 3 [] → W p l e ({ frames := 5, cells := 0, slots := 0, locals := 109 } : Room) s m ([.ref (b 0), .int x, .int y] : List Value).toArray below meth c H locs 0 0 (MQ below (rwO (some (.int z.1)) D (mcells C b (mkM (mNow M) (mBef M) (mSav M) (mHis M) (mIsS M) (mRem M) (mErA M) (mFaA M) (mTxt M) (mTyp M) (mLin M) (mLnd M) z.2 (mFar M) (mGrp M) (mSiz M) (mPla M) (mWro M) (mTol M) (mNum M))) A) ([.ref (b 0), .int x, .int y] : List Value).toArray s 0 0 A) (F0 m 19 ls [.int s0_19]) := by
    intro s0_19 thr0_19 H locs ls hz  hP hD hS hl
    have hz : z = (s0_19, thr0_19) := hz
    rw [hz]
    exact rw_ret hx hb hr hP hS rfl dX8_bidAmount_19 hlocks
  refine lv_aload_n hx hb dX8_bidAmount_0 rfl (lv_at hl 0 rfl) ?_
  refine lv_iload_n hx hb dX8_bidAmount_1 rfl (lv_at hl 1 rfl) ?_
  refine lv_iload_n hx hb dX8_bidAmount_2 rfl (lv_at hl 2 rfl) ?_
  have hFc := va_free (wc := (mcells C b M)) hD hS hA [0, 1, 2, 3, 4, 5, 6, 7, 8, 9] rfl
  refine callRw (va_runV (As := [.int x, .int y]) (rest := []) ⟨hx, hb, hml, hown, hts⟩ (c_X8_hasBid l D C b M (x) (y) _ hM) (cwV 2 hts gX8_bidAmount_X8_hasBid rfl rfl rfl (by decide +kernel) ⟨Nat.le_of_ble_eq_true rfl, Nat.le_of_ble_eq_true rfl⟩) (rwP_v hP hK hE hD (va_recv hK hP (ci := 9) (q0 := 0) rfl rfl)) rfl rfl hl.1 rfl (lv_room (Nat.le_of_ble_eq_true rfl)) dX8_bidAmount_3 ⟨Nat.le_refl _, Nat.le_refl _⟩) hS hFc (fun H1 locs hPn hk hS => ?_)
  obtain ⟨y3, hy3⟩ : ∃ y_, y_ = (f_X8_hasBid (mNow M) (x) (y)) := ⟨_, rfl⟩
  have hPn : va_P D vwCl (mcells C b (mkM (mNow M) (mBef M) (mSav M) (mHis M) (mIsS M) (mRem M) (mErA M) (mFaA M) (mTxt M) (mTyp M) (mLin M) (mLnd M) y3.2 (mFar M) (mGrp M) (mSiz M) (mPla M) (mWro M) (mTol M) (mNum M))) H1 := by rw [hy3]; exact hPn
  refine topI (y := bI y3.1) (congrArg bI (congrArg Prod.fst hy3).symm) ?_
  have hz := lt_eq hz hy3
  have hP : va_P D vwCl (mcells C b (mkM (mNow M) (mBef M) (mSav M) (mHis M) (mIsS M) (mRem M) (mErA M) (mFaA M) (mTxt M) (mTyp M) (mLin M) (mLnd M) y3.2 (mFar M) (mGrp M) (mSiz M) (mPla M) (mWro M) (mTol M) (mNum M))) H1 := hPn
  have hD : va_D A (mcells C b (mkM (mNow M) (mBef M) (mSav M) (mHis M) (mIsS M) (mRem M) (mErA M) (mFaA M) (mTxt M) (mTyp M) (mLin M) (mLnd M) y3.2 (mFar M) (mGrp M) (mSiz M) (mPla M) (mWro M) (mTol M) (mNum M))) := adr_D hD rfl
  generalize H1 = H at hP hS ⊢
  refine bif_eq (tgt := 18) hx hb dX8_bidAmount_6 (by decide) (fun c_6 => ?_) (fun c_6 => ?_)
  · have hz := hz.trans (ifB_f c_6)
    refine lv_iconst (v := 0) hx hb dX8_bidAmount_18 (by decide) ?_
    exact J19 (0) (y3.2) _ _ ls hz  hP hD hS (lv_sub hl [] rfl)
  · have hz := hz.trans (ifB_t c_6)
    refine lv_aload_n hx hb dX8_bidAmount_9 rfl (lv_at hl 0 rfl) ?_
    refine lv_iload_n hx hb dX8_bidAmount_10 rfl (lv_at hl 1 rfl) ?_
    refine lv_iload_n hx hb dX8_bidAmount_11 rfl (lv_at hl 2 rfl) ?_
    refine callRo (va_runV (As := [.int x, .int y]) (rest := []) ⟨hx, hb, hml, hown, hts⟩ (c_X8_amountOf l D C b (mkM (mNow M) (mBef M) (mSav M) (mHis M) (mIsS M) (mRem M) (mErA M) (mFaA M) (mTxt M) (mTyp M) (mLin M) (mLnd M) y3.2 (mFar M) (mGrp M) (mSiz M) (mPla M) (mWro M) (mTol M) (mNum M)) (x) (y) (MSafe_of hM rfl)) (cwV 2 hts gX8_bidAmount_X8_amountOf rfl rfl rfl (by decide +kernel) ⟨Nat.le_of_ble_eq_true rfl, Nat.le_of_ble_eq_true rfl⟩) (roP_v hP hK hE (va_recv hK hP (ci := 9) (q0 := 0) rfl rfl)) rfl rfl hl.1 rfl (lv_room (Nat.le_of_ble_eq_true rfl)) dX8_bidAmount_12 ⟨Nat.le_refl _, Nat.le_refl _⟩) ?_
    refine topI (y := (f_X8_amountOf (mNow M) (x) (y))) rfl ?_
    refine lv_goto (tgt := 19) hx hb dX8_bidAmount_15 (by decide) ?_
    exact J19 ((f_X8_amountOf (mNow M) (x) (y))) (y3.2) _ _ ls hz  hP hD hS (lv_sub hl [] rfl)

