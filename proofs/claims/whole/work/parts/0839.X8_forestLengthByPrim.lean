def f_X8_forestLengthByPrim (nw : (Nat → Int32)) (gp : (Nat → Int32)) : Int32 × Int32 × (Nat → Int32) := (lt_ (f_X8_forest nw gp) (fun y1 => (y1.1, y1.2.1, y1.2.2)))
set_option maxHeartbeats 4000000 in
set_option maxRecDepth 100000 in
theorem c_X8_forestLengthByPrim (l : Launch) (D : va_G) (C : Nat → ClassId) (b : Nat → Nat) (M : MS) (sz : Nat) (hM : MSafe M) : Met l yX8_forestLengthByPrim wsX8_forestLengthByPrim ({ frames := 5, cells := 0, slots := 0, locals := 110 } : Room) (rwP [.ref (b 0)] D C (mcells C b M) sz) (rwO (some (.int ((f_X8_forestLengthByPrim (mNow M) (mGrp M)).1))) D (mcells C b (mkM (mNow M) (mBef M) (mSav M) (mHis M) (mIsS M) (mRem M) (mErA M) (mFaA M) (mTxt M) (mTyp M) (mLin M) (mLnd M) ((f_X8_forestLengthByPrim (mNow M) (mGrp M)).2.1) (mFar M) ((f_X8_forestLengthByPrim (mNow M) (mGrp M)).2.2) (mSiz M) (mPla M) (mWro M) (mTol M) (mNum M))) (va_A (mcells C b M) sz)) 0 0 (va_A (mcells C b M) sz) := by
  refine Met.ofW (cc := cX8_forestLengthByPrim) (maxL := 1) (ret := (some .int)) (by decide) rfl ?_
  intro p e s m args below meth c s₁ B hml hv
  obtain ⟨rfl, hsz, hP, hK, hD0, hE⟩ := hv
  have hx := B.exec
  have hb := B.bytes
  have hr := B.returns
  have hts := atoms_spec (ws := wsX8_forestLengthByPrim) B.pre
  have hown : s.vm.findClass RX8 = some m.cls := findClass_of_methodNamed B.named
  have hlocks := B.notSynchronized
  subst hsz
  have hD := hD0.self (sz := s.heap.size)
  generalize hAe : va_A (mcells C b M) s.heap.size = A at hD ⊢
  have hA : ∀ q : Nat, s.heap.size ≤ q → A q := fun q h => by rw [← hAe]; exact Or.inr h
  have hS0 : va_S A s.heap s.heap [] := va_S.rf
  have hP : va_P D vwCl (mcells C b M) s.heap := hP
  have hS := hS0
  obtain ⟨⟨hS2, hS12⟩, ⟨hP2, hP4⟩, hLH, hFE⟩ := id hM
  have hl := lv_entry ([.ref (b 0)]) (n := 1) (Nat.le_of_ble_eq_true rfl)
  rw [lg_entry_eq]
  generalize (lg_sl ([.ref (b 0)]) ++ List.replicate (1 - (lg_sl ([.ref (b 0)])).length) Slot.unset).toArray = ls at hl ⊢
  have hl : lv_has ls 1 [(0, .ref (b 0))] := hl
  obtain ⟨z, hz⟩ : ∃ z, z = f_X8_forestLengthByPrim (mNow M) (mGrp M) := ⟨_, rfl⟩
  rw [← hz]
  refine lv_aload_n hx hb dX8_forestLengthByPrim_0 rfl (lv_at hl 0 rfl) ?_
  have hFc := va_free (wc := (mcells C b M)) hD hS hA [0, 1, 2, 3, 4, 5, 6, 7, 8, 9] rfl
  refine callRw (va_runV (As := []) (rest := []) ⟨hx, hb, hml, hown, hts⟩ (c_X8_forest l D C b M _ hM) (cwV 0 hts gX8_forestLengthByPrim_X8_forest rfl rfl rfl (by decide +kernel) ⟨Nat.le_of_ble_eq_true rfl, Nat.le_of_ble_eq_true rfl⟩) (rwP_v hP hK hE hD (va_recv hK hP (ci := 9) (q0 := 0) rfl rfl)) rfl rfl hl.1 rfl (lv_room (Nat.le_of_ble_eq_true rfl)) dX8_forestLengthByPrim_1 ⟨Nat.le_refl _, Nat.le_refl _⟩) hS hFc (fun H1 locs hPn hk hS => ?_)
  obtain ⟨y1, hy1⟩ : ∃ y_, y_ = (f_X8_forest (mNow M) (mGrp M)) := ⟨_, rfl⟩
  have hPn : va_P D vwCl (mcells C b (mkM (mNow M) (mBef M) (mSav M) (mHis M) (mIsS M) (mRem M) (mErA M) (mFaA M) (mTxt M) (mTyp M) (mLin M) (mLnd M) y1.2.1 (mFar M) y1.2.2 (mSiz M) (mPla M) (mWro M) (mTol M) (mNum M))) H1 := by rw [hy1]; exact hPn
  refine topI (y := y1.1) (congrArg Prod.fst hy1).symm ?_
  have hz := lt_eq hz hy1
  have hP : va_P D vwCl (mcells C b (mkM (mNow M) (mBef M) (mSav M) (mHis M) (mIsS M) (mRem M) (mErA M) (mFaA M) (mTxt M) (mTyp M) (mLin M) (mLnd M) y1.2.1 (mFar M) y1.2.2 (mSiz M) (mPla M) (mWro M) (mTol M) (mNum M))) H1 := hPn
  have hD : va_D A (mcells C b (mkM (mNow M) (mBef M) (mSav M) (mHis M) (mIsS M) (mRem M) (mErA M) (mFaA M) (mTxt M) (mTyp M) (mLin M) (mLnd M) y1.2.1 (mFar M) y1.2.2 (mSiz M) (mPla M) (mWro M) (mTol M) (mNum M))) := adr_D hD rfl
  generalize H1 = H at hP hS ⊢
  have hz : z = (y1.1, y1.2.1, y1.2.2) := hz
  rw [hz]
  exact rw_ret hx hb hr hP hS rfl dX8_forestLengthByPrim_4 hlocks

