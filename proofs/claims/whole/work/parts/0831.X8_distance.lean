def f_X8_distance (nw : (Nat → Int32)) (fr : (Nat → Int32)) (x : Int32) (y : Int32) : Int32 × Int32 × (Nat → Int32) := (lt_ (f_X8_distanceOf nw fr (x) (y)) (fun y3 => (y3.1, y3.2.1, y3.2.2)))
set_option maxHeartbeats 4000000 in
set_option maxRecDepth 100000 in
theorem c_X8_distance (l : Launch) (D : va_G) (C : Nat → ClassId) (b : Nat → Nat) (M : MS) (x : Int32) (y : Int32) (sz : Nat) (hM : MSafe M) : Met l yX8_distance wsX8_distance ({ frames := 6, cells := 0, slots := 0, locals := 133 } : Room) (rwP [.ref (b 0), .int x, .int y] D C (mcells C b M) sz) (rwO (some (.int ((f_X8_distance (mNow M) (mFar M) x y).1))) D (mcells C b (mkM (mNow M) (mBef M) (mSav M) (mHis M) (mIsS M) (mRem M) (mErA M) (mFaA M) (mTxt M) (mTyp M) (mLin M) (mLnd M) ((f_X8_distance (mNow M) (mFar M) x y).2.1) ((f_X8_distance (mNow M) (mFar M) x y).2.2) (mGrp M) (mSiz M) (mPla M) (mWro M) (mTol M) (mNum M))) (va_A (mcells C b M) sz)) 0 0 (va_A (mcells C b M) sz) := by
  refine Met.ofW (cc := cX8_distance) (maxL := 3) (ret := (some .int)) (by decide) rfl ?_
  intro p e s m args below meth c s₁ B hml hv
  obtain ⟨rfl, hsz, hP, hK, hD0, hE⟩ := hv
  have hx := B.exec
  have hb := B.bytes
  have hr := B.returns
  have hts := atoms_spec (ws := wsX8_distance) B.pre
  have hown : s.vm.findClass RX8 = some m.cls := findClass_of_methodNamed B.named
  have hlocks := B.notSynchronized
  subst hsz
  have hD := hD0.self (sz := s.heap.size)
  generalize hAe : va_A (mcells C b M) s.heap.size = A at hD ⊢
  have hA : ∀ q : Nat, s.heap.size ≤ q → A q := fun q h => by rw [← hAe]; exact Or.inr h
  have hS0 : va_S A s.heap s.heap [] := va_S.rf
  have hP : va_P D vwCl (mcells C b M) s.heap := hP
  have hS := hS0
  obtain ⟨⟨hS2, hS12⟩, ⟨hP2, hP4⟩, hLH, hFE⟩ := id hM
  have hl := lv_entry ([.ref (b 0), .int x, .int y]) (n := 3) (Nat.le_of_ble_eq_true rfl)
  rw [lg_entry_eq]
  generalize (lg_sl ([.ref (b 0), .int x, .int y]) ++ List.replicate (3 - (lg_sl ([.ref (b 0), .int x, .int y])).length) Slot.unset).toArray = ls at hl ⊢
  have hl : lv_has ls 3 [(0, .ref (b 0)), (1, .int x), (2, .int y)] := hl
  obtain ⟨z, hz⟩ : ∃ z, z = f_X8_distance (mNow M) (mFar M) x y := ⟨_, rfl⟩
  rw [← hz]
  refine lv_aload_n hx hb dX8_distance_0 rfl (lv_at hl 0 rfl) ?_
  refine lv_iload_n hx hb dX8_distance_1 rfl (lv_at hl 1 rfl) ?_
  refine lv_iload_n hx hb dX8_distance_2 rfl (lv_at hl 2 rfl) ?_
  have hFc := va_free (wc := (mcells C b M)) hD hS hA [0, 1, 2, 3, 4, 5, 6, 7, 8, 9] rfl
  refine callRw (va_runV (As := [.int x, .int y]) (rest := []) ⟨hx, hb, hml, hown, hts⟩ (c_X8_distanceOf l D C b M (x) (y) _ hM) (cwV 2 hts gX8_distance_X8_distanceOf rfl rfl rfl (by decide +kernel) ⟨Nat.le_of_ble_eq_true rfl, Nat.le_of_ble_eq_true rfl⟩) (rwP_v hP hK hE hD (va_recv hK hP (ci := 9) (q0 := 0) rfl rfl)) rfl rfl hl.1 rfl (lv_room (Nat.le_of_ble_eq_true rfl)) dX8_distance_3 ⟨Nat.le_refl _, Nat.le_refl _⟩) hS hFc (fun H1 locs hPn hk hS => ?_)
  obtain ⟨y3, hy3⟩ : ∃ y_, y_ = (f_X8_distanceOf (mNow M) (mFar M) (x) (y)) := ⟨_, rfl⟩
  have hPn : va_P D vwCl (mcells C b (mkM (mNow M) (mBef M) (mSav M) (mHis M) (mIsS M) (mRem M) (mErA M) (mFaA M) (mTxt M) (mTyp M) (mLin M) (mLnd M) y3.2.1 y3.2.2 (mGrp M) (mSiz M) (mPla M) (mWro M) (mTol M) (mNum M))) H1 := by rw [hy3]; exact hPn
  refine topI (y := y3.1) (congrArg Prod.fst hy3).symm ?_
  have hz := lt_eq hz hy3
  have hP : va_P D vwCl (mcells C b (mkM (mNow M) (mBef M) (mSav M) (mHis M) (mIsS M) (mRem M) (mErA M) (mFaA M) (mTxt M) (mTyp M) (mLin M) (mLnd M) y3.2.1 y3.2.2 (mGrp M) (mSiz M) (mPla M) (mWro M) (mTol M) (mNum M))) H1 := hPn
  have hD : va_D A (mcells C b (mkM (mNow M) (mBef M) (mSav M) (mHis M) (mIsS M) (mRem M) (mErA M) (mFaA M) (mTxt M) (mTyp M) (mLin M) (mLnd M) y3.2.1 y3.2.2 (mGrp M) (mSiz M) (mPla M) (mWro M) (mTol M) (mNum M))) := adr_D hD rfl
  generalize H1 = H at hP hS ⊢
  have hz : z = (y3.1, y3.2.1, y3.2.2) := hz
  rw [hz]
  exact rw_ret hx hb hr hP hS rfl dX8_distance_6 hlocks

