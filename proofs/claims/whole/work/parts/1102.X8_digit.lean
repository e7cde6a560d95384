theorem X8_reads_pl (tx : Nat → Int32) (si pl : Nat) (wr x y : Int32) (hx : 0 ≤ x) (hp : pl ≤ si) : (f_X8_reads tx si pl wr x y).2.1 ≤ si ∧ pl ≤ (f_X8_reads tx si pl wr x y).2.1 := by
  simp only [f_X8_reads, f_X8_reads_j44, f_X8_reads_j64]
  split
  · split
    · have q := X8_letter_lt hx hp (by assumption)
      exact ⟨q, Nat.le_succ _⟩
    · exact ⟨hp, Nat.le_refl _⟩
  · exact ⟨hp, Nat.le_refl _⟩
def f_X8_digit (tx : (Nat → Int32)) (sz : Nat) (pl : Nat) (wr : Int32) : Int32 × Nat × Int32 := (lt_ (f_X8_reads tx sz pl wr (48) (57)) (fun y5 => (y5.1, y5.2.1, y5.2.2)))
set_option maxHeartbeats 4000000 in
set_option maxRecDepth 100000 in
theorem c_X8_digit (l : Launch) (D : va_G) (C : Nat → ClassId) (b : Nat → Nat) (M : MS) (sz : Nat) (hSi : mSiz M ≤ 60) (hPl : mPla M ≤ mSiz M) : Met l yX8_digit wsX8_digit ({ frames := 2, cells := 0, slots := 0, locals := 44 } : Room) (rwP [.ref (b 0)] D C (mcells C b M) sz) (rwO (some (.int ((f_X8_digit (mTxt M) (mSiz M) (mPla M) (mWro M)).1))) D (mcells C b (mkM (mNow M) (mBef M) (mSav M) (mHis M) (mIsS M) (mRem M) (mErA M) (mFaA M) (mTxt M) (mTyp M) (mLin M) (mLnd M) (mThr M) (mFar M) (mGrp M) (mSiz M) ((f_X8_digit (mTxt M) (mSiz M) (mPla M) (mWro M)).2.1) ((f_X8_digit (mTxt M) (mSiz M) (mPla M) (mWro M)).2.2) (mTol M) (mNum M))) (va_A (mcells C b M) sz)) 0 0 (va_A (mcells C b M) sz) := by
  refine Met.ofW (cc := cX8_digit) (maxL := 1) (ret := (some .int)) (by decide) rfl ?_
  intro p e s m args below meth c s₁ B hml hv
  obtain ⟨rfl, hsz, hP, hK, hD0, hE⟩ := hv
  have hx := B.exec
  have hb := B.bytes
  have hr := B.returns
  have hts := atoms_spec (ws := wsX8_digit) B.pre
  have hown : s.vm.findClass RX8 = some m.cls := findClass_of_methodNamed B.named
  have hlocks := B.notSynchronized
  subst hsz
  have hD := hD0.self (sz := s.heap.size)
  generalize hAe : va_A (mcells C b M) s.heap.size = A at hD ⊢
  have hA : ∀ q : Nat, s.heap.size ≤ q → A q := fun q h => by rw [← hAe]; exact Or.inr h
  have hS0 : va_S A s.heap s.heap [] := va_S.rf
  have hP : va_P D vwCl (mcells C b M) s.heap := hP
  have hS := hS0
  have hl := lv_entry ([.ref (b 0)]) (n := 1) (Nat.le_of_ble_eq_true rfl)
  rw [lg_entry_eq]
  generalize (lg_sl ([.ref (b 0)]) ++ List.replicate (1 - (lg_sl ([.ref (b 0)])).length) Slot.unset).toArray = ls at hl ⊢
  have hl : lv_has ls 1 [(0, .ref (b 0))] := hl
  obtain ⟨z, hz⟩ : ∃ z, z = f_X8_digit (mTxt M) (mSiz M) (mPla M) (mWro M) := ⟨_, rfl⟩
  rw [← hz]
  refine lv_aload_n hx hb dX8_digit_0 rfl (lv_at hl 0 rfl) ?_
  refine lv_bipush (v := 48) hx hb dX8_digit_1 (by decide +kernel) ?_
  refine lv_bipush (v := 57) hx hb dX8_digit_3 (by decide +kernel) ?_
  have hFc := va_free (wc := (mcells C b M)) hD hS hA [0, 1, 2, 3, 4, 5, 6, 7, 8, 9] rfl
  refine callRw (va_runV (As := [.int 48, .int 57]) (rest := []) ⟨hx, hb, hml, hown, hts⟩ (c_X8_reads l D C b M (48) (57) _ (by show (mSiz M) ≤ 60; first | assumption | omega) (by show (mPla M) ≤ (mSiz M); first | assumption | omega) (by decide +kernel)) (cwV 2 hts gX8_digit_X8_reads rfl rfl rfl (by decide +kernel) ⟨Nat.le_of_ble_eq_true rfl, Nat.le_of_ble_eq_true rfl⟩) (rwP_v hP hK hE hD (va_recv hK hP (ci := 9) (q0 := 0) rfl rfl)) rfl rfl hl.1 rfl (lv_room (Nat.le_of_ble_eq_true rfl)) dX8_digit_5 ⟨Nat.le_refl _, Nat.le_refl _⟩) hS hFc (fun H1 locs hPn hk hS => ?_)
  obtain ⟨y5, hy5⟩ : ∃ y_, y_ = (f_X8_reads (mTxt M) (mSiz M) (mPla M) (mWro M) (48) (57)) := ⟨_, rfl⟩
  have hPn : va_P D vwCl (mcells C b (mkM (mNow M) (mBef M) (mSav M) (mHis M) (mIsS M) (mRem M) (mErA M) (mFaA M) (mTxt M) (mTyp M) (mLin M) (mLnd M) (mThr M) (mFar M) (mGrp M) (mSiz M) y5.2.1 y5.2.2 (mTol M) (mNum M))) H1 := by rw [hy5]; exact hPn
  refine topI (y := y5.1) (congrArg Prod.fst hy5).symm ?_
  have hz := lt_eq hz hy5
  have hP : va_P D vwCl (mcells C b (mkM (mNow M) (mBef M) (mSav M) (mHis M) (mIsS M) (mRem M) (mErA M) (mFaA M) (mTxt M) (mTyp M) (mLin M) (mLnd M) (mThr M) (mFar M) (mGrp M) (mSiz M) y5.2.1 y5.2.2 (mTol M) (mNum M))) H1 := hPn
  have hD : va_D A (mcells C b (mkM (mNow M) (mBef M) (mSav M) (mHis M) (mIsS M) (mRem M) (mErA M) (mFaA M) (mTxt M) (mTyp M) (mLin M) (mLnd M) (mThr M) (mFar M) (mGrp M) (mSiz M) y5.2.1 y5.2.2 (mTol M) (mNum M))) := adr_D hD rfl
  generalize H1 = H at hP hS ⊢
  have hz : z = (y5.1, y5.2.1, y5.2.2) := hz
  rw [hz]
  exact rw_ret hx hb hr hP hS rfl dX8_digit_8 hlocks

