theorem X8_digit_pl (tx : Nat → Int32) (si pl : Nat) (wr : Int32) (hp : pl ≤ si) : (f_X8_digit tx si pl wr).2.1 ≤ si ∧ pl ≤ (f_X8_digit tx si pl wr).2.1 :=
  X8_reads_pl tx si pl wr 48 57 (by decide +kernel) hp
theorem X8_digit_q {y : Int32 × Nat × Int32} {tx : Nat → Int32} {si pl : Nat} {wr : Int32} (hy : y = f_X8_digit tx si pl wr) (hp : pl ≤ si) : y.2.1 ≤ si ∧ pl ≤ y.2.1 := by
  subst hy
  exact X8_digit_pl _ _ _ _ hp
theorem X8_reads_q {y : Int32 × Nat × Int32} {tx : Nat → Int32} {si pl : Nat} {wr : Int32} {x z : Int32} (hy : y = f_X8_reads tx si pl wr x z) (h0 : 0 ≤ x) (hp : pl ≤ si) : y.2.1 ≤ si ∧ pl ≤ y.2.1 := by
  subst hy
  exact X8_reads_pl _ _ _ _ _ _ h0 hp
def f_X8_number_j40  (s0_40 : Int32) (pla0_40 : Nat) (wro0_40 : Int32) : Int32 × Nat × Int32 := (s0_40, pla0_40, wro0_40)
def f_X8_number_j39  (v1_39 : Int32) (pla0_39 : Nat) (wro0_39 : Int32) : Int32 × Nat × Int32 := (f_X8_number_j40 (v1_39) (pla0_39) (wro0_39))
def f_X8_number (tx : (Nat → Int32)) (sz : Nat) (pl : Nat) (wr : Int32) : Int32 × Nat × Int32 := (lt_ (f_X8_digit tx sz pl wr) (fun y1 => (if y1.2.2 = (-1) then (if (f_X8_isIn ((f_X8_letterHere tx sz y1.2.1)) (48) (57)) = true then (lt_ (f_X8_digit tx sz y1.2.1 y1.2.2) (fun y32 => (f_X8_number_j40 (((10 * y1.1) + y32.1)) (y32.2.1) (y32.2.2)))) else (f_X8_number_j39 (y1.1) (y1.2.1) (y1.2.2))) else (f_X8_number_j39 (y1.1) (y1.2.1) (y1.2.2)))))
set_option maxHeartbeats 4000000 in
set_option maxRecDepth 100000 in
theorem c_X8_number (l : Launch) (D : va_G) (C : Nat → ClassId) (b : Nat → Nat) (M : MS) (sz : Nat) (hSi : mSiz M ≤ 60) (hPl : mPla M ≤ mSiz M) : Met l yX8_number wsX8_number ({ frames := 3, cells := 0, slots := 0, locals := 64 } : Room) (rwP [.ref (b 0)] D C (mcells C b M) sz) (rwO (some (.int ((f_X8_number (mTxt M) (mSiz M) (mPla M) (mWro M)).1))) D (mcells C b (mkM (mNow M) (mBef M) (mSav M) (mHis M) (mIsS M) (mRem M) (mErA M) (mFaA M) (mTxt M) (mTyp M) (mLin M) (mLnd M) (mThr M) (mFar M) (mGrp M) (mSiz M) ((f_X8_number (mTxt M) (mSiz M) (mPla M) (mWro M)).2.1) ((f_X8_number (mTxt M) (mSiz M) (mPla M) (mWro M)).2.2) (mTol M) (mNum M))) (va_A (mcells C b M) sz)) 0 0 (va_A (mcells C b M) sz) := by
  refine Met.ofW (cc := cX8_number) (maxL := 2) (ret := (some .int)) (by decide) rfl ?_
  intro p e s m args below meth c s₁ B hml hv
  obtain ⟨rfl, hsz, hP, hK, hD0, hE⟩ := hv
  have hx := B.exec
  have hb := B.bytes
  have hr := B.returns
  have hts := atoms_spec (ws := wsX8_number) B.pre
  have hown : s.vm.findClass RX8 = some m.cls := findClass_of_methodNamed B.named
  have hlocks := B.notSynchronized
  subst hsz
  have hD := hD0.self (sz := s.heap.size)
  generalize hAe : va_A (mcells C b M) s.heap.size = A at hD ⊢
  have hA : ∀ q : Nat, s.heap.size ≤ q → A q := fun q h => by rw [← hAe]; exact Or.inr h
  have hS0 : va_S A s.heap s.heap [] := va_S.rf
  have hP : va_P D vwCl (mcells C b M) s.heap := hP
  have hS := hS0
  have hinX8 : ∀ w ∈ u_ws RX8 TX8 20, w ∈ wsX8_number := by decide +kernel
  have hl := lv_entry ([.ref (b 0)]) (n := 2) (Nat.le_of_ble_eq_true rfl)
  rw [lg_entry_eq]
  generalize (lg_sl ([.ref (b 0)]) ++ List.replicate (2 - (lg_sl ([.ref (b 0)])).length) Slot.unset).toArray = ls at hl ⊢
  have hl : lv_has ls 2 [(0, .ref (b 0))] := hl
  obtain ⟨z, hz⟩ : ∃ z, z = f_X8_number (mTxt M) (mSiz M) (mPla M) (mWro M) := ⟨_, rfl⟩
  rw [← hz]
  have J40 : ∀ (s0_40 : Int32) (pla0_40 : Nat) (wro0_40 : Int32)  (H : Heap) (locs : List Loc) (ls : Array Slot), z = f_X8_number_j40 s0_40 pla0_40 wro0_40 → va_P D vwCl (mcells C b (mkM (mNow M) (mBef M) (mSav M) (mHis M) (mIsS M) (mRem M) (mErA M) (mFaA M) (mTxt M) (mTyp M) (mLin M) (mLnd M) (mThr M) (mFar M) (mGrp M) (mSiz M) pla0_40 wro0_40 (mTol M) (mNum M))) H → va_D A (mcells C b (mkM (mNow M) (mBef M) (mSav M) (mHis M) (mIsS M) (mRem M) (mErA M) (mFaA M) (mTxt M) (mTyp M) (mLin M) (mLnd M) (mThr M) (mFar M) (mGrp M) (mSiz M) pla0_40 wro0_40 (mTol M) (mNum M))) → va_S A s.heap H locs → lv_has ls 2 [] → W p l e ({ frames := 3, cells := 0, slots := 0, locals := 64 } : Room) s m ([.ref (b 0)] : List Value).toArray below meth c H locs 0 0 (MQ below (rwO (some (.int z.1)) D (mcells C b (mkM (mNow M) (mBef M) (mSav M) (mHis M) (mIsS M) (mRem M) (mErA M) (mFaA M) (mTxt M) (mTyp M) (mLin M) (mLnd M) (mThr M) (mFar M) (mGrp M) (mSiz M) z.2.1 z.2.2 (mTol M) (mNum M))) A) ([.ref (b 0)] : List Value).toArray s 0 0 A) (F0 m 40 ls [.int s0_40]) := by
    intro s0_40 pla0_40 wro0_40 H locs ls hz  hP hD hS hl
    have hz : z = (s0_40, pla0_40, wro0_40) := hz
    rw [hz]
    exact rw_ret hx hb hr hP hS rfl dX8_number_40 hlocks
  have J39 : ∀ (v1_39 : Int32) (pla0_39 : Nat) (wro0_39 : Int32)  (H : Heap) (locs : List Loc) (ls : Array Slot), z = f_X8_number_j39 v1_39 pla0_39 wro0_39 → va_P D vwCl (mcells C b (mkM (mNow M) (mBef M) (mSav M) (mHis M) (mIsS M) (mRem M) (mErA M) (mFaA M) (mTxt M) (mTyp M) (mLin M) (mLnd M) (mThr M) (mFar M) (mGrp M) (mSiz M) pla0_39 wro0_39 (mTol M) (mNum M))) H → va_D A (mcells C b (mkM (mNow M) (mBef M) (mSav M) (mHis M) (mIsS M) (mRem M) (mErA M) (mFaA M) (mTxt M) (mTyp M) (mLin M) (mLnd M) (mThr M) (mFar M) (mGrp M) (mSiz M) pla0_39 wro0_39 (mTol M) (mNum M))) → va_S A s.heap H locs → lv_has ls 2 [(1, .int v1_39)] → W p l e ({ frames := 3, cells := 0, slots := 0, locals := 64 } : Room) s m ([.ref (b 0)] : List Value).toArray below meth c H locs 0 0 (MQ below (rwO (some (.int z.1)) D (mcells C b (mkM (mNow M) (mBef M) (mSav M) (mHis M) (mIsS M) (mRem M) (mErA M) (mFaA M) (mTxt M) (mTyp M) (mLin M) (mLnd M) (mThr M) (mFar M) (mGrp M) (mSiz M) z.2.1 z.2.2 (mTol M) (mNum M))) A) ([.ref (b 0)] : List Value).toArray s 0 0 A) (F0 m 39 ls []) := by
    intro v1_39 pla0_39 wro0_39 H locs ls hz  hP hD hS hl
    refine lv_iload_n hx hb dX8_number_39 rfl (lv_at hl 0 rfl) ?_
    exact J40 (v1_39) (pla0_39) (wro0_39) _ _ ls hz  hP hD hS (lv_sub hl [] rfl)
  refine lv_aload_n hx hb dX8_number_0 rfl (lv_at hl 0 rfl) ?_
  have hFc := va_free (wc := (mcells C b M)) hD hS hA [0, 1, 2, 3, 4, 5, 6, 7, 8, 9] rfl
  refine callRw (va_runV (As := []) (rest := []) ⟨hx, hb, hml, hown, hts⟩ (c_X8_digit l D C b M _ (by show (mSiz M) ≤ 60; first | assumption | omega) (by show (mPla M) ≤ (mSiz M); first | assumption | omega)) (cwV 0 hts gX8_number_X8_digit rfl rfl rfl (by decide +kernel) ⟨Nat.le_of_ble_eq_true rfl, Nat.le_of_ble_eq_true rfl⟩) (rwP_v hP hK hE hD (va_recv hK hP (ci := 9) (q0 := 0) rfl rfl)) rfl rfl hl.1 rfl (lv_room (Nat.le_of_ble_eq_true rfl)) dX8_number_1 ⟨Nat.le_refl _, Nat.le_refl _⟩) hS hFc (fun H1 locs hPn hk hS => ?_)
  obtain ⟨y1, hy1⟩ : ∃ y_, y_ = (f_X8_digit (mTxt M) (mSiz M) (mPla M) (mWro M)) := ⟨_, rfl⟩
  have hPn : va_P D vwCl (mcells C b (mkM (mNow M) (mBef M) (mSav M) (mHis M) (mIsS M) (mRem M) (mErA M) (mFaA M) (mTxt M) (mTyp M) (mLin M) (mLnd M) (mThr M) (mFar M) (mGrp M) (mSiz M) y1.2.1 y1.2.2 (mTol M) (mNum M))) H1 := by rw [hy1]; exact hPn
  refine topI (y := y1.1) (congrArg Prod.fst hy1).symm ?_
  have hz := lt_eq hz hy1
  have hP : va_P D vwCl (mcells C b (mkM (mNow M) (mBef M) (mSav M) (mHis M) (mIsS M) (mRem M) (mErA M) (mFaA M) (mTxt M) (mTyp M) (mLin M) (mLnd M) (mThr M) (mFar M) (mGrp M) (mSiz M) y1.2.1 y1.2.2 (mTol M) (mNum M))) H1 := hPn
  have hD : va_D A (mcells C b (mkM (mNow M) (mBef M) (mSav M) (mHis M) (mIsS M) (mRem M) (mErA M) (mFaA M) (mTxt M) (mTyp M) (mLin M) (mLnd M) (mThr M) (mFar M) (mGrp M) (mSiz M) y1.2.1 y1.2.2 (mTol M) (mNum M))) := adr_D hD rfl
  generalize H1 = H at hP hS ⊢
  have b1 := X8_digit_q hy1 (by omega)
  refine lv_istore_n (lv' := [(1, .int y1.1), (0, .ref (b 0))]) hx hb dX8_number_4 rfl hl (by decide) rfl (fun ls hl => ?_)
  refine lv_aload_n hx hb dX8_number_5 rfl (lv_at hl 1 rfl) ?_
  refine va_get (D := D) (ci := 9) (v := .int y1.2.2) (C := RX8) (T := TX8) (N := 20) hx hb hts hinX8 hown hK hP 0 rfl rfl 17 (by decide) (hts (.fieldLink RX8 213 "BridgeAuctionModel" "wrong" "I") (by decide +kernel)) (fun _ h9 => h9) rfl dX8_number_6 ?_
  refine lv_iconst (v := (-1)) hx hb dX8_number_9 (by decide) ?_
  refine lv_icmp_ne (tgt := 39) hx hb dX8_number_10 (by decide) (fun c_10 => ?_) (fun c_10 => ?_)
  · have hz := hz.trans (if_neg c_10)
    exact J39 (y1.1) (y1.2.1) (y1.2.2) _ _ ls hz  hP hD hS (lv_sub hl [0] rfl)
  · have hz := hz.trans (if_pos c_10)
    refine lv_aload_n hx hb dX8_number_13 rfl (lv_at hl 1 rfl) ?_
    refine callRo (va_runV (As := []) (rest := []) ⟨hx, hb, hml, hown, hts⟩ (c_X8_letterHere l D C b (mkM (mNow M) (mBef M) (mSav M) (mHis M) (mIsS M) (mRem M) (mErA M) (mFaA M) (mTxt M) (mTyp M) (mLin M) (mLnd M) (mThr M) (mFar M) (mGrp M) (mSiz M) y1.2.1 y1.2.2 (mTol M) (mNum M)) (by show (mSiz M) ≤ 60; first | assumption | omega) (by show y1.2.1 ≤ (mSiz M); first | assumption | omega)) (cwV 0 hts gX8_number_X8_letterHere rfl rfl rfl (by decide +kernel) ⟨Nat.le_of_ble_eq_true rfl, Nat.le_of_ble_eq_true rfl⟩) (roP_v hP hK hE (va_recv hK hP (ci := 9) (q0 := 0) rfl rfl)) rfl rfl hl.1 rfl (lv_room (Nat.le_of_ble_eq_true rfl)) dX8_number_14 ⟨Nat.le_refl _, Nat.le_refl _⟩) ?_
    refine topI (y := (f_X8_letterHere (mTxt M) (mSiz M) y1.2.1)) rfl ?_
    refine lv_bipush (v := 48) hx hb dX8_number_17 (by decide +kernel) ?_
    refine lv_bipush (v := 57) hx hb dX8_number_19 (by decide +kernel) ?_
    refine callRo (va_runS (As := [.int (f_X8_letterHere (mTxt M) (mSiz M) y1.2.1), .int 48, .int 57]) (rest := []) ⟨hx, hb, hml, hown, hts⟩ (c_X8_isIn l D C ((f_X8_letterHere (mTxt M) (mSiz M) y1.2.1)) (48) (57)) (va_cwS 3 hts gX8_number_X8_isIn rfl rfl rfl (by decide +kernel) ⟨Nat.le_of_ble_eq_true rfl, Nat.le_of_ble_eq_true rfl⟩) (roP_s (hP.sub (ws' := ([] : va_W)) [] rfl) hK hE) rfl rfl hl.1 rfl (lv_room (Nat.le_of_ble_eq_true rfl)) dX8_number_21 ⟨Nat.le_refl _, Nat.le_refl _⟩) ?_
    refine bif_eq (tgt := 39) hx hb dX8_number_24 (by decide) (fun c_24 => ?_) (fun c_24 => ?_)
    · have hz := hz.trans (ifB_f c_24)
      exact J39 (y1.1) (y1.2.1) (y1.2.2) _ _ ls hz  hP hD hS (lv_sub hl [0] rfl)
    · have hz := hz.trans (ifB_t c_24)
      refine lv_bipush (v := 10) hx hb dX8_number_27 (by decide +kernel) ?_
      refine lv_iload_n hx hb dX8_number_29 rfl (lv_at hl 0 rfl) ?_
      refine lv_imul hx hb dX8_number_30 ?_
      refine lv_aload_n hx hb dX8_number_31 rfl (lv_at hl 1 rfl) ?_
      have hFc := va_free (wc := (mcells C b (mkM (mNow M) (mBef M) (mSav M) (mHis M) (mIsS M) (mRem M) (mErA M) (mFaA M) (mTxt M) (mTyp M) (mLin M) (mLnd M) (mThr M) (mFar M) (mGrp M) (mSiz M) y1.2.1 y1.2.2 (mTol M) (mNum M)))) hD hS hA [0, 1, 2, 3, 4, 5, 6, 7, 8, 9] rfl
      refine callRw (va_runV (As := []) (rest := [.int (10 * y1.1)]) ⟨hx, hb, hml, hown, hts⟩ (c_X8_digit l D C b (mkM (mNow M) (mBef M) (mSav M) (mHis M) (mIsS M) (mRem M) (mErA M) (mFaA M) (mTxt M) (mTyp M) (mLin M) (mLnd M) (mThr M) (mFar M) (mGrp M) (mSiz M) y1.2.1 y1.2.2 (mTol M) (mNum M)) _ (by show (mSiz M) ≤ 60; first | assumption | omega) (by show y1.2.1 ≤ (mSiz M); first | assumption | omega)) (cwV 0 hts gX8_number_X8_digit rfl rfl rfl (by decide +kernel) ⟨Nat.le_of_ble_eq_true rfl, Nat.le_of_ble_eq_true rfl⟩) (rwP_v hP hK hE hD (va_recv hK hP (ci := 9) (q0 := 0) rfl rfl)) rfl rfl hl.1 rfl (lv_room (Nat.le_of_ble_eq_true rfl)) dX8_number_32 ⟨Nat.le_refl _, Nat.le_refl _⟩) hS hFc (fun H1 locs hPn hk hS => ?_)
      obtain ⟨y32, hy32⟩ : ∃ y_, y_ = (f_X8_digit (mTxt M) (mSiz M) y1.2.1 y1.2.2) := ⟨_, rfl⟩
      have hPn : va_P D vwCl (mcells C b (mkM (mNow M) (mBef M) (mSav M) (mHis M) (mIsS M) (mRem M) (mErA M) (mFaA M) (mTxt M) (mTyp M) (mLin M) (mLnd M) (mThr M) (mFar M) (mGrp M) (mSiz M) y32.2.1 y32.2.2 (mTol M) (mNum M))) H1 := by rw [hy32]; exact hPn
      refine topI (y := y32.1) (congrArg Prod.fst hy32).symm ?_
      have hz := lt_eq hz hy32
      have hP : va_P D vwCl (mcells C b (mkM (mNow M) (mBef M) (mSav M) (mHis M) (mIsS M) (mRem M) (mErA M) (mFaA M) (mTxt M) (mTyp M) (mLin M) (mLnd M) (mThr M) (mFar M) (mGrp M) (mSiz M) y32.2.1 y32.2.2 (mTol M) (mNum M))) H1 := hPn
      have hD : va_D A (mcells C b (mkM (mNow M) (mBef M) (mSav M) (mHis M) (mIsS M) (mRem M) (mErA M) (mFaA M) (mTxt M) (mTyp M) (mLin M) (mLnd M) (mThr M) (mFar M) (mGrp M) (mSiz M) y32.2.1 y32.2.2 (mTol M) (mNum M))) := adr_D hD rfl
      generalize H1 = H at hP hS ⊢
      have b32 := X8_digit_q hy32 (by omega)
      refine lv_iadd hx hb dX8_number_35 ?_
      refine lv_goto (tgt := 40) hx hb dX8_number_36 (by decide) ?_
      exact J40 (((10 * y1.1) + y32.1)) (y32.2.1) (y32.2.2) _ _ ls hz  hP hD hS (lv_sub hl [] rfl)

