def f_X8_outputAt_j29  (s0_29 : Int32) (thr0_29 : Int32) : Int32 × Int32 := (s0_29, thr0_29)
def f_X8_outputAt (li : (Nat → Int32)) (ld : Nat) (x : Int32) : Int32 × Int32 := (if (f_X8_isIn (x) (0) (((nI ld) - 1))) = true then (f_X8_outputAt_j29 ((c16 (li x.toNatClampNeg))) ((gThr (f_X8_isIn (x) (0) (((nI ld) - 1)))))) else (f_X8_outputAt_j29 (0) ((gThr (f_X8_isIn (x) (0) (((nI ld) - 1)))))))
set_option maxHeartbeats 4000000 in
set_option maxRecDepth 100000 in
theorem c_X8_outputAt (l : Launch) (D : va_G) (C : Nat → ClassId) (b : Nat → Nat) (M : MS) (x : Int32) (sz : Nat) (hLn : mLnd M ≤ 60) : Met l yX8_outputAt wsX8_outputAt ({ frames := 2, cells := 0, slots := 0, locals := 45 } : Room) (rwP [.ref (b 0), .int x] D C (mcells C b M) sz) (rwO (some (.int ((f_X8_outputAt (mLin M) (mLnd M) x).1))) D (mcells C b (mkM (mNow M) (mBef M) (mSav M) (mHis M) (mIsS M) (mRem M) (mErA M) (mFaA M) (mTxt M) (mTyp M) (mLin M) (mLnd M) ((f_X8_outputAt (mLin M) (mLnd M) x).2) (mFar M) (mGrp M) (mSiz M) (mPla M) (mWro M) (mTol M) (mNum M))) (va_A (mcells C b M) sz)) 0 0 (va_A (mcells C b M) sz) := by
  refine Met.ofW (cc := cX8_outputAt) (maxL := 2) (ret := (some .char)) (by decide) rfl ?_
  intro p e s m args below meth c s₁ B hml hv
  obtain ⟨rfl, hsz, hP, hK, hD0, hE⟩ := hv
  have hx := B.exec
  have hb := B.bytes
  have hr := B.returns
  have hts := atoms_spec (ws := wsX8_outputAt) B.pre
  have hown : s.vm.findClass RX8 = some m.cls := findClass_of_methodNamed B.named
  have hlocks := B.notSynchronized
  subst hsz
  have hD := hD0.self (sz := s.heap.size)
  generalize hAe : va_A (mcells C b M) s.heap.size = A at hD ⊢
  have hA : ∀ q : Nat, s.heap.size ≤ q → A q := fun q h => by rw [← hAe]; exact Or.inr h
  have hS0 : va_S A s.heap s.heap [] := va_S.rf
  have hP : va_P D vwCl (mcells C b M) s.heap := hP
  have hS := hS0
  have hinX8 : ∀ w ∈ u_ws RX8 TX8 20, w ∈ wsX8_outputAt := by decide +kernel
  have hl := lv_entry ([.ref (b 0), .int x]) (n := 2) (Nat.le_of_ble_eq_true rfl)
  rw [lg_entry_eq]
  generalize (lg_sl ([.ref (b 0), .int x]) ++ List.replicate (2 - (lg_sl ([.ref (b 0), .int x])).length) Slot.unset).toArray = ls at hl ⊢
  have hl : lv_has ls 2 [(0, .ref (b 0)), (1, .int x)] := hl
  obtain ⟨z, hz⟩ : ∃ z, z = f_X8_outputAt (mLin M) (mLnd M) x := ⟨_, rfl⟩
  rw [← hz]
  have J29 : ∀ (s0_29 : Int32) (thr0_29 : Int32)  (H : Heap) (locs : List Loc) (ls : Array Slot), z = f_X8_outputAt_j29 s0_29 thr0_29 → (narrow .char (.int s0_29) = .int s0_29) → va_P D vwCl (mcells C b (mkM (mNow M) (mBef M) (mSav M) (mHis M) (mIsS M) (mRem M) (mErA M) (mFaA M) (mTxt M) (mTyp M) (mLin M) (mLnd M) thr0_29 (mFar M) (mGrp M) (mSiz M) (mPla M) (mWro M) (mTol M) (mNum M))) H → va_D A (mcells C b (mkM (mNow M) (mBef M) (mSav M) (mHis M) (mIsS M) (mRem M) (mErA M) (mFaA M) (mTxt M) (mTyp M) (mLin M) (mLnd M) thr0_29 (mFar M) (mGrp M) (mSiz M) (mPla M) (mWro M) (mTol M) (mNum M))) → va_S A s.heap H locs → lv_has ls 2 [] → W p l e ({ frames := 2, cells := 0, slots := 0, locals := 45 } : Room) s m ([.ref (b 0), .int x] : List Value).toArray below meth c H locs 0 0 (MQ below (rwO (some (.int z.1)) D (mcells C b (mkM (mNow M) (mBef M) (mSav M) (mHis M) (mIsS M) (mRem M) (mErA M) (mFaA M) (mTxt M) (mTyp M) (mLin M) (mLnd M) z.2 (mFar M) (mGrp M) (mSiz M) (mPla M) (mWro M) (mTol M) (mNum M))) A) ([.ref (b 0), .int x] : List Value).toArray s 0 0 A) (F0 m 29 ls [.int s0_29]) := by
    intro s0_29 thr0_29 H locs ls hz iv29_0 hP hD hS hl
    have hz : z = (s0_29, thr0_29) := hz
    rw [hz]
    exact rw_retC hx hb hr hP hS rfl (by assumption) dX8_outputAt_29 hlocks
  refine lv_aload_n hx hb dX8_outputAt_0 rfl (lv_at hl 0 rfl) ?_
  refine lv_iload_n hx hb dX8_outputAt_1 rfl (lv_at hl 1 rfl) ?_
  refine lv_iconst (v := 0) hx hb dX8_outputAt_2 (by decide) ?_
  refine lv_aload_n hx hb dX8_outputAt_3 rfl (lv_at hl 0 rfl) ?_
  refine va_get (D := D) (ci := 9) (v := .int (nI (mLnd M))) (C := RX8) (T := TX8) (N := 20) hx hb hts hinX8 hown hK hP 0 rfl rfl 11 (by decide) (hts (.fieldLink RX8 201 "BridgeAuctionModel" "lined" "I") (by decide +kernel)) (fun _ h9 => h9) rfl dX8_outputAt_4 ?_
  refine lv_iconst (v := 1) hx hb dX8_outputAt_7 (by decide) ?_
  refine lv_isub hx hb dX8_outputAt_8 ?_
  refine callRo (va_runS (As := [.int x, .int 0, .int ((nI (mLnd M)) - 1)]) (rest := [.ref (b 0)]) ⟨hx, hb, hml, hown, hts⟩ (c_X8_isIn l D C (x) (0) (((nI (mLnd M)) - 1))) (va_cwS 3 hts gX8_outputAt_X8_isIn rfl rfl rfl (by decide +kernel) ⟨Nat.le_of_ble_eq_true rfl, Nat.le_of_ble_eq_true rfl⟩) (roP_s (hP.sub (ws' := ([] : va_W)) [] rfl) hK hE) rfl rfl hl.1 rfl (lv_room (Nat.le_of_ble_eq_true rfl)) dX8_outputAt_9 ⟨Nat.le_refl _, Nat.le_refl _⟩) ?_
  have hFc := va_free (wc := (mcells C b M)) hD hS hA [0, 1, 2, 3, 4, 5, 6, 7, 8, 9] rfl
  refine callRw (va_runV (As := [.int (bI (f_X8_isIn (x) (0) (((nI (mLnd M)) - 1))))]) (rest := []) ⟨hx, hb, hml, hown, hts⟩ (c_X8_goes_ l D C b M ((f_X8_isIn (x) (0) (((nI (mLnd M)) - 1)))) _) (cwV 1 hts gX8_outputAt_X8_goes rfl rfl rfl (by decide +kernel) ⟨Nat.le_of_ble_eq_true rfl, Nat.le_of_ble_eq_true rfl⟩) (rwP_v hP hK hE hD (va_recv hK hP (ci := 9) (q0 := 0) rfl rfl)) rfl rfl hl.1 rfl (lv_room (Nat.le_of_ble_eq_true rfl)) dX8_outputAt_12 ⟨Nat.le_refl _, Nat.le_refl _⟩) hS hFc (fun H1 locs hPn hk hS => ?_)
  have hP : va_P D vwCl (mcells C b (mkM (mNow M) (mBef M) (mSav M) (mHis M) (mIsS M) (mRem M) (mErA M) (mFaA M) (mTxt M) (mTyp M) (mLin M) (mLnd M) (gThr (f_X8_isIn (x) (0) (((nI (mLnd M)) - 1)))) (mFar M) (mGrp M) (mSiz M) (mPla M) (mWro M) (mTol M) (mNum M))) H1 := hPn
  have hD : va_D A (mcells C b (mkM (mNow M) (mBef M) (mSav M) (mHis M) (mIsS M) (mRem M) (mErA M) (mFaA M) (mTxt M) (mTyp M) (mLin M) (mLnd M) (gThr (f_X8_isIn (x) (0) (((nI (mLnd M)) - 1)))) (mFar M) (mGrp M) (mSiz M) (mPla M) (mWro M) (mTol M) (mNum M))) := adr_D hD rfl
  generalize H1 = H at hP hS ⊢
  refine topI (y := (bI (f_X8_isIn (x) (0) (((nI (mLnd M)) - 1))))) rfl ?_
  refine bif_eq (tgt := 28) hx hb dX8_outputAt_15 (by decide) (fun c_15 => ?_) (fun c_15 => ?_)
  · have hz := hz.trans (ifB_f c_15)
    refine lv_iconst (v := 0) hx hb dX8_outputAt_28 (by decide) ?_
    exact J29 (0) ((gThr (f_X8_isIn (x) (0) (((nI (mLnd M)) - 1))))) _ _ ls hz (by first | rfl | exact nar_c16 _) hP hD hS (lv_sub hl [] rfl)
  · have hz := hz.trans (ifB_t c_15)
    refine lv_aload_n hx hb dX8_outputAt_18 rfl (lv_at hl 0 rfl) ?_
    refine va_get (D := D) (ci := 9) (v := .ref (b 6)) (C := RX8) (T := TX8) (N := 20) hx hb hts hinX8 hown hK hP 0 rfl rfl 10 (by decide) (hts (.fieldLink RX8 32 "BridgeAuctionModel" "line" "[I") (by decide +kernel)) (fun _ h9 => h9) rfl dX8_outputAt_19 ?_
    refine lv_iload_n hx hb dX8_outputAt_22 rfl (lv_at hl 1 rfl) ?_
    obtain ⟨ehn_1, lhn_1⟩ := nat_of (x := x) (n := 60) (by exact vp_mono (X8_isIn_of (n := mLnd M) (by omega) c_15) hLn) (by omega)
    refine topN ehn_1 ?_
    refine ialdN (tys := tyA C) hx hb hK hP 6 0 rfl rfl (i := x.toNatClampNeg) (by omega) (by decide) dX8_outputAt_23 ?_
    refine lv_i2c (v := c16 ((mLin M) x.toNatClampNeg)) hx hb dX8_outputAt_24 (c16_ok _) ?_
    refine lv_goto (tgt := 29) hx hb dX8_outputAt_25 (by decide) ?_
    exact J29 ((c16 ((mLin M) x.toNatClampNeg))) ((gThr (f_X8_isIn (x) (0) (((nI (mLnd M)) - 1))))) _ _ ls hz (by first | rfl | exact nar_c16 _) hP hD hS (lv_sub hl [] rfl)

