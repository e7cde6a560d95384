def f_X8_dresses (nw : (Nat → Int32)) (x : Int32) (y : Int32) : Int32 × (Nat → Int32) × Int32 := (if (hOk (f_X8_isIsland (x)) (f_X8_isIn (y) (0) (3)) true true) = true then ((nw (6 + x.toNatClampNeg)), (upd nw (6 + x.toNatClampNeg) y), (hThr (f_X8_isIsland (x)) (f_X8_isIn (y) (0) (3)) true true)) else (0, nw, (hThr (f_X8_isIsland (x)) (f_X8_isIn (y) (0) (3)) true true)))
set_option maxHeartbeats 4000000 in
set_option maxRecDepth 100000 in
theorem c_X8_dresses (l : Launch) (D : va_G) (C : Nat → ClassId) (b : Nat → Nat) (M : MS) (x : Int32) (y : Int32) (sz : Nat) : Met l yX8_dresses wsX8_dresses ({ frames := 2, cells := 0, slots := 0, locals := 42 } : Room) (rwP [.ref (b 0), .int x, .int y] D C (mcells C b M) sz) (rwO (some (.int ((f_X8_dresses (mNow M) x y).1))) D (mcells C b (mkM ((f_X8_dresses (mNow M) x y).2.1) (mBef M) (mSav M) (mHis M) (mIsS M) (mRem M) (mErA M) (mFaA M) (mTxt M) (mTyp M) (mLin M) (mLnd M) ((f_X8_dresses (mNow M) x y).2.2) (mFar M) (mGrp M) (mSiz M) (mPla M) (mWro M) (mTol M) (mNum M))) (va_A (mcells C b M) sz)) 0 0 (va_A (mcells C b M) sz) := by
  refine Met.ofW (cc := cX8_dresses) (maxL := 4) (ret := (some .int)) (by decide) rfl ?_
  intro p e s m args below meth c s₁ B hml hv
  obtain ⟨rfl, hsz, hP, hK, hD0, hE⟩ := hv
  have hx := B.exec
  have hb := B.bytes
  have hr := B.returns
  have hts := atoms_spec (ws := wsX8_dresses) B.pre
  have hown : s.vm.findClass RX8 = some m.cls := findClass_of_methodNamed B.named
  have hlocks := B.notSynchronized
  subst hsz
  have hD := hD0.self (sz := s.heap.size)
  generalize hAe : va_A (mcells C b M) s.heap.size = A at hD ⊢
  have hA : ∀ q : Nat, s.heap.size ≤ q → A q := fun q h => by rw [← hAe]; exact Or.inr h
  have hS0 : va_S A s.heap s.heap [] := va_S.rf
  have hP : va_P D vwCl (mcells C b M) s.heap := hP
  have hS := hS0
  have hinX8 : ∀ w ∈ u_ws RX8 TX8 20, w ∈ wsX8_dresses := by decide +kernel
  have hl := lv_entry ([.ref (b 0), .int x, .int y]) (n := 4) (Nat.le_of_ble_eq_true rfl)
  rw [lg_entry_eq]
  generalize (lg_sl ([.ref (b 0), .int x, .int y]) ++ List.replicate (4 - (lg_sl ([.ref (b 0), .int x, .int y])).length) Slot.unset).toArray = ls at hl ⊢
  have hl : lv_has ls 4 [(0, .ref (b 0)), (1, .int x), (2, .int y)] := hl
  obtain ⟨z, hz⟩ : ∃ z, z = f_X8_dresses (mNow M) x y := ⟨_, rfl⟩
  rw [← hz]
  refine lv_aload_n hx hb dX8_dresses_0 rfl (lv_at hl 0 rfl) ?_
  refine lv_iload_n hx hb dX8_dresses_1 rfl (lv_at hl 1 rfl) ?_
  refine callRo (va_runS (As := [.int x]) (rest := [.ref (b 0)]) ⟨hx, hb, hml, hown, hts⟩ (c_X8_isIsland l D C (x)) (va_cwS 1 hts gX8_dresses_X8_isIsland rfl rfl rfl (by decide +kernel) ⟨Nat.le_of_ble_eq_true rfl, Nat.le_of_ble_eq_true rfl⟩) (roP_s (hP.sub (ws' := ([] : va_W)) [] rfl) hK hE) rfl rfl hl.1 rfl (lv_room (Nat.le_of_ble_eq_true rfl)) dX8_dresses_2 ⟨Nat.le_refl _, Nat.le_refl _⟩) ?_
  refine lv_iload_n hx hb dX8_dresses_5 rfl (lv_at hl 2 rfl) ?_
  refine lv_iconst (v := 0) hx hb dX8_dresses_6 (by decide) ?_
  refine lv_iconst (v := 3) hx hb dX8_dresses_7 (by decide) ?_
  refine callRo (va_runS (As := [.int y, .int 0, .int 3]) (rest := [.int (bI (f_X8_isIsland (x))), .ref (b 0)]) ⟨hx, hb, hml, hown, hts⟩ (c_X8_isIn l D C (y) (0) (3)) (va_cwS 3 hts gX8_dresses_X8_isIn rfl rfl rfl (by decide +kernel) ⟨Nat.le_of_ble_eq_true rfl, Nat.le_of_ble_eq_true rfl⟩) (roP_s (hP.sub (ws' := ([] : va_W)) [] rfl) hK hE) rfl rfl hl.1 rfl (lv_room (Nat.le_of_ble_eq_true rfl)) dX8_dresses_8 ⟨Nat.le_refl _, Nat.le_refl _⟩) ?_
  refine lv_iconst (v := 1) hx hb dX8_dresses_11 (by decide) ?_
  refine lv_iconst (v := 1) hx hb dX8_dresses_12 (by decide) ?_
  have hFc := va_free (wc := (mcells C b M)) hD hS hA [0, 1, 2, 3, 4, 5, 6, 7, 8, 9] rfl
  refine callRw (va_runV (As := [.int (bI (f_X8_isIsland (x))), .int (bI (f_X8_isIn (y) (0) (3))), .int (bI true), .int (bI true)]) (rest := []) ⟨hx, hb, hml, hown, hts⟩ (c_X8_holds_ l D C b M ((f_X8_isIsland (x))) ((f_X8_isIn (y) (0) (3))) (true) (true) _) (cwV 4 hts gX8_dresses_X8_holds rfl rfl rfl (by decide +kernel) ⟨Nat.le_of_ble_eq_true rfl, Nat.le_of_ble_eq_true rfl⟩) (rwP_v hP hK hE hD (va_recv hK hP (ci := 9) (q0 := 0) rfl rfl)) rfl rfl hl.1 rfl (lv_room (Nat.le_of_ble_eq_true rfl)) dX8_dresses_13 ⟨Nat.le_refl _, Nat.le_refl _⟩) hS hFc (fun H1 locs hPn hk hS => ?_)
  have hP : va_P D vwCl (mcells C b (mkM (mNow M) (mBef M) (mSav M) (mHis M) (mIsS M) (mRem M) (mErA M) (mFaA M) (mTxt M) (mTyp M) (mLin M) (mLnd M) (hThr (f_X8_isIsland (x)) (f_X8_isIn (y) (0) (3)) true true) (mFar M) (mGrp M) (mSiz M) (mPla M) (mWro M) (mTol M) (mNum M))) H1 := hPn
  have hD : va_D A (mcells C b (mkM (mNow M) (mBef M) (mSav M) (mHis M) (mIsS M) (mRem M) (mErA M) (mFaA M) (mTxt M) (mTyp M) (mLin M) (mLnd M) (hThr (f_X8_isIsland (x)) (f_X8_isIn (y) (0) (3)) true true) (mFar M) (mGrp M) (mSiz M) (mPla M) (mWro M) (mTol M) (mNum M))) := adr_D hD rfl
  generalize H1 = H at hP hS ⊢
  refine topI (y := (bI (hOk (f_X8_isIsland (x)) (f_X8_isIn (y) (0) (3)) true true))) rfl ?_
  refine bif_ne (tgt := 21) hx hb dX8_dresses_16 (by decide) (fun c_16 => ?_) (fun c_16 => ?_)
  · have hz := hz.trans (ifB_t c_16)
    have hi := X8_isIsland_in (hOk_1 c_16).1
    have ex := (nat_of hi (by decide)).1
    have lx := (nat_of hi (by decide)).2
    refine lv_aload_n hx hb dX8_dresses_21 rfl (lv_at hl 0 rfl) ?_
    refine va_get (D := D) (ci := 9) (v := .ref (b 1)) (C := RX8) (T := TX8) (N := 20) hx hb hts hinX8 hown hK hP 0 rfl rfl 0 (by decide) (hts (.fieldLink RX8 9 "BridgeAuctionModel" "now" "[I") (by decide +kernel)) (fun _ h9 => h9) rfl dX8_dresses_22 ?_
    refine lv_bipush (v := 6) hx hb dX8_dresses_25 (by decide +kernel) ?_
    refine lv_iload_n hx hb dX8_dresses_27 rfl (lv_at hl 1 rfl) ?_
    refine topN (k := x.toNatClampNeg) (show x = (nI x.toNatClampNeg) from by exact ex) ?_
    refine topN2 (k := 6) (by decide +kernel) ?_
    refine addN hx hb dX8_dresses_28 ?_
    refine ialdN (tys := tyA C) hx hb hK hP 1 0 rfl rfl (i := (6 + x.toNatClampNeg)) (by omega) (by decide) dX8_dresses_29 ?_
    refine lv_istore_n (lv' := [(3, .int ((mNow M) (6 + x.toNatClampNeg))), (0, .ref (b 0)), (1, .int x), (2, .int y)]) hx hb dX8_dresses_30 rfl hl (by decide) rfl (fun ls hl => ?_)
    refine lv_aload_n hx hb dX8_dresses_31 rfl (lv_at hl 1 rfl) ?_
    refine va_get (D := D) (ci := 9) (v := .ref (b 1)) (C := RX8) (T := TX8) (N := 20) hx hb hts hinX8 hown hK hP 0 rfl rfl 0 (by decide) (hts (.fieldLink RX8 9 "BridgeAuctionModel" "now" "[I") (by decide +kernel)) (fun _ h9 => h9) rfl dX8_dresses_32 ?_
    refine lv_bipush (v := 6) hx hb dX8_dresses_35 (by decide +kernel) ?_
    refine lv_iload_n hx hb dX8_dresses_37 rfl (lv_at hl 2 rfl) ?_
    refine topN (k := x.toNatClampNeg) (show x = (nI x.toNatClampNeg) from by exact ex) ?_
    refine topN2 (k := 6) (by decide +kernel) ?_
    refine addN hx hb dX8_dresses_38 ?_
    refine lv_iload_n hx hb dX8_dresses_39 rfl (lv_at hl 3 rfl) ?_
    refine iastN (tys := tyA C) hx hb hK hP hD hS 1 0 rfl rfl (i := (6 + x.toNatClampNeg)) (by omega) (by decide) dX8_dresses_40 (fun H locs hP hD hS => ?_)
    have hP : va_P D vwCl (mcells C b (mkM (upd (mNow M) (6 + x.toNatClampNeg) y) (mBef M) (mSav M) (mHis M) (mIsS M) (mRem M) (mErA M) (mFaA M) (mTxt M) (mTyp M) (mLin M) (mLnd M) (hThr (f_X8_isIsland (x)) (f_X8_isIn (y) (0) (3)) true true) (mFar M) (mGrp M) (mSiz M) (mPla M) (mWro M) (mTol M) (mNum M))) H := hP
    have hD : va_D A (mcells C b (mkM (upd (mNow M) (6 + x.toNatClampNeg) y) (mBef M) (mSav M) (mHis M) (mIsS M) (mRem M) (mErA M) (mFaA M) (mTxt M) (mTyp M) (mLin M) (mLnd M) (hThr (f_X8_isIsland (x)) (f_X8_isIn (y) (0) (3)) true true) (mFar M) (mGrp M) (mSiz M) (mPla M) (mWro M) (mTol M) (mNum M))) := hD
    refine lv_iload_n hx hb dX8_dresses_41 rfl (lv_at hl 0 rfl) ?_
    have hz : z = (((mNow M) (6 + x.toNatClampNeg)), (upd (mNow M) (6 + x.toNatClampNeg) y), (hThr (f_X8_isIsland (x)) (f_X8_isIn (y) (0) (3)) true true)) := hz
    rw [hz]
    exact rw_ret hx hb hr hP hS rfl dX8_dresses_42 hlocks
  · have hz := hz.trans (ifB_f c_16)
    refine lv_iconst (v := 0) hx hb dX8_dresses_19 (by decide) ?_
    have hz : z = (0, (mNow M), (hThr (f_X8_isIsland (x)) (f_X8_isIn (y) (0) (3)) true true)) := hz
    rw [hz]
    exact rw_ret hx hb hr hP hS rfl dX8_dresses_20 hlocks

