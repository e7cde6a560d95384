def f_X8_type_j23 (tx : (Nat → Int32)) (ty : Nat) (x : Int32) (s0_23 : Bool) (s1_23 : Bool) : Int32 × (Nat → Int32) × Nat × Int32 := (if (hOk s1_23 s0_23 true true) = true then ((nI (ty + 1)), (upd tx ty x), (ty + 1), (hThr s1_23 s0_23 true true)) else (0, tx, ty, (hThr s1_23 s0_23 true true)))
def f_X8_type (tx : (Nat → Int32)) (ty : Nat) (x : Int32) : Int32 × (Nat → Int32) × Nat × Int32 := (if 60 ≤ (nI ty) then (f_X8_type_j23 tx ty x (false) ((f_X8_isIn (x) (32) (126)))) else (f_X8_type_j23 tx ty x (true) ((f_X8_isIn (x) (32) (126)))))
set_option maxHeartbeats 4000000 in
set_option maxRecDepth 100000 in
theorem c_X8_type (l : Launch) (D : va_G) (C : Nat → ClassId) (b : Nat → Nat) (M : MS) (x : Int32) (sz : Nat) (hTy : mTyp M ≤ 60) : Met l yX8_type wsX8_type ({ frames := 1, cells := 0, slots := 0, locals := 24 } : Room) (rwP [.ref (b 0), .int x] D C (mcells C b M) sz) (rwO (some (.int ((f_X8_type (mTxt M) (mTyp M) x).1))) D (mcells C b (mkM (mNow M) (mBef M) (mSav M) (mHis M) (mIsS M) (mRem M) (mErA M) (mFaA M) ((f_X8_type (mTxt M) (mTyp M) x).2.1) ((f_X8_type (mTxt M) (mTyp M) x).2.2.1) (mLin M) (mLnd M) ((f_X8_type (mTxt M) (mTyp M) x).2.2.2) (mFar M) (mGrp M) (mSiz M) (mPla M) (mWro M) (mTol M) (mNum M))) (va_A (mcells C b M) sz)) 0 0 (va_A (mcells C b M) sz) := by
  refine Met.ofW (cc := cX8_type) (maxL := 2) (ret := (some .int)) (by decide) rfl ?_
  intro p e s m args below meth c s₁ B hml hv
  obtain ⟨rfl, hsz, hP, hK, hD0, hE⟩ := hv
  have hx := B.exec
  have hb := B.bytes
  have hr := B.returns
  have hts := atoms_spec (ws := wsX8_type) B.pre
  have hown : s.vm.findClass RX8 = some m.cls := findClass_of_methodNamed B.named
  have hlocks := B.notSynchronized
  subst hsz
  have hD := hD0.self (sz := s.heap.size)
  generalize hAe : va_A (mcells C b M) s.heap.size = A at hD ⊢
  have hA : ∀ q : Nat, s.heap.size ≤ q → A q := fun q h => by rw [← hAe]; exact Or.inr h
  have hS0 : va_S A s.heap s.heap [] := va_S.rf
  have hP : va_P D vwCl (mcells C b M) s.heap := hP
  have hS := hS0
  have hinX8 : ∀ w ∈ u_ws RX8 TX8 20, w ∈ wsX8_type := by decide +kernel
  have hl := lv_entry ([.ref (b 0), .int x]) (n := 2) (Nat.le_of_ble_eq_true rfl)
  rw [lg_entry_eq]
  generalize (lg_sl ([.ref (b 0), .int x]) ++ List.replicate (2 - (lg_sl ([.ref (b 0), .int x])).length) Slot.unset).toArray = ls at hl ⊢
  have hl : lv_has ls 2 [(0, .ref (b 0)), (1, .int x)] := hl
  obtain ⟨z, hz⟩ : ∃ z, z = f_X8_type (mTxt M) (mTyp M) x := ⟨_, rfl⟩
  rw [← hz]
  have J23 : ∀ (s0_23 : Bool) (s1_23 : Bool)  (H : Heap) (locs : List Loc) (ls : Array Slot), z = f_X8_type_j23 (mTxt M) (mTyp M) x s0_23 s1_23 → (s0_23 = true → mTyp M < 60) → va_P D vwCl (mcells C b M) H → va_D A (mcells C b M) → va_S A s.heap H locs → lv_has ls 2 [(0, .ref (b 0)), (1, .int x)] → W p l e ({ frames := 1, cells := 0, slots := 0, locals := 24 } : Room) s m ([.ref (b 0), .int x] : List Value).toArray below meth c H locs 0 0 (MQ below (rwO (some (.int z.1)) D (mcells C b (mkM (mNow M) (mBef M) (mSav M) (mHis M) (mIsS M) (mRem M) (mErA M) (mFaA M) z.2.1 z.2.2.1 (mLin M) (mLnd M) z.2.2.2 (mFar M) (mGrp M) (mSiz M) (mPla M) (mWro M) (mTol M) (mNum M))) A) ([.ref (b 0), .int x] : List Value).toArray s 0 0 A) (F0 m 23 ls [.int (bI s0_23), .int (bI s1_23), .ref (b 0)]) := by
    intro s0_23 s1_23 H locs ls hz iv23_0 hP hD hS hl
    refine lv_iconst (v := 1) hx hb dX8_type_23 (by decide) ?_
    refine lv_iconst (v := 1) hx hb dX8_type_24 (by decide) ?_
    have hFc := va_free (wc := (mcells C b M)) hD hS hA [0, 1, 2, 3, 4, 5, 6, 7, 8, 9] rfl
    refine callRw (va_runV (As := [.int (bI s1_23), .int (bI s0_23), .int (bI true), .int (bI true)]) (rest := []) ⟨hx, hb, hml, hown, hts⟩ (c_X8_holds_ l D C b M (s1_23) (s0_23) (true) (true) _) (cwV 4 hts gX8_type_X8_holds rfl rfl rfl (by decide +kernel) ⟨Nat.le_of_ble_eq_true rfl, Nat.le_of_ble_eq_true rfl⟩) (rwP_v hP hK hE hD (va_recv hK hP (ci := 9) (q0 := 0) rfl rfl)) rfl rfl hl.1 rfl (lv_room (Nat.le_of_ble_eq_true rfl)) dX8_type_25 ⟨Nat.le_refl _, Nat.le_refl _⟩) hS hFc (fun H1 locs hPn hk hS => ?_)
    have hP : va_P D vwCl (mcells C b (mkM (mNow M) (mBef M) (mSav M) (mHis M) (mIsS M) (mRem M) (mErA M) (mFaA M) (mTxt M) (mTyp M) (mLin M) (mLnd M) (hThr s1_23 s0_23 true true) (mFar M) (mGrp M) (mSiz M) (mPla M) (mWro M) (mTol M) (mNum M))) H1 := hPn
    have hD : va_D A (mcells C b (mkM (mNow M) (mBef M) (mSav M) (mHis M) (mIsS M) (mRem M) (mErA M) (mFaA M) (mTxt M) (mTyp M) (mLin M) (mLnd M) (hThr s1_23 s0_23 true true) (mFar M) (mGrp M) (mSiz M) (mPla M) (mWro M) (mTol M) (mNum M))) := adr_D hD rfl
    generalize H1 = H at hP hS ⊢
    refine topI (y := (bI (hOk s1_23 s0_23 true true))) rfl ?_
    refine bif_ne (tgt := 33) hx hb dX8_type_28 (by decide) (fun c_28 => ?_) (fun c_28 => ?_)
    · have hz := hz.trans (ifB_t c_28)
      have q := iv23_0 (hOk_1 c_28).2.1
      refine lv_aload_n hx hb dX8_type_33 rfl (lv_at hl 0 rfl) ?_
      refine va_get (D := D) (ci := 9) (v := .ref (b 5)) (C := RX8) (T := TX8) (N := 20) hx hb hts hinX8 hown hK hP 0 rfl rfl 8 (by decide) (hts (.fieldLink RX8 29 "BridgeAuctionModel" "text" "[I") (by decide +kernel)) (fun _ h9 => h9) rfl dX8_type_34 ?_
      refine lv_aload_n hx hb dX8_type_37 rfl (lv_at hl 0 rfl) ?_
      refine va_get (D := D) (ci := 9) (v := .int (nI (mTyp M))) (C := RX8) (T := TX8) (N := 20) hx hb hts hinX8 hown hK hP 0 rfl rfl 9 (by decide) (hts (.fieldLink RX8 204 "BridgeAuctionModel" "typed" "I") (by decide +kernel)) (fun _ h9 => h9) rfl dX8_type_38 ?_
      refine lv_iload_n hx hb dX8_type_41 rfl (lv_at hl 1 rfl) ?_
      refine iastN (tys := tyA C) hx hb hK hP hD hS 5 0 rfl rfl (i := (mTyp M)) (by omega) (by decide) dX8_type_42 (fun H locs hP hD hS => ?_)
      have hP : va_P D vwCl (mcells C b (mkM (mNow M) (mBef M) (mSav M) (mHis M) (mIsS M) (mRem M) (mErA M) (mFaA M) (upd (mTxt M) (mTyp M) x) (mTyp M) (mLin M) (mLnd M) (hThr s1_23 s0_23 true true) (mFar M) (mGrp M) (mSiz M) (mPla M) (mWro M) (mTol M) (mNum M))) H := hP
      have hD : va_D A (mcells C b (mkM (mNow M) (mBef M) (mSav M) (mHis M) (mIsS M) (mRem M) (mErA M) (mFaA M) (upd (mTxt M) (mTyp M) x) (mTyp M) (mLin M) (mLnd M) (hThr s1_23 s0_23 true true) (mFar M) (mGrp M) (mSiz M) (mPla M) (mWro M) (mTol M) (mNum M))) := hD
      refine lv_aload_n hx hb dX8_type_43 rfl (lv_at hl 0 rfl) ?_
      refine lv_dup hx hb dX8_type_44 rfl ?_
      refine va_get (D := D) (ci := 9) (v := .int (nI (mTyp M))) (C := RX8) (T := TX8) (N := 20) hx hb hts hinX8 hown hK hP 0 rfl rfl 9 (by decide) (hts (.fieldLink RX8 204 "BridgeAuctionModel" "typed" "I") (by decide +kernel)) (fun _ h9 => h9) rfl dX8_type_45 ?_
      refine lv_iconst (v := 1) hx hb dX8_type_48 (by decide) ?_
      refine topN (k := 1) (by decide +kernel) ?_
      refine addN hx hb dX8_type_49 ?_
      refine va_put (D := D) (ci := 9) (v := .int (nI ((mTyp M) + 1))) (ty := .int) (C := RX8) (T := TX8) (N := 20) hx hb hts hinX8 tyX8 tyX8_ok nmX8 hown hK hP hD hS 0 rfl rfl 9 (by decide) (hts (.fieldLink RX8 204 "BridgeAuctionModel" "typed" "I") (by decide +kernel)) (fun _ h9 => h9) rfl (by decide +kernel) rfl rfl (Nat.le_of_ble_eq_true rfl) dX8_type_50 (fun H locs hP hD hS => ?_)
      have hP : va_P D vwCl (mcells C b (mkM (mNow M) (mBef M) (mSav M) (mHis M) (mIsS M) (mRem M) (mErA M) (mFaA M) (upd (mTxt M) (mTyp M) x) ((mTyp M) + 1) (mLin M) (mLnd M) (hThr s1_23 s0_23 true true) (mFar M) (mGrp M) (mSiz M) (mPla M) (mWro M) (mTol M) (mNum M))) H := hP
      have hD : va_D A (mcells C b (mkM (mNow M) (mBef M) (mSav M) (mHis M) (mIsS M) (mRem M) (mErA M) (mFaA M) (upd (mTxt M) (mTyp M) x) ((mTyp M) + 1) (mLin M) (mLnd M) (hThr s1_23 s0_23 true true) (mFar M) (mGrp M) (mSiz M) (mPla M) (mWro M) (mTol M) (mNum M))) := hD
      refine lv_aload_n hx hb dX8_type_53 rfl (lv_at hl 0 rfl) ?_
      refine va_get (D := D) (ci := 9) (v := .int (nI ((mTyp M) + 1))) (C := RX8) (T := TX8) (N := 20) hx hb hts hinX8 hown hK hP 0 rfl rfl 9 (by decide) (hts (.fieldLink RX8 204 "BridgeAuctionModel" "typed" "I") (by decide +kernel)) (fun _ h9 => h9) rfl dX8_type_54 ?_
      have hz : z = ((nI ((mTyp M) + 1)), (upd (mTxt M) (mTyp M) x), ((mTyp M) + 1), (hThr s1_23 s0_23 true true)) := hz
      rw [hz]
      exact rw_ret hx hb hr hP hS rfl dX8_type_57 hlocks
    · have hz := hz.trans (ifB_f c_28)
      refine lv_iconst (v := 0) hx hb dX8_type_31 (by decide) ?_
      have hz : z = (0, (mTxt M), (mTyp M), (hThr s1_23 s0_23 true true)) := hz
      rw [hz]
      exact rw_ret hx hb hr hP hS rfl dX8_type_32 hlocks
  refine lv_aload_n hx hb dX8_type_0 rfl (lv_at hl 0 rfl) ?_
  refine lv_iload_n hx hb dX8_type_1 rfl (lv_at hl 1 rfl) ?_
  refine lv_bipush (v := 32) hx hb dX8_type_2 (by decide +kernel) ?_
  refine lv_bipush (v := 126) hx hb dX8_type_4 (by decide +kernel) ?_
  refine callRo (va_runS (As := [.int x, .int 32, .int 126]) (rest := [.ref (b 0)]) ⟨hx, hb, hml, hown, hts⟩ (c_X8_isIn l D C (x) (32) (126)) (va_cwS 3 hts gX8_type_X8_isIn rfl rfl rfl (by decide +kernel) ⟨Nat.le_of_ble_eq_true rfl, Nat.le_of_ble_eq_true rfl⟩) (roP_s (hP.sub (ws' := ([] : va_W)) [] rfl) hK hE) rfl rfl hl.1 rfl (lv_room (Nat.le_of_ble_eq_true rfl)) dX8_type_6 ⟨Nat.le_refl _, Nat.le_refl _⟩) ?_
  refine lv_aload_n hx hb dX8_type_9 rfl (lv_at hl 0 rfl) ?_
  refine va_get (D := D) (ci := 9) (v := .int (nI (mTyp M))) (C := RX8) (T := TX8) (N := 20) hx hb hts hinX8 hown hK hP 0 rfl rfl 9 (by decide) (hts (.fieldLink RX8 204 "BridgeAuctionModel" "typed" "I") (by decide +kernel)) (fun _ h9 => h9) rfl dX8_type_10 ?_
  refine lv_bipush (v := 60) hx hb dX8_type_13 (by decide +kernel) ?_
  refine lv_icmp_ge (tgt := 22) hx hb dX8_type_15 (by decide) (fun c_15 => ?_) (fun c_15 => ?_)
  · have hz := hz.trans (if_pos c_15)
    refine lv_iconst (v := 0) hx hb dX8_type_22 (by decide) ?_
    exact J23 (false) ((f_X8_isIn (x) (32) (126))) _ _ ls hz (by first | (intro h; cases h; done) | exact fun _ => ltN (n := 60) (by decide +kernel) (by omega) c_15) hP hD hS (lv_sub hl [0, 1] rfl)
  · have hz := hz.trans (if_neg c_15)
    refine lv_iconst (v := 1) hx hb dX8_type_18 (by decide) ?_
    refine lv_goto (tgt := 23) hx hb dX8_type_19 (by decide) ?_
    exact J23 (true) ((f_X8_isIn (x) (32) (126))) _ _ ls hz (by first | (intro h; cases h; done) | exact fun _ => ltN (n := 60) (by decide +kernel) (by omega) c_15) hP hD hS (lv_sub hl [0, 1] rfl)

