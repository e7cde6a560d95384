def f_X8_joins_j23 (nw : (Nat → Int32)) (x : Int32) (s0_23 : Bool) (s1_23 : Bool) : Int32 × (Nat → Int32) × Int32 := (if (hOk s1_23 s0_23 true true) = true then ((nI (mP nw)), (upd (upd (upd nw ((14 + 2 * (mP nw)) + 0) x) ((14 + 2 * (mP nw)) + 1) 0) 1 (nI ((mP nw) + 1))), (hThr s1_23 s0_23 true true)) else (0, nw, (hThr s1_23 s0_23 true true)))
def f_X8_joins (nw : (Nat → Int32)) (x : Int32) : Int32 × (Nat → Int32) × Int32 := (if 4 ≤ (nI (mP nw)) then (f_X8_joins_j23 nw x (false) ((f_X8_isIn (x) (0) (99)))) else (f_X8_joins_j23 nw x (true) ((f_X8_isIn (x) (0) (99)))))
set_option maxHeartbeats 4000000 in
set_option maxRecDepth 100000 in
theorem c_X8_joins (l : Launch) (D : va_G) (C : Nat → ClassId) (b : Nat → Nat) (M : MS) (x : Int32) (sz : Nat) (hM : MSafe M) : Met l yX8_joins wsX8_joins ({ frames := 1, cells := 0, slots := 0, locals := 24 } : Room) (rwP [.ref (b 0), .int x] D C (mcells C b M) sz) (rwO (some (.int ((f_X8_joins (mNow M) x).1))) D (mcells C b (mkM ((f_X8_joins (mNow M) x).2.1) (mBef M) (mSav M) (mHis M) (mIsS M) (mRem M) (mErA M) (mFaA M) (mTxt M) (mTyp M) (mLin M) (mLnd M) ((f_X8_joins (mNow M) x).2.2) (mFar M) (mGrp M) (mSiz M) (mPla M) (mWro M) (mTol M) (mNum M))) (va_A (mcells C b M) sz)) 0 0 (va_A (mcells C b M) sz) := by
  refine Met.ofW (cc := cX8_joins) (maxL := 2) (ret := (some .int)) (by decide) rfl ?_
  intro p e s m args below meth c s₁ B hml hv
  obtain ⟨rfl, hsz, hP, hK, hD0, hE⟩ := hv
  have hx := B.exec
  have hb := B.bytes
  have hr := B.returns
  have hts := atoms_spec (ws := wsX8_joins) B.pre
  have hown : s.vm.findClass RX8 = some m.cls := findClass_of_methodNamed B.named
  have hlocks := B.notSynchronized
  subst hsz
  have hD := hD0.self (sz := s.heap.size)
  generalize hAe : va_A (mcells C b M) s.heap.size = A at hD ⊢
  have hA : ∀ q : Nat, s.heap.size ≤ q → A q := fun q h => by rw [← hAe]; exact Or.inr h
  have hS0 : va_S A s.heap s.heap [] := va_S.rf
  have hP : va_P D vwCl (mcells C b M) s.heap := hP
  have hS := hS0
  obtain ⟨⟨hS2, hS12⟩, ⟨hP2, hP4⟩, hLH, hFE⟩ := id hM
  have hinX8 : ∀ w ∈ u_ws RX8 TX8 20, w ∈ wsX8_joins := by decide +kernel
  have hl := lv_entry ([.ref (b 0), .int x]) (n := 2) (Nat.le_of_ble_eq_true rfl)
  rw [lg_entry_eq]
  generalize (lg_sl ([.ref (b 0), .int x]) ++ List.replicate (2 - (lg_sl ([.ref (b 0), .int x])).length) Slot.unset).toArray = ls at hl ⊢
  have hl : lv_has ls 2 [(0, .ref (b 0)), (1, .int x)] := hl
  obtain ⟨z, hz⟩ : ∃ z, z = f_X8_joins (mNow M) x := ⟨_, rfl⟩
  rw [← hz]
  have J23 : ∀ (s0_23 : Bool) (s1_23 : Bool)  (H : Heap) (locs : List Loc) (ls : Array Slot), z = f_X8_joins_j23 (mNow M) x s0_23 s1_23 → (s0_23 = true → (mP (mNow M)) < 4) → va_P D vwCl (mcells C b M) H → va_D A (mcells C b M) → va_S A s.heap H locs → lv_has ls 2 [(0, .ref (b 0)), (1, .int x)] → W p l e ({ frames := 1, cells := 0, slots := 0, locals := 24 } : Room) s m ([.ref (b 0), .int x] : List Value).toArray below meth c H locs 0 0 (MQ below (rwO (some (.int z.1)) D (mcells C b (mkM z.2.1 (mBef M) (mSav M) (mHis M) (mIsS M) (mRem M) (mErA M) (mFaA M) (mTxt M) (mTyp M) (mLin M) (mLnd M) z.2.2 (mFar M) (mGrp M) (mSiz M) (mPla M) (mWro M) (mTol M) (mNum M))) A) ([.ref (b 0), .int x] : List Value).toArray s 0 0 A) (F0 m 23 ls [.int (bI s0_23), .int (bI s1_23), .ref (b 0)]) := by
    intro s0_23 s1_23 H locs ls hz iv23_0 hP hD hS hl
    refine lv_iconst (v := 1) hx hb dX8_joins_23 (by decide) ?_
    refine lv_iconst (v := 1) hx hb dX8_joins_24 (by decide) ?_
    have hFc := va_free (wc := (mcells C b M)) hD hS hA [0, 1, 2, 3, 4, 5, 6, 7, 8, 9] rfl
    refine callRw (va_runV (As := [.int (bI s1_23), .int (bI s0_23), .int (bI true), .int (bI true)]) (rest := []) ⟨hx, hb, hml, hown, hts⟩ (c_X8_holds_ l D C b M (s1_23) (s0_23) (true) (true) _) (cwV 4 hts gX8_joins_X8_holds rfl rfl rfl (by decide +kernel) ⟨Nat.le_of_ble_eq_true rfl, Nat.le_of_ble_eq_true rfl⟩) (rwP_v hP hK hE hD (va_recv hK hP (ci := 9) (q0 := 0) rfl rfl)) rfl rfl hl.1 rfl (lv_room (Nat.le_of_ble_eq_true rfl)) dX8_joins_25 ⟨Nat.le_refl _, Nat.le_refl _⟩) hS hFc (fun H1 locs hPn hk hS => ?_)
    have hP : va_P D vwCl (mcells C b (mkM (mNow M) (mBef M) (mSav M) (mHis M) (mIsS M) (mRem M) (mErA M) (mFaA M) (mTxt M) (mTyp M) (mLin M) (mLnd M) (hThr s1_23 s0_23 true true) (mFar M) (mGrp M) (mSiz M) (mPla M) (mWro M) (mTol M) (mNum M))) H1 := hPn
    have hD : va_D A (mcells C b (mkM (mNow M) (mBef M) (mSav M) (mHis M) (mIsS M) (mRem M) (mErA M) (mFaA M) (mTxt M) (mTyp M) (mLin M) (mLnd M) (hThr s1_23 s0_23 true true) (mFar M) (mGrp M) (mSiz M) (mPla M) (mWro M) (mTol M) (mNum M))) := adr_D hD rfl
    generalize H1 = H at hP hS ⊢
    refine topI (y := (bI (hOk s1_23 s0_23 true true))) rfl ?_
    refine bif_ne (tgt := 33) hx hb dX8_joins_28 (by decide) (fun c_28 => ?_) (fun c_28 => ?_)
    · have hz := hz.trans (ifB_t c_28)
      have q := iv23_0 (hOk_1 c_28).2.1
      refine lv_aload_n hx hb dX8_joins_33 rfl (lv_at hl 0 rfl) ?_
      refine va_get (D := D) (ci := 9) (v := .ref (b 1)) (C := RX8) (T := TX8) (N := 20) hx hb hts hinX8 hown hK hP 0 rfl rfl 0 (by decide) (hts (.fieldLink RX8 9 "BridgeAuctionModel" "now" "[I") (by decide +kernel)) (fun _ h9 => h9) rfl dX8_joins_34 ?_
      refine lv_aload_n hx hb dX8_joins_37 rfl (lv_at hl 0 rfl) ?_
      refine va_get (D := D) (ci := 9) (v := .ref (b 1)) (C := RX8) (T := TX8) (N := 20) hx hb hts hinX8 hown hK hP 0 rfl rfl 0 (by decide) (hts (.fieldLink RX8 9 "BridgeAuctionModel" "now" "[I") (by decide +kernel)) (fun _ h9 => h9) rfl dX8_joins_38 ?_
      refine lv_iconst (v := 1) hx hb dX8_joins_41 (by decide) ?_
      refine topN (k := 1) (by decide +kernel) ?_
      refine ialdN (tys := tyA C) hx hb hK hP 1 0 rfl rfl (i := 1) (by omega) (by decide) dX8_joins_42 ?_
      refine topN (k := mP (mNow M)) (by first | exact hS2 | exact hP2) ?_
      refine callRo (va_runS (As := [.int (nI (mP (mNow M)))]) (rest := [.ref (b 1)]) ⟨hx, hb, hml, hown, hts⟩ (c_X8_playerAt l D C ((mP (mNow M))) (by omega)) (va_cwS 1 hts gX8_joins_X8_playerAt rfl rfl rfl (by decide +kernel) ⟨Nat.le_of_ble_eq_true rfl, Nat.le_of_ble_eq_true rfl⟩) (roP_s (hP.sub (ws' := ([] : va_W)) [] rfl) hK hE) rfl rfl hl.1 rfl (lv_room (Nat.le_of_ble_eq_true rfl)) dX8_joins_43 ⟨Nat.le_refl _, Nat.le_refl _⟩) ?_
      refine topN (k := (14 + 2 * (mP (mNow M)))) rfl ?_
      refine lv_iconst (v := 0) hx hb dX8_joins_46 (by decide) ?_
      refine topN (k := 0) (by decide +kernel) ?_
      refine addN hx hb dX8_joins_47 ?_
      refine lv_iload_n hx hb dX8_joins_48 rfl (lv_at hl 1 rfl) ?_
      refine iastN (tys := tyA C) hx hb hK hP hD hS 1 0 rfl rfl (i := ((14 + 2 * (mP (mNow M))) + 0)) (by omega) (by decide) dX8_joins_49 (fun H locs hP hD hS => ?_)
      have hP : va_P D vwCl (mcells C b (mkM (upd (mNow M) ((14 + 2 * (mP (mNow M))) + 0) x) (mBef M) (mSav M) (mHis M) (mIsS M) (mRem M) (mErA M) (mFaA M) (mTxt M) (mTyp M) (mLin M) (mLnd M) (hThr s1_23 s0_23 true true) (mFar M) (mGrp M) (mSiz M) (mPla M) (mWro M) (mTol M) (mNum M))) H := hP
      have hD : va_D A (mcells C b (mkM (upd (mNow M) ((14 + 2 * (mP (mNow M))) + 0) x) (mBef M) (mSav M) (mHis M) (mIsS M) (mRem M) (mErA M) (mFaA M) (mTxt M) (mTyp M) (mLin M) (mLnd M) (hThr s1_23 s0_23 true true) (mFar M) (mGrp M) (mSiz M) (mPla M) (mWro M) (mTol M) (mNum M))) := hD
      refine lv_aload_n hx hb dX8_joins_50 rfl (lv_at hl 0 rfl) ?_
      refine va_get (D := D) (ci := 9) (v := .ref (b 1)) (C := RX8) (T := TX8) (N := 20) hx hb hts hinX8 hown hK hP 0 rfl rfl 0 (by decide) (hts (.fieldLink RX8 9 "BridgeAuctionModel" "now" "[I") (by decide +kernel)) (fun _ h9 => h9) rfl dX8_joins_51 ?_
      refine lv_aload_n hx hb dX8_joins_54 rfl (lv_at hl 0 rfl) ?_
      refine va_get (D := D) (ci := 9) (v := .ref (b 1)) (C := RX8) (T := TX8) (N := 20) hx hb hts hinX8 hown hK hP 0 rfl rfl 0 (by decide) (hts (.fieldLink RX8 9 "BridgeAuctionModel" "now" "[I") (by decide +kernel)) (fun _ h9 => h9) rfl dX8_joins_55 ?_
      refine lv_iconst (v := 1) hx hb dX8_joins_58 (by decide) ?_
      refine topN (k := 1) (by decide +kernel) ?_
      refine ialdN (tys := tyA C) hx hb hK hP 1 0 rfl rfl (i := 1) (by omega) (by decide) dX8_joins_59 ?_
      refine topN (k := (mP (mNow M))) (show ((upd (mNow M) ((14 + 2 * (mP (mNow M))) + 0) x) 1) = (nI (mP (mNow M))) from by exact upd_o (by omega) hP2) ?_
      refine callRo (va_runS (As := [.int (nI (mP (mNow M)))]) (rest := [.ref (b 1)]) ⟨hx, hb, hml, hown, hts⟩ (c_X8_playerAt l D C ((mP (mNow M))) (by omega)) (va_cwS 1 hts gX8_joins_X8_playerAt rfl rfl rfl (by decide +kernel) ⟨Nat.le_of_ble_eq_true rfl, Nat.le_of_ble_eq_true rfl⟩) (roP_s (hP.sub (ws' := ([] : va_W)) [] rfl) hK hE) rfl rfl hl.1 rfl (lv_room (Nat.le_of_ble_eq_true rfl)) dX8_joins_60 ⟨Nat.le_refl _, Nat.le_refl _⟩) ?_
      refine topN (k := (14 + 2 * (mP (mNow M)))) rfl ?_
      refine lv_iconst (v := 1) hx hb dX8_joins_63 (by decide) ?_
      refine topN (k := 1) (by decide +kernel) ?_
      refine addN hx hb dX8_joins_64 ?_
      refine lv_iconst (v := 0) hx hb dX8_joins_65 (by decide) ?_
      refine iastN (tys := tyA C) hx hb hK hP hD hS 1 0 rfl rfl (i := ((14 + 2 * (mP (mNow M))) + 1)) (by omega) (by decide) dX8_joins_66 (fun H locs hP hD hS => ?_)
      have hP : va_P D vwCl (mcells C b (mkM (upd (upd (mNow M) ((14 + 2 * (mP (mNow M))) + 0) x) ((14 + 2 * (mP (mNow M))) + 1) 0) (mBef M) (mSav M) (mHis M) (mIsS M) (mRem M) (mErA M) (mFaA M) (mTxt M) (mTyp M) (mLin M) (mLnd M) (hThr s1_23 s0_23 true true) (mFar M) (mGrp M) (mSiz M) (mPla M) (mWro M) (mTol M) (mNum M))) H := hP
      have hD : va_D A (mcells C b (mkM (upd (upd (mNow M) ((14 + 2 * (mP (mNow M))) + 0) x) ((14 + 2 * (mP (mNow M))) + 1) 0) (mBef M) (mSav M) (mHis M) (mIsS M) (mRem M) (mErA M) (mFaA M) (mTxt M) (mTyp M) (mLin M) (mLnd M) (hThr s1_23 s0_23 true true) (mFar M) (mGrp M) (mSiz M) (mPla M) (mWro M) (mTol M) (mNum M))) := hD
      refine lv_aload_n hx hb dX8_joins_67 rfl (lv_at hl 0 rfl) ?_
      refine va_get (D := D) (ci := 9) (v := .ref (b 1)) (C := RX8) (T := TX8) (N := 20) hx hb hts hinX8 hown hK hP 0 rfl rfl 0 (by decide) (hts (.fieldLink RX8 9 "BridgeAuctionModel" "now" "[I") (by decide +kernel)) (fun _ h9 => h9) rfl dX8_joins_68 ?_
      refine lv_iconst (v := 1) hx hb dX8_joins_71 (by decide) ?_
      refine lv_dup2_11 hx hb dX8_joins_72 rfl rfl ?_
      refine topN (k := 1) (by decide +kernel) ?_
      refine ialdN (tys := tyA C) hx hb hK hP 1 0 rfl rfl (i := 1) (by omega) (by decide) dX8_joins_73 ?_
      refine topN (k := (mP (mNow M))) (show ((upd (upd (mNow M) ((14 + 2 * (mP (mNow M))) + 0) x) ((14 + 2 * (mP (mNow M))) + 1) 0) 1) = (nI (mP (mNow M))) from by exact upd_o (by omega) (upd_o (by omega) hP2)) ?_
      refine lv_iconst (v := 1) hx hb dX8_joins_74 (by decide) ?_
      refine topN (k := 1) (by decide +kernel) ?_
      refine addN hx hb dX8_joins_75 ?_
      refine topN2 (k := 1) (by decide +kernel) ?_
      refine iastN (tys := tyA C) hx hb hK hP hD hS 1 0 rfl rfl (i := 1) (by omega) (by decide) dX8_joins_76 (fun H locs hP hD hS => ?_)
      have hP : va_P D vwCl (mcells C b (mkM (upd (upd (upd (mNow M) ((14 + 2 * (mP (mNow M))) + 0) x) ((14 + 2 * (mP (mNow M))) + 1) 0) 1 (nI ((mP (mNow M)) + 1))) (mBef M) (mSav M) (mHis M) (mIsS M) (mRem M) (mErA M) (mFaA M) (mTxt M) (mTyp M) (mLin M) (mLnd M) (hThr s1_23 s0_23 true true) (mFar M) (mGrp M) (mSiz M) (mPla M) (mWro M) (mTol M) (mNum M))) H := hP
      have hD : va_D A (mcells C b (mkM (upd (upd (upd (mNow M) ((14 + 2 * (mP (mNow M))) + 0) x) ((14 + 2 * (mP (mNow M))) + 1) 0) 1 (nI ((mP (mNow M)) + 1))) (mBef M) (mSav M) (mHis M) (mIsS M) (mRem M) (mErA M) (mFaA M) (mTxt M) (mTyp M) (mLin M) (mLnd M) (hThr s1_23 s0_23 true true) (mFar M) (mGrp M) (mSiz M) (mPla M) (mWro M) (mTol M) (mNum M))) := hD
      refine lv_aload_n hx hb dX8_joins_77 rfl (lv_at hl 0 rfl) ?_
      refine va_get (D := D) (ci := 9) (v := .ref (b 1)) (C := RX8) (T := TX8) (N := 20) hx hb hts hinX8 hown hK hP 0 rfl rfl 0 (by decide) (hts (.fieldLink RX8 9 "BridgeAuctionModel" "now" "[I") (by decide +kernel)) (fun _ h9 => h9) rfl dX8_joins_78 ?_
      refine lv_iconst (v := 1) hx hb dX8_joins_81 (by decide) ?_
      refine topN (k := 1) (by decide +kernel) ?_
      refine ialdN (tys := tyA C) hx hb hK hP 1 0 rfl rfl (i := 1) (by omega) (by decide) dX8_joins_82 ?_
      refine topN (k := ((mP (mNow M)) + 1)) (show ((upd (upd (upd (mNow M) ((14 + 2 * (mP (mNow M))) + 0) x) ((14 + 2 * (mP (mNow M))) + 1) 0) 1 (nI ((mP (mNow M)) + 1))) 1) = (nI ((mP (mNow M)) + 1)) from by exact upd_s) ?_
      refine lv_iconst (v := 1) hx hb dX8_joins_83 (by decide) ?_
      refine lv_isub hx hb dX8_joins_84 ?_
      refine topN (k := (mP (mNow M))) (show ((nI ((mP (mNow M)) + 1)) - 1) = (nI (mP (mNow M))) from by exact nI_pred _) ?_
      have hz : z = ((nI (mP (mNow M))), (upd (upd (upd (mNow M) ((14 + 2 * (mP (mNow M))) + 0) x) ((14 + 2 * (mP (mNow M))) + 1) 0) 1 (nI ((mP (mNow M)) + 1))), (hThr s1_23 s0_23 true true)) := hz
      rw [hz]
      exact rw_ret hx hb hr hP hS rfl dX8_joins_85 hlocks
    · have hz := hz.trans (ifB_f c_28)
      refine lv_iconst (v := 0) hx hb dX8_joins_31 (by decide) ?_
      have hz : z = (0, (mNow M), (hThr s1_23 s0_23 true true)) := hz
      rw [hz]
      exact rw_ret hx hb hr hP hS rfl dX8_joins_32 hlocks
  refine lv_aload_n hx hb dX8_joins_0 rfl (lv_at hl 0 rfl) ?_
  refine lv_iload_n hx hb dX8_joins_1 rfl (lv_at hl 1 rfl) ?_
  refine lv_iconst (v := 0) hx hb dX8_joins_2 (by decide) ?_
  refine lv_bipush (v := 99) hx hb dX8_joins_3 (by decide +kernel) ?_
  refine callRo (va_runS (As := [.int x, .int 0, .int 99]) (rest := [.ref (b 0)]) ⟨hx, hb, hml, hown, hts⟩ (c_X8_isIn l D C (x) (0) (99)) (va_cwS 3 hts gX8_joins_X8_isIn rfl rfl rfl (by decide +kernel) ⟨Nat.le_of_ble_eq_true rfl, Nat.le_of_ble_eq_true rfl⟩) (roP_s (hP.sub (ws' := ([] : va_W)) [] rfl) hK hE) rfl rfl hl.1 rfl (lv_room (Nat.le_of_ble_eq_true rfl)) dX8_joins_5 ⟨Nat.le_refl _, Nat.le_refl _⟩) ?_
  refine lv_aload_n hx hb dX8_joins_8 rfl (lv_at hl 0 rfl) ?_
  refine va_get (D := D) (ci := 9) (v := .ref (b 1)) (C := RX8) (T := TX8) (N := 20) hx hb hts hinX8 hown hK hP 0 rfl rfl 0 (by decide) (hts (.fieldLink RX8 9 "BridgeAuctionModel" "now" "[I") (by decide +kernel)) (fun _ h9 => h9) rfl dX8_joins_9 ?_
  refine lv_iconst (v := 1) hx hb dX8_joins_12 (by decide) ?_
  refine topN (k := 1) (by decide +kernel) ?_
  refine ialdN (tys := tyA C) hx hb hK hP 1 0 rfl rfl (i := 1) (by omega) (by decide) dX8_joins_13 ?_
  refine topN (k := mP (mNow M)) (by first | exact hS2 | exact hP2) ?_
  refine lv_iconst (v := 4) hx hb dX8_joins_14 (by decide) ?_
  refine lv_icmp_ge (tgt := 22) hx hb dX8_joins_15 (by decide) (fun c_15 => ?_) (fun c_15 => ?_)
  · have hz := hz.trans (if_pos c_15)
    refine lv_iconst (v := 0) hx hb dX8_joins_22 (by decide) ?_
    exact J23 (false) ((f_X8_isIn (x) (0) (99))) _ _ ls hz (by first | (intro h; cases h; done) | exact fun _ => ltN (n := 4) (by decide) (by omega) c_15) hP hD hS (lv_sub hl [0, 1] rfl)
  · have hz := hz.trans (if_neg c_15)
    refine lv_iconst (v := 1) hx hb dX8_joins_18 (by decide) ?_
    refine lv_goto (tgt := 23) hx hb dX8_joins_19 (by decide) ?_
    exact J23 (true) ((f_X8_isIn (x) (0) (99))) _ _ ls hz (by first | (intro h; cases h; done) | exact fun _ => ltN (n := 4) (by decide) (by omega) c_15) hP hD hS (lv_sub hl [0, 1] rfl)

