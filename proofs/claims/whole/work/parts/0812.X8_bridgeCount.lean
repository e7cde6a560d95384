def f_X8_bridgeCount_j44  (s0_44 : Bool) (s1_44 : Int32) (thr0_44 : Int32) : Sum (Int32 × Int32) (Int32 × Int32) := (Sum.inr ((s1_44 + (bI s0_44)), thr0_44))
def f_X8_bridgeCount_l18b (nw : (Nat → Int32)) (x : Int32) (k18 : Nat) (v2_18 : Int32) (thr0_18 : Int32) : Sum (Int32 × Int32) (Int32 × Int32) := (if (f_X8_of nw ((nI k18)) (3)) = x then (f_X8_bridgeCount_j44 (true) (v2_18) (thr0_18)) else (f_X8_bridgeCount_j44 (false) (v2_18) (thr0_18)))
def f_X8_bridgeCount_l18x (nw : (Nat → Int32)) (x : Int32) (v2_18 : Int32) (thr0_18 : Int32) : Int32 × Int32 := (v2_18, thr0_18)
def f_X8_bridgeCount_l18s (nw : (Nat → Int32)) (x : Int32) (k18 : Nat) (q_ : Int32 × Int32) : Sum (Int32 × Int32) (Int32 × Int32) := f_X8_bridgeCount_l18b nw x k18 (q_.1) (q_.2)
def f_X8_bridgeCount_l18e (nw : (Nat → Int32)) (x : Int32) (q_ : Int32 × Int32) : Int32 × Int32 := f_X8_bridgeCount_l18x nw x (q_.1) (q_.2)
def f_X8_bridgeCount_l18 (nw : (Nat → Int32)) (x : Int32) (n18 k18 : Nat) (v2_18 : Int32) (thr0_18 : Int32) : Int32 × Int32 := lpF (f_X8_bridgeCount_l18s nw x) (f_X8_bridgeCount_l18e nw x) n18 k18 (v2_18, thr0_18)
def f_X8_bridgeCount (nw : (Nat → Int32)) (x : Int32) : Int32 × Int32 := (if (f_X8_isPlayer nw (x)) = true then (f_X8_bridgeCount_l18 nw x (mS nw) 0 (0) ((gThr (f_X8_isPlayer nw (x))))) else (0, (gThr (f_X8_isPlayer nw (x)))))
set_option maxHeartbeats 4000000 in
set_option maxRecDepth 100000 in
theorem c_X8_bridgeCount (l : Launch) (D : va_G) (C : Nat → ClassId) (b : Nat → Nat) (M : MS) (x : Int32) (sz : Nat) (hM : MSafe M) : Met l yX8_bridgeCount wsX8_bridgeCount ({ frames := 3, cells := 0, slots := 0, locals := 65 } : Room) (rwP [.ref (b 0), .int x] D C (mcells C b M) sz) (rwO (some (.int ((f_X8_bridgeCount (mNow M) x).1))) D (mcells C b (mkM (mNow M) (mBef M) (mSav M) (mHis M) (mIsS M) (mRem M) (mErA M) (mFaA M) (mTxt M) (mTyp M) (mLin M) (mLnd M) ((f_X8_bridgeCount (mNow M) x).2) (mFar M) (mGrp M) (mSiz M) (mPla M) (mWro M) (mTol M) (mNum M))) (va_A (mcells C b M) sz)) 0 0 (va_A (mcells C b M) sz) := by
  refine Met.ofW (cc := cX8_bridgeCount) (maxL := 4) (ret := (some .int)) (by decide) rfl ?_
  intro p e s m args below meth c s₁ B hml hv
  obtain ⟨rfl, hsz, hP, hK, hD0, hE⟩ := hv
  have hx := B.exec
  have hb := B.bytes
  have hr := B.returns
  have hts := atoms_spec (ws := wsX8_bridgeCount) B.pre
  have hown : s.vm.findClass RX8 = some m.cls := findClass_of_methodNamed B.named
  have hlocks := B.notSynchronized
  subst hsz
  have hD := hD0.self (sz := s.heap.size)
  generalize hAe : va_A (mcells C b M) s.heap.size = A at hD ⊢
  have hA : ∀ q : Nat, s.heap.size ≤ q → A q := fun q h => by rw [← hAe]; exact Or.inr h
  have hS0 : va_S A s.heap s.heap [] := va_S.rf
  have hP : va_P D vwCl (mcells C b M) s.heap := hP
  have hS := hS0
  obtain ⟨⟨hS2, hS12⟩, ⟨hP2, hP4⟩, hLH, hFE⟩ := id hM
  have hinX8 : ∀ w ∈ u_ws RX8 TX8 20, w ∈ wsX8_bridgeCount := by decide +kernel
  have hl := lv_entry ([.ref (b 0), .int x]) (n := 4) (Nat.le_of_ble_eq_true rfl)
  rw [lg_entry_eq]
  generalize (lg_sl ([.ref (b 0), .int x]) ++ List.replicate (4 - (lg_sl ([.ref (b 0), .int x])).length) Slot.unset).toArray = ls at hl ⊢
  have hl : lv_has ls 4 [(0, .ref (b 0)), (1, .int x)] := hl
  obtain ⟨z, hz⟩ : ∃ z, z = f_X8_bridgeCount (mNow M) x := ⟨_, rfl⟩
  rw [← hz]
  have J18 : ∀ (n18 k18 : Nat) (v2_18 : Int32) (thr0_18 : Int32) (H : Heap) (locs : List Loc) (ls : Array Slot), k18 + n18 = mS (mNow M) → z = f_X8_bridgeCount_l18 (mNow M) x n18 k18 v2_18 thr0_18 → va_P D vwCl (mcells C b (mkM (mNow M) (mBef M) (mSav M) (mHis M) (mIsS M) (mRem M) (mErA M) (mFaA M) (mTxt M) (mTyp M) (mLin M) (mLnd M) thr0_18 (mFar M) (mGrp M) (mSiz M) (mPla M) (mWro M) (mTol M) (mNum M))) H → va_D A (mcells C b (mkM (mNow M) (mBef M) (mSav M) (mHis M) (mIsS M) (mRem M) (mErA M) (mFaA M) (mTxt M) (mTyp M) (mLin M) (mLnd M) thr0_18 (mFar M) (mGrp M) (mSiz M) (mPla M) (mWro M) (mTol M) (mNum M))) → va_S A s.heap H locs → lv_has ls 4 [(0, .ref (b 0)), (1, .int x), (2, .int v2_18), (3, .int (nI k18))] → W p l e ({ frames := 3, cells := 0, slots := 0, locals := 65 } : Room) s m ([.ref (b 0), .int x] : List Value).toArray below meth c H locs 0 0 (MQ below (rwO (some (.int z.1)) D (mcells C b (mkM (mNow M) (mBef M) (mSav M) (mHis M) (mIsS M) (mRem M) (mErA M) (mFaA M) (mTxt M) (mTyp M) (mLin M) (mLnd M) z.2 (mFar M) (mGrp M) (mSiz M) (mPla M) (mWro M) (mTol M) (mNum M))) A) ([.ref (b 0), .int x] : List Value).toArray s 0 0 A) (F0 m 18 ls []) := by
    intro n18
    induction n18 with
    | zero =>
      intro k18 v2_18 thr0_18 H locs ls hk18 hz  hP hD hS hl
      have hz : z = f_X8_bridgeCount_l18x (mNow M) x v2_18 thr0_18 := hz
      refine lv_iload_n hx hb dX8_bridgeCount_18 rfl (lv_at hl 3 rfl) ?_
      refine lv_aload_n hx hb dX8_bridgeCount_19 rfl (lv_at hl 0 rfl) ?_
      refine va_get (D := D) (ci := 9) (v := .ref (b 1)) (C := RX8) (T := TX8) (N := 20) hx hb hts hinX8 hown hK hP 0 rfl rfl 0 (by decide) (hts (.fieldLink RX8 9 "BridgeAuctionModel" "now" "[I") (by decide +kernel)) (fun _ h9 => h9) rfl dX8_bridgeCount_20 ?_
      refine lv_iconst (v := 2) hx hb dX8_bridgeCount_23 (by decide) ?_
      refine topN (k := 2) (by decide +kernel) ?_
      refine ialdN (tys := tyA C) hx hb hK hP 1 0 rfl rfl (i := 2) (by omega) (by decide) dX8_bridgeCount_24 ?_
      refine topN (k := mS (mNow M)) (by first | exact hS2 | exact hP2) ?_
      refine lv_icmp_ge (tgt := 52) hx hb dX8_bridgeCount_25 (by decide) (fun c_25 => ?_) (fun c_25 => absurd (nI_le (by omega) (by omega)) c_25)
      refine lv_iload_n hx hb dX8_bridgeCount_52 rfl (lv_at hl 2 rfl) ?_
      have hz : z = (v2_18, thr0_18) := hz
      rw [hz]
      exact rw_ret hx hb hr hP hS rfl dX8_bridgeCount_53 hlocks
    | succ n18 ih18 =>
      intro k18 v2_18 thr0_18 H locs ls hk18 hz18  hP hD hS hl
      obtain ⟨z18, hz⟩ : ∃ zz_, zz_ = f_X8_bridgeCount_l18b (mNow M) x k18 v2_18 thr0_18 := ⟨_, rfl⟩
      have hq18 : z = sE id (fun q_ => lpF (f_X8_bridgeCount_l18s (mNow M) x) (f_X8_bridgeCount_l18e (mNow M) x) n18 (k18 + 1) q_) z18 := by rw [hz18, hz]; rfl
      have J44 : ∀ (s0_44 : Bool) (s1_44 : Int32) (thr0_44 : Int32)  (H : Heap) (locs : List Loc) (ls : Array Slot), z18 = f_X8_bridgeCount_j44 s0_44 s1_44 thr0_44 → va_P D vwCl (mcells C b (mkM (mNow M) (mBef M) (mSav M) (mHis M) (mIsS M) (mRem M) (mErA M) (mFaA M) (mTxt M) (mTyp M) (mLin M) (mLnd M) thr0_44 (mFar M) (mGrp M) (mSiz M) (mPla M) (mWro M) (mTol M) (mNum M))) H → va_D A (mcells C b (mkM (mNow M) (mBef M) (mSav M) (mHis M) (mIsS M) (mRem M) (mErA M) (mFaA M) (mTxt M) (mTyp M) (mLin M) (mLnd M) thr0_44 (mFar M) (mGrp M) (mSiz M) (mPla M) (mWro M) (mTol M) (mNum M))) → va_S A s.heap H locs → lv_has ls 4 [(0, .ref (b 0)), (1, .int x), (3, .int (nI k18))] → W p l e ({ frames := 3, cells := 0, slots := 0, locals := 65 } : Room) s m ([.ref (b 0), .int x] : List Value).toArray below meth c H locs 0 0 (MQ below (rwO (some (.int z.1)) D (mcells C b (mkM (mNow M) (mBef M) (mSav M) (mHis M) (mIsS M) (mRem M) (mErA M) (mFaA M) (mTxt M) (mTyp M) (mLin M) (mLnd M) z.2 (mFar M) (mGrp M) (mSiz M) (mPla M) (mWro M) (mTol M) (mNum M))) A) ([.ref (b 0), .int x] : List Value).toArray s 0 0 A) (F0 m 44 ls [.int (bI s0_44), .int s1_44]) := by
        intro s0_44 s1_44 thr0_44 H locs ls hz  hP hD hS hl
        refine lv_iadd hx hb dX8_bridgeCount_44 ?_
        refine lv_istore_n (lv' := [(2, .int (s1_44 + (bI s0_44))), (0, .ref (b 0)), (1, .int x), (3, .int (nI k18))]) hx hb dX8_bridgeCount_45 rfl hl (by decide) rfl (fun ls hl => ?_)
        refine lv_iinc (v := (nI (k18 + 1))) (lv' := [(3, .int (nI (k18 + 1))), (2, .int (s1_44 + (bI s0_44))), (0, .ref (b 0)), (1, .int x)]) hx hb dX8_bridgeCount_46 hl (k := 3) rfl (by exact nI_1 _) (by decide) rfl (fun ls hl => ?_)
        refine lv_goto (tgt := 18) hx hb dX8_bridgeCount_49 (by decide) ?_
        exact ih18 (k18 + 1) ((s1_44 + (bI s0_44))) (thr0_44) _ _ ls (by omega) (by rw [hq18, hz]; rfl)  hP hD hS (lv_sub hl [2, 3, 1, 0] rfl)
      refine lv_iload_n hx hb dX8_bridgeCount_18 rfl (lv_at hl 3 rfl) ?_
      refine lv_aload_n hx hb dX8_bridgeCount_19 rfl (lv_at hl 0 rfl) ?_
      refine va_get (D := D) (ci := 9) (v := .ref (b 1)) (C := RX8) (T := TX8) (N := 20) hx hb hts hinX8 hown hK hP 0 rfl rfl 0 (by decide) (hts (.fieldLink RX8 9 "BridgeAuctionModel" "now" "[I") (by decide +kernel)) (fun _ h9 => h9) rfl dX8_bridgeCount_20 ?_
      refine lv_iconst (v := 2) hx hb dX8_bridgeCount_23 (by decide) ?_
      refine topN (k := 2) (by decide +kernel) ?_
      refine ialdN (tys := tyA C) hx hb hK hP 1 0 rfl rfl (i := 2) (by omega) (by decide) dX8_bridgeCount_24 ?_
      refine topN (k := mS (mNow M)) (by first | exact hS2 | exact hP2) ?_
      refine lv_icmp_ge (tgt := 52) hx hb dX8_bridgeCount_25 (by decide) (fun c_25 => absurd c_25 (nI_ge (by omega) (by omega))) (fun c_25 => ?_)
      refine lv_iload_n hx hb dX8_bridgeCount_28 rfl (lv_at hl 2 rfl) ?_
      refine lv_aload_n hx hb dX8_bridgeCount_29 rfl (lv_at hl 0 rfl) ?_
      refine lv_iload_n hx hb dX8_bridgeCount_30 rfl (lv_at hl 3 rfl) ?_
      refine lv_iconst (v := 3) hx hb dX8_bridgeCount_31 (by decide) ?_
      refine topN (k := 3) (by decide +kernel) ?_
      refine callRo (va_runV (As := [.int (nI k18), .int (nI 3)]) (rest := [.int v2_18]) ⟨hx, hb, hml, hown, hts⟩ (c_X8_of l D C b (mkM (mNow M) (mBef M) (mSav M) (mHis M) (mIsS M) (mRem M) (mErA M) (mFaA M) (mTxt M) (mTyp M) (mLin M) (mLnd M) thr0_18 (mFar M) (mGrp M) (mSiz M) (mPla M) (mWro M) (mTol M) (mNum M)) ((nI k18)) (3) (MSafe_of hM rfl) (by omega)) (cwV 2 hts gX8_bridgeCount_X8_of rfl rfl rfl (by decide +kernel) ⟨Nat.le_of_ble_eq_true rfl, Nat.le_of_ble_eq_true rfl⟩) (roP_v hP hK hE (va_recv hK hP (ci := 9) (q0 := 0) rfl rfl)) rfl rfl hl.1 rfl (lv_room (Nat.le_of_ble_eq_true rfl)) dX8_bridgeCount_32 ⟨Nat.le_refl _, Nat.le_refl _⟩) ?_
      refine topI (y := (f_X8_of (mNow M) ((nI k18)) (3))) rfl ?_
      refine lv_iload_n hx hb dX8_bridgeCount_35 rfl (lv_at hl 1 rfl) ?_
      refine lv_icmp_ne (tgt := 43) hx hb dX8_bridgeCount_36 (by decide) (fun c_36 => ?_) (fun c_36 => ?_)
      · have hz := hz.trans (if_neg c_36)
        refine lv_iconst (v := 0) hx hb dX8_bridgeCount_43 (by decide) ?_
        exact J44 (false) (v2_18) (thr0_18) _ _ ls hz  hP hD hS (lv_sub hl [0, 1, 3] rfl)
      · have hz := hz.trans (if_pos c_36)
        refine lv_iconst (v := 1) hx hb dX8_bridgeCount_39 (by decide) ?_
        refine lv_goto (tgt := 44) hx hb dX8_bridgeCount_40 (by decide) ?_
        exact J44 (true) (v2_18) (thr0_18) _ _ ls hz  hP hD hS (lv_sub hl [0, 1, 3] rfl)
  refine lv_aload_n hx hb dX8_bridgeCount_0 rfl (lv_at hl 0 rfl) ?_
  refine lv_aload_n hx hb dX8_bridgeCount_1 rfl (lv_at hl 0 rfl) ?_
  refine lv_iload_n hx hb dX8_bridgeCount_2 rfl (lv_at hl 1 rfl) ?_
  refine callRo (va_runV (As := [.int x]) (rest := [.ref (b 0)]) ⟨hx, hb, hml, hown, hts⟩ (c_X8_isPlayer l D C b M (x) hM) (cwV 1 hts gX8_bridgeCount_X8_isPlayer rfl rfl rfl (by decide +kernel) ⟨Nat.le_of_ble_eq_true rfl, Nat.le_of_ble_eq_true rfl⟩) (roP_v hP hK hE (va_recv hK hP (ci := 9) (q0 := 0) rfl rfl)) rfl rfl hl.1 rfl (lv_room (Nat.le_of_ble_eq_true rfl)) dX8_bridgeCount_3 ⟨Nat.le_refl _, Nat.le_refl _⟩) ?_
  have hFc := va_free (wc := (mcells C b M)) hD hS hA [0, 1, 2, 3, 4, 5, 6, 7, 8, 9] rfl
  refine callRw (va_runV (As := [.int (bI (f_X8_isPlayer (mNow M) (x)))]) (rest := []) ⟨hx, hb, hml, hown, hts⟩ (c_X8_goes_ l D C b M ((f_X8_isPlayer (mNow M) (x))) _) (cwV 1 hts gX8_bridgeCount_X8_goes rfl rfl rfl (by decide +kernel) ⟨Nat.le_of_ble_eq_true rfl, Nat.le_of_ble_eq_true rfl⟩) (rwP_v hP hK hE hD (va_recv hK hP (ci := 9) (q0 := 0) rfl rfl)) rfl rfl hl.1 rfl (lv_room (Nat.le_of_ble_eq_true rfl)) dX8_bridgeCount_6 ⟨Nat.le_refl _, Nat.le_refl _⟩) hS hFc (fun H1 locs hPn hk hS => ?_)
  have hP : va_P D vwCl (mcells C b (mkM (mNow M) (mBef M) (mSav M) (mHis M) (mIsS M) (mRem M) (mErA M) (mFaA M) (mTxt M) (mTyp M) (mLin M) (mLnd M) (gThr (f_X8_isPlayer (mNow M) (x))) (mFar M) (mGrp M) (mSiz M) (mPla M) (mWro M) (mTol M) (mNum M))) H1 := hPn
  have hD : va_D A (mcells C b (mkM (mNow M) (mBef M) (mSav M) (mHis M) (mIsS M) (mRem M) (mErA M) (mFaA M) (mTxt M) (mTyp M) (mLin M) (mLnd M) (gThr (f_X8_isPlayer (mNow M) (x))) (mFar M) (mGrp M) (mSiz M) (mPla M) (mWro M) (mTol M) (mNum M))) := adr_D hD rfl
  generalize H1 = H at hP hS ⊢
  refine topI (y := (bI (f_X8_isPlayer (mNow M) (x)))) rfl ?_
  refine bif_ne (tgt := 14) hx hb dX8_bridgeCount_9 (by decide) (fun c_9 => ?_) (fun c_9 => ?_)
  · have hz := hz.trans (ifB_t c_9)
    refine lv_iconst (v := 0) hx hb dX8_bridgeCount_14 (by decide) ?_
    refine lv_istore_n (lv' := [(2, .int 0), (0, .ref (b 0)), (1, .int x)]) hx hb dX8_bridgeCount_15 rfl hl (by decide) rfl (fun ls hl => ?_)
    refine lv_iconst (v := 0) hx hb dX8_bridgeCount_16 (by decide) ?_
    refine lv_istore_n (lv' := [(3, .int 0), (2, .int 0), (0, .ref (b 0)), (1, .int x)]) hx hb dX8_bridgeCount_17 rfl hl (by decide) rfl (fun ls hl => ?_)
    exact J18 (mS (mNow M)) 0 (0) ((gThr (f_X8_isPlayer (mNow M) (x)))) _ _ ls (by omega) hz  hP hD hS (lv_sub hl [2, 3, 1, 0] rfl)
  · have hz := hz.trans (ifB_f c_9)
    refine lv_iconst (v := 0) hx hb dX8_bridgeCount_12 (by decide) ?_
    have hz : z = (0, (gThr (f_X8_isPlayer (mNow M) (x)))) := hz
    rw [hz]
    exact rw_ret hx hb hr hP hS rfl dX8_bridgeCount_13 hlocks

