def f_X8_distanceOf_j69  (s0_69 : Int32) (thr0_69 : Int32) (far0_69 : (Nat → Int32)) : Int32 × Int32 × (Nat → Int32) := (s0_69, thr0_69, far0_69)
def f_X8_distanceOf_j51 (y : Int32) (s0_51 : Bool) (thr0_51 : Int32) (far0_51 : (Nat → Int32)) : Int32 × Int32 × (Nat → Int32) := (if (hOk true s0_51 true true) = true then (f_X8_distanceOf_j69 ((far0_51 y.toNatClampNeg)) ((hThr true s0_51 true true)) (far0_51)) else (f_X8_distanceOf_j69 (0) ((hThr true s0_51 true true)) (far0_51)))
def f_X8_distanceOf_j20 (nw : (Nat → Int32)) (fr : (Nat → Int32)) (x : Int32) (y : Int32) (s0_20 : Bool) : Int32 × Int32 × (Nat → Int32) := (if s0_20 = true then (lt_ (f_X8_measures nw fr (x)) (fun y30 => (if 1000000 ≤ (y30 y.toNatClampNeg) then (f_X8_distanceOf_j51 y (false) ((gThr s0_20)) (y30)) else (f_X8_distanceOf_j51 y (true) ((gThr s0_20)) (y30))))) else (0, (gThr s0_20), fr))
def f_X8_distanceOf_j19 (nw : (Nat → Int32)) (fr : (Nat → Int32)) (x : Int32) (y : Int32) : Int32 × Int32 × (Nat → Int32) := (f_X8_distanceOf_j20 nw fr x y (false))
def f_X8_distanceOf (nw : (Nat → Int32)) (fr : (Nat → Int32)) (x : Int32) (y : Int32) : Int32 × Int32 × (Nat → Int32) := (if (f_X8_isIsland (x)) = true then (if (f_X8_isIsland (y)) = true then (f_X8_distanceOf_j20 nw fr x y (true)) else (f_X8_distanceOf_j19 nw fr x y)) else (f_X8_distanceOf_j19 nw fr x y))
set_option maxHeartbeats 4000000 in
set_option maxRecDepth 100000 in
theorem c_X8_distanceOf (l : Launch) (D : va_G) (C : Nat → ClassId) (b : Nat → Nat) (M : MS) (x : Int32) (y : Int32) (sz : Nat) (hM : MSafe M) : Met l yX8_distanceOf wsX8_distanceOf ({ frames := 5, cells := 0, slots := 0, locals := 111 } : Room) (rwP [.ref (b 0), .int x, .int y] D C (mcells C b M) sz) (rwO (some (.int ((f_X8_distanceOf (mNow M) (mFar M) x y).1))) D (mcells C b (mkM (mNow M) (mBef M) (mSav M) (mHis M) (mIsS M) (mRem M) (mErA M) (mFaA M) (mTxt M) (mTyp M) (mLin M) (mLnd M) ((f_X8_distanceOf (mNow M) (mFar M) x y).2.1) ((f_X8_distanceOf (mNow M) (mFar M) x y).2.2) (mGrp M) (mSiz M) (mPla M) (mWro M) (mTol M) (mNum M))) (va_A (mcells C b M) sz)) 0 0 (va_A (mcells C b M) sz) := by
  refine Met.ofW (cc := cX8_distanceOf) (maxL := 3) (ret := (some .int)) (by decide) rfl ?_
  intro p e s m args below meth c s₁ B hml hv
  obtain ⟨rfl, hsz, hP, hK, hD0, hE⟩ := hv
  have hx := B.exec
  have hb := B.bytes
  have hr := B.returns
  have hts := atoms_spec (ws := wsX8_distanceOf) B.pre
  have hown : s.vm.findClass RX8 = some m.cls := findClass_of_methodNamed B.named
  have hlocks := B.notSynchronized
  subst hsz
  have hD := hD0.self (sz := s.heap.size)
  generalize hAe : va_A (mcells C b M) s.heap.size = A at hD ⊢
  have hA : ∀ q : Nat, s.heap.size ≤ q → A q := fun q h => by rw [← hAe]; exact Or.inr h
  have hS0 : va_S A s.heap s.heap [] := va_S.rf
  have hP : va_P D vwCl (mcells C b M) s.heap := hP
  have hS := hS0
  obtain ⟨⟨hS2, hS12⟩, ⟨hP2, hP4⟩, hLH, hFE⟩ := id hM
  have hinX8 : ∀ w ∈ u_ws RX8 TX8 20, w ∈ wsX8_distanceOf := by decide +kernel
  have hl := lv_entry ([.ref (b 0), .int x, .int y]) (n := 3) (Nat.le_of_ble_eq_true rfl)
  rw [lg_entry_eq]
  generalize (lg_sl ([.ref (b 0), .int x, .int y]) ++ List.replicate (3 - (lg_sl ([.ref (b 0), .int x, .int y])).length) Slot.unset).toArray = ls at hl ⊢
  have hl : lv_has ls 3 [(0, .ref (b 0)), (1, .int x), (2, .int y)] := hl
  obtain ⟨z, hz⟩ : ∃ z, z = f_X8_distanceOf (mNow M) (mFar M) x y := ⟨_, rfl⟩
  rw [← hz]
  have J69 : ∀ (s0_69 : Int32) (thr0_69 : Int32) (far0_69 : (Nat → Int32))  (H : Heap) (locs : List Loc) (ls : Array Slot), z = f_X8_distanceOf_j69 s0_69 thr0_69 far0_69 → va_P D vwCl (mcells C b (mkM (mNow M) (mBef M) (mSav M) (mHis M) (mIsS M) (mRem M) (mErA M) (mFaA M) (mTxt M) (mTyp M) (mLin M) (mLnd M) thr0_69 far0_69 (mGrp M) (mSiz M) (mPla M) (mWro M) (mTol M) (mNum M))) H → va_D A (mcells C b (mkM (mNow M) (mBef M) (mSav M) (mHis M) (mIsS M) (mRem M) (mErA M) (mFaA M) (mTxt M) (mTyp M) (mLin M) (mLnd M) thr0_69 far0_69 (mGrp M) (mSiz M) (mPla M) (mWro M) (mTol M) (mNum M))) → va_S A s.heap H locs → lv_has ls 3 [] → W p l e ({ frames := 5, cells := 0, slots := 0, locals := 111 } : Room) s m ([.ref (b 0), .int x, .int y] : List Value).toArray below meth c H locs 0 0 (MQ below (rwO (some (.int z.1)) D (mcells C b (mkM (mNow M) (mBef M) (mSav M) (mHis M) (mIsS M) (mRem M) (mErA M) (mFaA M) (mTxt M) (mTyp M) (mLin M) (mLnd M) z.2.1 z.2.2 (mGrp M) (mSiz M) (mPla M) (mWro M) (mTol M) (mNum M))) A) ([.ref (b 0), .int x, .int y] : List Value).toArray s 0 0 A) (F0 m 69 ls [.int s0_69]) := by
    intro s0_69 thr0_69 far0_69 H locs ls hz  hP hD hS hl
    have hz : z = (s0_69, thr0_69, far0_69) := hz
    rw [hz]
    exact rw_ret hx hb hr hP hS rfl dX8_distanceOf_69 hlocks
  have J51 : ∀ (s0_51 : Bool) (thr0_51 : Int32) (far0_51 : (Nat → Int32))  (H : Heap) (locs : List Loc) (ls : Array Slot), z = f_X8_distanceOf_j51 y s0_51 thr0_51 far0_51 → (vp_in y 8) → va_P D vwCl (mcells C b (mkM (mNow M) (mBef M) (mSav M) (mHis M) (mIsS M) (mRem M) (mErA M) (mFaA M) (mTxt M) (mTyp M) (mLin M) (mLnd M) thr0_51 far0_51 (mGrp M) (mSiz M) (mPla M) (mWro M) (mTol M) (mNum M))) H → va_D A (mcells C b (mkM (mNow M) (mBef M) (mSav M) (mHis M) (mIsS M) (mRem M) (mErA M) (mFaA M) (mTxt M) (mTyp M) (mLin M) (mLnd M) thr0_51 far0_51 (mGrp M) (mSiz M) (mPla M) (mWro M) (mTol M) (mNum M))) → va_S A s.heap H locs → lv_has ls 3 [(0, .ref (b 0)), (2, .int y)] → W p l e ({ frames := 5, cells := 0, slots := 0, locals := 111 } : Room) s m ([.ref (b 0), .int x, .int y] : List Value).toArray below meth c H locs 0 0 (MQ below (rwO (some (.int z.1)) D (mcells C b (mkM (mNow M) (mBef M) (mSav M) (mHis M) (mIsS M) (mRem M) (mErA M) (mFaA M) (mTxt M) (mTyp M) (mLin M) (mLnd M) z.2.1 z.2.2 (mGrp M) (mSiz M) (mPla M) (mWro M) (mTol M) (mNum M))) A) ([.ref (b 0), .int x, .int y] : List Value).toArray s 0 0 A) (F0 m 51 ls [.int (bI s0_51), .int 1, .ref (b 0)]) := by
    intro s0_51 thr0_51 far0_51 H locs ls hz iv51_0 hP hD hS hl
    refine lv_iconst (v := 1) hx hb dX8_distanceOf_51 (by decide) ?_
    refine lv_iconst (v := 1) hx hb dX8_distanceOf_52 (by decide) ?_
    have hFc := va_free (wc := (mcells C b (mkM (mNow M) (mBef M) (mSav M) (mHis M) (mIsS M) (mRem M) (mErA M) (mFaA M) (mTxt M) (mTyp M) (mLin M) (mLnd M) thr0_51 far0_51 (mGrp M) (mSiz M) (mPla M) (mWro M) (mTol M) (mNum M)))) hD hS hA [0, 1, 2, 3, 4, 5, 6, 7, 8, 9] rfl
    refine callRw (va_runV (As := [.int (bI true), .int (bI s0_51), .int (bI true), .int (bI true)]) (rest := []) ⟨hx, hb, hml, hown, hts⟩ (c_X8_holds_ l D C b (mkM (mNow M) (mBef M) (mSav M) (mHis M) (mIsS M) (mRem M) (mErA M) (mFaA M) (mTxt M) (mTyp M) (mLin M) (mLnd M) thr0_51 far0_51 (mGrp M) (mSiz M) (mPla M) (mWro M) (mTol M) (mNum M)) (true) (s0_51) (true) (true) _) (cwV 4 hts gX8_distanceOf_X8_holds rfl rfl rfl (by decide +kernel) ⟨Nat.le_of_ble_eq_true rfl, Nat.le_of_ble_eq_true rfl⟩) (rwP_v hP hK hE hD (va_recv hK hP (ci := 9) (q0 := 0) rfl rfl)) rfl rfl hl.1 rfl (lv_room (Nat.le_of_ble_eq_true rfl)) dX8_distanceOf_53 ⟨Nat.le_refl _, Nat.le_refl _⟩) hS hFc (fun H1 locs hPn hk hS => ?_)
    have hP : va_P D vwCl (mcells C b (mkM (mNow M) (mBef M) (mSav M) (mHis M) (mIsS M) (mRem M) (mErA M) (mFaA M) (mTxt M) (mTyp M) (mLin M) (mLnd M) (hThr true s0_51 true true) far0_51 (mGrp M) (mSiz M) (mPla M) (mWro M) (mTol M) (mNum M))) H1 := hPn
    have hD : va_D A (mcells C b (mkM (mNow M) (mBef M) (mSav M) (mHis M) (mIsS M) (mRem M) (mErA M) (mFaA M) (mTxt M) (mTyp M) (mLin M) (mLnd M) (hThr true s0_51 true true) far0_51 (mGrp M) (mSiz M) (mPla M) (mWro M) (mTol M) (mNum M))) := adr_D hD rfl
    generalize H1 = H at hP hS ⊢
    refine topI (y := (bI (hOk true s0_51 true true))) rfl ?_
    refine bif_eq (tgt := 68) hx hb dX8_distanceOf_56 (by decide) (fun c_56 => ?_) (fun c_56 => ?_)
    · have hz := hz.trans (ifB_f c_56)
      refine lv_iconst (v := 0) hx hb dX8_distanceOf_68 (by decide) ?_
      exact J69 (0) ((hThr true s0_51 true true)) (far0_51) _ _ ls hz  hP hD hS (lv_sub hl [] rfl)
    · have hz := hz.trans (ifB_t c_56)
      refine lv_aload_n hx hb dX8_distanceOf_59 rfl (lv_at hl 0 rfl) ?_
      refine va_get (D := D) (ci := 9) (v := .ref (b 7)) (C := RX8) (T := TX8) (N := 20) hx hb hts hinX8 hown hK hP 0 rfl rfl 13 (by decide) (hts (.fieldLink RX8 35 "BridgeAuctionModel" "far" "[I") (by decide +kernel)) (fun _ h9 => h9) rfl dX8_distanceOf_60 ?_
      refine lv_iload_n hx hb dX8_distanceOf_63 rfl (lv_at hl 1 rfl) ?_
      obtain ⟨ehn_1, lhn_1⟩ := nat_of (x := y) (n := 8) (by first | assumption) (by omega)
      refine topN ehn_1 ?_
      refine ialdN (tys := tyA C) hx hb hK hP 7 0 rfl rfl (i := y.toNatClampNeg) (by omega) (by decide) dX8_distanceOf_64 ?_
      refine lv_goto (tgt := 69) hx hb dX8_distanceOf_65 (by decide) ?_
      exact J69 ((far0_51 y.toNatClampNeg)) ((hThr true s0_51 true true)) (far0_51) _ _ ls hz  hP hD hS (lv_sub hl [] rfl)
  have J20 : ∀ (s0_20 : Bool)  (H : Heap) (locs : List Loc) (ls : Array Slot), z = f_X8_distanceOf_j20 (mNow M) (mFar M) x y s0_20 → (s0_20 = true → vp_in x 8 ∧ vp_in y 8) → va_P D vwCl (mcells C b M) H → va_D A (mcells C b M) → va_S A s.heap H locs → lv_has ls 3 [(0, .ref (b 0)), (1, .int x), (2, .int y)] → W p l e ({ frames := 5, cells := 0, slots := 0, locals := 111 } : Room) s m ([.ref (b 0), .int x, .int y] : List Value).toArray below meth c H locs 0 0 (MQ below (rwO (some (.int z.1)) D (mcells C b (mkM (mNow M) (mBef M) (mSav M) (mHis M) (mIsS M) (mRem M) (mErA M) (mFaA M) (mTxt M) (mTyp M) (mLin M) (mLnd M) z.2.1 z.2.2 (mGrp M) (mSiz M) (mPla M) (mWro M) (mTol M) (mNum M))) A) ([.ref (b 0), .int x, .int y] : List Value).toArray s 0 0 A) (F0 m 20 ls [.int (bI s0_20), .ref (b 0)]) := by
    intro s0_20 H locs ls hz iv20_0 hP hD hS hl
    have hFc := va_free (wc := (mcells C b M)) hD hS hA [0, 1, 2, 3, 4, 5, 6, 7, 8, 9] rfl
    refine callRw (va_runV (As := [.int (bI s0_20)]) (rest := []) ⟨hx, hb, hml, hown, hts⟩ (c_X8_goes_ l D C b M (s0_20) _) (cwV 1 hts gX8_distanceOf_X8_goes rfl rfl rfl (by decide +kernel) ⟨Nat.le_of_ble_eq_true rfl, Nat.le_of_ble_eq_true rfl⟩) (rwP_v hP hK hE hD (va_recv hK hP (ci := 9) (q0 := 0) rfl rfl)) rfl rfl hl.1 rfl (lv_room (Nat.le_of_ble_eq_true rfl)) dX8_distanceOf_20 ⟨Nat.le_refl _, Nat.le_refl _⟩) hS hFc (fun H1 locs hPn hk hS => ?_)
    have hP : va_P D vwCl (mcells C b (mkM (mNow M) (mBef M) (mSav M) (mHis M) (mIsS M) (mRem M) (mErA M) (mFaA M) (mTxt M) (mTyp M) (mLin M) (mLnd M) (gThr s0_20) (mFar M) (mGrp M) (mSiz M) (mPla M) (mWro M) (mTol M) (mNum M))) H1 := hPn
    have hD : va_D A (mcells C b (mkM (mNow M) (mBef M) (mSav M) (mHis M) (mIsS M) (mRem M) (mErA M) (mFaA M) (mTxt M) (mTyp M) (mLin M) (mLnd M) (gThr s0_20) (mFar M) (mGrp M) (mSiz M) (mPla M) (mWro M) (mTol M) (mNum M))) := adr_D hD rfl
    generalize H1 = H at hP hS ⊢
    refine topI (y := (bI s0_20)) rfl ?_
    refine bif_ne (tgt := 28) hx hb dX8_distanceOf_23 (by decide) (fun c_23 => ?_) (fun c_23 => ?_)
    · have hz := hz.trans (ifB_t c_23)
      have q := iv20_0 c_23
      refine lv_aload_n hx hb dX8_distanceOf_28 rfl (lv_at hl 0 rfl) ?_
      refine lv_iload_n hx hb dX8_distanceOf_29 rfl (lv_at hl 1 rfl) ?_
      have hFc := va_free (wc := (mcells C b (mkM (mNow M) (mBef M) (mSav M) (mHis M) (mIsS M) (mRem M) (mErA M) (mFaA M) (mTxt M) (mTyp M) (mLin M) (mLnd M) (gThr s0_20) (mFar M) (mGrp M) (mSiz M) (mPla M) (mWro M) (mTol M) (mNum M)))) hD hS hA [0, 1, 2, 3, 4, 5, 6, 7, 8, 9] rfl
      refine callRw (va_runV (As := [.int x]) (rest := []) ⟨hx, hb, hml, hown, hts⟩ (c_X8_measures l D C b (mkM (mNow M) (mBef M) (mSav M) (mHis M) (mIsS M) (mRem M) (mErA M) (mFaA M) (mTxt M) (mTyp M) (mLin M) (mLnd M) (gThr s0_20) (mFar M) (mGrp M) (mSiz M) (mPla M) (mWro M) (mTol M) (mNum M)) (x) _ (MSafe_of hM rfl)) (cwV 1 hts gX8_distanceOf_X8_measures rfl rfl rfl (by decide +kernel) ⟨Nat.le_of_ble_eq_true rfl, Nat.le_of_ble_eq_true rfl⟩) (rwP_v hP hK hE hD (va_recv hK hP (ci := 9) (q0 := 0) rfl rfl)) rfl rfl hl.1 rfl (lv_room (Nat.le_of_ble_eq_true rfl)) dX8_distanceOf_30 ⟨Nat.le_refl _, Nat.le_refl _⟩) hS hFc (fun H1 locs hPn hk hS => ?_)
      obtain ⟨y30, hy30⟩ : ∃ y_, y_ = (f_X8_measures (mNow M) (mFar M) (x)) := ⟨_, rfl⟩
      have hPn : va_P D vwCl (mcells C b (mkM (mNow M) (mBef M) (mSav M) (mHis M) (mIsS M) (mRem M) (mErA M) (mFaA M) (mTxt M) (mTyp M) (mLin M) (mLnd M) (gThr s0_20) y30 (mGrp M) (mSiz M) (mPla M) (mWro M) (mTol M) (mNum M))) H1 := by rw [hy30]; exact hPn
      have hz := lt_eq hz hy30
      have hP : va_P D vwCl (mcells C b (mkM (mNow M) (mBef M) (mSav M) (mHis M) (mIsS M) (mRem M) (mErA M) (mFaA M) (mTxt M) (mTyp M) (mLin M) (mLnd M) (gThr s0_20) y30 (mGrp M) (mSiz M) (mPla M) (mWro M) (mTol M) (mNum M))) H1 := hPn
      have hD : va_D A (mcells C b (mkM (mNow M) (mBef M) (mSav M) (mHis M) (mIsS M) (mRem M) (mErA M) (mFaA M) (mTxt M) (mTyp M) (mLin M) (mLnd M) (gThr s0_20) y30 (mGrp M) (mSiz M) (mPla M) (mWro M) (mTol M) (mNum M))) := adr_D hD rfl
      generalize H1 = H at hP hS ⊢
      refine lv_aload_n hx hb dX8_distanceOf_33 rfl (lv_at hl 0 rfl) ?_
      refine lv_iconst (v := 1) hx hb dX8_distanceOf_34 (by decide) ?_
      refine lv_aload_n hx hb dX8_distanceOf_35 rfl (lv_at hl 0 rfl) ?_
      refine va_get (D := D) (ci := 9) (v := .ref (b 7)) (C := RX8) (T := TX8) (N := 20) hx hb hts hinX8 hown hK hP 0 rfl rfl 13 (by decide) (hts (.fieldLink RX8 35 "BridgeAuctionModel" "far" "[I") (by decide +kernel)) (fun _ h9 => h9) rfl dX8_distanceOf_36 ?_
      refine lv_iload_n hx hb dX8_distanceOf_39 rfl (lv_at hl 2 rfl) ?_
      obtain ⟨ehn_2, lhn_2⟩ := nat_of (x := y) (n := 8) (by exact q.2) (by omega)
      refine topN ehn_2 ?_
      refine ialdN (tys := tyA C) hx hb hK hP 7 0 rfl rfl (i := y.toNatClampNeg) (by omega) (by decide) dX8_distanceOf_40 ?_
      refine lv_ldc (v := 1000000) hx hb hown (hts (.constant RX8 171 (1000000)) (by decide +kernel)) dX8_distanceOf_41 ?_
      refine lv_icmp_ge (tgt := 50) hx hb dX8_distanceOf_43 (by decide) (fun c_43 => ?_) (fun c_43 => ?_)
      · have hz := hz.trans (if_pos c_43)
        refine lv_iconst (v := 0) hx hb dX8_distanceOf_50 (by decide) ?_
        exact J51 (false) ((gThr s0_20)) (y30) _ _ ls hz (by first | assumption | exact q.2) hP hD hS (lv_sub hl [0, 2] rfl)
      · have hz := hz.trans (if_neg c_43)
        refine lv_iconst (v := 1) hx hb dX8_distanceOf_46 (by decide) ?_
        refine lv_goto (tgt := 51) hx hb dX8_distanceOf_47 (by decide) ?_
        exact J51 (true) ((gThr s0_20)) (y30) _ _ ls hz (by first | assumption | exact q.2) hP hD hS (lv_sub hl [0, 2] rfl)
    · have hz := hz.trans (ifB_f c_23)
      refine lv_iconst (v := 0) hx hb dX8_distanceOf_26 (by decide) ?_
      have hz : z = (0, (gThr s0_20), (mFar M)) := hz
      rw [hz]
      exact rw_ret hx hb hr hP hS rfl dX8_distanceOf_27 hlocks
  have J19 : ∀  (H : Heap) (locs : List Loc) (ls : Array Slot), z = f_X8_distanceOf_j19 (mNow M) (mFar M) x y → va_P D vwCl (mcells C b M) H → va_D A (mcells C b M) → va_S A s.heap H locs → lv_has ls 3 [(0, .ref (b 0)), (1, .int x), (2, .int y)] → W p l e ({ frames := 5, cells := 0, slots := 0, locals := 111 } : Room) s m ([.ref (b 0), .int x, .int y] : List Value).toArray below meth c H locs 0 0 (MQ below (rwO (some (.int z.1)) D (mcells C b (mkM (mNow M) (mBef M) (mSav M) (mHis M) (mIsS M) (mRem M) (mErA M) (mFaA M) (mTxt M) (mTyp M) (mLin M) (mLnd M) z.2.1 z.2.2 (mGrp M) (mSiz M) (mPla M) (mWro M) (mTol M) (mNum M))) A) ([.ref (b 0), .int x, .int y] : List Value).toArray s 0 0 A) (F0 m 19 ls [.ref (b 0)]) := by
    intro  H locs ls hz  hP hD hS hl
    refine lv_iconst (v := 0) hx hb dX8_distanceOf_19 (by decide) ?_
    exact J20 (false) _ _ ls hz (by first | (intro h; cases h; done) | exact fun _ => ⟨X8_isIsland_in c_5, X8_isIsland_in c_12⟩) hP hD hS (lv_sub hl [0, 1, 2] rfl)
  refine lv_aload_n hx hb dX8_distanceOf_0 rfl (lv_at hl 0 rfl) ?_
  refine lv_iload_n hx hb dX8_distanceOf_1 rfl (lv_at hl 1 rfl) ?_
  refine callRo (va_runS (As := [.int x]) (rest := [.ref (b 0)]) ⟨hx, hb, hml, hown, hts⟩ (c_X8_isIsland l D C (x)) (va_cwS 1 hts gX8_distanceOf_X8_isIsland rfl rfl rfl (by decide +kernel) ⟨Nat.le_of_ble_eq_true rfl, Nat.le_of_ble_eq_true rfl⟩) (roP_s (hP.sub (ws' := ([] : va_W)) [] rfl) hK hE) rfl rfl hl.1 rfl (lv_room (Nat.le_of_ble_eq_true rfl)) dX8_distanceOf_2 ⟨Nat.le_refl _, Nat.le_refl _⟩) ?_
  refine bif_eq (tgt := 19) hx hb dX8_distanceOf_5 (by decide) (fun c_5 => ?_) (fun c_5 => ?_)
  · have hz := hz.trans (ifB_f c_5)
    exact J19  _ _ ls hz  hP hD hS (lv_sub hl [0, 1, 2] rfl)
  · have hz := hz.trans (ifB_t c_5)
    refine lv_iload_n hx hb dX8_distanceOf_8 rfl (lv_at hl 2 rfl) ?_
    refine callRo (va_runS (As := [.int y]) (rest := [.ref (b 0)]) ⟨hx, hb, hml, hown, hts⟩ (c_X8_isIsland l D C (y)) (va_cwS 1 hts gX8_distanceOf_X8_isIsland rfl rfl rfl (by decide +kernel) ⟨Nat.le_of_ble_eq_true rfl, Nat.le_of_ble_eq_true rfl⟩) (roP_s (hP.sub (ws' := ([] : va_W)) [] rfl) hK hE) rfl rfl hl.1 rfl (lv_room (Nat.le_of_ble_eq_true rfl)) dX8_distanceOf_9 ⟨Nat.le_refl _, Nat.le_refl _⟩) ?_
    refine bif_eq (tgt := 19) hx hb dX8_distanceOf_12 (by decide) (fun c_12 => ?_) (fun c_12 => ?_)
    · have hz := hz.trans (ifB_f c_12)
      exact J19  _ _ ls hz  hP hD hS (lv_sub hl [0, 1, 2] rfl)
    · have hz := hz.trans (ifB_t c_12)
      refine lv_iconst (v := 1) hx hb dX8_distanceOf_15 (by decide) ?_
      refine lv_goto (tgt := 20) hx hb dX8_distanceOf_16 (by decide) ?_
      exact J20 (true) _ _ ls hz (by first | (intro h; cases h; done) | exact fun _ => ⟨X8_isIsland_in c_5, X8_isIsland_in c_12⟩) hP hD hS (lv_sub hl [0, 1, 2] rfl)

