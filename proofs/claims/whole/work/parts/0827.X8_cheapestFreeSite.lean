def f_X8_cheapestFreeSite_j95  (s0_95 : Int32) (thr0_95 : Int32) : Int32 × Int32 := (s0_95, thr0_95)
def f_X8_cheapestFreeSite_j84  (v1_84 : Int32) (s0_84 : Bool) : Int32 × Int32 := (if s0_84 = true then (f_X8_cheapestFreeSite_j95 (v1_84) ((gThr s0_84))) else (f_X8_cheapestFreeSite_j95 (0) ((gThr s0_84))))
def f_X8_cheapestFreeSite_j66  (v1_66 : Int32) (s0_66 : Int32) : Sum (Int32 × Int32) (Int32 × Int32) := (Sum.inr (v1_66, s0_66))
def f_X8_cheapestFreeSite_j51 (nw : (Nat → Int32)) (k7 : Nat) (v2_51 : Int32) (v4_51 : Bool) (s0_51 : Int32) : Sum (Int32 × Int32) (Int32 × Int32) := (if v4_51 = true then (f_X8_cheapestFreeSite_j66 (s0_51) ((f_X8_costOf nw ((nI k7))))) else (f_X8_cheapestFreeSite_j66 (s0_51) (v2_51)))
def f_X8_cheapestFreeSite_j39 (nw : (Nat → Int32)) (k7 : Nat) (v1_39 : Int32) (v2_39 : Int32) (s0_39 : Bool) : Sum (Int32 × Int32) (Int32 × Int32) := (if s0_39 = true then (f_X8_cheapestFreeSite_j51 nw k7 (v2_39) (s0_39) ((nI k7))) else (f_X8_cheapestFreeSite_j51 nw k7 (v2_39) (s0_39) (v1_39)))
def f_X8_cheapestFreeSite_j38 (nw : (Nat → Int32)) (k7 : Nat) (v1_38 : Int32) (v2_38 : Int32) : Sum (Int32 × Int32) (Int32 × Int32) := (f_X8_cheapestFreeSite_j39 nw k7 (v1_38) (v2_38) (false))
def f_X8_cheapestFreeSite_l7b (nw : (Nat → Int32)) (k7 : Nat) (v1_7 : Int32) (v2_7 : Int32) : Sum (Int32 × Int32) (Int32 × Int32) := (if (f_X8_isDone nw ((nI k7))) = true then (f_X8_cheapestFreeSite_j38 nw k7 (v1_7) (v2_7)) else (if v2_7 ≤ (f_X8_costOf nw ((nI k7))) then (f_X8_cheapestFreeSite_j38 nw k7 (v1_7) (v2_7)) else (f_X8_cheapestFreeSite_j39 nw k7 (v1_7) (v2_7) (true))))
def f_X8_cheapestFreeSite_l7x (nw : (Nat → Int32)) (v1_7 : Int32) (v2_7 : Int32) : Int32 × Int32 := (if v1_7 = (-1) then (f_X8_cheapestFreeSite_j84 (v1_7) (false)) else (f_X8_cheapestFreeSite_j84 (v1_7) (true)))
def f_X8_cheapestFreeSite_l7s (nw : (Nat → Int32)) (k7 : Nat) (q_ : Int32 × Int32) : Sum (Int32 × Int32) (Int32 × Int32) := f_X8_cheapestFreeSite_l7b nw k7 (q_.1) (q_.2)
def f_X8_cheapestFreeSite_l7e (nw : (Nat → Int32)) (q_ : Int32 × Int32) : Int32 × Int32 := f_X8_cheapestFreeSite_l7x nw (q_.1) (q_.2)
def f_X8_cheapestFreeSite_l7 (nw : (Nat → Int32)) (n7 k7 : Nat) (v1_7 : Int32) (v2_7 : Int32) : Int32 × Int32 := lpF (f_X8_cheapestFreeSite_l7s nw) (f_X8_cheapestFreeSite_l7e nw) n7 k7 (v1_7, v2_7)
def f_X8_cheapestFreeSite (nw : (Nat → Int32)) : Int32 × Int32 := (f_X8_cheapestFreeSite_l7 nw (mS nw) 0 ((-1)) (1000000))
set_option maxHeartbeats 4000000 in
set_option maxRecDepth 100000 in
theorem c_X8_cheapestFreeSite (l : Launch) (D : va_G) (C : Nat → ClassId) (b : Nat → Nat) (M : MS) (sz : Nat) (hM : MSafe M) : Met l yX8_cheapestFreeSite wsX8_cheapestFreeSite ({ frames := 4, cells := 0, slots := 0, locals := 86 } : Room) (rwP [.ref (b 0)] D C (mcells C b M) sz) (rwO (some (.int ((f_X8_cheapestFreeSite (mNow M)).1))) D (mcells C b (mkM (mNow M) (mBef M) (mSav M) (mHis M) (mIsS M) (mRem M) (mErA M) (mFaA M) (mTxt M) (mTyp M) (mLin M) (mLnd M) ((f_X8_cheapestFreeSite (mNow M)).2) (mFar M) (mGrp M) (mSiz M) (mPla M) (mWro M) (mTol M) (mNum M))) (va_A (mcells C b M) sz)) 0 0 (va_A (mcells C b M) sz) := by
  refine Met.ofW (cc := cX8_cheapestFreeSite) (maxL := 5) (ret := (some .int)) (by decide) rfl ?_
  intro p e s m args below meth c s₁ B hml hv
  obtain ⟨rfl, hsz, hP, hK, hD0, hE⟩ := hv
  have hx := B.exec
  have hb := B.bytes
  have hr := B.returns
  have hts := atoms_spec (ws := wsX8_cheapestFreeSite) B.pre
  have hown : s.vm.findClass RX8 = some m.cls := findClass_of_methodNamed B.named
  have hlocks := B.notSynchronized
  subst hsz
  have hD := hD0.self (sz := s.heap.size)
  generalize hAe : va_A (mcells C b M) s.heap.size = A at hD ⊢
  have hA : ∀ q : Nat, s.heap.size ≤ q → A q := fun q h => by rw [← hAe]; exact Or.inr h
  have hS0 : va_S A s.heap s.heap [] := va_S.rf
  have hP : va_P D vwCl (mcells C b M) s.heap := hP
  have hS := hS0
  obtain ⟨⟨hS2, hS12⟩, ⟨hP2, hP4⟩, hLH, hFE⟩ := id hM
  have hinX8 : ∀ w ∈ u_ws RX8 TX8 20, w ∈ wsX8_cheapestFreeSite := by decide +kernel
  have hl := lv_entry ([.ref (b 0)]) (n := 5) (Nat.le_of_ble_eq_true rfl)
  rw [lg_entry_eq]
  generalize (lg_sl ([.ref (b 0)]) ++ List.replicate (5 - (lg_sl ([.ref (b 0)])).length) Slot.unset).toArray = ls at hl ⊢
  have hl : lv_has ls 5 [(0, .ref (b 0))] := hl
  obtain ⟨z, hz⟩ : ∃ z, z = f_X8_cheapestFreeSite (mNow M) := ⟨_, rfl⟩
  rw [← hz]
  have J95 : ∀ (s0_95 : Int32) (thr0_95 : Int32)  (H : Heap) (locs : List Loc) (ls : Array Slot), z = f_X8_cheapestFreeSite_j95 s0_95 thr0_95 → va_P D vwCl (mcells C b (mkM (mNow M) (mBef M) (mSav M) (mHis M) (mIsS M) (mRem M) (mErA M) (mFaA M) (mTxt M) (mTyp M) (mLin M) (mLnd M) thr0_95 (mFar M) (mGrp M) (mSiz M) (mPla M) (mWro M) (mTol M) (mNum M))) H → va_D A (mcells C b (mkM (mNow M) (mBef M) (mSav M) (mHis M) (mIsS M) (mRem M) (mErA M) (mFaA M) (mTxt M) (mTyp M) (mLin M) (mLnd M) thr0_95 (mFar M) (mGrp M) (mSiz M) (mPla M) (mWro M) (mTol M) (mNum M))) → va_S A s.heap H locs → lv_has ls 5 [] → W p l e ({ frames := 4, cells := 0, slots := 0, locals := 86 } : Room) s m ([.ref (b 0)] : List Value).toArray below meth c H locs 0 0 (MQ below (rwO (some (.int z.1)) D (mcells C b (mkM (mNow M) (mBef M) (mSav M) (mHis M) (mIsS M) (mRem M) (mErA M) (mFaA M) (mTxt M) (mTyp M) (mLin M) (mLnd M) z.2 (mFar M) (mGrp M) (mSiz M) (mPla M) (mWro M) (mTol M) (mNum M))) A) ([.ref (b 0)] : List Value).toArray s 0 0 A) (F0 m 95 ls [.int s0_95]) := by
    intro s0_95 thr0_95 H locs ls hz  hP hD hS hl
    have hz : z = (s0_95, thr0_95) := hz
    rw [hz]
    exact rw_ret hx hb hr hP hS rfl dX8_cheapestFreeSite_95 hlocks
  have J84 : ∀ (v1_84 : Int32) (s0_84 : Bool)  (H : Heap) (locs : List Loc) (ls : Array Slot), z = f_X8_cheapestFreeSite_j84 v1_84 s0_84 → va_P D vwCl (mcells C b M) H → va_D A (mcells C b M) → va_S A s.heap H locs → lv_has ls 5 [(1, .int v1_84)] → W p l e ({ frames := 4, cells := 0, slots := 0, locals := 86 } : Room) s m ([.ref (b 0)] : List Value).toArray below meth c H locs 0 0 (MQ below (rwO (some (.int z.1)) D (mcells C b (mkM (mNow M) (mBef M) (mSav M) (mHis M) (mIsS M) (mRem M) (mErA M) (mFaA M) (mTxt M) (mTyp M) (mLin M) (mLnd M) z.2 (mFar M) (mGrp M) (mSiz M) (mPla M) (mWro M) (mTol M) (mNum M))) A) ([.ref (b 0)] : List Value).toArray s 0 0 A) (F0 m 84 ls [.int (bI s0_84), .ref (b 0)]) := by
    intro v1_84 s0_84 H locs ls hz  hP hD hS hl
    have hFc := va_free (wc := (mcells C b M)) hD hS hA [0, 1, 2, 3, 4, 5, 6, 7, 8, 9] rfl
    refine callRw (va_runV (As := [.int (bI s0_84)]) (rest := []) ⟨hx, hb, hml, hown, hts⟩ (c_X8_goes_ l D C b M (s0_84) _) (cwV 1 hts gX8_cheapestFreeSite_X8_goes rfl rfl rfl (by decide +kernel) ⟨Nat.le_of_ble_eq_true rfl, Nat.le_of_ble_eq_true rfl⟩) (rwP_v hP hK hE hD (va_recv hK hP (ci := 9) (q0 := 0) rfl rfl)) rfl rfl hl.1 rfl (lv_room (Nat.le_of_ble_eq_true rfl)) dX8_cheapestFreeSite_84 ⟨Nat.le_refl _, Nat.le_refl _⟩) hS hFc (fun H1 locs hPn hk hS => ?_)
    have hP : va_P D vwCl (mcells C b (mkM (mNow M) (mBef M) (mSav M) (mHis M) (mIsS M) (mRem M) (mErA M) (mFaA M) (mTxt M) (mTyp M) (mLin M) (mLnd M) (gThr s0_84) (mFar M) (mGrp M) (mSiz M) (mPla M) (mWro M) (mTol M) (mNum M))) H1 := hPn
    have hD : va_D A (mcells C b (mkM (mNow M) (mBef M) (mSav M) (mHis M) (mIsS M) (mRem M) (mErA M) (mFaA M) (mTxt M) (mTyp M) (mLin M) (mLnd M) (gThr s0_84) (mFar M) (mGrp M) (mSiz M) (mPla M) (mWro M) (mTol M) (mNum M))) := adr_D hD rfl
    generalize H1 = H at hP hS ⊢
    refine topI (y := (bI s0_84)) rfl ?_
    refine bif_eq (tgt := 94) hx hb dX8_cheapestFreeSite_87 (by decide) (fun c_87 => ?_) (fun c_87 => ?_)
    · have hz := hz.trans (ifB_f c_87)
      refine lv_iconst (v := 0) hx hb dX8_cheapestFreeSite_94 (by decide) ?_
      exact J95 (0) ((gThr s0_84)) _ _ ls hz  hP hD hS (lv_sub hl [] rfl)
    · have hz := hz.trans (ifB_t c_87)
      refine lv_iload_n hx hb dX8_cheapestFreeSite_90 rfl (lv_at hl 0 rfl) ?_
      refine lv_goto (tgt := 95) hx hb dX8_cheapestFreeSite_91 (by decide) ?_
      exact J95 (v1_84) ((gThr s0_84)) _ _ ls hz  hP hD hS (lv_sub hl [] rfl)
  have J7 : ∀ (n7 k7 : Nat) (v1_7 : Int32) (v2_7 : Int32) (H : Heap) (locs : List Loc) (ls : Array Slot), k7 + n7 = mS (mNow M) → z = f_X8_cheapestFreeSite_l7 (mNow M) n7 k7 v1_7 v2_7 → va_P D vwCl (mcells C b M) H → va_D A (mcells C b M) → va_S A s.heap H locs → lv_has ls 5 [(0, .ref (b 0)), (1, .int v1_7), (2, .int v2_7), (3, .int (nI k7))] → W p l e ({ frames := 4, cells := 0, slots := 0, locals := 86 } : Room) s m ([.ref (b 0)] : List Value).toArray below meth c H locs 0 0 (MQ below (rwO (some (.int z.1)) D (mcells C b (mkM (mNow M) (mBef M) (mSav M) (mHis M) (mIsS M) (mRem M) (mErA M) (mFaA M) (mTxt M) (mTyp M) (mLin M) (mLnd M) z.2 (mFar M) (mGrp M) (mSiz M) (mPla M) (mWro M) (mTol M) (mNum M))) A) ([.ref (b 0)] : List Value).toArray s 0 0 A) (F0 m 7 ls []) := by
    intro n7
    induction n7 with
    | zero =>
      intro k7 v1_7 v2_7 H locs ls hk7 hz  hP hD hS hl
      have hz : z = f_X8_cheapestFreeSite_l7x (mNow M) v1_7 v2_7 := hz
      refine lv_iload_n hx hb dX8_cheapestFreeSite_7 rfl (lv_at hl 3 rfl) ?_
      refine lv_aload_n hx hb dX8_cheapestFreeSite_8 rfl (lv_at hl 0 rfl) ?_
      refine va_get (D := D) (ci := 9) (v := .ref (b 1)) (C := RX8) (T := TX8) (N := 20) hx hb hts hinX8 hown hK hP 0 rfl rfl 0 (by decide) (hts (.fieldLink RX8 9 "BridgeAuctionModel" "now" "[I") (by decide +kernel)) (fun _ h9 => h9) rfl dX8_cheapestFreeSite_9 ?_
      refine lv_iconst (v := 2) hx hb dX8_cheapestFreeSite_12 (by decide) ?_
      refine topN (k := 2) (by decide +kernel) ?_
      refine ialdN (tys := tyA C) hx hb hK hP 1 0 rfl rfl (i := 2) (by omega) (by decide) dX8_cheapestFreeSite_13 ?_
      refine topN (k := mS (mNow M)) (by first | exact hS2 | exact hP2) ?_
      refine lv_icmp_ge (tgt := 73) hx hb dX8_cheapestFreeSite_14 (by decide) (fun c_14 => ?_) (fun c_14 => absurd (nI_le (by omega) (by omega)) c_14)
      refine lv_aload_n hx hb dX8_cheapestFreeSite_73 rfl (lv_at hl 0 rfl) ?_
      refine lv_iload_n hx hb dX8_cheapestFreeSite_74 rfl (lv_at hl 1 rfl) ?_
      refine lv_iconst (v := (-1)) hx hb dX8_cheapestFreeSite_75 (by decide) ?_
      refine lv_icmp_eq (tgt := 83) hx hb dX8_cheapestFreeSite_76 (by decide) (fun c_76 => ?_) (fun c_76 => ?_)
      · have hz := hz.trans (if_pos c_76)
        refine lv_iconst (v := 0) hx hb dX8_cheapestFreeSite_83 (by decide) ?_
        exact J84 (v1_7) (false) _ _ ls hz  hP hD hS (lv_sub hl [1] rfl)
      · have hz := hz.trans (if_neg c_76)
        refine lv_iconst (v := 1) hx hb dX8_cheapestFreeSite_79 (by decide) ?_
        refine lv_goto (tgt := 84) hx hb dX8_cheapestFreeSite_80 (by decide) ?_
        exact J84 (v1_7) (true) _ _ ls hz  hP hD hS (lv_sub hl [1] rfl)
    | succ n7 ih7 =>
      intro k7 v1_7 v2_7 H locs ls hk7 hz7  hP hD hS hl
      obtain ⟨z7, hz⟩ : ∃ zz_, zz_ = f_X8_cheapestFreeSite_l7b (mNow M) k7 v1_7 v2_7 := ⟨_, rfl⟩
      have hq7 : z = sE id (fun q_ => lpF (f_X8_cheapestFreeSite_l7s (mNow M)) (f_X8_cheapestFreeSite_l7e (mNow M)) n7 (k7 + 1) q_) z7 := by rw [hz7, hz]; rfl
      have J66 : ∀ (v1_66 : Int32) (s0_66 : Int32)  (H : Heap) (locs : List Loc) (ls : Array Slot), z7 = f_X8_cheapestFreeSite_j66 v1_66 s0_66 → va_P D vwCl (mcells C b M) H → va_D A (mcells C b M) → va_S A s.heap H locs → lv_has ls 5 [(0, .ref (b 0)), (1, .int v1_66), (3, .int (nI k7))] → W p l e ({ frames := 4, cells := 0, slots := 0, locals := 86 } : Room) s m ([.ref (b 0)] : List Value).toArray below meth c H locs 0 0 (MQ below (rwO (some (.int z.1)) D (mcells C b (mkM (mNow M) (mBef M) (mSav M) (mHis M) (mIsS M) (mRem M) (mErA M) (mFaA M) (mTxt M) (mTyp M) (mLin M) (mLnd M) z.2 (mFar M) (mGrp M) (mSiz M) (mPla M) (mWro M) (mTol M) (mNum M))) A) ([.ref (b 0)] : List Value).toArray s 0 0 A) (F0 m 66 ls [.int s0_66]) := by
        intro v1_66 s0_66 H locs ls hz  hP hD hS hl
        refine lv_istore_n (lv' := [(2, .int s0_66), (0, .ref (b 0)), (1, .int v1_66), (3, .int (nI k7))]) hx hb dX8_cheapestFreeSite_66 rfl hl (by decide) rfl (fun ls hl => ?_)
        refine lv_iinc (v := (nI (k7 + 1))) (lv' := [(3, .int (nI (k7 + 1))), (2, .int s0_66), (0, .ref (b 0)), (1, .int v1_66)]) hx hb dX8_cheapestFreeSite_67 hl (k := 3) rfl (by exact nI_1 _) (by decide) rfl (fun ls hl => ?_)
        refine lv_goto (tgt := 7) hx hb dX8_cheapestFreeSite_70 (by decide) ?_
        exact ih7 (k7 + 1) (v1_66) (s0_66) _ _ ls (by omega) (by rw [hq7, hz]; rfl)  hP hD hS (lv_sub hl [2, 3, 1, 0] rfl)
      have J51 : ∀ (v2_51 : Int32) (v4_51 : Bool) (s0_51 : Int32)  (H : Heap) (locs : List Loc) (ls : Array Slot), z7 = f_X8_cheapestFreeSite_j51 (mNow M) k7 v2_51 v4_51 s0_51 → va_P D vwCl (mcells C b M) H → va_D A (mcells C b M) → va_S A s.heap H locs → lv_has ls 5 [(0, .ref (b 0)), (2, .int v2_51), (3, .int (nI k7)), (4, .int (bI v4_51))] → W p l e ({ frames := 4, cells := 0, slots := 0, locals := 86 } : Room) s m ([.ref (b 0)] : List Value).toArray below meth c H locs 0 0 (MQ below (rwO (some (.int z.1)) D (mcells C b (mkM (mNow M) (mBef M) (mSav M) (mHis M) (mIsS M) (mRem M) (mErA M) (mFaA M) (mTxt M) (mTyp M) (mLin M) (mLnd M) z.2 (mFar M) (mGrp M) (mSiz M) (mPla M) (mWro M) (mTol M) (mNum M))) A) ([.ref (b 0)] : List Value).toArray s 0 0 A) (F0 m 51 ls [.int s0_51]) := by
        intro v2_51 v4_51 s0_51 H locs ls hz  hP hD hS hl
        refine lv_istore_n (lv' := [(1, .int s0_51), (0, .ref (b 0)), (2, .int v2_51), (3, .int (nI k7)), (4, .int (bI v4_51))]) hx hb dX8_cheapestFreeSite_51 rfl hl (by decide) rfl (fun ls hl => ?_)
        refine lv_iload hx hb dX8_cheapestFreeSite_52 (lv_at hl 4 rfl) ?_
        refine bif_eq (tgt := 65) hx hb dX8_cheapestFreeSite_54 (by decide) (fun c_54 => ?_) (fun c_54 => ?_)
        · have hz := hz.trans (ifB_f c_54)
          refine lv_iload_n hx hb dX8_cheapestFreeSite_65 rfl (lv_at hl 2 rfl) ?_
          exact J66 (s0_51) (v2_51) _ _ ls hz  hP hD hS (lv_sub hl [1, 0, 3] rfl)
        · have hz := hz.trans (ifB_t c_54)
          refine lv_aload_n hx hb dX8_cheapestFreeSite_57 rfl (lv_at hl 1 rfl) ?_
          refine lv_iload_n hx hb dX8_cheapestFreeSite_58 rfl (lv_at hl 3 rfl) ?_
          refine callRo (va_runV (As := [.int (nI k7)]) (rest := []) ⟨hx, hb, hml, hown, hts⟩ (c_X8_costOf l D C b M ((nI k7)) hM) (cwV 1 hts gX8_cheapestFreeSite_X8_costOf rfl rfl rfl (by decide +kernel) ⟨Nat.le_of_ble_eq_true rfl, Nat.le_of_ble_eq_true rfl⟩) (roP_v hP hK hE (va_recv hK hP (ci := 9) (q0 := 0) rfl rfl)) rfl rfl hl.1 rfl (lv_room (Nat.le_of_ble_eq_true rfl)) dX8_cheapestFreeSite_59 ⟨Nat.le_refl _, Nat.le_refl _⟩) ?_
          refine lv_goto (tgt := 66) hx hb dX8_cheapestFreeSite_62 (by decide) ?_
          exact J66 (s0_51) ((f_X8_costOf (mNow M) ((nI k7)))) _ _ ls hz  hP hD hS (lv_sub hl [1, 0, 3] rfl)
      have J39 : ∀ (v1_39 : Int32) (v2_39 : Int32) (s0_39 : Bool)  (H : Heap) (locs : List Loc) (ls : Array Slot), z7 = f_X8_cheapestFreeSite_j39 (mNow M) k7 v1_39 v2_39 s0_39 → va_P D vwCl (mcells C b M) H → va_D A (mcells C b M) → va_S A s.heap H locs → lv_has ls 5 [(0, .ref (b 0)), (1, .int v1_39), (2, .int v2_39), (3, .int (nI k7))] → W p l e ({ frames := 4, cells := 0, slots := 0, locals := 86 } : Room) s m ([.ref (b 0)] : List Value).toArray below meth c H locs 0 0 (MQ below (rwO (some (.int z.1)) D (mcells C b (mkM (mNow M) (mBef M) (mSav M) (mHis M) (mIsS M) (mRem M) (mErA M) (mFaA M) (mTxt M) (mTyp M) (mLin M) (mLnd M) z.2 (mFar M) (mGrp M) (mSiz M) (mPla M) (mWro M) (mTol M) (mNum M))) A) ([.ref (b 0)] : List Value).toArray s 0 0 A) (F0 m 39 ls [.int (bI s0_39)]) := by
        intro v1_39 v2_39 s0_39 H locs ls hz  hP hD hS hl
        refine lv_istore (lv' := [(4, .int (bI s0_39)), (0, .ref (b 0)), (1, .int v1_39), (2, .int v2_39), (3, .int (nI k7))]) hx hb dX8_cheapestFreeSite_39 hl (by decide) rfl (fun ls hl => ?_)
        refine lv_iload hx hb dX8_cheapestFreeSite_41 (lv_at hl 0 rfl) ?_
        refine bif_eq (tgt := 50) hx hb dX8_cheapestFreeSite_43 (by decide) (fun c_43 => ?_) (fun c_43 => ?_)
        · have hz := hz.trans (ifB_f c_43)
          refine lv_iload_n hx hb dX8_cheapestFreeSite_50 rfl (lv_at hl 2 rfl) ?_
          exact J51 (v2_39) (s0_39) (v1_39) _ _ ls hz  hP hD hS (lv_sub hl [1, 3, 4, 0] rfl)
        · have hz := hz.trans (ifB_t c_43)
          refine lv_iload_n hx hb dX8_cheapestFreeSite_46 rfl (lv_at hl 4 rfl) ?_
          refine lv_goto (tgt := 51) hx hb dX8_cheapestFreeSite_47 (by decide) ?_
          exact J51 (v2_39) (s0_39) ((nI k7)) _ _ ls hz  hP hD hS (lv_sub hl [1, 3, 4, 0] rfl)
      have J38 : ∀ (v1_38 : Int32) (v2_38 : Int32)  (H : Heap) (locs : List Loc) (ls : Array Slot), z7 = f_X8_cheapestFreeSite_j38 (mNow M) k7 v1_38 v2_38 → va_P D vwCl (mcells C b M) H → va_D A (mcells C b M) → va_S A s.heap H locs → lv_has ls 5 [(0, .ref (b 0)), (1, .int v1_38), (2, .int v2_38), (3, .int (nI k7))] → W p l e ({ frames := 4, cells := 0, slots := 0, locals := 86 } : Room) s m ([.ref (b 0)] : List Value).toArray below meth c H locs 0 0 (MQ below (rwO (some (.int z.1)) D (mcells C b (mkM (mNow M) (mBef M) (mSav M) (mHis M) (mIsS M) (mRem M) (mErA M) (mFaA M) (mTxt M) (mTyp M) (mLin M) (mLnd M) z.2 (mFar M) (mGrp M) (mSiz M) (mPla M) (mWro M) (mTol M) (mNum M))) A) ([.ref (b 0)] : List Value).toArray s 0 0 A) (F0 m 38 ls []) := by
        intro v1_38 v2_38 H locs ls hz  hP hD hS hl
        refine lv_iconst (v := 0) hx hb dX8_cheapestFreeSite_38 (by decide) ?_
        exact J39 (v1_38) (v2_38) (false) _ _ ls hz  hP hD hS (lv_sub hl [0, 1, 2, 3] rfl)
      refine lv_iload_n hx hb dX8_cheapestFreeSite_7 rfl (lv_at hl 3 rfl) ?_
      refine lv_aload_n hx hb dX8_cheapestFreeSite_8 rfl (lv_at hl 0 rfl) ?_
      refine va_get (D := D) (ci := 9) (v := .ref (b 1)) (C := RX8) (T := TX8) (N := 20) hx hb hts hinX8 hown hK hP 0 rfl rfl 0 (by decide) (hts (.fieldLink RX8 9 "BridgeAuctionModel" "now" "[I") (by decide +kernel)) (fun _ h9 => h9) rfl dX8_cheapestFreeSite_9 ?_
      refine lv_iconst (v := 2) hx hb dX8_cheapestFreeSite_12 (by decide) ?_
      refine topN (k := 2) (by decide +kernel) ?_
      refine ialdN (tys := tyA C) hx hb hK hP 1 0 rfl rfl (i := 2) (by omega) (by decide) dX8_cheapestFreeSite_13 ?_
      refine topN (k := mS (mNow M)) (by first | exact hS2 | exact hP2) ?_
      refine lv_icmp_ge (tgt := 73) hx hb dX8_cheapestFreeSite_14 (by decide) (fun c_14 => absurd c_14 (nI_ge (by omega) (by omega))) (fun c_14 => ?_)
      refine lv_aload_n hx hb dX8_cheapestFreeSite_17 rfl (lv_at hl 0 rfl) ?_
      refine lv_iload_n hx hb dX8_cheapestFreeSite_18 rfl (lv_at hl 3 rfl) ?_
      refine callRo (va_runV (As := [.int (nI k7)]) (rest := []) ⟨hx, hb, hml, hown, hts⟩ (c_X8_isDone l D C b M ((nI k7)) hM) (cwV 1 hts gX8_cheapestFreeSite_X8_isDone rfl rfl rfl (by decide +kernel) ⟨Nat.le_of_ble_eq_true rfl, Nat.le_of_ble_eq_true rfl⟩) (roP_v hP hK hE (va_recv hK hP (ci := 9) (q0 := 0) rfl rfl)) rfl rfl hl.1 rfl (lv_room (Nat.le_of_ble_eq_true rfl)) dX8_cheapestFreeSite_19 ⟨Nat.le_refl _, Nat.le_refl _⟩) ?_
      refine bif_ne (tgt := 38) hx hb dX8_cheapestFreeSite_22 (by decide) (fun c_22 => ?_) (fun c_22 => ?_)
      · have hz := hz.trans (ifB_t c_22)
        exact J38 (v1_7) (v2_7) _ _ ls hz  hP hD hS (lv_sub hl [0, 1, 2, 3] rfl)
      · have hz := hz.trans (ifB_f c_22)
        refine lv_aload_n hx hb dX8_cheapestFreeSite_25 rfl (lv_at hl 0 rfl) ?_
        refine lv_iload_n hx hb dX8_cheapestFreeSite_26 rfl (lv_at hl 3 rfl) ?_
        refine callRo (va_runV (As := [.int (nI k7)]) (rest := []) ⟨hx, hb, hml, hown, hts⟩ (c_X8_costOf l D C b M ((nI k7)) hM) (cwV 1 hts gX8_cheapestFreeSite_X8_costOf rfl rfl rfl (by decide +kernel) ⟨Nat.le_of_ble_eq_true rfl, Nat.le_of_ble_eq_true rfl⟩) (roP_v hP hK hE (va_recv hK hP (ci := 9) (q0 := 0) rfl rfl)) rfl rfl hl.1 rfl (lv_room (Nat.le_of_ble_eq_true rfl)) dX8_cheapestFreeSite_27 ⟨Nat.le_refl _, Nat.le_refl _⟩) ?_
        refine lv_iload_n hx hb dX8_cheapestFreeSite_30 rfl (lv_at hl 2 rfl) ?_
        refine lv_icmp_ge (tgt := 38) hx hb dX8_cheapestFreeSite_31 (by decide) (fun c_31 => ?_) (fun c_31 => ?_)
        · have hz := hz.trans (if_pos c_31)
          exact J38 (v1_7) (v2_7) _ _ ls hz  hP hD hS (lv_sub hl [0, 1, 2, 3] rfl)
        · have hz := hz.trans (if_neg c_31)
          refine lv_iconst (v := 1) hx hb dX8_cheapestFreeSite_34 (by decide) ?_
          refine lv_goto (tgt := 39) hx hb dX8_cheapestFreeSite_35 (by decide) ?_
          exact J39 (v1_7) (v2_7) (true) _ _ ls hz  hP hD hS (lv_sub hl [0, 1, 2, 3] rfl)
  refine lv_iconst (v := (-1)) hx hb dX8_cheapestFreeSite_0 (by decide) ?_
  refine lv_istore_n (lv' := [(1, .int (-1)), (0, .ref (b 0))]) hx hb dX8_cheapestFreeSite_1 rfl hl (by decide) rfl (fun ls hl => ?_)
  refine lv_ldc (v := 1000000) hx hb hown (hts (.constant RX8 171 (1000000)) (by decide +kernel)) dX8_cheapestFreeSite_2 ?_
  refine lv_istore_n (lv' := [(2, .int 1000000), (1, .int (-1)), (0, .ref (b 0))]) hx hb dX8_cheapestFreeSite_4 rfl hl (by decide) rfl (fun ls hl => ?_)
  refine lv_iconst (v := 0) hx hb dX8_cheapestFreeSite_5 (by decide) ?_
  refine lv_istore_n (lv' := [(3, .int 0), (2, .int 1000000), (1, .int (-1)), (0, .ref (b 0))]) hx hb dX8_cheapestFreeSite_6 rfl hl (by decide) rfl (fun ls hl => ?_)
  exact J7 (mS (mNow M)) 0 ((-1)) (1000000) _ _ ls (by omega) hz  hP hD hS (lv_sub hl [3, 2, 1, 0] rfl)

