def f_X8_suit_j24  (s0_24 : Int32) (thr0_24 : Int32) : Int32 × Int32 := (s0_24, thr0_24)
def f_X8_suit (nw : (Nat → Int32)) (x : Int32) : Int32 × Int32 := (if (f_X8_isIsland (x)) = true then (f_X8_suit_j24 ((nw (6 + x.toNatClampNeg))) ((gThr (f_X8_isIsland (x))))) else (f_X8_suit_j24 (0) ((gThr (f_X8_isIsland (x))))))
set_option maxHeartbeats 4000000 in
set_option maxRecDepth 100000 in
theorem c_X8_suit (l : Launch) (D : va_G) (C : Nat → ClassId) (b : Nat → Nat) (M : MS) (x : Int32) (sz : Nat) (hM : MSafe M) : Met l yX8_suit wsX8_suit ({ frames := 2, cells := 0, slots := 0, locals := 45 } : Room) (rwP [.ref (b 0), .int x] D C (mcells C b M) sz) (rwO (some (.int ((f_X8_suit (mNow M) x).1))) D (mcells C b (mkM (mNow M) (mBef M) (mSav M) (mHis M) (mIsS M) (mRem M) (mErA M) (mFaA M) (mTxt M) (mTyp M) (mLin M) (mLnd M) ((f_X8_suit (mNow M) x).2) (mFar M) (mGrp M) (mSiz M) (mPla M) (mWro M) (mTol M) (mNum M))) (va_A (mcells C b M) sz)) 0 0 (va_A (mcells C b M) sz) := by
  refine Met.ofW (cc := cX8_suit) (maxL := 2) (ret := (some .int)) (by decide) rfl ?_
  intro p e s m args below meth c s₁ B hml hv
  obtain ⟨rfl, hsz, hP, hK, hD0, hE⟩ := hv
  have hx := B.exec
  have hb := B.bytes
  have hr := B.returns
  have hts := atoms_spec (ws := wsX8_suit) B.pre
  have hown : s.vm.findClass RX8 = some m.cls := findClass_of_methodNamed B.named
  have hlocks := B.notSynchronized
  subst hsz
  have hD := hD0.self (sz := s.heap.size)
  generalize hAe : va_A (mcells C b M) s.heap.size = A at hD ⊢
  have hA : ∀ q : Nat, s.heap.size ≤ q → A q := fun q h => by rw [← hAe]; exact Or.inr h
  have hS0 : va_S A s.heap s.heap [] := va_S.rf
  have hP : va_P D vwCl (mcells C b M) s.heap := hP
  have hS := hS0
  obtain ⟨⟨hS2, hS12⟩, ⟨hP2, hP4⟩, hLH, hFE⟩ := id hM
  have hinX8 : ∀ w ∈ u_ws RX8 TX8 20, w ∈ wsX8_suit := by decide +kernel
  have hl := lv_entry ([.ref (b 0), .int x]) (n := 2) (Nat.le_of_ble_eq_true rfl)
  rw [lg_entry_eq]
  generalize (lg_sl ([.ref (b 0), .int x]) ++ List.replicate (2 - (lg_sl ([.ref (b 0), .int x])).length) Slot.unset).toArray = ls at hl ⊢
  have hl : lv_has ls 2 [(0, .ref (b 0)), (1, .int x)] := hl
  obtain ⟨z, hz⟩ : ∃ z, z = f_X8_suit (mNow M) x := ⟨_, rfl⟩
  rw [← hz]
  have J24 : ∀ (s0_24 : Int32) (thr0_24 : Int32)  (H : Heap) (locs : List Loc) (ls : Array Slot), z = f_X8_suit_j24 s0_24 thr0_24 → va_P D vwCl (mcells C b (mkM (mNow M) (mBef M) (mSav M) (mHis M) (mIsS M) (mRem M) (mErA M) (mFaA M) (mTxt M) (mTyp M) (mLin M) (mLnd M) thr0_24 (mFar M) (mGrp M) (mSiz M) (mPla M) (mWro M) (mTol M) (mNum M))) H → va_D A (mcells C b (mkM (mNow M) (mBef M) (mSav M) (mHis M) (mIsS M) (mRem M) (mErA M) (mFaA M) (mTxt M) (mTyp M) (mLin M) (mLnd M) thr0_24 (mFar M) (mGrp M) (mSiz M) (mPla M) (mWro M) (mTol M) (mNum M))) → va_S A s.heap H locs → lv_has ls 2 [] → W p l e ({ frames := 2, cells := 0, slots := 0, locals := 45 } : Room) s m ([.ref (b 0), .int x] : List Value).toArray below meth c H locs 0 0 (MQ below (rwO (some (.int z.1)) D (mcells C b (mkM (mNow M) (mBef M) (mSav M) (mHis M) (mIsS M) (mRem M) (mErA M) (mFaA M) (mTxt M) (mTyp M) (mLin M) (mLnd M) z.2 (mFar M) (mGrp M) (mSiz M) (mPla M) (mWro M) (mTol M) (mNum M))) A) ([.ref (b 0), .int x] : List Value).toArray s 0 0 A) (F0 m 24 ls [.int s0_24]) := by
    intro s0_24 thr0_24 H locs ls hz  hP hD hS hl
    have hz : z = (s0_24, thr0_24) := hz
    rw [hz]
    exact rw_ret hx hb hr hP hS rfl dX8_suit_24 hlocks
  refine lv_aload_n hx hb dX8_suit_0 rfl (lv_at hl 0 rfl) ?_
  refine lv_iload_n hx hb dX8_suit_1 rfl (lv_at hl 1 rfl) ?_
  refine callRo (va_runS (As := [.int x]) (rest := [.ref (b 0)]) ⟨hx, hb, hml, hown, hts⟩ (c_X8_isIsland l D C (x)) (va_cwS 1 hts gX8_suit_X8_isIsland rfl rfl rfl (by decide +kernel) ⟨Nat.le_of_ble_eq_true rfl, Nat.le_of_ble_eq_true rfl⟩) (roP_s (hP.sub (ws' := ([] : va_W)) [] rfl) hK hE) rfl rfl hl.1 rfl (lv_room (Nat.le_of_ble_eq_true rfl)) dX8_suit_2 ⟨Nat.le_refl _, Nat.le_refl _⟩) ?_
  have hFc := va_free (wc := (mcells C b M)) hD hS hA [0, 1, 2, 3, 4, 5, 6, 7, 8, 9] rfl
  refine callRw (va_runV (As := [.int (bI (f_X8_isIsland (x)))]) (rest := []) ⟨hx, hb, hml, hown, hts⟩ (c_X8_goes_ l D C b M ((f_X8_isIsland (x))) _) (cwV 1 hts gX8_suit_X8_goes rfl rfl rfl (by decide +kernel) ⟨Nat.le_of_ble_eq_true rfl, Nat.le_of_ble_eq_true rfl⟩) (rwP_v hP hK hE hD (va_recv hK hP (ci := 9) (q0 := 0) rfl rfl)) rfl rfl hl.1 rfl (lv_room (Nat.le_of_ble_eq_true rfl)) dX8_suit_5 ⟨Nat.le_refl _, Nat.le_refl _⟩) hS hFc (fun H1 locs hPn hk hS => ?_)
  have hP : va_P D vwCl (mcells C b (mkM (mNow M) (mBef M) (mSav M) (mHis M) (mIsS M) (mRem M) (mErA M) (mFaA M) (mTxt M) (mTyp M) (mLin M) (mLnd M) (gThr (f_X8_isIsland (x))) (mFar M) (mGrp M) (mSiz M) (mPla M) (mWro M) (mTol M) (mNum M))) H1 := hPn
  have hD : va_D A (mcells C b (mkM (mNow M) (mBef M) (mSav M) (mHis M) (mIsS M) (mRem M) (mErA M) (mFaA M) (mTxt M) (mTyp M) (mLin M) (mLnd M) (gThr (f_X8_isIsland (x))) (mFar M) (mGrp M) (mSiz M) (mPla M) (mWro M) (mTol M) (mNum M))) := adr_D hD rfl
  generalize H1 = H at hP hS ⊢
  refine topI (y := (bI (f_X8_isIsland (x)))) rfl ?_
  refine bif_eq (tgt := 23) hx hb dX8_suit_8 (by decide) (fun c_8 => ?_) (fun c_8 => ?_)
  · have hz := hz.trans (ifB_f c_8)
    refine lv_iconst (v := 0) hx hb dX8_suit_23 (by decide) ?_
    exact J24 (0) ((gThr (f_X8_isIsland (x)))) _ _ ls hz  hP hD hS (lv_sub hl [] rfl)
  · have hz := hz.trans (ifB_t c_8)
    have hi := X8_isIsland_in c_8
    have ex := (nat_of hi (by decide)).1
    have lx := (nat_of hi (by decide)).2
    refine lv_aload_n hx hb dX8_suit_11 rfl (lv_at hl 0 rfl) ?_
    refine va_get (D := D) (ci := 9) (v := .ref (b 1)) (C := RX8) (T := TX8) (N := 20) hx hb hts hinX8 hown hK hP 0 rfl rfl 0 (by decide) (hts (.fieldLink RX8 9 "BridgeAuctionModel" "now" "[I") (by decide +kernel)) (fun _ h9 => h9) rfl dX8_suit_12 ?_
    refine lv_bipush (v := 6) hx hb dX8_suit_15 (by decide +kernel) ?_
    refine lv_iload_n hx hb dX8_suit_17 rfl (lv_at hl 1 rfl) ?_
    refine topN (k := x.toNatClampNeg) (show x = (nI x.toNatClampNeg) from by exact ex) ?_
    refine topN2 (k := 6) (by decide +kernel) ?_
    refine addN hx hb dX8_suit_18 ?_
    refine ialdN (tys := tyA C) hx hb hK hP 1 0 rfl rfl (i := (6 + x.toNatClampNeg)) (by omega) (by decide) dX8_suit_19 ?_
    refine lv_goto (tgt := 24) hx hb dX8_suit_20 (by decide) ?_
    exact J24 (((mNow M) (6 + x.toNatClampNeg))) ((gThr (f_X8_isIsland (x)))) _ _ ls hz  hP hD hS (lv_sub hl [] rfl)

