def f_X8_drops_j53 (nw : (Nat → Int32)) (x : Int32) (y : Int32) (v3_53 : Int32) (s0_53 : Bool) (s1_53 : Bool) (s2_53 : Bool) : Int32 × (Nat → Int32) × Int32 := (if (hOk s2_53 s1_53 s0_53 true) = true then (v3_53, (upd (upd nw (((22 + 13 * y.toNatClampNeg) + 5) + x.toNatClampNeg) 0) (((22 + 13 * y.toNatClampNeg) + 9) + x.toNatClampNeg) 0), (hThr s2_53 s1_53 s0_53 true)) else (0, nw, (hThr s2_53 s1_53 s0_53 true)))
def f_X8_drops_j38 (nw : (Nat → Int32)) (x : Int32) (y : Int32) (v3_38 : Int32) (s0_38 : Bool) (s1_38 : Bool) : Int32 × (Nat → Int32) × Int32 := (if (f_X8_of nw (y) (4)) = x then (f_X8_drops_j53 nw x y (v3_38) (false) (s0_38) (s1_38)) else (f_X8_drops_j53 nw x y (v3_38) (true) (s0_38) (s1_38)))
def f_X8_drops_j29 (nw : (Nat → Int32)) (x : Int32) (y : Int32) (v3_29 : Int32) (s0_29 : Bool) : Int32 × (Nat → Int32) × Int32 := (if v3_29 ≤ 0 then (f_X8_drops_j38 nw x y (v3_29) (false) (s0_29)) else (f_X8_drops_j38 nw x y (v3_29) (true) (s0_29)))
def f_X8_drops_j28 (nw : (Nat → Int32)) (x : Int32) (y : Int32) (v3_28 : Int32) : Int32 × (Nat → Int32) × Int32 := (f_X8_drops_j29 nw x y (v3_28) (false))
def f_X8_drops (nw : (Nat → Int32)) (x : Int32) (y : Int32) : Int32 × (Nat → Int32) × Int32 := (if (f_X8_isPlayer nw (x)) = true then (if (f_X8_isSite nw (y)) = true then (f_X8_drops_j29 nw x y ((f_X8_amountOf nw (x) (y))) (true)) else (f_X8_drops_j28 nw x y ((f_X8_amountOf nw (x) (y))))) else (f_X8_drops_j28 nw x y ((f_X8_amountOf nw (x) (y)))))
set_option maxHeartbeats 4000000 in
set_option maxRecDepth 100000 in
theorem c_X8_drops (l : Launch) (D : va_G) (C : Nat → ClassId) (b : Nat → Nat) (M : MS) (x : Int32) (y : Int32) (sz : Nat) (hM : MSafe M) : Met l yX8_drops wsX8_drops ({ frames := 4, cells := 0, slots := 0, locals := 87 } : Room) (rwP [.ref (b 0), .int x, .int y] D C (mcells C b M) sz) (rwO (some (.int ((f_X8_drops (mNow M) x y).1))) D (mcells C b (mkM ((f_X8_drops (mNow M) x y).2.1) (mBef M) (mSav M) (mHis M) (mIsS M) (mRem M) (mErA M) (mFaA M) (mTxt M) (mTyp M) (mLin M) (mLnd M) ((f_X8_drops (mNow M) x y).2.2) (mFar M) (mGrp M) (mSiz M) (mPla M) (mWro M) (mTol M) (mNum M))) (va_A (mcells C b M) sz)) 0 0 (va_A (mcells C b M) sz) := by
  refine Met.ofW (cc := cX8_drops) (maxL := 4) (ret := (some .int)) (by decide) rfl ?_
  intro p e s m args below meth c s₁ B hml hv
  obtain ⟨rfl, hsz, hP, hK, hD0, hE⟩ := hv
  have hx := B.exec
  have hb := B.bytes
  have hr := B.returns
  have hts := atoms_spec (ws := wsX8_drops) B.pre
  have hown : s.vm.findClass RX8 = some m.cls := findClass_of_methodNamed B.named
  have hlocks := B.notSynchronized
  subst hsz
  have hD := hD0.self (sz := s.heap.size)
  generalize hAe : va_A (mcells C b M) s.heap.size = A at hD ⊢
  have hA : ∀ q : Nat, s.heap.size ≤ q → A q := fun q h => by rw [← hAe]; exact Or.inr h
  have hS0 : va_S A s.heap s.heap [] := va_S.rf
  have hP : va_P D vwCl (mcells C b M) s.heap := hP
  have hS := hS0
  obtain ⟨⟨hS2, hS12⟩, ⟨hP2, hP4⟩, hLH, hFE⟩ := id hM
  have hinX8 : ∀ w ∈ u_ws RX8 TX8 20, w ∈ wsX8_drops := by decide +kernel
  have hl := lv_entry ([.ref (b 0), .int x, .int y]) (n := 4) (Nat.le_of_ble_eq_true rfl)
  rw [lg_entry_eq]
  generalize (lg_sl ([.ref (b 0), .int x, .int y]) ++ List.replicate (4 - (lg_sl ([.ref (b 0), .int x, .int y])).length) Slot.unset).toArray = ls at hl ⊢
  have hl : lv_has ls 4 [(0, .ref (b 0)), (1, .int x), (2, .int y)] := hl
  obtain ⟨z, hz⟩ : ∃ z, z = f_X8_drops (mNow M) x y := ⟨_, rfl⟩
  rw [← hz]
  have J53 : ∀ (v3_53 : Int32) (s0_53 : Bool) (s1_53 : Bool) (s2_53 : Bool)  (H : Heap) (locs : List Loc) (ls : Array Slot), z = f_X8_drops_j53 (mNow M) x y v3_53 s0_53 s1_53 s2_53 → (s2_53 = true → vp_in x (mP (mNow M)) ∧ vp_in y (mS (mNow M))) → va_P D vwCl (mcells C b M) H → va_D A (mcells C b M) → va_S A s.heap H locs → lv_has ls 4 [(0, .ref (b 0)), (1, .int x), (2, .int y), (3, .int v3_53)] → W p l e ({ frames := 4, cells := 0, slots := 0, locals := 87 } : Room) s m ([.ref (b 0), .int x, .int y] : List Value).toArray below meth c H locs 0 0 (MQ below (rwO (some (.int z.1)) D (mcells C b (mkM z.2.1 (mBef M) (mSav M) (mHis M) (mIsS M) (mRem M) (mErA M) (mFaA M) (mTxt M) (mTyp M) (mLin M) (mLnd M) z.2.2 (mFar M) (mGrp M) (mSiz M) (mPla M) (mWro M) (mTol M) (mNum M))) A) ([.ref (b 0), .int x, .int y] : List Value).toArray s 0 0 A) (F0 m 53 ls [.int (bI s0_53), .int (bI s1_53), .int (bI s2_53), .ref (b 0)]) := by
    intro v3_53 s0_53 s1_53 s2_53 H locs ls hz iv53_0 hP hD hS hl
    refine lv_iconst (v := 1) hx hb dX8_drops_53 (by decide) ?_
    have hFc := va_free (wc := (mcells C b M)) hD hS hA [0, 1, 2, 3, 4, 5, 6, 7, 8, 9] rfl
    refine callRw (va_runV (As := [.int (bI s2_53), .int (bI s1_53), .int (bI s0_53), .int (bI true)]) (rest := []) ⟨hx, hb, hml, hown, hts⟩ (c_X8_holds_ l D C b M (s2_53) (s1_53) (s0_53) (true) _) (cwV 4 hts gX8_drops_X8_holds rfl rfl rfl (by decide +kernel) ⟨Nat.le_of_ble_eq_true rfl, Nat.le_of_ble_eq_true rfl⟩) (rwP_v hP hK hE hD (va_recv hK hP (ci := 9) (q0 := 0) rfl rfl)) rfl rfl hl.1 rfl (lv_room (Nat.le_of_ble_eq_true rfl)) dX8_drops_54 ⟨Nat.le_refl _, Nat.le_refl _⟩) hS hFc (fun H1 locs hPn hk hS => ?_)
    have hP : va_P D vwCl (mcells C b (mkM (mNow M) (mBef M) (mSav M) (mHis M) (mIsS M) (mRem M) (mErA M) (mFaA M) (mTxt M) (mTyp M) (mLin M) (mLnd M) (hThr s2_53 s1_53 s0_53 true) (mFar M) (mGrp M) (mSiz M) (mPla M) (mWro M) (mTol M) (mNum M))) H1 := hPn
    have hD : va_D A (mcells C b (mkM (mNow M) (mBef M) (mSav M) (mHis M) (mIsS M) (mRem M) (mErA M) (mFaA M) (mTxt M) (mTyp M) (mLin M) (mLnd M) (hThr s2_53 s1_53 s0_53 true) (mFar M) (mGrp M) (mSiz M) (mPla M) (mWro M) (mTol M) (mNum M))) := adr_D hD rfl
    generalize H1 = H at hP hS ⊢
    refine topI (y := (bI (hOk s2_53 s1_53 s0_53 true))) rfl ?_
    refine bif_ne (tgt := 62) hx hb dX8_drops_57 (by decide) (fun c_57 => ?_) (fun c_57 => ?_)
    · have hz := hz.trans (ifB_t c_57)
      have q := iv53_0 (hOk_1 c_57).1
      have hp := vp_mono q.1 hP4
      have hs := vp_mono q.2 hS12
      have ex := (nat_of hp (by decide)).1
      have lx := (nat_of hp (by decide)).2
      have ey := (nat_of hs (by decide)).1
      have ly := (nat_of hs (by decide)).2
      refine lv_aload_n hx hb dX8_drops_62 rfl (lv_at hl 0 rfl) ?_
      refine va_get (D := D) (ci := 9) (v := .ref (b 1)) (C := RX8) (T := TX8) (N := 20) hx hb hts hinX8 hown hK hP 0 rfl rfl 0 (by decide) (hts (.fieldLink RX8 9 "BridgeAuctionModel" "now" "[I") (by decide +kernel)) (fun _ h9 => h9) rfl dX8_drops_63 ?_
      refine lv_iload_n hx hb dX8_drops_66 rfl (lv_at hl 2 rfl) ?_
      obtain ⟨ehn_1, lhn_1⟩ := nat_of (x := y) (n := 12) (by first | assumption) (by omega)
      refine topN ehn_1 ?_
      refine callRo (va_runS (As := [.int (nI y.toNatClampNeg)]) (rest := [.ref (b 1)]) ⟨hx, hb, hml, hown, hts⟩ (c_X8_siteAt l D C (y.toNatClampNeg) (by omega)) (va_cwS 1 hts gX8_drops_X8_siteAt rfl rfl rfl (by decide +kernel) ⟨Nat.le_of_ble_eq_true rfl, Nat.le_of_ble_eq_true rfl⟩) (roP_s (hP.sub (ws' := ([] : va_W)) [] rfl) hK hE) rfl rfl hl.1 rfl (lv_room (Nat.le_of_ble_eq_true rfl)) dX8_drops_67 ⟨Nat.le_refl _, Nat.le_refl _⟩) ?_
      refine topN (k := (22 + 13 * y.toNatClampNeg)) rfl ?_
      refine lv_iconst (v := 5) hx hb dX8_drops_70 (by decide) ?_
      refine topN (k := 5) (by decide +kernel) ?_
      refine addN hx hb dX8_drops_71 ?_
      refine lv_iload_n hx hb dX8_drops_72 rfl (lv_at hl 1 rfl) ?_
      refine topN (k := x.toNatClampNeg) (show x = (nI x.toNatClampNeg) from by exact ex) ?_
      refine addN hx hb dX8_drops_73 ?_
      refine lv_iconst (v := 0) hx hb dX8_drops_74 (by decide) ?_
      refine iastN (tys := tyA C) hx hb hK hP hD hS 1 0 rfl rfl (i := (((22 + 13 * y.toNatClampNeg) + 5) + x.toNatClampNeg)) (by omega) (by decide) dX8_drops_75 (fun H locs hP hD hS => ?_)
      have hP : va_P D vwCl (mcells C b (mkM (upd (mNow M) (((22 + 13 * y.toNatClampNeg) + 5) + x.toNatClampNeg) 0) (mBef M) (mSav M) (mHis M) (mIsS M) (mRem M) (mErA M) (mFaA M) (mTxt M) (mTyp M) (mLin M) (mLnd M) (hThr s2_53 s1_53 s0_53 true) (mFar M) (mGrp M) (mSiz M) (mPla M) (mWro M) (mTol M) (mNum M))) H := hP
      have hD : va_D A (mcells C b (mkM (upd (mNow M) (((22 + 13 * y.toNatClampNeg) + 5) + x.toNatClampNeg) 0) (mBef M) (mSav M) (mHis M) (mIsS M) (mRem M) (mErA M) (mFaA M) (mTxt M) (mTyp M) (mLin M) (mLnd M) (hThr s2_53 s1_53 s0_53 true) (mFar M) (mGrp M) (mSiz M) (mPla M) (mWro M) (mTol M) (mNum M))) := hD
      refine lv_aload_n hx hb dX8_drops_76 rfl (lv_at hl 0 rfl) ?_
      refine va_get (D := D) (ci := 9) (v := .ref (b 1)) (C := RX8) (T := TX8) (N := 20) hx hb hts hinX8 hown hK hP 0 rfl rfl 0 (by decide) (hts (.fieldLink RX8 9 "BridgeAuctionModel" "now" "[I") (by decide +kernel)) (fun _ h9 => h9) rfl dX8_drops_77 ?_
      refine lv_iload_n hx hb dX8_drops_80 rfl (lv_at hl 2 rfl) ?_
      obtain ⟨ehn_2, lhn_2⟩ := nat_of (x := y) (n := 12) (by first | assumption) (by omega)
      refine topN ehn_2 ?_
      refine callRo (va_runS (As := [.int (nI y.toNatClampNeg)]) (rest := [.ref (b 1)]) ⟨hx, hb, hml, hown, hts⟩ (c_X8_siteAt l D C (y.toNatClampNeg) (by omega)) (va_cwS 1 hts gX8_drops_X8_siteAt rfl rfl rfl (by decide +kernel) ⟨Nat.le_of_ble_eq_true rfl, Nat.le_of_ble_eq_true rfl⟩) (roP_s (hP.sub (ws' := ([] : va_W)) [] rfl) hK hE) rfl rfl hl.1 rfl (lv_room (Nat.le_of_ble_eq_true rfl)) dX8_drops_81 ⟨Nat.le_refl _, Nat.le_refl _⟩) ?_
      refine topN (k := (22 + 13 * y.toNatClampNeg)) rfl ?_
      refine lv_bipush (v := 9) hx hb dX8_drops_84 (by decide +kernel) ?_
      refine topN (k := 9) (by decide +kernel) ?_
      refine addN hx hb dX8_drops_86 ?_
      refine lv_iload_n hx hb dX8_drops_87 rfl (lv_at hl 1 rfl) ?_
      refine topN (k := x.toNatClampNeg) (show x = (nI x.toNatClampNeg) from by exact ex) ?_
      refine addN hx hb dX8_drops_88 ?_
      refine lv_iconst (v := 0) hx hb dX8_drops_89 (by decide) ?_
      refine iastN (tys := tyA C) hx hb hK hP hD hS 1 0 rfl rfl (i := (((22 + 13 * y.toNatClampNeg) + 9) + x.toNatClampNeg)) (by omega) (by decide) dX8_drops_90 (fun H locs hP hD hS => ?_)
      have hP : va_P D vwCl (mcells C b (mkM (upd (upd (mNow M) (((22 + 13 * y.toNatClampNeg) + 5) + x.toNatClampNeg) 0) (((22 + 13 * y.toNatClampNeg) + 9) + x.toNatClampNeg) 0) (mBef M) (mSav M) (mHis M) (mIsS M) (mRem M) (mErA M) (mFaA M) (mTxt M) (mTyp M) (mLin M) (mLnd M) (hThr s2_53 s1_53 s0_53 true) (mFar M) (mGrp M) (mSiz M) (mPla M) (mWro M) (mTol M) (mNum M))) H := hP
      have hD : va_D A (mcells C b (mkM (upd (upd (mNow M) (((22 + 13 * y.toNatClampNeg) + 5) + x.toNatClampNeg) 0) (((22 + 13 * y.toNatClampNeg) + 9) + x.toNatClampNeg) 0) (mBef M) (mSav M) (mHis M) (mIsS M) (mRem M) (mErA M) (mFaA M) (mTxt M) (mTyp M) (mLin M) (mLnd M) (hThr s2_53 s1_53 s0_53 true) (mFar M) (mGrp M) (mSiz M) (mPla M) (mWro M) (mTol M) (mNum M))) := hD
      refine lv_iload_n hx hb dX8_drops_91 rfl (lv_at hl 3 rfl) ?_
      have hz : z = (v3_53, (upd (upd (mNow M) (((22 + 13 * y.toNatClampNeg) + 5) + x.toNatClampNeg) 0) (((22 + 13 * y.toNatClampNeg) + 9) + x.toNatClampNeg) 0), (hThr s2_53 s1_53 s0_53 true)) := hz
      rw [hz]
      exact rw_ret hx hb hr hP hS rfl dX8_drops_92 hlocks
    · have hz := hz.trans (ifB_f c_57)
      refine lv_iconst (v := 0) hx hb dX8_drops_60 (by decide) ?_
      have hz : z = (0, (mNow M), (hThr s2_53 s1_53 s0_53 true)) := hz
      rw [hz]
      exact rw_ret hx hb hr hP hS rfl dX8_drops_61 hlocks
  have J38 : ∀ (v3_38 : Int32) (s0_38 : Bool) (s1_38 : Bool)  (H : Heap) (locs : List Loc) (ls : Array Slot), z = f_X8_drops_j38 (mNow M) x y v3_38 s0_38 s1_38 → (s1_38 = true → vp_in x (mP (mNow M)) ∧ vp_in y (mS (mNow M))) → va_P D vwCl (mcells C b M) H → va_D A (mcells C b M) → va_S A s.heap H locs → lv_has ls 4 [(0, .ref (b 0)), (1, .int x), (2, .int y), (3, .int v3_38)] → W p l e ({ frames := 4, cells := 0, slots := 0, locals := 87 } : Room) s m ([.ref (b 0), .int x, .int y] : List Value).toArray below meth c H locs 0 0 (MQ below (rwO (some (.int z.1)) D (mcells C b (mkM z.2.1 (mBef M) (mSav M) (mHis M) (mIsS M) (mRem M) (mErA M) (mFaA M) (mTxt M) (mTyp M) (mLin M) (mLnd M) z.2.2 (mFar M) (mGrp M) (mSiz M) (mPla M) (mWro M) (mTol M) (mNum M))) A) ([.ref (b 0), .int x, .int y] : List Value).toArray s 0 0 A) (F0 m 38 ls [.int (bI s0_38), .int (bI s1_38), .ref (b 0)]) := by
    intro v3_38 s0_38 s1_38 H locs ls hz iv38_0 hP hD hS hl
    refine lv_aload_n hx hb dX8_drops_38 rfl (lv_at hl 0 rfl) ?_
    refine lv_iload_n hx hb dX8_drops_39 rfl (lv_at hl 2 rfl) ?_
    refine lv_iconst (v := 4) hx hb dX8_drops_40 (by decide) ?_
    refine topN (k := 4) (by decide +kernel) ?_
    refine callRo (va_runV (As := [.int y, .int (nI 4)]) (rest := [.int (bI s0_38), .int (bI s1_38), .ref (b 0)]) ⟨hx, hb, hml, hown, hts⟩ (c_X8_of l D C b M (y) (4) hM (by omega)) (cwV 2 hts gX8_drops_X8_of rfl rfl rfl (by decide +kernel) ⟨Nat.le_of_ble_eq_true rfl, Nat.le_of_ble_eq_true rfl⟩) (roP_v hP hK hE (va_recv hK hP (ci := 9) (q0 := 0) rfl rfl)) rfl rfl hl.1 rfl (lv_room (Nat.le_of_ble_eq_true rfl)) dX8_drops_41 ⟨Nat.le_refl _, Nat.le_refl _⟩) ?_
    refine lv_iload_n hx hb dX8_drops_44 rfl (lv_at hl 1 rfl) ?_
    refine lv_icmp_eq (tgt := 52) hx hb dX8_drops_45 (by decide) (fun c_45 => ?_) (fun c_45 => ?_)
    · have hz := hz.trans (if_pos c_45)
      refine lv_iconst (v := 0) hx hb dX8_drops_52 (by decide) ?_
      exact J53 (v3_38) (false) (s0_38) (s1_38) _ _ ls hz (by first | assumption | exact iv38_0) hP hD hS (lv_sub hl [0, 1, 2, 3] rfl)
    · have hz := hz.trans (if_neg c_45)
      refine lv_iconst (v := 1) hx hb dX8_drops_48 (by decide) ?_
      refine lv_goto (tgt := 53) hx hb dX8_drops_49 (by decide) ?_
      exact J53 (v3_38) (true) (s0_38) (s1_38) _ _ ls hz (by first | assumption | exact iv38_0) hP hD hS (lv_sub hl [0, 1, 2, 3] rfl)
  have J29 : ∀ (v3_29 : Int32) (s0_29 : Bool)  (H : Heap) (locs : List Loc) (ls : Array Slot), z = f_X8_drops_j29 (mNow M) x y v3_29 s0_29 → (s0_29 = true → vp_in x (mP (mNow M)) ∧ vp_in y (mS (mNow M))) → va_P D vwCl (mcells C b M) H → va_D A (mcells C b M) → va_S A s.heap H locs → lv_has ls 4 [(0, .ref (b 0)), (1, .int x), (2, .int y), (3, .int v3_29)] → W p l e ({ frames := 4, cells := 0, slots := 0, locals := 87 } : Room) s m ([.ref (b 0), .int x, .int y] : List Value).toArray below meth c H locs 0 0 (MQ below (rwO (some (.int z.1)) D (mcells C b (mkM z.2.1 (mBef M) (mSav M) (mHis M) (mIsS M) (mRem M) (mErA M) (mFaA M) (mTxt M) (mTyp M) (mLin M) (mLnd M) z.2.2 (mFar M) (mGrp M) (mSiz M) (mPla M) (mWro M) (mTol M) (mNum M))) A) ([.ref (b 0), .int x, .int y] : List Value).toArray s 0 0 A) (F0 m 29 ls [.int (bI s0_29), .ref (b 0)]) := by
    intro v3_29 s0_29 H locs ls hz iv29_0 hP hD hS hl
    refine lv_iload_n hx hb dX8_drops_29 rfl (lv_at hl 3 rfl) ?_
    refine lv_if_le (tgt := 37) hx hb dX8_drops_30 (by decide) (fun c_30 => ?_) (fun c_30 => ?_)
    · have hz := hz.trans (if_pos c_30)
      refine lv_iconst (v := 0) hx hb dX8_drops_37 (by decide) ?_
      exact J38 (v3_29) (false) (s0_29) _ _ ls hz (by first | assumption | exact iv29_0) hP hD hS (lv_sub hl [0, 1, 2, 3] rfl)
    · have hz := hz.trans (if_neg c_30)
      refine lv_iconst (v := 1) hx hb dX8_drops_33 (by decide) ?_
      refine lv_goto (tgt := 38) hx hb dX8_drops_34 (by decide) ?_
      exact J38 (v3_29) (true) (s0_29) _ _ ls hz (by first | assumption | exact iv29_0) hP hD hS (lv_sub hl [0, 1, 2, 3] rfl)
  have J28 : ∀ (v3_28 : Int32)  (H : Heap) (locs : List Loc) (ls : Array Slot), z = f_X8_drops_j28 (mNow M) x y v3_28 → va_P D vwCl (mcells C b M) H → va_D A (mcells C b M) → va_S A s.heap H locs → lv_has ls 4 [(0, .ref (b 0)), (1, .int x), (2, .int y), (3, .int v3_28)] → W p l e ({ frames := 4, cells := 0, slots := 0, locals := 87 } : Room) s m ([.ref (b 0), .int x, .int y] : List Value).toArray below meth c H locs 0 0 (MQ below (rwO (some (.int z.1)) D (mcells C b (mkM z.2.1 (mBef M) (mSav M) (mHis M) (mIsS M) (mRem M) (mErA M) (mFaA M) (mTxt M) (mTyp M) (mLin M) (mLnd M) z.2.2 (mFar M) (mGrp M) (mSiz M) (mPla M) (mWro M) (mTol M) (mNum M))) A) ([.ref (b 0), .int x, .int y] : List Value).toArray s 0 0 A) (F0 m 28 ls [.ref (b 0)]) := by
    intro v3_28 H locs ls hz  hP hD hS hl
    refine lv_iconst (v := 0) hx hb dX8_drops_28 (by decide) ?_
    exact J29 (v3_28) (false) _ _ ls hz (by first | (intro h; cases h; done) | exact fun _ => ⟨X8_isPlayer_in hM c_13, X8_isSite_in hM c_21⟩) hP hD hS (lv_sub hl [0, 1, 2, 3] rfl)
  refine lv_aload_n hx hb dX8_drops_0 rfl (lv_at hl 0 rfl) ?_
  refine lv_iload_n hx hb dX8_drops_1 rfl (lv_at hl 1 rfl) ?_
  refine lv_iload_n hx hb dX8_drops_2 rfl (lv_at hl 2 rfl) ?_
  refine callRo (va_runV (As := [.int x, .int y]) (rest := []) ⟨hx, hb, hml, hown, hts⟩ (c_X8_amountOf l D C b M (x) (y) hM) (cwV 2 hts gX8_drops_X8_amountOf rfl rfl rfl (by decide +kernel) ⟨Nat.le_of_ble_eq_true rfl, Nat.le_of_ble_eq_true rfl⟩) (roP_v hP hK hE (va_recv hK hP (ci := 9) (q0 := 0) rfl rfl)) rfl rfl hl.1 rfl (lv_room (Nat.le_of_ble_eq_true rfl)) dX8_drops_3 ⟨Nat.le_refl _, Nat.le_refl _⟩) ?_
  refine lv_istore_n (lv' := [(3, .int (f_X8_amountOf (mNow M) (x) (y))), (0, .ref (b 0)), (1, .int x), (2, .int y)]) hx hb dX8_drops_6 rfl hl (by decide) rfl (fun ls hl => ?_)
  refine lv_aload_n hx hb dX8_drops_7 rfl (lv_at hl 1 rfl) ?_
  refine lv_aload_n hx hb dX8_drops_8 rfl (lv_at hl 1 rfl) ?_
  refine lv_iload_n hx hb dX8_drops_9 rfl (lv_at hl 2 rfl) ?_
  refine callRo (va_runV (As := [.int x]) (rest := [.ref (b 0)]) ⟨hx, hb, hml, hown, hts⟩ (c_X8_isPlayer l D C b M (x) hM) (cwV 1 hts gX8_drops_X8_isPlayer rfl rfl rfl (by decide +kernel) ⟨Nat.le_of_ble_eq_true rfl, Nat.le_of_ble_eq_true rfl⟩) (roP_v hP hK hE (va_recv hK hP (ci := 9) (q0 := 0) rfl rfl)) rfl rfl hl.1 rfl (lv_room (Nat.le_of_ble_eq_true rfl)) dX8_drops_10 ⟨Nat.le_refl _, Nat.le_refl _⟩) ?_
  refine bif_eq (tgt := 28) hx hb dX8_drops_13 (by decide) (fun c_13 => ?_) (fun c_13 => ?_)
  · have hz := hz.trans (ifB_f c_13)
    exact J28 ((f_X8_amountOf (mNow M) (x) (y))) _ _ ls hz  hP hD hS (lv_sub hl [1, 2, 3, 0] rfl)
  · have hz := hz.trans (ifB_t c_13)
    refine lv_aload_n hx hb dX8_drops_16 rfl (lv_at hl 1 rfl) ?_
    refine lv_iload_n hx hb dX8_drops_17 rfl (lv_at hl 3 rfl) ?_
    refine callRo (va_runV (As := [.int y]) (rest := [.ref (b 0)]) ⟨hx, hb, hml, hown, hts⟩ (c_X8_isSite l D C b M (y) hM) (cwV 1 hts gX8_drops_X8_isSite rfl rfl rfl (by decide +kernel) ⟨Nat.le_of_ble_eq_true rfl, Nat.le_of_ble_eq_true rfl⟩) (roP_v hP hK hE (va_recv hK hP (ci := 9) (q0 := 0) rfl rfl)) rfl rfl hl.1 rfl (lv_room (Nat.le_of_ble_eq_true rfl)) dX8_drops_18 ⟨Nat.le_refl _, Nat.le_refl _⟩) ?_
    refine bif_eq (tgt := 28) hx hb dX8_drops_21 (by decide) (fun c_21 => ?_) (fun c_21 => ?_)
    · have hz := hz.trans (ifB_f c_21)
      exact J28 ((f_X8_amountOf (mNow M) (x) (y))) _ _ ls hz  hP hD hS (lv_sub hl [1, 2, 3, 0] rfl)
    · have hz := hz.trans (ifB_t c_21)
      refine lv_iconst (v := 1) hx hb dX8_drops_24 (by decide) ?_
      refine lv_goto (tgt := 29) hx hb dX8_drops_25 (by decide) ?_
      exact J29 ((f_X8_amountOf (mNow M) (x) (y))) (true) _ _ ls hz (by first | (intro h; cases h; done) | exact fun _ => ⟨X8_isPlayer_in hM c_13, X8_isSite_in hM c_21⟩) hP hD hS (lv_sub hl [1, 2, 3, 0] rfl)

