def f_X8_adds_l92b (nw : (Nat → Int32)) (x : Int32) (y : Int32) (w : Int32) (k92 : Nat) (v4_92 : Nat) (now0_92 : (Nat → Int32)) (thr0_92 : Int32) : Sum (Int32 × (Nat → Int32) × Int32) (Nat × (Nat → Int32) × Int32) := (Sum.inr (v4_92, (upd now0_92 (v4_92 + k92) 0), thr0_92))
def f_X8_adds_l92x (nw : (Nat → Int32)) (x : Int32) (y : Int32) (w : Int32) (v4_92 : Nat) (now0_92 : (Nat → Int32)) (thr0_92 : Int32) : Int32 × (Nat → Int32) × Int32 := ((nI (mS nw)), (upd (upd (upd (upd (upd (upd now0_92 (v4_92 + 0) (imin x y)) (v4_92 + 1) (imax x y)) (v4_92 + 2) w) (v4_92 + 3) (-1)) (v4_92 + 4) (-1)) 2 (nI ((mS nw) + 1))), thr0_92)
def f_X8_adds_l92s (nw : (Nat → Int32)) (x : Int32) (y : Int32) (w : Int32) (k92 : Nat) (q_ : Nat × (Nat → Int32) × Int32) : Sum (Int32 × (Nat → Int32) × Int32) (Nat × (Nat → Int32) × Int32) := f_X8_adds_l92b nw x y w k92 (q_.1) (q_.2.1) (q_.2.2)
def f_X8_adds_l92e (nw : (Nat → Int32)) (x : Int32) (y : Int32) (w : Int32) (q_ : Nat × (Nat → Int32) × Int32) : Int32 × (Nat → Int32) × Int32 := f_X8_adds_l92x nw x y w (q_.1) (q_.2.1) (q_.2.2)
def f_X8_adds_l92 (nw : (Nat → Int32)) (x : Int32) (y : Int32) (w : Int32) (n92 k92 : Nat) (v4_92 : Nat) (now0_92 : (Nat → Int32)) (thr0_92 : Int32) : Int32 × (Nat → Int32) × Int32 := lpF (f_X8_adds_l92s nw x y w) (f_X8_adds_l92e nw x y w) n92 k92 (v4_92, now0_92, thr0_92)
def f_X8_adds_j70 (nw : (Nat → Int32)) (x : Int32) (y : Int32) (w : Int32) (s0_70 : Bool) (s1_70 : Bool) (s2_70 : Bool) (s3_70 : Bool) : Int32 × (Nat → Int32) × Int32 := (if (hOk s3_70 s2_70 s1_70 s0_70) = true then (f_X8_adds_l92 nw x y w (13) 0 ((22 + 13 * (mS nw))) (nw) ((hThr s3_70 s2_70 s1_70 s0_70))) else (0, nw, (hThr s3_70 s2_70 s1_70 s0_70)))
def f_X8_adds_j54 (nw : (Nat → Int32)) (x : Int32) (y : Int32) (w : Int32) (s0_54 : Bool) (s1_54 : Bool) (s2_54 : Bool) : Int32 × (Nat → Int32) × Int32 := (if 12 ≤ (nI (mS nw)) then (f_X8_adds_j70 nw x y w (false) (s0_54) (s1_54) (s2_54)) else (f_X8_adds_j70 nw x y w (true) (s0_54) (s1_54) (s2_54)))
def f_X8_adds_j40 (nw : (Nat → Int32)) (x : Int32) (y : Int32) (w : Int32) (s0_40 : Bool) (s1_40 : Bool) : Int32 × (Nat → Int32) × Int32 := (if (f_X8_isPair nw (x) (y)) = true then (f_X8_adds_j54 nw x y w (false) (s0_40) (s1_40)) else (f_X8_adds_j54 nw x y w (true) (s0_40) (s1_40)))
def f_X8_adds_j39 (nw : (Nat → Int32)) (x : Int32) (y : Int32) (w : Int32) (s0_39 : Bool) : Int32 × (Nat → Int32) × Int32 := (f_X8_adds_j40 nw x y w (false) (s0_39))
def f_X8_adds_j20 (nw : (Nat → Int32)) (x : Int32) (y : Int32) (w : Int32) (s0_20 : Bool) : Int32 × (Nat → Int32) × Int32 := (if x = y then (f_X8_adds_j39 nw x y w (s0_20)) else (if (f_X8_isIn (w) (1) (9)) = true then (f_X8_adds_j40 nw x y w (true) (s0_20)) else (f_X8_adds_j39 nw x y w (s0_20))))
def f_X8_adds_j19 (nw : (Nat → Int32)) (x : Int32) (y : Int32) (w : Int32) : Int32 × (Nat → Int32) × Int32 := (f_X8_adds_j20 nw x y w (false))
def f_X8_adds (nw : (Nat → Int32)) (x : Int32) (y : Int32) (w : Int32) : Int32 × (Nat → Int32) × Int32 := (if (f_X8_isIsland (x)) = true then (if (f_X8_isIsland (y)) = true then (f_X8_adds_j20 nw x y w (true)) else (f_X8_adds_j19 nw x y w)) else (f_X8_adds_j19 nw x y w))
set_option maxHeartbeats 4000000 in
set_option maxRecDepth 100000 in
theorem c_X8_adds (l : Launch) (D : va_G) (C : Nat → ClassId) (b : Nat → Nat) (M : MS) (x : Int32) (y : Int32) (w : Int32) (sz : Nat) (hM : MSafe M) : Met l yX8_adds wsX8_adds ({ frames := 4, cells := 0, slots := 0, locals := 89 } : Room) (rwP [.ref (b 0), .int x, .int y, .int w] D C (mcells C b M) sz) (rwO (some (.int ((f_X8_adds (mNow M) x y w).1))) D (mcells C b (mkM ((f_X8_adds (mNow M) x y w).2.1) (mBef M) (mSav M) (mHis M) (mIsS M) (mRem M) (mErA M) (mFaA M) (mTxt M) (mTyp M) (mLin M) (mLnd M) ((f_X8_adds (mNow M) x y w).2.2) (mFar M) (mGrp M) (mSiz M) (mPla M) (mWro M) (mTol M) (mNum M))) (va_A (mcells C b M) sz)) 0 0 (va_A (mcells C b M) sz) := by
  refine Met.ofW (cc := cX8_adds) (maxL := 6) (ret := (some .int)) (by decide) rfl ?_
  intro p e s m args below meth c s₁ B hml hv
  obtain ⟨rfl, hsz, hP, hK, hD0, hE⟩ := hv
  have hx := B.exec
  have hb := B.bytes
  have hr := B.returns
  have hts := atoms_spec (ws := wsX8_adds) B.pre
  have hown : s.vm.findClass RX8 = some m.cls := findClass_of_methodNamed B.named
  have hlocks := B.notSynchronized
  subst hsz
  have hD := hD0.self (sz := s.heap.size)
  generalize hAe : va_A (mcells C b M) s.heap.size = A at hD ⊢
  have hA : ∀ q : Nat, s.heap.size ≤ q → A q := fun q h => by rw [← hAe]; exact Or.inr h
  have hS0 : va_S A s.heap s.heap [] := va_S.rf
  have hP : va_P D vwCl (mcells C b M) s.heap := hP
  have hS := hS0
  obtain ⟨⟨hS2, hS12⟩, ⟨hP2, hP4⟩, hLH, hFE⟩ := id hM
  have hinX8 : ∀ w ∈ u_ws RX8 TX8 20, w ∈ wsX8_adds := by decide +kernel
  have hl := lv_entry ([.ref (b 0), .int x, .int y, .int w]) (n := 6) (Nat.le_of_ble_eq_true rfl)
  rw [lg_entry_eq]
  generalize (lg_sl ([.ref (b 0), .int x, .int y, .int w]) ++ List.replicate (6 - (lg_sl ([.ref (b 0), .int x, .int y, .int w])).length) Slot.unset).toArray = ls at hl ⊢
  have hl : lv_has ls 6 [(0, .ref (b 0)), (1, .int x), (2, .int y), (3, .int w)] := hl
  obtain ⟨z, hz⟩ : ∃ z, z = f_X8_adds (mNow M) x y w := ⟨_, rfl⟩
  rw [← hz]
  have J92 : ∀ (n92 k92 : Nat) (v4_92 : Nat) (now0_92 : (Nat → Int32)) (thr0_92 : Int32) (H : Heap) (locs : List Loc) (ls : Array Slot), k92 + n92 = 13 → z = f_X8_adds_l92 (mNow M) x y w n92 k92 v4_92 now0_92 thr0_92 → (v4_92 = 22 + 13 * (mS (mNow M))) → ((mS (mNow M)) < 12) → (now0_92 2 = nI (mS (mNow M))) → va_P D vwCl (mcells C b (mkM now0_92 (mBef M) (mSav M) (mHis M) (mIsS M) (mRem M) (mErA M) (mFaA M) (mTxt M) (mTyp M) (mLin M) (mLnd M) thr0_92 (mFar M) (mGrp M) (mSiz M) (mPla M) (mWro M) (mTol M) (mNum M))) H → va_D A (mcells C b (mkM now0_92 (mBef M) (mSav M) (mHis M) (mIsS M) (mRem M) (mErA M) (mFaA M) (mTxt M) (mTyp M) (mLin M) (mLnd M) thr0_92 (mFar M) (mGrp M) (mSiz M) (mPla M) (mWro M) (mTol M) (mNum M))) → va_S A s.heap H locs → lv_has ls 6 [(0, .ref (b 0)), (1, .int x), (2, .int y), (3, .int w), (4, .int (nI v4_92)), (5, .int (nI k92))] → W p l e ({ frames := 4, cells := 0, slots := 0, locals := 89 } : Room) s m ([.ref (b 0), .int x, .int y, .int w] : List Value).toArray below meth c H locs 0 0 (MQ below (rwO (some (.int z.1)) D (mcells C b (mkM z.2.1 (mBef M) (mSav M) (mHis M) (mIsS M) (mRem M) (mErA M) (mFaA M) (mTxt M) (mTyp M) (mLin M) (mLnd M) z.2.2 (mFar M) (mGrp M) (mSiz M) (mPla M) (mWro M) (mTol M) (mNum M))) A) ([.ref (b 0), .int x, .int y, .int w] : List Value).toArray s 0 0 A) (F0 m 92 ls []) := by
    intro n92
    induction n92 with
    | zero =>
      intro k92 v4_92 now0_92 thr0_92 H locs ls hk92 hz iv92_0 iv92_1 iv92_2 hP hD hS hl
      have hz : z = f_X8_adds_l92x (mNow M) x y w v4_92 now0_92 thr0_92 := hz
      refine lv_iload hx hb dX8_adds_92 (lv_at hl 5 rfl) ?_
      refine lv_bipush (v := 13) hx hb dX8_adds_94 (by decide +kernel) ?_
      refine lv_icmp_ge (tgt := 116) hx hb dX8_adds_96 (by decide) (fun c_96 => ?_) (fun c_96 => absurd (by have e : (13 : Int32) = nI 13 := (by decide +kernel); rw [e]; exact nI_le (by omega) (by omega)) c_96)
      refine lv_aload_n hx hb dX8_adds_116 rfl (lv_at hl 0 rfl) ?_
      refine va_get (D := D) (ci := 9) (v := .ref (b 1)) (C := RX8) (T := TX8) (N := 20) hx hb hts hinX8 hown hK hP 0 rfl rfl 0 (by decide) (hts (.fieldLink RX8 9 "BridgeAuctionModel" "now" "[I") (by decide +kernel)) (fun _ h9 => h9) rfl dX8_adds_117 ?_
      refine lv_iload hx hb dX8_adds_120 (lv_at hl 4 rfl) ?_
      refine lv_iconst (v := 0) hx hb dX8_adds_122 (by decide) ?_
      refine topN (k := 0) (by decide +kernel) ?_
      refine addN hx hb dX8_adds_123 ?_
      refine lv_iload_n hx hb dX8_adds_124 rfl (lv_at hl 1 rfl) ?_
      refine lv_iload_n hx hb dX8_adds_125 rfl (lv_at hl 2 rfl) ?_
      refine va_mmin hx hb (hml.trans hl.1.symm) hown (hts (.methodLink RX8 114 Lib.Math.min.name) (by decide +kernel)) (hts (.static Lib.Math.min.name) (by decide +kernel)) (hts (.initialized "java/lang/Math") (by decide +kernel)) (hts (.code Lib.Math.min.name Lib.Math.min.code 2 (some .int)) (by decide +kernel)) (Nat.le_of_ble_eq_true rfl) (Nat.le_of_ble_eq_true rfl) (Nat.le_of_ble_eq_true rfl) (Nat.le_of_ble_eq_true rfl) dX8_adds_126 ?_
      refine topI (y := (imin x y)) rfl ?_
      refine iastN (tys := tyA C) hx hb hK hP hD hS 1 0 rfl rfl (i := (v4_92 + 0)) (by omega) (by decide) dX8_adds_129 (fun H locs hP hD hS => ?_)
      have hP : va_P D vwCl (mcells C b (mkM (upd now0_92 (v4_92 + 0) (imin x y)) (mBef M) (mSav M) (mHis M) (mIsS M) (mRem M) (mErA M) (mFaA M) (mTxt M) (mTyp M) (mLin M) (mLnd M) thr0_92 (mFar M) (mGrp M) (mSiz M) (mPla M) (mWro M) (mTol M) (mNum M))) H := hP
      have hD : va_D A (mcells C b (mkM (upd now0_92 (v4_92 + 0) (imin x y)) (mBef M) (mSav M) (mHis M) (mIsS M) (mRem M) (mErA M) (mFaA M) (mTxt M) (mTyp M) (mLin M) (mLnd M) thr0_92 (mFar M) (mGrp M) (mSiz M) (mPla M) (mWro M) (mTol M) (mNum M))) := hD
      refine lv_aload_n hx hb dX8_adds_130 rfl (lv_at hl 0 rfl) ?_
      refine va_get (D := D) (ci := 9) (v := .ref (b 1)) (C := RX8) (T := TX8) (N := 20) hx hb hts hinX8 hown hK hP 0 rfl rfl 0 (by decide) (hts (.fieldLink RX8 9 "BridgeAuctionModel" "now" "[I") (by decide +kernel)) (fun _ h9 => h9) rfl dX8_adds_131 ?_
      refine lv_iload hx hb dX8_adds_134 (lv_at hl 4 rfl) ?_
      refine lv_iconst (v := 1) hx hb dX8_adds_136 (by decide) ?_
      refine topN (k := 1) (by decide +kernel) ?_
      refine addN hx hb dX8_adds_137 ?_
      refine lv_iload_n hx hb dX8_adds_138 rfl (lv_at hl 1 rfl) ?_
      refine lv_iload_n hx hb dX8_adds_139 rfl (lv_at hl 2 rfl) ?_
      refine va_mmax hx hb (hml.trans hl.1.symm) hown (hts (.methodLink RX8 88 Lib.Math.max.name) (by decide +kernel)) (hts (.static Lib.Math.max.name) (by decide +kernel)) (hts (.initialized "java/lang/Math") (by decide +kernel)) (hts (.code Lib.Math.max.name Lib.Math.max.code 2 (some .int)) (by decide +kernel)) (Nat.le_of_ble_eq_true rfl) (Nat.le_of_ble_eq_true rfl) (Nat.le_of_ble_eq_true rfl) (Nat.le_of_ble_eq_true rfl) dX8_adds_140 ?_
      refine topI (y := (imax x y)) rfl ?_
      refine iastN (tys := tyA C) hx hb hK hP hD hS 1 0 rfl rfl (i := (v4_92 + 1)) (by omega) (by decide) dX8_adds_143 (fun H locs hP hD hS => ?_)
      have hP : va_P D vwCl (mcells C b (mkM (upd (upd now0_92 (v4_92 + 0) (imin x y)) (v4_92 + 1) (imax x y)) (mBef M) (mSav M) (mHis M) (mIsS M) (mRem M) (mErA M) (mFaA M) (mTxt M) (mTyp M) (mLin M) (mLnd M) thr0_92 (mFar M) (mGrp M) (mSiz M) (mPla M) (mWro M) (mTol M) (mNum M))) H := hP
      have hD : va_D A (mcells C b (mkM (upd (upd now0_92 (v4_92 + 0) (imin x y)) (v4_92 + 1) (imax x y)) (mBef M) (mSav M) (mHis M) (mIsS M) (mRem M) (mErA M) (mFaA M) (mTxt M) (mTyp M) (mLin M) (mLnd M) thr0_92 (mFar M) (mGrp M) (mSiz M) (mPla M) (mWro M) (mTol M) (mNum M))) := hD
      refine lv_aload_n hx hb dX8_adds_144 rfl (lv_at hl 0 rfl) ?_
      refine va_get (D := D) (ci := 9) (v := .ref (b 1)) (C := RX8) (T := TX8) (N := 20) hx hb hts hinX8 hown hK hP 0 rfl rfl 0 (by decide) (hts (.fieldLink RX8 9 "BridgeAuctionModel" "now" "[I") (by decide +kernel)) (fun _ h9 => h9) rfl dX8_adds_145 ?_
      refine lv_iload hx hb dX8_adds_148 (lv_at hl 4 rfl) ?_
      refine lv_iconst (v := 2) hx hb dX8_adds_150 (by decide) ?_
      refine topN (k := 2) (by decide +kernel) ?_
      refine addN hx hb dX8_adds_151 ?_
      refine lv_iload_n hx hb dX8_adds_152 rfl (lv_at hl 3 rfl) ?_
      refine iastN (tys := tyA C) hx hb hK hP hD hS 1 0 rfl rfl (i := (v4_92 + 2)) (by omega) (by decide) dX8_adds_153 (fun H locs hP hD hS => ?_)
      have hP : va_P D vwCl (mcells C b (mkM (upd (upd (upd now0_92 (v4_92 + 0) (imin x y)) (v4_92 + 1) (imax x y)) (v4_92 + 2) w) (mBef M) (mSav M) (mHis M) (mIsS M) (mRem M) (mErA M) (mFaA M) (mTxt M) (mTyp M) (mLin M) (mLnd M) thr0_92 (mFar M) (mGrp M) (mSiz M) (mPla M) (mWro M) (mTol M) (mNum M))) H := hP
      have hD : va_D A (mcells C b (mkM (upd (upd (upd now0_92 (v4_92 + 0) (imin x y)) (v4_92 + 1) (imax x y)) (v4_92 + 2) w) (mBef M) (mSav M) (mHis M) (mIsS M) (mRem M) (mErA M) (mFaA M) (mTxt M) (mTyp M) (mLin M) (mLnd M) thr0_92 (mFar M) (mGrp M) (mSiz M) (mPla M) (mWro M) (mTol M) (mNum M))) := hD
      refine lv_aload_n hx hb dX8_adds_154 rfl (lv_at hl 0 rfl) ?_
      refine va_get (D := D) (ci := 9) (v := .ref (b 1)) (C := RX8) (T := TX8) (N := 20) hx hb hts hinX8 hown hK hP 0 rfl rfl 0 (by decide) (hts (.fieldLink RX8 9 "BridgeAuctionModel" "now" "[I") (by decide +kernel)) (fun _ h9 => h9) rfl dX8_adds_155 ?_
      refine lv_iload hx hb dX8_adds_158 (lv_at hl 4 rfl) ?_
      refine lv_iconst (v := 3) hx hb dX8_adds_160 (by decide) ?_
      refine topN (k := 3) (by decide +kernel) ?_
      refine addN hx hb dX8_adds_161 ?_
      refine lv_iconst (v := (-1)) hx hb dX8_adds_162 (by decide) ?_
      refine iastN (tys := tyA C) hx hb hK hP hD hS 1 0 rfl rfl (i := (v4_92 + 3)) (by omega) (by decide) dX8_adds_163 (fun H locs hP hD hS => ?_)
      have hP : va_P D vwCl (mcells C b (mkM (upd (upd (upd (upd now0_92 (v4_92 + 0) (imin x y)) (v4_92 + 1) (imax x y)) (v4_92 + 2) w) (v4_92 + 3) (-1)) (mBef M) (mSav M) (mHis M) (mIsS M) (mRem M) (mErA M) (mFaA M) (mTxt M) (mTyp M) (mLin M) (mLnd M) thr0_92 (mFar M) (mGrp M) (mSiz M) (mPla M) (mWro M) (mTol M) (mNum M))) H := hP
      have hD : va_D A (mcells C b (mkM (upd (upd (upd (upd now0_92 (v4_92 + 0) (imin x y)) (v4_92 + 1) (imax x y)) (v4_92 + 2) w) (v4_92 + 3) (-1)) (mBef M) (mSav M) (mHis M) (mIsS M) (mRem M) (mErA M) (mFaA M) (mTxt M) (mTyp M) (mLin M) (mLnd M) thr0_92 (mFar M) (mGrp M) (mSiz M) (mPla M) (mWro M) (mTol M) (mNum M))) := hD
      refine lv_aload_n hx hb dX8_adds_164 rfl (lv_at hl 0 rfl) ?_
      refine va_get (D := D) (ci := 9) (v := .ref (b 1)) (C := RX8) (T := TX8) (N := 20) hx hb hts hinX8 hown hK hP 0 rfl rfl 0 (by decide) (hts (.fieldLink RX8 9 "BridgeAuctionModel" "now" "[I") (by decide +kernel)) (fun _ h9 => h9) rfl dX8_adds_165 ?_
      refine lv_iload hx hb dX8_adds_168 (lv_at hl 4 rfl) ?_
      refine lv_iconst (v := 4) hx hb dX8_adds_170 (by decide) ?_
      refine topN (k := 4) (by decide +kernel) ?_
      refine addN hx hb dX8_adds_171 ?_
      refine lv_iconst (v := (-1)) hx hb dX8_adds_172 (by decide) ?_
      refine iastN (tys := tyA C) hx hb hK hP hD hS 1 0 rfl rfl (i := (v4_92 + 4)) (by omega) (by decide) dX8_adds_173 (fun H locs hP hD hS => ?_)
      have hP : va_P D vwCl (mcells C b (mkM (upd (upd (upd (upd (upd now0_92 (v4_92 + 0) (imin x y)) (v4_92 + 1) (imax x y)) (v4_92 + 2) w) (v4_92 + 3) (-1)) (v4_92 + 4) (-1)) (mBef M) (mSav M) (mHis M) (mIsS M) (mRem M) (mErA M) (mFaA M) (mTxt M) (mTyp M) (mLin M) (mLnd M) thr0_92 (mFar M) (mGrp M) (mSiz M) (mPla M) (mWro M) (mTol M) (mNum M))) H := hP
      have hD : va_D A (mcells C b (mkM (upd (upd (upd (upd (upd now0_92 (v4_92 + 0) (imin x y)) (v4_92 + 1) (imax x y)) (v4_92 + 2) w) (v4_92 + 3) (-1)) (v4_92 + 4) (-1)) (mBef M) (mSav M) (mHis M) (mIsS M) (mRem M) (mErA M) (mFaA M) (mTxt M) (mTyp M) (mLin M) (mLnd M) thr0_92 (mFar M) (mGrp M) (mSiz M) (mPla M) (mWro M) (mTol M) (mNum M))) := hD
      refine lv_aload_n hx hb dX8_adds_174 rfl (lv_at hl 0 rfl) ?_
      refine va_get (D := D) (ci := 9) (v := .ref (b 1)) (C := RX8) (T := TX8) (N := 20) hx hb hts hinX8 hown hK hP 0 rfl rfl 0 (by decide) (hts (.fieldLink RX8 9 "BridgeAuctionModel" "now" "[I") (by decide +kernel)) (fun _ h9 => h9) rfl dX8_adds_175 ?_
      refine lv_iconst (v := 2) hx hb dX8_adds_178 (by decide) ?_
      refine lv_dup2_11 hx hb dX8_adds_179 rfl rfl ?_
      refine topN (k := 2) (by decide +kernel) ?_
      refine ialdN (tys := tyA C) hx hb hK hP 1 0 rfl rfl (i := 2) (by omega) (by decide) dX8_adds_180 ?_
      refine topN (k := (mS (mNow M))) (show ((upd (upd (upd (upd (upd now0_92 (v4_92 + 0) (imin x y)) (v4_92 + 1) (imax x y)) (v4_92 + 2) w) (v4_92 + 3) (-1)) (v4_92 + 4) (-1)) 2) = (nI (mS (mNow M))) from by exact upd_o (by omega) (upd_o (by omega) (upd_o (by omega) (upd_o (by omega) (upd_o (by omega) iv92_2))))) ?_
      refine lv_iconst (v := 1) hx hb dX8_adds_181 (by decide) ?_
      refine topN (k := 1) (by decide +kernel) ?_
      refine addN hx hb dX8_adds_182 ?_
      refine topN2 (k := 2) (by decide +kernel) ?_
      refine iastN (tys := tyA C) hx hb hK hP hD hS 1 0 rfl rfl (i := 2) (by omega) (by decide) dX8_adds_183 (fun H locs hP hD hS => ?_)
      have hP : va_P D vwCl (mcells C b (mkM (upd (upd (upd (upd (upd (upd now0_92 (v4_92 + 0) (imin x y)) (v4_92 + 1) (imax x y)) (v4_92 + 2) w) (v4_92 + 3) (-1)) (v4_92 + 4) (-1)) 2 (nI ((mS (mNow M)) + 1))) (mBef M) (mSav M) (mHis M) (mIsS M) (mRem M) (mErA M) (mFaA M) (mTxt M) (mTyp M) (mLin M) (mLnd M) thr0_92 (mFar M) (mGrp M) (mSiz M) (mPla M) (mWro M) (mTol M) (mNum M))) H := hP
      have hD : va_D A (mcells C b (mkM (upd (upd (upd (upd (upd (upd now0_92 (v4_92 + 0) (imin x y)) (v4_92 + 1) (imax x y)) (v4_92 + 2) w) (v4_92 + 3) (-1)) (v4_92 + 4) (-1)) 2 (nI ((mS (mNow M)) + 1))) (mBef M) (mSav M) (mHis M) (mIsS M) (mRem M) (mErA M) (mFaA M) (mTxt M) (mTyp M) (mLin M) (mLnd M) thr0_92 (mFar M) (mGrp M) (mSiz M) (mPla M) (mWro M) (mTol M) (mNum M))) := hD
      refine lv_aload_n hx hb dX8_adds_184 rfl (lv_at hl 0 rfl) ?_
      refine va_get (D := D) (ci := 9) (v := .ref (b 1)) (C := RX8) (T := TX8) (N := 20) hx hb hts hinX8 hown hK hP 0 rfl rfl 0 (by decide) (hts (.fieldLink RX8 9 "BridgeAuctionModel" "now" "[I") (by decide +kernel)) (fun _ h9 => h9) rfl dX8_adds_185 ?_
      refine lv_iconst (v := 2) hx hb dX8_adds_188 (by decide) ?_
      refine topN (k := 2) (by decide +kernel) ?_
      refine ialdN (tys := tyA C) hx hb hK hP 1 0 rfl rfl (i := 2) (by omega) (by decide) dX8_adds_189 ?_
      refine topN (k := ((mS (mNow M)) + 1)) (show ((upd (upd (upd (upd (upd (upd now0_92 (v4_92 + 0) (imin x y)) (v4_92 + 1) (imax x y)) (v4_92 + 2) w) (v4_92 + 3) (-1)) (v4_92 + 4) (-1)) 2 (nI ((mS (mNow M)) + 1))) 2) = (nI ((mS (mNow M)) + 1)) from by exact upd_s) ?_
      refine lv_iconst (v := 1) hx hb dX8_adds_190 (by decide) ?_
      refine lv_isub hx hb dX8_adds_191 ?_
      refine topN (k := (mS (mNow M))) (show ((nI ((mS (mNow M)) + 1)) - 1) = (nI (mS (mNow M))) from by exact nI_pred _) ?_
      have hz : z = ((nI (mS (mNow M))), (upd (upd (upd (upd (upd (upd now0_92 (v4_92 + 0) (imin x y)) (v4_92 + 1) (imax x y)) (v4_92 + 2) w) (v4_92 + 3) (-1)) (v4_92 + 4) (-1)) 2 (nI ((mS (mNow M)) + 1))), thr0_92) := hz
      rw [hz]
      exact rw_ret hx hb hr hP hS rfl dX8_adds_192 hlocks
    | succ n92 ih92 =>
      intro k92 v4_92 now0_92 thr0_92 H locs ls hk92 hz92 iv92_0 iv92_1 iv92_2 hP hD hS hl
      obtain ⟨z92, hz⟩ : ∃ zz_, zz_ = f_X8_adds_l92b (mNow M) x y w k92 v4_92 now0_92 thr0_92 := ⟨_, rfl⟩
      have hq92 : z = sE id (fun q_ => lpF (f_X8_adds_l92s (mNow M) x y w) (f_X8_adds_l92e (mNow M) x y w) n92 (k92 + 1) q_) z92 := by rw [hz92, hz]; rfl
      refine lv_iload hx hb dX8_adds_92 (lv_at hl 5 rfl) ?_
      refine lv_bipush (v := 13) hx hb dX8_adds_94 (by decide +kernel) ?_
      refine lv_icmp_ge (tgt := 116) hx hb dX8_adds_96 (by decide) (fun c_96 => absurd c_96 (by have e : (13 : Int32) = nI 13 := (by decide +kernel); rw [e]; exact nI_ge (by omega) (by omega))) (fun c_96 => ?_)
      refine lv_aload_n hx hb dX8_adds_99 rfl (lv_at hl 0 rfl) ?_
      refine va_get (D := D) (ci := 9) (v := .ref (b 1)) (C := RX8) (T := TX8) (N := 20) hx hb hts hinX8 hown hK hP 0 rfl rfl 0 (by decide) (hts (.fieldLink RX8 9 "BridgeAuctionModel" "now" "[I") (by decide +kernel)) (fun _ h9 => h9) rfl dX8_adds_100 ?_
      refine lv_iload hx hb dX8_adds_103 (lv_at hl 4 rfl) ?_
      refine lv_iload hx hb dX8_adds_105 (lv_at hl 5 rfl) ?_
      refine addN hx hb dX8_adds_107 ?_
      refine lv_iconst (v := 0) hx hb dX8_adds_108 (by decide) ?_
      refine iastN (tys := tyA C) hx hb hK hP hD hS 1 0 rfl rfl (i := (v4_92 + k92)) (by omega) (by decide) dX8_adds_109 (fun H locs hP hD hS => ?_)
      have hP : va_P D vwCl (mcells C b (mkM (upd now0_92 (v4_92 + k92) 0) (mBef M) (mSav M) (mHis M) (mIsS M) (mRem M) (mErA M) (mFaA M) (mTxt M) (mTyp M) (mLin M) (mLnd M) thr0_92 (mFar M) (mGrp M) (mSiz M) (mPla M) (mWro M) (mTol M) (mNum M))) H := hP
      have hD : va_D A (mcells C b (mkM (upd now0_92 (v4_92 + k92) 0) (mBef M) (mSav M) (mHis M) (mIsS M) (mRem M) (mErA M) (mFaA M) (mTxt M) (mTyp M) (mLin M) (mLnd M) thr0_92 (mFar M) (mGrp M) (mSiz M) (mPla M) (mWro M) (mTol M) (mNum M))) := hD
      refine lv_iinc (v := (nI (k92 + 1))) (lv' := [(5, .int (nI (k92 + 1))), (0, .ref (b 0)), (1, .int x), (2, .int y), (3, .int w), (4, .int (nI v4_92))]) hx hb dX8_adds_110 hl (k := 5) rfl (by exact nI_1 _) (by decide) rfl (fun ls hl => ?_)
      refine lv_goto (tgt := 92) hx hb dX8_adds_113 (by decide) ?_
      exact ih92 (k92 + 1) (v4_92) ((upd now0_92 (v4_92 + k92) 0)) (thr0_92) _ _ ls (by omega) (by rw [hq92, hz]; rfl) (by first | rfl | assumption) (by assumption) (by first | exact hS2 | exact upd_o (by omega) (by assumption)) hP hD hS (lv_sub hl [1, 2, 3, 4, 5, 0] rfl)
  have J70 : ∀ (s0_70 : Bool) (s1_70 : Bool) (s2_70 : Bool) (s3_70 : Bool)  (H : Heap) (locs : List Loc) (ls : Array Slot), z = f_X8_adds_j70 (mNow M) x y w s0_70 s1_70 s2_70 s3_70 → (s0_70 = true → (mS (mNow M)) < 12) → va_P D vwCl (mcells C b M) H → va_D A (mcells C b M) → va_S A s.heap H locs → lv_has ls 6 [(0, .ref (b 0)), (1, .int x), (2, .int y), (3, .int w)] → W p l e ({ frames := 4, cells := 0, slots := 0, locals := 89 } : Room) s m ([.ref (b 0), .int x, .int y, .int w] : List Value).toArray below meth c H locs 0 0 (MQ below (rwO (some (.int z.1)) D (mcells C b (mkM z.2.1 (mBef M) (mSav M) (mHis M) (mIsS M) (mRem M) (mErA M) (mFaA M) (mTxt M) (mTyp M) (mLin M) (mLnd M) z.2.2 (mFar M) (mGrp M) (mSiz M) (mPla M) (mWro M) (mTol M) (mNum M))) A) ([.ref (b 0), .int x, .int y, .int w] : List Value).toArray s 0 0 A) (F0 m 70 ls [.int (bI s0_70), .int (bI s1_70), .int (bI s2_70), .int (bI s3_70), .ref (b 0)]) := by
    intro s0_70 s1_70 s2_70 s3_70 H locs ls hz iv70_0 hP hD hS hl
    have hFc := va_free (wc := (mcells C b M)) hD hS hA [0, 1, 2, 3, 4, 5, 6, 7, 8, 9] rfl
    refine callRw (va_runV (As := [.int (bI s3_70), .int (bI s2_70), .int (bI s1_70), .int (bI s0_70)]) (rest := []) ⟨hx, hb, hml, hown, hts⟩ (c_X8_holds_ l D C b M (s3_70) (s2_70) (s1_70) (s0_70) _) (cwV 4 hts gX8_adds_X8_holds rfl rfl rfl (by decide +kernel) ⟨Nat.le_of_ble_eq_true rfl, Nat.le_of_ble_eq_true rfl⟩) (rwP_v hP hK hE hD (va_recv hK hP (ci := 9) (q0 := 0) rfl rfl)) rfl rfl hl.1 rfl (lv_room (Nat.le_of_ble_eq_true rfl)) dX8_adds_70 ⟨Nat.le_refl _, Nat.le_refl _⟩) hS hFc (fun H1 locs hPn hk hS => ?_)
    have hP : va_P D vwCl (mcells C b (mkM (mNow M) (mBef M) (mSav M) (mHis M) (mIsS M) (mRem M) (mErA M) (mFaA M) (mTxt M) (mTyp M) (mLin M) (mLnd M) (hThr s3_70 s2_70 s1_70 s0_70) (mFar M) (mGrp M) (mSiz M) (mPla M) (mWro M) (mTol M) (mNum M))) H1 := hPn
    have hD : va_D A (mcells C b (mkM (mNow M) (mBef M) (mSav M) (mHis M) (mIsS M) (mRem M) (mErA M) (mFaA M) (mTxt M) (mTyp M) (mLin M) (mLnd M) (hThr s3_70 s2_70 s1_70 s0_70) (mFar M) (mGrp M) (mSiz M) (mPla M) (mWro M) (mTol M) (mNum M))) := adr_D hD rfl
    generalize H1 = H at hP hS ⊢
    refine topI (y := (bI (hOk s3_70 s2_70 s1_70 s0_70))) rfl ?_
    refine bif_ne (tgt := 78) hx hb dX8_adds_73 (by decide) (fun c_73 => ?_) (fun c_73 => ?_)
    · have hz := hz.trans (ifB_t c_73)
      have hs := iv70_0 (hOk_1 c_73).2.2.2
      refine lv_aload_n hx hb dX8_adds_78 rfl (lv_at hl 0 rfl) ?_
      refine va_get (D := D) (ci := 9) (v := .ref (b 1)) (C := RX8) (T := TX8) (N := 20) hx hb hts hinX8 hown hK hP 0 rfl rfl 0 (by decide) (hts (.fieldLink RX8 9 "BridgeAuctionModel" "now" "[I") (by decide +kernel)) (fun _ h9 => h9) rfl dX8_adds_79 ?_
      refine lv_iconst (v := 2) hx hb dX8_adds_82 (by decide) ?_
      refine topN (k := 2) (by decide +kernel) ?_
      refine ialdN (tys := tyA C) hx hb hK hP 1 0 rfl rfl (i := 2) (by omega) (by decide) dX8_adds_83 ?_
      refine topN (k := mS (mNow M)) (by first | exact hS2 | exact hP2) ?_
      refine callRo (va_runS (As := [.int (nI (mS (mNow M)))]) (rest := []) ⟨hx, hb, hml, hown, hts⟩ (c_X8_siteAt l D C ((mS (mNow M))) (by omega)) (va_cwS 1 hts gX8_adds_X8_siteAt rfl rfl rfl (by decide +kernel) ⟨Nat.le_of_ble_eq_true rfl, Nat.le_of_ble_eq_true rfl⟩) (roP_s (hP.sub (ws' := ([] : va_W)) [] rfl) hK hE) rfl rfl hl.1 rfl (lv_room (Nat.le_of_ble_eq_true rfl)) dX8_adds_84 ⟨Nat.le_refl _, Nat.le_refl _⟩) ?_
      refine topN (k := (22 + 13 * (mS (mNow M)))) rfl ?_
      refine lv_istore (lv' := [(4, .int (nI (22 + 13 * (mS (mNow M))))), (0, .ref (b 0)), (1, .int x), (2, .int y), (3, .int w)]) hx hb dX8_adds_87 hl (by decide) rfl (fun ls hl => ?_)
      refine lv_iconst (v := 0) hx hb dX8_adds_89 (by decide) ?_
      refine lv_istore (lv' := [(5, .int 0), (4, .int (nI (22 + 13 * (mS (mNow M))))), (0, .ref (b 0)), (1, .int x), (2, .int y), (3, .int w)]) hx hb dX8_adds_90 hl (by decide) rfl (fun ls hl => ?_)
      exact J92 (13) 0 ((22 + 13 * (mS (mNow M)))) ((mNow M)) ((hThr s3_70 s2_70 s1_70 s0_70)) _ _ ls (by omega) hz (by first | rfl | assumption) (by assumption) (by first | exact hS2 | exact upd_o (by omega) (by assumption)) hP hD hS (lv_sub hl [2, 3, 4, 5, 1, 0] rfl)
    · have hz := hz.trans (ifB_f c_73)
      refine lv_iconst (v := 0) hx hb dX8_adds_76 (by decide) ?_
      have hz : z = (0, (mNow M), (hThr s3_70 s2_70 s1_70 s0_70)) := hz
      rw [hz]
      exact rw_ret hx hb hr hP hS rfl dX8_adds_77 hlocks
  have J54 : ∀ (s0_54 : Bool) (s1_54 : Bool) (s2_54 : Bool)  (H : Heap) (locs : List Loc) (ls : Array Slot), z = f_X8_adds_j54 (mNow M) x y w s0_54 s1_54 s2_54 → va_P D vwCl (mcells C b M) H → va_D A (mcells C b M) → va_S A s.heap H locs → lv_has ls 6 [(0, .ref (b 0)), (1, .int x), (2, .int y), (3, .int w)] → W p l e ({ frames := 4, cells := 0, slots := 0, locals := 89 } : Room) s m ([.ref (b 0), .int x, .int y, .int w] : List Value).toArray below meth c H locs 0 0 (MQ below (rwO (some (.int z.1)) D (mcells C b (mkM z.2.1 (mBef M) (mSav M) (mHis M) (mIsS M) (mRem M) (mErA M) (mFaA M) (mTxt M) (mTyp M) (mLin M) (mLnd M) z.2.2 (mFar M) (mGrp M) (mSiz M) (mPla M) (mWro M) (mTol M) (mNum M))) A) ([.ref (b 0), .int x, .int y, .int w] : List Value).toArray s 0 0 A) (F0 m 54 ls [.int (bI s0_54), .int (bI s1_54), .int (bI s2_54), .ref (b 0)]) := by
    intro s0_54 s1_54 s2_54 H locs ls hz  hP hD hS hl
    refine lv_aload_n hx hb dX8_adds_54 rfl (lv_at hl 0 rfl) ?_
    refine va_get (D := D) (ci := 9) (v := .ref (b 1)) (C := RX8) (T := TX8) (N := 20) hx hb hts hinX8 hown hK hP 0 rfl rfl 0 (by decide) (hts (.fieldLink RX8 9 "BridgeAuctionModel" "now" "[I") (by decide +kernel)) (fun _ h9 => h9) rfl dX8_adds_55 ?_
    refine lv_iconst (v := 2) hx hb dX8_adds_58 (by decide) ?_
    refine topN (k := 2) (by decide +kernel) ?_
    refine ialdN (tys := tyA C) hx hb hK hP 1 0 rfl rfl (i := 2) (by omega) (by decide) dX8_adds_59 ?_
    refine topN (k := mS (mNow M)) (by first | exact hS2 | exact hP2) ?_
    refine lv_bipush (v := 12) hx hb dX8_adds_60 (by decide +kernel) ?_
    refine lv_icmp_ge (tgt := 69) hx hb dX8_adds_62 (by decide) (fun c_62 => ?_) (fun c_62 => ?_)
    · have hz := hz.trans (if_pos c_62)
      refine lv_iconst (v := 0) hx hb dX8_adds_69 (by decide) ?_
      exact J70 (false) (s0_54) (s1_54) (s2_54) _ _ ls hz (by first | (intro h; cases h; done) | exact fun _ => ltN (n := 12) (by decide +kernel) (by omega) c_62) hP hD hS (lv_sub hl [0, 1, 2, 3] rfl)
    · have hz := hz.trans (if_neg c_62)
      refine lv_iconst (v := 1) hx hb dX8_adds_65 (by decide) ?_
      refine lv_goto (tgt := 70) hx hb dX8_adds_66 (by decide) ?_
      exact J70 (true) (s0_54) (s1_54) (s2_54) _ _ ls hz (by first | (intro h; cases h; done) | exact fun _ => ltN (n := 12) (by decide +kernel) (by omega) c_62) hP hD hS (lv_sub hl [0, 1, 2, 3] rfl)
  have J40 : ∀ (s0_40 : Bool) (s1_40 : Bool)  (H : Heap) (locs : List Loc) (ls : Array Slot), z = f_X8_adds_j40 (mNow M) x y w s0_40 s1_40 → va_P D vwCl (mcells C b M) H → va_D A (mcells C b M) → va_S A s.heap H locs → lv_has ls 6 [(0, .ref (b 0)), (1, .int x), (2, .int y), (3, .int w)] → W p l e ({ frames := 4, cells := 0, slots := 0, locals := 89 } : Room) s m ([.ref (b 0), .int x, .int y, .int w] : List Value).toArray below meth c H locs 0 0 (MQ below (rwO (some (.int z.1)) D (mcells C b (mkM z.2.1 (mBef M) (mSav M) (mHis M) (mIsS M) (mRem M) (mErA M) (mFaA M) (mTxt M) (mTyp M) (mLin M) (mLnd M) z.2.2 (mFar M) (mGrp M) (mSiz M) (mPla M) (mWro M) (mTol M) (mNum M))) A) ([.ref (b 0), .int x, .int y, .int w] : List Value).toArray s 0 0 A) (F0 m 40 ls [.int (bI s0_40), .int (bI s1_40), .ref (b 0)]) := by
    intro s0_40 s1_40 H locs ls hz  hP hD hS hl
    refine lv_aload_n hx hb dX8_adds_40 rfl (lv_at hl 0 rfl) ?_
    refine lv_iload_n hx hb dX8_adds_41 rfl (lv_at hl 1 rfl) ?_
    refine lv_iload_n hx hb dX8_adds_42 rfl (lv_at hl 2 rfl) ?_
    refine callRo (va_runV (As := [.int x, .int y]) (rest := [.int (bI s0_40), .int (bI s1_40), .ref (b 0)]) ⟨hx, hb, hml, hown, hts⟩ (c_X8_isPair l D C b M (x) (y) hM) (cwV 2 hts gX8_adds_X8_isPair rfl rfl rfl (by decide +kernel) ⟨Nat.le_of_ble_eq_true rfl, Nat.le_of_ble_eq_true rfl⟩) (roP_v hP hK hE (va_recv hK hP (ci := 9) (q0 := 0) rfl rfl)) rfl rfl hl.1 rfl (lv_room (Nat.le_of_ble_eq_true rfl)) dX8_adds_43 ⟨Nat.le_refl _, Nat.le_refl _⟩) ?_
    refine bif_ne (tgt := 53) hx hb dX8_adds_46 (by decide) (fun c_46 => ?_) (fun c_46 => ?_)
    · have hz := hz.trans (ifB_t c_46)
      refine lv_iconst (v := 0) hx hb dX8_adds_53 (by decide) ?_
      exact J54 (false) (s0_40) (s1_40) _ _ ls hz  hP hD hS (lv_sub hl [0, 1, 2, 3] rfl)
    · have hz := hz.trans (ifB_f c_46)
      refine lv_iconst (v := 1) hx hb dX8_adds_49 (by decide) ?_
      refine lv_goto (tgt := 54) hx hb dX8_adds_50 (by decide) ?_
      exact J54 (true) (s0_40) (s1_40) _ _ ls hz  hP hD hS (lv_sub hl [0, 1, 2, 3] rfl)
  have J39 : ∀ (s0_39 : Bool)  (H : Heap) (locs : List Loc) (ls : Array Slot), z = f_X8_adds_j39 (mNow M) x y w s0_39 → va_P D vwCl (mcells C b M) H → va_D A (mcells C b M) → va_S A s.heap H locs → lv_has ls 6 [(0, .ref (b 0)), (1, .int x), (2, .int y), (3, .int w)] → W p l e ({ frames := 4, cells := 0, slots := 0, locals := 89 } : Room) s m ([.ref (b 0), .int x, .int y, .int w] : List Value).toArray below meth c H locs 0 0 (MQ below (rwO (some (.int z.1)) D (mcells C b (mkM z.2.1 (mBef M) (mSav M) (mHis M) (mIsS M) (mRem M) (mErA M) (mFaA M) (mTxt M) (mTyp M) (mLin M) (mLnd M) z.2.2 (mFar M) (mGrp M) (mSiz M) (mPla M) (mWro M) (mTol M) (mNum M))) A) ([.ref (b 0), .int x, .int y, .int w] : List Value).toArray s 0 0 A) (F0 m 39 ls [.int (bI s0_39), .ref (b 0)]) := by
    intro s0_39 H locs ls hz  hP hD hS hl
    refine lv_iconst (v := 0) hx hb dX8_adds_39 (by decide) ?_
    exact J40 (false) (s0_39) _ _ ls hz  hP hD hS (lv_sub hl [0, 1, 2, 3] rfl)
  have J20 : ∀ (s0_20 : Bool)  (H : Heap) (locs : List Loc) (ls : Array Slot), z = f_X8_adds_j20 (mNow M) x y w s0_20 → va_P D vwCl (mcells C b M) H → va_D A (mcells C b M) → va_S A s.heap H locs → lv_has ls 6 [(0, .ref (b 0)), (1, .int x), (2, .int y), (3, .int w)] → W p l e ({ frames := 4, cells := 0, slots := 0, locals := 89 } : Room) s m ([.ref (b 0), .int x, .int y, .int w] : List Value).toArray below meth c H locs 0 0 (MQ below (rwO (some (.int z.1)) D (mcells C b (mkM z.2.1 (mBef M) (mSav M) (mHis M) (mIsS M) (mRem M) (mErA M) (mFaA M) (mTxt M) (mTyp M) (mLin M) (mLnd M) z.2.2 (mFar M) (mGrp M) (mSiz M) (mPla M) (mWro M) (mTol M) (mNum M))) A) ([.ref (b 0), .int x, .int y, .int w] : List Value).toArray s 0 0 A) (F0 m 20 ls [.int (bI s0_20), .ref (b 0)]) := by
    intro s0_20 H locs ls hz  hP hD hS hl
    refine lv_iload_n hx hb dX8_adds_20 rfl (lv_at hl 1 rfl) ?_
    refine lv_iload_n hx hb dX8_adds_21 rfl (lv_at hl 2 rfl) ?_
    refine lv_icmp_eq (tgt := 39) hx hb dX8_adds_22 (by decide) (fun c_22 => ?_) (fun c_22 => ?_)
    · have hz := hz.trans (if_pos c_22)
      exact J39 (s0_20) _ _ ls hz  hP hD hS (lv_sub hl [0, 1, 2, 3] rfl)
    · have hz := hz.trans (if_neg c_22)
      refine lv_iload_n hx hb dX8_adds_25 rfl (lv_at hl 3 rfl) ?_
      refine lv_iconst (v := 1) hx hb dX8_adds_26 (by decide) ?_
      refine lv_bipush (v := 9) hx hb dX8_adds_27 (by decide +kernel) ?_
      refine callRo (va_runS (As := [.int w, .int 1, .int 9]) (rest := [.int (bI s0_20), .ref (b 0)]) ⟨hx, hb, hml, hown, hts⟩ (c_X8_isIn l D C (w) (1) (9)) (va_cwS 3 hts gX8_adds_X8_isIn rfl rfl rfl (by decide +kernel) ⟨Nat.le_of_ble_eq_true rfl, Nat.le_of_ble_eq_true rfl⟩) (roP_s (hP.sub (ws' := ([] : va_W)) [] rfl) hK hE) rfl rfl hl.1 rfl (lv_room (Nat.le_of_ble_eq_true rfl)) dX8_adds_29 ⟨Nat.le_refl _, Nat.le_refl _⟩) ?_
      refine bif_eq (tgt := 39) hx hb dX8_adds_32 (by decide) (fun c_32 => ?_) (fun c_32 => ?_)
      · have hz := hz.trans (ifB_f c_32)
        exact J39 (s0_20) _ _ ls hz  hP hD hS (lv_sub hl [0, 1, 2, 3] rfl)
      · have hz := hz.trans (ifB_t c_32)
        refine lv_iconst (v := 1) hx hb dX8_adds_35 (by decide) ?_
        refine lv_goto (tgt := 40) hx hb dX8_adds_36 (by decide) ?_
        exact J40 (true) (s0_20) _ _ ls hz  hP hD hS (lv_sub hl [0, 1, 2, 3] rfl)
  have J19 : ∀  (H : Heap) (locs : List Loc) (ls : Array Slot), z = f_X8_adds_j19 (mNow M) x y w → va_P D vwCl (mcells C b M) H → va_D A (mcells C b M) → va_S A s.heap H locs → lv_has ls 6 [(0, .ref (b 0)), (1, .int x), (2, .int y), (3, .int w)] → W p l e ({ frames := 4, cells := 0, slots := 0, locals := 89 } : Room) s m ([.ref (b 0), .int x, .int y, .int w] : List Value).toArray below meth c H locs 0 0 (MQ below (rwO (some (.int z.1)) D (mcells C b (mkM z.2.1 (mBef M) (mSav M) (mHis M) (mIsS M) (mRem M) (mErA M) (mFaA M) (mTxt M) (mTyp M) (mLin M) (mLnd M) z.2.2 (mFar M) (mGrp M) (mSiz M) (mPla M) (mWro M) (mTol M) (mNum M))) A) ([.ref (b 0), .int x, .int y, .int w] : List Value).toArray s 0 0 A) (F0 m 19 ls [.ref (b 0)]) := by
    intro  H locs ls hz  hP hD hS hl
    refine lv_iconst (v := 0) hx hb dX8_adds_19 (by decide) ?_
    exact J20 (false) _ _ ls hz  hP hD hS (lv_sub hl [0, 1, 2, 3] rfl)
  refine lv_aload_n hx hb dX8_adds_0 rfl (lv_at hl 0 rfl) ?_
  refine lv_iload_n hx hb dX8_adds_1 rfl (lv_at hl 1 rfl) ?_
  refine callRo (va_runS (As := [.int x]) (rest := [.ref (b 0)]) ⟨hx, hb, hml, hown, hts⟩ (c_X8_isIsland l D C (x)) (va_cwS 1 hts gX8_adds_X8_isIsland rfl rfl rfl (by decide +kernel) ⟨Nat.le_of_ble_eq_true rfl, Nat.le_of_ble_eq_true rfl⟩) (roP_s (hP.sub (ws' := ([] : va_W)) [] rfl) hK hE) rfl rfl hl.1 rfl (lv_room (Nat.le_of_ble_eq_true rfl)) dX8_adds_2 ⟨Nat.le_refl _, Nat.le_refl _⟩) ?_
  refine bif_eq (tgt := 19) hx hb dX8_adds_5 (by decide) (fun c_5 => ?_) (fun c_5 => ?_)
  · have hz := hz.trans (ifB_f c_5)
    exact J19  _ _ ls hz  hP hD hS (lv_sub hl [0, 1, 2, 3] rfl)
  · have hz := hz.trans (ifB_t c_5)
    refine lv_iload_n hx hb dX8_adds_8 rfl (lv_at hl 2 rfl) ?_
    refine callRo (va_runS (As := [.int y]) (rest := [.ref (b 0)]) ⟨hx, hb, hml, hown, hts⟩ (c_X8_isIsland l D C (y)) (va_cwS 1 hts gX8_adds_X8_isIsland rfl rfl rfl (by decide +kernel) ⟨Nat.le_of_ble_eq_true rfl, Nat.le_of_ble_eq_true rfl⟩) (roP_s (hP.sub (ws' := ([] : va_W)) [] rfl) hK hE) rfl rfl hl.1 rfl (lv_room (Nat.le_of_ble_eq_true rfl)) dX8_adds_9 ⟨Nat.le_refl _, Nat.le_refl _⟩) ?_
    refine bif_eq (tgt := 19) hx hb dX8_adds_12 (by decide) (fun c_12 => ?_) (fun c_12 => ?_)
    · have hz := hz.trans (ifB_f c_12)
      exact J19  _ _ ls hz  hP hD hS (lv_sub hl [0, 1, 2, 3] rfl)
    · have hz := hz.trans (ifB_t c_12)
      refine lv_iconst (v := 1) hx hb dX8_adds_15 (by decide) ?_
      refine lv_goto (tgt := 20) hx hb dX8_adds_16 (by decide) ?_
      exact J20 (true) _ _ ls hz  hP hD hS (lv_sub hl [0, 1, 2, 3] rfl)

