def f_X8_bids_j158  (s0_158 : Int32) (now0_158 : (Nat → Int32)) (thr0_158 : Int32) : Int32 × (Nat → Int32) × Int32 := (s0_158, now0_158, thr0_158)
def f_X8_bids_j139 (x : Int32) (y : Int32) (v : Bool) (s0_139 : Bool) (s1_139 : Nat) (now0_139 : (Nat → Int32)) (thr0_139 : Int32) : Int32 × (Nat → Int32) × Int32 := (if v = true then (f_X8_bids_j158 ((f_X8_bidsOn (upd now0_139 s1_139 (bI s0_139)) (y))) ((upd now0_139 s1_139 (bI s0_139))) (thr0_139)) else (f_X8_bids_j158 ((f_X8_available (upd now0_139 s1_139 (bI s0_139)) (x.toNatClampNeg))) ((upd now0_139 s1_139 (bI s0_139))) (thr0_139)))
def f_X8_bids_j86 (nw : (Nat → Int32)) (x : Int32) (y : Int32) (w : Int32) (v : Bool) (s0_86 : Bool) (thr0_86 : Int32) : Int32 × (Nat → Int32) × Int32 := (if (hOk true true true s0_86) = true then (if v = true then (f_X8_bids_j139 x y v (true) ((((22 + 13 * y.toNatClampNeg) + 9) + x.toNatClampNeg)) ((upd nw (((22 + 13 * y.toNatClampNeg) + 5) + x.toNatClampNeg) w)) ((hThr true true true s0_86))) else (f_X8_bids_j139 x y v (false) ((((22 + 13 * y.toNatClampNeg) + 9) + x.toNatClampNeg)) ((upd nw (((22 + 13 * y.toNatClampNeg) + 5) + x.toNatClampNeg) w)) ((hThr true true true s0_86)))) else (0, nw, (hThr true true true s0_86)))
def f_X8_bids_j85 (nw : (Nat → Int32)) (x : Int32) (y : Int32) (w : Int32) (v : Bool) (thr0_85 : Int32) : Int32 × (Nat → Int32) × Int32 := (f_X8_bids_j86 nw x y w v (false) (thr0_85))
def f_X8_bids_j81 (nw : (Nat → Int32)) (x : Int32) (y : Int32) (w : Int32) (v : Bool) (thr0_81 : Int32) : Int32 × (Nat → Int32) × Int32 := (f_X8_bids_j86 nw x y w v (true) (thr0_81))
def f_X8_bids_j42 (nw : (Nat → Int32)) (x : Int32) (y : Int32) (w : Int32) (v : Bool) (s0_42 : Bool) (s1_42 : Bool) (s2_42 : Bool) : Int32 × (Nat → Int32) × Int32 := (if (hOk s2_42 s1_42 s0_42 true) = true then (if w ≤ (f_X8_highest nw (y)) then (f_X8_bids_j85 nw x y w v ((hThr s2_42 s1_42 s0_42 true))) else (if v = true then (f_X8_bids_j81 nw x y w v ((hThr s2_42 s1_42 s0_42 true))) else (if ((f_X8_available nw (x.toNatClampNeg)) + (f_X8_reservedOn nw (x.toNatClampNeg) (y))) < w then (f_X8_bids_j85 nw x y w v ((hThr s2_42 s1_42 s0_42 true))) else (f_X8_bids_j81 nw x y w v ((hThr s2_42 s1_42 s0_42 true)))))) else (0, nw, (hThr s2_42 s1_42 s0_42 true)))
def f_X8_bids_j22 (nw : (Nat → Int32)) (x : Int32) (y : Int32) (w : Int32) (v : Bool) (s0_22 : Bool) : Int32 × (Nat → Int32) × Int32 := (if (f_X8_isDone nw (y)) = true then (f_X8_bids_j42 nw x y w v (false) ((f_X8_isIn (w) (1) (99))) (s0_22)) else (f_X8_bids_j42 nw x y w v (true) ((f_X8_isIn (w) (1) (99))) (s0_22)))
def f_X8_bids_j21 (nw : (Nat → Int32)) (x : Int32) (y : Int32) (w : Int32) (v : Bool) : Int32 × (Nat → Int32) × Int32 := (f_X8_bids_j22 nw x y w v (false))
def f_X8_bids (nw : (Nat → Int32)) (x : Int32) (y : Int32) (w : Int32) (v : Bool) : Int32 × (Nat → Int32) × Int32 := (if (f_X8_isPlayer nw (x)) = true then (if (f_X8_isSite nw (y)) = true then (f_X8_bids_j22 nw x y w v (true)) else (f_X8_bids_j21 nw x y w v)) else (f_X8_bids_j21 nw x y w v))
set_option maxHeartbeats 4000000 in
set_option maxRecDepth 100000 in
theorem c_X8_bids (l : Launch) (D : va_G) (C : Nat → ClassId) (b : Nat → Nat) (M : MS) (x : Int32) (y : Int32) (w : Int32) (v : Bool) (sz : Nat) (hM : MSafe M) : Met l yX8_bids wsX8_bids ({ frames := 5, cells := 0, slots := 0, locals := 110 } : Room) (rwP [.ref (b 0), .int x, .int y, .int w, .int (bI v)] D C (mcells C b M) sz) (rwO (some (.int ((f_X8_bids (mNow M) x y w v).1))) D (mcells C b (mkM ((f_X8_bids (mNow M) x y w v).2.1) (mBef M) (mSav M) (mHis M) (mIsS M) (mRem M) (mErA M) (mFaA M) (mTxt M) (mTyp M) (mLin M) (mLnd M) ((f_X8_bids (mNow M) x y w v).2.2) (mFar M) (mGrp M) (mSiz M) (mPla M) (mWro M) (mTol M) (mNum M))) (va_A (mcells C b M) sz)) 0 0 (va_A (mcells C b M) sz) := by
  refine Met.ofW (cc := cX8_bids) (maxL := 6) (ret := (some .int)) (by decide) rfl ?_
  intro p e s m args below meth c s₁ B hml hv
  obtain ⟨rfl, hsz, hP, hK, hD0, hE⟩ := hv
  have hx := B.exec
  have hb := B.bytes
  have hr := B.returns
  have hts := atoms_spec (ws := wsX8_bids) B.pre
  have hown : s.vm.findClass RX8 = some m.cls := findClass_of_methodNamed B.named
  have hlocks := B.notSynchronized
  subst hsz
  have hD := hD0.self (sz := s.heap.size)
  generalize hAe : va_A (mcells C b M) s.heap.size = A at hD ⊢
  have hA : ∀ q : Nat, s.heap.size ≤ q → A q := fun q h => by rw [← hAe]; exact Or.inr h
  have hS0 : va_S A s.heap s.heap [] := va_S.rf
  have hP : va_P D vwCl (mcells C b M) s.heap := hP
  have hS := hS0
  obtain ⟨⟨hS2, hS12⟩, ⟨hP2, hP4⟩, hLH, hFE⟩ := id hM
  have hinX8 : ∀ w ∈ u_ws RX8 TX8 20, w ∈ wsX8_bids := by decide +kernel
  have hl := lv_entry ([.ref (b 0), .int x, .int y, .int w, .int (bI v)]) (n := 6) (Nat.le_of_ble_eq_true rfl)
  rw [lg_entry_eq]
  generalize (lg_sl ([.ref (b 0), .int x, .int y, .int w, .int (bI v)]) ++ List.replicate (6 - (lg_sl ([.ref (b 0), .int x, .int y, .int w, .int (bI v)])).length) Slot.unset).toArray = ls at hl ⊢
  have hl : lv_has ls 6 [(0, .ref (b 0)), (1, .int x), (2, .int y), (3, .int w), (4, .int (bI v))] := hl
  obtain ⟨z, hz⟩ : ∃ z, z = f_X8_bids (mNow M) x y w v := ⟨_, rfl⟩
  rw [← hz]
  have J158 : ∀ (s0_158 : Int32) (now0_158 : (Nat → Int32)) (thr0_158 : Int32)  (H : Heap) (locs : List Loc) (ls : Array Slot), z = f_X8_bids_j158 s0_158 now0_158 thr0_158 → va_P D vwCl (mcells C b (mkM now0_158 (mBef M) (mSav M) (mHis M) (mIsS M) (mRem M) (mErA M) (mFaA M) (mTxt M) (mTyp M) (mLin M) (mLnd M) thr0_158 (mFar M) (mGrp M) (mSiz M) (mPla M) (mWro M) (mTol M) (mNum M))) H → va_D A (mcells C b (mkM now0_158 (mBef M) (mSav M) (mHis M) (mIsS M) (mRem M) (mErA M) (mFaA M) (mTxt M) (mTyp M) (mLin M) (mLnd M) thr0_158 (mFar M) (mGrp M) (mSiz M) (mPla M) (mWro M) (mTol M) (mNum M))) → va_S A s.heap H locs → lv_has ls 6 [] → W p l e ({ frames := 5, cells := 0, slots := 0, locals := 110 } : Room) s m ([.ref (b 0), .int x, .int y, .int w, .int (bI v)] : List Value).toArray below meth c H locs 0 0 (MQ below (rwO (some (.int z.1)) D (mcells C b (mkM z.2.1 (mBef M) (mSav M) (mHis M) (mIsS M) (mRem M) (mErA M) (mFaA M) (mTxt M) (mTyp M) (mLin M) (mLnd M) z.2.2 (mFar M) (mGrp M) (mSiz M) (mPla M) (mWro M) (mTol M) (mNum M))) A) ([.ref (b 0), .int x, .int y, .int w, .int (bI v)] : List Value).toArray s 0 0 A) (F0 m 158 ls [.int s0_158]) := by
    intro s0_158 now0_158 thr0_158 H locs ls hz  hP hD hS hl
    have hz : z = (s0_158, now0_158, thr0_158) := hz
    rw [hz]
    exact rw_ret hx hb hr hP hS rfl dX8_bids_158 hlocks
  have J139 : ∀ (s0_139 : Bool) (s1_139 : Nat) (now0_139 : (Nat → Int32)) (thr0_139 : Int32)  (H : Heap) (locs : List Loc) (ls : Array Slot), z = f_X8_bids_j139 x y v s0_139 s1_139 now0_139 thr0_139 → (vp_in x 4) → (vp_in y 12) → (s1_139 = 22 + 13 * y.toNatClampNeg + 9 + x.toNatClampNeg) → (NowOK now0_139) → va_P D vwCl (mcells C b (mkM now0_139 (mBef M) (mSav M) (mHis M) (mIsS M) (mRem M) (mErA M) (mFaA M) (mTxt M) (mTyp M) (mLin M) (mLnd M) thr0_139 (mFar M) (mGrp M) (mSiz M) (mPla M) (mWro M) (mTol M) (mNum M))) H → va_D A (mcells C b (mkM now0_139 (mBef M) (mSav M) (mHis M) (mIsS M) (mRem M) (mErA M) (mFaA M) (mTxt M) (mTyp M) (mLin M) (mLnd M) thr0_139 (mFar M) (mGrp M) (mSiz M) (mPla M) (mWro M) (mTol M) (mNum M))) → va_S A s.heap H locs → lv_has ls 6 [(0, .ref (b 0)), (1, .int x), (2, .int y), (4, .int (bI v))] → W p l e ({ frames := 5, cells := 0, slots := 0, locals := 110 } : Room) s m ([.ref (b 0), .int x, .int y, .int w, .int (bI v)] : List Value).toArray below meth c H locs 0 0 (MQ below (rwO (some (.int z.1)) D (mcells C b (mkM z.2.1 (mBef M) (mSav M) (mHis M) (mIsS M) (mRem M) (mErA M) (mFaA M) (mTxt M) (mTyp M) (mLin M) (mLnd M) z.2.2 (mFar M) (mGrp M) (mSiz M) (mPla M) (mWro M) (mTol M) (mNum M))) A) ([.ref (b 0), .int x, .int y, .int w, .int (bI v)] : List Value).toArray s 0 0 A) (F0 m 139 ls [.int (bI s0_139), .int (nI s1_139), .ref (b 1)]) := by
    intro s0_139 s1_139 now0_139 thr0_139 H locs ls hz iv139_0 iv139_1 iv139_2 iv139_3 hP hD hS hl
    have ex := (nat_of iv139_0 (by decide)).1
    have lx := (nat_of iv139_0 (by decide)).2
    have ey := (nat_of iv139_1 (by decide)).1
    have ly := (nat_of iv139_1 (by decide)).2
    refine iastN (tys := tyA C) hx hb hK hP hD hS 1 0 rfl rfl (i := s1_139) (by omega) (by decide) dX8_bids_139 (fun H locs hP hD hS => ?_)
    have hP : va_P D vwCl (mcells C b (mkM (upd now0_139 s1_139 (bI s0_139)) (mBef M) (mSav M) (mHis M) (mIsS M) (mRem M) (mErA M) (mFaA M) (mTxt M) (mTyp M) (mLin M) (mLnd M) thr0_139 (mFar M) (mGrp M) (mSiz M) (mPla M) (mWro M) (mTol M) (mNum M))) H := hP
    have hD : va_D A (mcells C b (mkM (upd now0_139 s1_139 (bI s0_139)) (mBef M) (mSav M) (mHis M) (mIsS M) (mRem M) (mErA M) (mFaA M) (mTxt M) (mTyp M) (mLin M) (mLnd M) thr0_139 (mFar M) (mGrp M) (mSiz M) (mPla M) (mWro M) (mTol M) (mNum M))) := hD
    refine lv_iload hx hb dX8_bids_140 (lv_at hl 3 rfl) ?_
    refine bif_eq (tgt := 153) hx hb dX8_bids_142 (by decide) (fun c_142 => ?_) (fun c_142 => ?_)
    · have hz := hz.trans (ifB_f c_142)
      refine lv_aload_n hx hb dX8_bids_153 rfl (lv_at hl 0 rfl) ?_
      refine lv_iload_n hx hb dX8_bids_154 rfl (lv_at hl 1 rfl) ?_
      refine topN (k := x.toNatClampNeg) (show x = (nI x.toNatClampNeg) from by exact ex) ?_
      refine callRo (va_runV (As := [.int (nI x.toNatClampNeg)]) (rest := []) ⟨hx, hb, hml, hown, hts⟩ (c_X8_available l D C b (mkM (upd now0_139 s1_139 (bI s0_139)) (mBef M) (mSav M) (mHis M) (mIsS M) (mRem M) (mErA M) (mFaA M) (mTxt M) (mTyp M) (mLin M) (mLnd M) thr0_139 (mFar M) (mGrp M) (mSiz M) (mPla M) (mWro M) (mTol M) (mNum M)) (x.toNatClampNeg) (NowOK_upd iv139_3 (k := y.toNatClampNeg) (j := 9 + x.toNatClampNeg) ly (by omega) (by omega)) (by omega)) (cwV 1 hts gX8_bids_X8_available rfl rfl rfl (by decide +kernel) ⟨Nat.le_of_ble_eq_true rfl, Nat.le_of_ble_eq_true rfl⟩) (roP_v hP hK hE (va_recv hK hP (ci := 9) (q0 := 0) rfl rfl)) rfl rfl hl.1 rfl (lv_room (Nat.le_of_ble_eq_true rfl)) dX8_bids_155 ⟨Nat.le_refl _, Nat.le_refl _⟩) ?_
      refine topI (y := (f_X8_available (upd now0_139 s1_139 (bI s0_139)) (x.toNatClampNeg))) rfl ?_
      exact J158 ((f_X8_available (upd now0_139 s1_139 (bI s0_139)) (x.toNatClampNeg))) ((upd now0_139 s1_139 (bI s0_139))) (thr0_139) _ _ ls hz  hP hD hS (lv_sub hl [] rfl)
    · have hz := hz.trans (ifB_t c_142)
      refine lv_aload_n hx hb dX8_bids_145 rfl (lv_at hl 0 rfl) ?_
      refine lv_iload_n hx hb dX8_bids_146 rfl (lv_at hl 2 rfl) ?_
      refine callRo (va_runV (As := [.int y]) (rest := []) ⟨hx, hb, hml, hown, hts⟩ (c_X8_bidsOn l D C b (mkM (upd now0_139 s1_139 (bI s0_139)) (mBef M) (mSav M) (mHis M) (mIsS M) (mRem M) (mErA M) (mFaA M) (mTxt M) (mTyp M) (mLin M) (mLnd M) thr0_139 (mFar M) (mGrp M) (mSiz M) (mPla M) (mWro M) (mTol M) (mNum M)) (y) (NowOK_upd iv139_3 (k := y.toNatClampNeg) (j := 9 + x.toNatClampNeg) ly (by omega) (by omega))) (cwV 1 hts gX8_bids_X8_bidsOn rfl rfl rfl (by decide +kernel) ⟨Nat.le_of_ble_eq_true rfl, Nat.le_of_ble_eq_true rfl⟩) (roP_v hP hK hE (va_recv hK hP (ci := 9) (q0 := 0) rfl rfl)) rfl rfl hl.1 rfl (lv_room (Nat.le_of_ble_eq_true rfl)) dX8_bids_147 ⟨Nat.le_refl _, Nat.le_refl _⟩) ?_
      refine topI (y := (f_X8_bidsOn (upd now0_139 s1_139 (bI s0_139)) (y))) rfl ?_
      refine lv_goto (tgt := 158) hx hb dX8_bids_150 (by decide) ?_
      exact J158 ((f_X8_bidsOn (upd now0_139 s1_139 (bI s0_139)) (y))) ((upd now0_139 s1_139 (bI s0_139))) (thr0_139) _ _ ls hz  hP hD hS (lv_sub hl [] rfl)
  have J86 : ∀ (s0_86 : Bool) (thr0_86 : Int32)  (H : Heap) (locs : List Loc) (ls : Array Slot), z = f_X8_bids_j86 (mNow M) x y w v s0_86 thr0_86 → (vp_in x 4) → (vp_in y 12) → va_P D vwCl (mcells C b (mkM (mNow M) (mBef M) (mSav M) (mHis M) (mIsS M) (mRem M) (mErA M) (mFaA M) (mTxt M) (mTyp M) (mLin M) (mLnd M) thr0_86 (mFar M) (mGrp M) (mSiz M) (mPla M) (mWro M) (mTol M) (mNum M))) H → va_D A (mcells C b (mkM (mNow M) (mBef M) (mSav M) (mHis M) (mIsS M) (mRem M) (mErA M) (mFaA M) (mTxt M) (mTyp M) (mLin M) (mLnd M) thr0_86 (mFar M) (mGrp M) (mSiz M) (mPla M) (mWro M) (mTol M) (mNum M))) → va_S A s.heap H locs → lv_has ls 6 [(0, .ref (b 0)), (1, .int x), (2, .int y), (3, .int w), (4, .int (bI v))] → W p l e ({ frames := 5, cells := 0, slots := 0, locals := 110 } : Room) s m ([.ref (b 0), .int x, .int y, .int w, .int (bI v)] : List Value).toArray below meth c H locs 0 0 (MQ below (rwO (some (.int z.1)) D (mcells C b (mkM z.2.1 (mBef M) (mSav M) (mHis M) (mIsS M) (mRem M) (mErA M) (mFaA M) (mTxt M) (mTyp M) (mLin M) (mLnd M) z.2.2 (mFar M) (mGrp M) (mSiz M) (mPla M) (mWro M) (mTol M) (mNum M))) A) ([.ref (b 0), .int x, .int y, .int w, .int (bI v)] : List Value).toArray s 0 0 A) (F0 m 86 ls [.int (bI s0_86)]) := by
    intro s0_86 thr0_86 H locs ls hz iv86_0 iv86_1 hP hD hS hl
    have ex := (nat_of iv86_0 (by decide)).1
    have lx := (nat_of iv86_0 (by decide)).2
    have ey := (nat_of iv86_1 (by decide)).1
    have ly := (nat_of iv86_1 (by decide)).2
    refine lv_istore (lv' := [(5, .int (bI s0_86)), (0, .ref (b 0)), (1, .int x), (2, .int y), (3, .int w), (4, .int (bI v))]) hx hb dX8_bids_86 hl (by decide) rfl (fun ls hl => ?_)
    refine lv_aload_n hx hb dX8_bids_88 rfl (lv_at hl 1 rfl) ?_
    refine lv_iconst (v := 1) hx hb dX8_bids_89 (by decide) ?_
    refine lv_iconst (v := 1) hx hb dX8_bids_90 (by decide) ?_
    refine lv_iconst (v := 1) hx hb dX8_bids_91 (by decide) ?_
    refine lv_iload hx hb dX8_bids_92 (lv_at hl 0 rfl) ?_
    have hFc := va_free (wc := (mcells C b (mkM (mNow M) (mBef M) (mSav M) (mHis M) (mIsS M) (mRem M) (mErA M) (mFaA M) (mTxt M) (mTyp M) (mLin M) (mLnd M) thr0_86 (mFar M) (mGrp M) (mSiz M) (mPla M) (mWro M) (mTol M) (mNum M)))) hD hS hA [0, 1, 2, 3, 4, 5, 6, 7, 8, 9] rfl
    refine callRw (va_runV (As := [.int (bI true), .int (bI true), .int (bI true), .int (bI s0_86)]) (rest := []) ⟨hx, hb, hml, hown, hts⟩ (c_X8_holds_ l D C b (mkM (mNow M) (mBef M) (mSav M) (mHis M) (mIsS M) (mRem M) (mErA M) (mFaA M) (mTxt M) (mTyp M) (mLin M) (mLnd M) thr0_86 (mFar M) (mGrp M) (mSiz M) (mPla M) (mWro M) (mTol M) (mNum M)) (true) (true) (true) (s0_86) _) (cwV 4 hts gX8_bids_X8_holds rfl rfl rfl (by decide +kernel) ⟨Nat.le_of_ble_eq_true rfl, Nat.le_of_ble_eq_true rfl⟩) (rwP_v hP hK hE hD (va_recv hK hP (ci := 9) (q0 := 0) rfl rfl)) rfl rfl hl.1 rfl (lv_room (Nat.le_of_ble_eq_true rfl)) dX8_bids_94 ⟨Nat.le_refl _, Nat.le_refl _⟩) hS hFc (fun H1 locs hPn hk hS => ?_)
    have hP : va_P D vwCl (mcells C b (mkM (mNow M) (mBef M) (mSav M) (mHis M) (mIsS M) (mRem M) (mErA M) (mFaA M) (mTxt M) (mTyp M) (mLin M) (mLnd M) (hThr true true true s0_86) (mFar M) (mGrp M) (mSiz M) (mPla M) (mWro M) (mTol M) (mNum M))) H1 := hPn
    have hD : va_D A (mcells C b (mkM (mNow M) (mBef M) (mSav M) (mHis M) (mIsS M) (mRem M) (mErA M) (mFaA M) (mTxt M) (mTyp M) (mLin M) (mLnd M) (hThr true true true s0_86) (mFar M) (mGrp M) (mSiz M) (mPla M) (mWro M) (mTol M) (mNum M))) := adr_D hD rfl
    generalize H1 = H at hP hS ⊢
    refine topI (y := (bI (hOk true true true s0_86))) rfl ?_
    refine bif_ne (tgt := 102) hx hb dX8_bids_97 (by decide) (fun c_97 => ?_) (fun c_97 => ?_)
    · have hz := hz.trans (ifB_t c_97)
      refine lv_aload_n hx hb dX8_bids_102 rfl (lv_at hl 1 rfl) ?_
      refine va_get (D := D) (ci := 9) (v := .ref (b 1)) (C := RX8) (T := TX8) (N := 20) hx hb hts hinX8 hown hK hP 0 rfl rfl 0 (by decide) (hts (.fieldLink RX8 9 "BridgeAuctionModel" "now" "[I") (by decide +kernel)) (fun _ h9 => h9) rfl dX8_bids_103 ?_
      refine lv_iload_n hx hb dX8_bids_106 rfl (lv_at hl 3 rfl) ?_
      obtain ⟨ehn_1, lhn_1⟩ := nat_of (x := y) (n := 12) (by first | assumption) (by omega)
      refine topN ehn_1 ?_
      refine callRo (va_runS (As := [.int (nI y.toNatClampNeg)]) (rest := [.ref (b 1)]) ⟨hx, hb, hml, hown, hts⟩ (c_X8_siteAt l D C (y.toNatClampNeg) (by omega)) (va_cwS 1 hts gX8_bids_X8_siteAt rfl rfl rfl (by decide +kernel) ⟨Nat.le_of_ble_eq_true rfl, Nat.le_of_ble_eq_true rfl⟩) (roP_s (hP.sub (ws' := ([] : va_W)) [] rfl) hK hE) rfl rfl hl.1 rfl (lv_room (Nat.le_of_ble_eq_true rfl)) dX8_bids_107 ⟨Nat.le_refl _, Nat.le_refl _⟩) ?_
      refine topN (k := (22 + 13 * y.toNatClampNeg)) rfl ?_
      refine lv_iconst (v := 5) hx hb dX8_bids_110 (by decide) ?_
      refine topN (k := 5) (by decide +kernel) ?_
      refine addN hx hb dX8_bids_111 ?_
      refine lv_iload_n hx hb dX8_bids_112 rfl (lv_at hl 2 rfl) ?_
      refine topN (k := x.toNatClampNeg) (show x = (nI x.toNatClampNeg) from by exact ex) ?_
      refine addN hx hb dX8_bids_113 ?_
      refine lv_iload_n hx hb dX8_bids_114 rfl (lv_at hl 4 rfl) ?_
      refine iastN (tys := tyA C) hx hb hK hP hD hS 1 0 rfl rfl (i := (((22 + 13 * y.toNatClampNeg) + 5) + x.toNatClampNeg)) (by omega) (by decide) dX8_bids_115 (fun H locs hP hD hS => ?_)
      have hP : va_P D vwCl (mcells C b (mkM (upd (mNow M) (((22 + 13 * y.toNatClampNeg) + 5) + x.toNatClampNeg) w) (mBef M) (mSav M) (mHis M) (mIsS M) (mRem M) (mErA M) (mFaA M) (mTxt M) (mTyp M) (mLin M) (mLnd M) (hThr true true true s0_86) (mFar M) (mGrp M) (mSiz M) (mPla M) (mWro M) (mTol M) (mNum M))) H := hP
      have hD : va_D A (mcells C b (mkM (upd (mNow M) (((22 + 13 * y.toNatClampNeg) + 5) + x.toNatClampNeg) w) (mBef M) (mSav M) (mHis M) (mIsS M) (mRem M) (mErA M) (mFaA M) (mTxt M) (mTyp M) (mLin M) (mLnd M) (hThr true true true s0_86) (mFar M) (mGrp M) (mSiz M) (mPla M) (mWro M) (mTol M) (mNum M))) := hD
      refine lv_aload_n hx hb dX8_bids_116 rfl (lv_at hl 1 rfl) ?_
      refine va_get (D := D) (ci := 9) (v := .ref (b 1)) (C := RX8) (T := TX8) (N := 20) hx hb hts hinX8 hown hK hP 0 rfl rfl 0 (by decide) (hts (.fieldLink RX8 9 "BridgeAuctionModel" "now" "[I") (by decide +kernel)) (fun _ h9 => h9) rfl dX8_bids_117 ?_
      refine lv_iload_n hx hb dX8_bids_120 rfl (lv_at hl 3 rfl) ?_
      obtain ⟨ehn_2, lhn_2⟩ := nat_of (x := y) (n := 12) (by first | assumption) (by omega)
      refine topN ehn_2 ?_
      refine callRo (va_runS (As := [.int (nI y.toNatClampNeg)]) (rest := [.ref (b 1)]) ⟨hx, hb, hml, hown, hts⟩ (c_X8_siteAt l D C (y.toNatClampNeg) (by omega)) (va_cwS 1 hts gX8_bids_X8_siteAt rfl rfl rfl (by decide +kernel) ⟨Nat.le_of_ble_eq_true rfl, Nat.le_of_ble_eq_true rfl⟩) (roP_s (hP.sub (ws' := ([] : va_W)) [] rfl) hK hE) rfl rfl hl.1 rfl (lv_room (Nat.le_of_ble_eq_true rfl)) dX8_bids_121 ⟨Nat.le_refl _, Nat.le_refl _⟩) ?_
      refine topN (k := (22 + 13 * y.toNatClampNeg)) rfl ?_
      refine lv_bipush (v := 9) hx hb dX8_bids_124 (by decide +kernel) ?_
      refine topN (k := 9) (by decide +kernel) ?_
      refine addN hx hb dX8_bids_126 ?_
      refine lv_iload_n hx hb dX8_bids_127 rfl (lv_at hl 2 rfl) ?_
      refine topN (k := x.toNatClampNeg) (show x = (nI x.toNatClampNeg) from by exact ex) ?_
      refine addN hx hb dX8_bids_128 ?_
      refine lv_iload hx hb dX8_bids_129 (lv_at hl 5 rfl) ?_
      refine bif_eq (tgt := 138) hx hb dX8_bids_131 (by decide) (fun c_131 => ?_) (fun c_131 => ?_)
      · have hz := hz.trans (ifB_f c_131)
        refine lv_iconst (v := 0) hx hb dX8_bids_138 (by decide) ?_
        exact J139 (false) ((((22 + 13 * y.toNatClampNeg) + 9) + x.toNatClampNeg)) ((upd (mNow M) (((22 + 13 * y.toNatClampNeg) + 5) + x.toNatClampNeg) w)) ((hThr true true true s0_86)) _ _ ls hz (by assumption) (by assumption) (by rfl) (by exact NowOK_upd hM (k := y.toNatClampNeg) (j := 5 + x.toNatClampNeg) ly (by omega) (by omega)) hP hD hS (lv_sub hl [1, 2, 3, 5] rfl)
      · have hz := hz.trans (ifB_t c_131)
        refine lv_iconst (v := 1) hx hb dX8_bids_134 (by decide) ?_
        refine lv_goto (tgt := 139) hx hb dX8_bids_135 (by decide) ?_
        exact J139 (true) ((((22 + 13 * y.toNatClampNeg) + 9) + x.toNatClampNeg)) ((upd (mNow M) (((22 + 13 * y.toNatClampNeg) + 5) + x.toNatClampNeg) w)) ((hThr true true true s0_86)) _ _ ls hz (by assumption) (by assumption) (by rfl) (by exact NowOK_upd hM (k := y.toNatClampNeg) (j := 5 + x.toNatClampNeg) ly (by omega) (by omega)) hP hD hS (lv_sub hl [1, 2, 3, 5] rfl)
    · have hz := hz.trans (ifB_f c_97)
      refine lv_iconst (v := 0) hx hb dX8_bids_100 (by decide) ?_
      have hz : z = (0, (mNow M), (hThr true true true s0_86)) := hz
      rw [hz]
      exact rw_ret hx hb hr hP hS rfl dX8_bids_101 hlocks
  have J85 : ∀ (thr0_85 : Int32)  (H : Heap) (locs : List Loc) (ls : Array Slot), z = f_X8_bids_j85 (mNow M) x y w v thr0_85 → (vp_in x 4) → (vp_in y 12) → va_P D vwCl (mcells C b (mkM (mNow M) (mBef M) (mSav M) (mHis M) (mIsS M) (mRem M) (mErA M) (mFaA M) (mTxt M) (mTyp M) (mLin M) (mLnd M) thr0_85 (mFar M) (mGrp M) (mSiz M) (mPla M) (mWro M) (mTol M) (mNum M))) H → va_D A (mcells C b (mkM (mNow M) (mBef M) (mSav M) (mHis M) (mIsS M) (mRem M) (mErA M) (mFaA M) (mTxt M) (mTyp M) (mLin M) (mLnd M) thr0_85 (mFar M) (mGrp M) (mSiz M) (mPla M) (mWro M) (mTol M) (mNum M))) → va_S A s.heap H locs → lv_has ls 6 [(0, .ref (b 0)), (1, .int x), (2, .int y), (3, .int w), (4, .int (bI v))] → W p l e ({ frames := 5, cells := 0, slots := 0, locals := 110 } : Room) s m ([.ref (b 0), .int x, .int y, .int w, .int (bI v)] : List Value).toArray below meth c H locs 0 0 (MQ below (rwO (some (.int z.1)) D (mcells C b (mkM z.2.1 (mBef M) (mSav M) (mHis M) (mIsS M) (mRem M) (mErA M) (mFaA M) (mTxt M) (mTyp M) (mLin M) (mLnd M) z.2.2 (mFar M) (mGrp M) (mSiz M) (mPla M) (mWro M) (mTol M) (mNum M))) A) ([.ref (b 0), .int x, .int y, .int w, .int (bI v)] : List Value).toArray s 0 0 A) (F0 m 85 ls []) := by
    intro thr0_85 H locs ls hz iv85_0 iv85_1 hP hD hS hl
    have ex := (nat_of iv85_0 (by decide)).1
    have lx := (nat_of iv85_0 (by decide)).2
    have ey := (nat_of iv85_1 (by decide)).1
    have ly := (nat_of iv85_1 (by decide)).2
    refine lv_iconst (v := 0) hx hb dX8_bids_85 (by decide) ?_
    exact J86 (false) (thr0_85) _ _ ls hz (by assumption) (by assumption) hP hD hS (lv_sub hl [0, 1, 2, 3, 4] rfl)
  have J81 : ∀ (thr0_81 : Int32)  (H : Heap) (locs : List Loc) (ls : Array Slot), z = f_X8_bids_j81 (mNow M) x y w v thr0_81 → (vp_in x 4) → (vp_in y 12) → va_P D vwCl (mcells C b (mkM (mNow M) (mBef M) (mSav M) (mHis M) (mIsS M) (mRem M) (mErA M) (mFaA M) (mTxt M) (mTyp M) (mLin M) (mLnd M) thr0_81 (mFar M) (mGrp M) (mSiz M) (mPla M) (mWro M) (mTol M) (mNum M))) H → va_D A (mcells C b (mkM (mNow M) (mBef M) (mSav M) (mHis M) (mIsS M) (mRem M) (mErA M) (mFaA M) (mTxt M) (mTyp M) (mLin M) (mLnd M) thr0_81 (mFar M) (mGrp M) (mSiz M) (mPla M) (mWro M) (mTol M) (mNum M))) → va_S A s.heap H locs → lv_has ls 6 [(0, .ref (b 0)), (1, .int x), (2, .int y), (3, .int w), (4, .int (bI v))] → W p l e ({ frames := 5, cells := 0, slots := 0, locals := 110 } : Room) s m ([.ref (b 0), .int x, .int y, .int w, .int (bI v)] : List Value).toArray below meth c H locs 0 0 (MQ below (rwO (some (.int z.1)) D (mcells C b (mkM z.2.1 (mBef M) (mSav M) (mHis M) (mIsS M) (mRem M) (mErA M) (mFaA M) (mTxt M) (mTyp M) (mLin M) (mLnd M) z.2.2 (mFar M) (mGrp M) (mSiz M) (mPla M) (mWro M) (mTol M) (mNum M))) A) ([.ref (b 0), .int x, .int y, .int w, .int (bI v)] : List Value).toArray s 0 0 A) (F0 m 81 ls []) := by
    intro thr0_81 H locs ls hz iv81_0 iv81_1 hP hD hS hl
    have ex := (nat_of iv81_0 (by decide)).1
    have lx := (nat_of iv81_0 (by decide)).2
    have ey := (nat_of iv81_1 (by decide)).1
    have ly := (nat_of iv81_1 (by decide)).2
    refine lv_iconst (v := 1) hx hb dX8_bids_81 (by decide) ?_
    refine lv_goto (tgt := 86) hx hb dX8_bids_82 (by decide) ?_
    exact J86 (true) (thr0_81) _ _ ls hz (by assumption) (by assumption) hP hD hS (lv_sub hl [0, 1, 2, 3, 4] rfl)
  have J42 : ∀ (s0_42 : Bool) (s1_42 : Bool) (s2_42 : Bool)  (H : Heap) (locs : List Loc) (ls : Array Slot), z = f_X8_bids_j42 (mNow M) x y w v s0_42 s1_42 s2_42 → (s2_42 = true → vp_in x (mP (mNow M)) ∧ vp_in y (mS (mNow M))) → va_P D vwCl (mcells C b M) H → va_D A (mcells C b M) → va_S A s.heap H locs → lv_has ls 6 [(0, .ref (b 0)), (1, .int x), (2, .int y), (3, .int w), (4, .int (bI v))] → W p l e ({ frames := 5, cells := 0, slots := 0, locals := 110 } : Room) s m ([.ref (b 0), .int x, .int y, .int w, .int (bI v)] : List Value).toArray below meth c H locs 0 0 (MQ below (rwO (some (.int z.1)) D (mcells C b (mkM z.2.1 (mBef M) (mSav M) (mHis M) (mIsS M) (mRem M) (mErA M) (mFaA M) (mTxt M) (mTyp M) (mLin M) (mLnd M) z.2.2 (mFar M) (mGrp M) (mSiz M) (mPla M) (mWro M) (mTol M) (mNum M))) A) ([.ref (b 0), .int x, .int y, .int w, .int (bI v)] : List Value).toArray s 0 0 A) (F0 m 42 ls [.int (bI s0_42), .int (bI s1_42), .int (bI s2_42), .ref (b 0)]) := by
    intro s0_42 s1_42 s2_42 H locs ls hz iv42_0 hP hD hS hl
    refine lv_iconst (v := 1) hx hb dX8_bids_42 (by decide) ?_
    have hFc := va_free (wc := (mcells C b M)) hD hS hA [0, 1, 2, 3, 4, 5, 6, 7, 8, 9] rfl
    refine callRw (va_runV (As := [.int (bI s2_42), .int (bI s1_42), .int (bI s0_42), .int (bI true)]) (rest := []) ⟨hx, hb, hml, hown, hts⟩ (c_X8_holds_ l D C b M (s2_42) (s1_42) (s0_42) (true) _) (cwV 4 hts gX8_bids_X8_holds rfl rfl rfl (by decide +kernel) ⟨Nat.le_of_ble_eq_true rfl, Nat.le_of_ble_eq_true rfl⟩) (rwP_v hP hK hE hD (va_recv hK hP (ci := 9) (q0 := 0) rfl rfl)) rfl rfl hl.1 rfl (lv_room (Nat.le_of_ble_eq_true rfl)) dX8_bids_43 ⟨Nat.le_refl _, Nat.le_refl _⟩) hS hFc (fun H1 locs hPn hk hS => ?_)
    have hP : va_P D vwCl (mcells C b (mkM (mNow M) (mBef M) (mSav M) (mHis M) (mIsS M) (mRem M) (mErA M) (mFaA M) (mTxt M) (mTyp M) (mLin M) (mLnd M) (hThr s2_42 s1_42 s0_42 true) (mFar M) (mGrp M) (mSiz M) (mPla M) (mWro M) (mTol M) (mNum M))) H1 := hPn
    have hD : va_D A (mcells C b (mkM (mNow M) (mBef M) (mSav M) (mHis M) (mIsS M) (mRem M) (mErA M) (mFaA M) (mTxt M) (mTyp M) (mLin M) (mLnd M) (hThr s2_42 s1_42 s0_42 true) (mFar M) (mGrp M) (mSiz M) (mPla M) (mWro M) (mTol M) (mNum M))) := adr_D hD rfl
    generalize H1 = H at hP hS ⊢
    refine topI (y := (bI (hOk s2_42 s1_42 s0_42 true))) rfl ?_
    refine bif_ne (tgt := 51) hx hb dX8_bids_46 (by decide) (fun c_46 => ?_) (fun c_46 => ?_)
    · have hz := hz.trans (ifB_t c_46)
      have q := iv42_0 (hOk_1 c_46).1
      have hp := vp_mono q.1 hP4
      have hs := vp_mono q.2 hS12
      have ex := (nat_of hp (by decide)).1
      have lx := (nat_of hp (by decide)).2
      have ey := (nat_of hs (by decide)).1
      have ly := (nat_of hs (by decide)).2
      refine lv_iload_n hx hb dX8_bids_51 rfl (lv_at hl 3 rfl) ?_
      refine lv_aload_n hx hb dX8_bids_52 rfl (lv_at hl 0 rfl) ?_
      refine lv_iload_n hx hb dX8_bids_53 rfl (lv_at hl 2 rfl) ?_
      refine callRo (va_runV (As := [.int y]) (rest := [.int w]) ⟨hx, hb, hml, hown, hts⟩ (c_X8_highest l D C b (mkM (mNow M) (mBef M) (mSav M) (mHis M) (mIsS M) (mRem M) (mErA M) (mFaA M) (mTxt M) (mTyp M) (mLin M) (mLnd M) (hThr s2_42 s1_42 s0_42 true) (mFar M) (mGrp M) (mSiz M) (mPla M) (mWro M) (mTol M) (mNum M)) (y) (MSafe_of hM rfl)) (cwV 1 hts gX8_bids_X8_highest rfl rfl rfl (by decide +kernel) ⟨Nat.le_of_ble_eq_true rfl, Nat.le_of_ble_eq_true rfl⟩) (roP_v hP hK hE (va_recv hK hP (ci := 9) (q0 := 0) rfl rfl)) rfl rfl hl.1 rfl (lv_room (Nat.le_of_ble_eq_true rfl)) dX8_bids_54 ⟨Nat.le_refl _, Nat.le_refl _⟩) ?_
      refine topI (y := (f_X8_highest (mNow M) (y))) rfl ?_
      refine lv_icmp_le (tgt := 85) hx hb dX8_bids_57 (by decide) (fun c_57 => ?_) (fun c_57 => ?_)
      · have hz := hz.trans (if_pos c_57)
        exact J85 ((hThr s2_42 s1_42 s0_42 true)) _ _ ls hz (by assumption) (by assumption) hP hD hS (lv_sub hl [0, 1, 2, 3, 4] rfl)
      · have hz := hz.trans (if_neg c_57)
        refine lv_iload hx hb dX8_bids_60 (lv_at hl 4 rfl) ?_
        refine bif_ne (tgt := 81) hx hb dX8_bids_62 (by decide) (fun c_62 => ?_) (fun c_62 => ?_)
        · have hz := hz.trans (ifB_t c_62)
          exact J81 ((hThr s2_42 s1_42 s0_42 true)) _ _ ls hz (by assumption) (by assumption) hP hD hS (lv_sub hl [0, 1, 2, 3, 4] rfl)
        · have hz := hz.trans (ifB_f c_62)
          refine lv_iload_n hx hb dX8_bids_65 rfl (lv_at hl 3 rfl) ?_
          refine lv_aload_n hx hb dX8_bids_66 rfl (lv_at hl 0 rfl) ?_
          refine lv_iload_n hx hb dX8_bids_67 rfl (lv_at hl 1 rfl) ?_
          refine topN (k := x.toNatClampNeg) (show x = (nI x.toNatClampNeg) from by exact ex) ?_
          refine callRo (va_runV (As := [.int (nI x.toNatClampNeg)]) (rest := [.int w]) ⟨hx, hb, hml, hown, hts⟩ (c_X8_available l D C b (mkM (mNow M) (mBef M) (mSav M) (mHis M) (mIsS M) (mRem M) (mErA M) (mFaA M) (mTxt M) (mTyp M) (mLin M) (mLnd M) (hThr s2_42 s1_42 s0_42 true) (mFar M) (mGrp M) (mSiz M) (mPla M) (mWro M) (mTol M) (mNum M)) (x.toNatClampNeg) (MSafe_of hM rfl) (by omega)) (cwV 1 hts gX8_bids_X8_available rfl rfl rfl (by decide +kernel) ⟨Nat.le_of_ble_eq_true rfl, Nat.le_of_ble_eq_true rfl⟩) (roP_v hP hK hE (va_recv hK hP (ci := 9) (q0 := 0) rfl rfl)) rfl rfl hl.1 rfl (lv_room (Nat.le_of_ble_eq_true rfl)) dX8_bids_68 ⟨Nat.le_refl _, Nat.le_refl _⟩) ?_
          refine topI (y := (f_X8_available (mNow M) (x.toNatClampNeg))) rfl ?_
          refine lv_aload_n hx hb dX8_bids_71 rfl (lv_at hl 0 rfl) ?_
          refine lv_iload_n hx hb dX8_bids_72 rfl (lv_at hl 1 rfl) ?_
          refine topN (k := x.toNatClampNeg) (show x = (nI x.toNatClampNeg) from by exact ex) ?_
          refine lv_iload_n hx hb dX8_bids_73 rfl (lv_at hl 2 rfl) ?_
          refine callRo (va_runV (As := [.int (nI x.toNatClampNeg), .int y]) (rest := [.int (f_X8_available (mNow M) (x.toNatClampNeg)), .int w]) ⟨hx, hb, hml, hown, hts⟩ (c_X8_reservedOn l D C b (mkM (mNow M) (mBef M) (mSav M) (mHis M) (mIsS M) (mRem M) (mErA M) (mFaA M) (mTxt M) (mTyp M) (mLin M) (mLnd M) (hThr s2_42 s1_42 s0_42 true) (mFar M) (mGrp M) (mSiz M) (mPla M) (mWro M) (mTol M) (mNum M)) (x.toNatClampNeg) (y) (MSafe_of hM rfl) (by omega)) (cwV 2 hts gX8_bids_X8_reservedOn rfl rfl rfl (by decide +kernel) ⟨Nat.le_of_ble_eq_true rfl, Nat.le_of_ble_eq_true rfl⟩) (roP_v hP hK hE (va_recv hK hP (ci := 9) (q0 := 0) rfl rfl)) rfl rfl hl.1 rfl (lv_room (Nat.le_of_ble_eq_true rfl)) dX8_bids_74 ⟨Nat.le_refl _, Nat.le_refl _⟩) ?_
          refine topI (y := (f_X8_reservedOn (mNow M) (x.toNatClampNeg) (y))) rfl ?_
          refine lv_iadd hx hb dX8_bids_77 ?_
          refine lv_icmp_gt (tgt := 85) hx hb dX8_bids_78 (by decide) (fun c_78 => ?_) (fun c_78 => ?_)
          · have hz := hz.trans (if_pos c_78)
            exact J85 ((hThr s2_42 s1_42 s0_42 true)) _ _ ls hz (by assumption) (by assumption) hP hD hS (lv_sub hl [0, 1, 2, 3, 4] rfl)
          · have hz := hz.trans (if_neg c_78)
            exact J81 ((hThr s2_42 s1_42 s0_42 true)) _ _ ls hz (by assumption) (by assumption) hP hD hS (lv_sub hl [0, 1, 2, 3, 4] rfl)
    · have hz := hz.trans (ifB_f c_46)
      refine lv_iconst (v := 0) hx hb dX8_bids_49 (by decide) ?_
      have hz : z = (0, (mNow M), (hThr s2_42 s1_42 s0_42 true)) := hz
      rw [hz]
      exact rw_ret hx hb hr hP hS rfl dX8_bids_50 hlocks
  have J22 : ∀ (s0_22 : Bool)  (H : Heap) (locs : List Loc) (ls : Array Slot), z = f_X8_bids_j22 (mNow M) x y w v s0_22 → (s0_22 = true → vp_in x (mP (mNow M)) ∧ vp_in y (mS (mNow M))) → va_P D vwCl (mcells C b M) H → va_D A (mcells C b M) → va_S A s.heap H locs → lv_has ls 6 [(0, .ref (b 0)), (1, .int x), (2, .int y), (3, .int w), (4, .int (bI v))] → W p l e ({ frames := 5, cells := 0, slots := 0, locals := 110 } : Room) s m ([.ref (b 0), .int x, .int y, .int w, .int (bI v)] : List Value).toArray below meth c H locs 0 0 (MQ below (rwO (some (.int z.1)) D (mcells C b (mkM z.2.1 (mBef M) (mSav M) (mHis M) (mIsS M) (mRem M) (mErA M) (mFaA M) (mTxt M) (mTyp M) (mLin M) (mLnd M) z.2.2 (mFar M) (mGrp M) (mSiz M) (mPla M) (mWro M) (mTol M) (mNum M))) A) ([.ref (b 0), .int x, .int y, .int w, .int (bI v)] : List Value).toArray s 0 0 A) (F0 m 22 ls [.int (bI s0_22), .ref (b 0)]) := by
    intro s0_22 H locs ls hz iv22_0 hP hD hS hl
    refine lv_iload_n hx hb dX8_bids_22 rfl (lv_at hl 3 rfl) ?_
    refine lv_iconst (v := 1) hx hb dX8_bids_23 (by decide) ?_
    refine lv_bipush (v := 99) hx hb dX8_bids_24 (by decide +kernel) ?_
    refine callRo (va_runS (As := [.int w, .int 1, .int 99]) (rest := [.int (bI s0_22), .ref (b 0)]) ⟨hx, hb, hml, hown, hts⟩ (c_X8_isIn l D C (w) (1) (99)) (va_cwS 3 hts gX8_bids_X8_isIn rfl rfl rfl (by decide +kernel) ⟨Nat.le_of_ble_eq_true rfl, Nat.le_of_ble_eq_true rfl⟩) (roP_s (hP.sub (ws' := ([] : va_W)) [] rfl) hK hE) rfl rfl hl.1 rfl (lv_room (Nat.le_of_ble_eq_true rfl)) dX8_bids_26 ⟨Nat.le_refl _, Nat.le_refl _⟩) ?_
    refine lv_aload_n hx hb dX8_bids_29 rfl (lv_at hl 0 rfl) ?_
    refine lv_iload_n hx hb dX8_bids_30 rfl (lv_at hl 2 rfl) ?_
    refine callRo (va_runV (As := [.int y]) (rest := [.int (bI (f_X8_isIn (w) (1) (99))), .int (bI s0_22), .ref (b 0)]) ⟨hx, hb, hml, hown, hts⟩ (c_X8_isDone l D C b M (y) hM) (cwV 1 hts gX8_bids_X8_isDone rfl rfl rfl (by decide +kernel) ⟨Nat.le_of_ble_eq_true rfl, Nat.le_of_ble_eq_true rfl⟩) (roP_v hP hK hE (va_recv hK hP (ci := 9) (q0 := 0) rfl rfl)) rfl rfl hl.1 rfl (lv_room (Nat.le_of_ble_eq_true rfl)) dX8_bids_31 ⟨Nat.le_refl _, Nat.le_refl _⟩) ?_
    refine bif_ne (tgt := 41) hx hb dX8_bids_34 (by decide) (fun c_34 => ?_) (fun c_34 => ?_)
    · have hz := hz.trans (ifB_t c_34)
      refine lv_iconst (v := 0) hx hb dX8_bids_41 (by decide) ?_
      exact J42 (false) ((f_X8_isIn (w) (1) (99))) (s0_22) _ _ ls hz (by first | assumption | exact iv22_0) hP hD hS (lv_sub hl [0, 1, 2, 3, 4] rfl)
    · have hz := hz.trans (ifB_f c_34)
      refine lv_iconst (v := 1) hx hb dX8_bids_37 (by decide) ?_
      refine lv_goto (tgt := 42) hx hb dX8_bids_38 (by decide) ?_
      exact J42 (true) ((f_X8_isIn (w) (1) (99))) (s0_22) _ _ ls hz (by first | assumption | exact iv22_0) hP hD hS (lv_sub hl [0, 1, 2, 3, 4] rfl)
  have J21 : ∀  (H : Heap) (locs : List Loc) (ls : Array Slot), z = f_X8_bids_j21 (mNow M) x y w v → va_P D vwCl (mcells C b M) H → va_D A (mcells C b M) → va_S A s.heap H locs → lv_has ls 6 [(0, .ref (b 0)), (1, .int x), (2, .int y), (3, .int w), (4, .int (bI v))] → W p l e ({ frames := 5, cells := 0, slots := 0, locals := 110 } : Room) s m ([.ref (b 0), .int x, .int y, .int w, .int (bI v)] : List Value).toArray below meth c H locs 0 0 (MQ below (rwO (some (.int z.1)) D (mcells C b (mkM z.2.1 (mBef M) (mSav M) (mHis M) (mIsS M) (mRem M) (mErA M) (mFaA M) (mTxt M) (mTyp M) (mLin M) (mLnd M) z.2.2 (mFar M) (mGrp M) (mSiz M) (mPla M) (mWro M) (mTol M) (mNum M))) A) ([.ref (b 0), .int x, .int y, .int w, .int (bI v)] : List Value).toArray s 0 0 A) (F0 m 21 ls [.ref (b 0)]) := by
    intro  H locs ls hz  hP hD hS hl
    refine lv_iconst (v := 0) hx hb dX8_bids_21 (by decide) ?_
    exact J22 (false) _ _ ls hz (by first | (intro h; cases h; done) | exact fun _ => ⟨X8_isPlayer_in hM c_6, X8_isSite_in hM c_14⟩) hP hD hS (lv_sub hl [0, 1, 2, 3, 4] rfl)
  refine lv_aload_n hx hb dX8_bids_0 rfl (lv_at hl 0 rfl) ?_
  refine lv_aload_n hx hb dX8_bids_1 rfl (lv_at hl 0 rfl) ?_
  refine lv_iload_n hx hb dX8_bids_2 rfl (lv_at hl 1 rfl) ?_
  refine callRo (va_runV (As := [.int x]) (rest := [.ref (b 0)]) ⟨hx, hb, hml, hown, hts⟩ (c_X8_isPlayer l D C b M (x) hM) (cwV 1 hts gX8_bids_X8_isPlayer rfl rfl rfl (by decide +kernel) ⟨Nat.le_of_ble_eq_true rfl, Nat.le_of_ble_eq_true rfl⟩) (roP_v hP hK hE (va_recv hK hP (ci := 9) (q0 := 0) rfl rfl)) rfl rfl hl.1 rfl (lv_room (Nat.le_of_ble_eq_true rfl)) dX8_bids_3 ⟨Nat.le_refl _, Nat.le_refl _⟩) ?_
  refine bif_eq (tgt := 21) hx hb dX8_bids_6 (by decide) (fun c_6 => ?_) (fun c_6 => ?_)
  · have hz := hz.trans (ifB_f c_6)
    exact J21  _ _ ls hz  hP hD hS (lv_sub hl [0, 1, 2, 3, 4] rfl)
  · have hz := hz.trans (ifB_t c_6)
    refine lv_aload_n hx hb dX8_bids_9 rfl (lv_at hl 0 rfl) ?_
    refine lv_iload_n hx hb dX8_bids_10 rfl (lv_at hl 2 rfl) ?_
    refine callRo (va_runV (As := [.int y]) (rest := [.ref (b 0)]) ⟨hx, hb, hml, hown, hts⟩ (c_X8_isSite l D C b M (y) hM) (cwV 1 hts gX8_bids_X8_isSite rfl rfl rfl (by decide +kernel) ⟨Nat.le_of_ble_eq_true rfl, Nat.le_of_ble_eq_true rfl⟩) (roP_v hP hK hE (va_recv hK hP (ci := 9) (q0 := 0) rfl rfl)) rfl rfl hl.1 rfl (lv_room (Nat.le_of_ble_eq_true rfl)) dX8_bids_11 ⟨Nat.le_refl _, Nat.le_refl _⟩) ?_
    refine bif_eq (tgt := 21) hx hb dX8_bids_14 (by decide) (fun c_14 => ?_) (fun c_14 => ?_)
    · have hz := hz.trans (ifB_f c_14)
      exact J21  _ _ ls hz  hP hD hS (lv_sub hl [0, 1, 2, 3, 4] rfl)
    · have hz := hz.trans (ifB_t c_14)
      refine lv_iconst (v := 1) hx hb dX8_bids_17 (by decide) ?_
      refine lv_goto (tgt := 22) hx hb dX8_bids_18 (by decide) ?_
      exact J22 (true) _ _ ls hz (by first | (intro h; cases h; done) | exact fun _ => ⟨X8_isPlayer_in hM c_6, X8_isSite_in hM c_14⟩) hP hD hS (lv_sub hl [0, 1, 2, 3, 4] rfl)

