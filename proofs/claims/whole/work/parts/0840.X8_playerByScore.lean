def f_X8_playerByScore_j153  (s0_153 : Int32) (thr0_153 : Int32) : Int32 × Int32 := (s0_153, thr0_153)
def f_X8_playerByScore_j142  (v2_142 : Int32) (s0_142 : Bool) : Int32 × Int32 := (if s0_142 = true then (f_X8_playerByScore_j153 (v2_142) ((gThr s0_142))) else (f_X8_playerByScore_j153 (0) ((gThr s0_142))))
def f_X8_playerByScore_j124  (s0_124 : Int32) : Sum (Int32 × Int32) (Int32) := (Sum.inr s0_124)
def f_X8_playerByScore_j104  (v2_104 : Int32) (s0_104 : Bool) (s1_104 : Int32) : Sum (Sum (Int32 × Int32) (Int32)) (Int32 × Int32) := (Sum.inr (v2_104, (s1_104 + (bI s0_104))))
def f_X8_playerByScore_j103  (v2_103 : Int32) (s0_103 : Int32) : Sum (Sum (Int32 × Int32) (Int32)) (Int32 × Int32) := (f_X8_playerByScore_j104 (v2_103) (false) (s0_103))
def f_X8_playerByScore_j99  (v2_99 : Int32) (s0_99 : Int32) : Sum (Sum (Int32 × Int32) (Int32)) (Int32 × Int32) := (f_X8_playerByScore_j104 (v2_99) (true) (s0_99))
def f_X8_playerByScore_l20b (nw : (Nat → Int32)) (x : Int32) (k4 : Nat) (k20 : Nat) (v2_20 : Int32) (v4_20 : Int32) : Sum (Sum (Int32 × Int32) (Int32)) (Int32 × Int32) := (if 0 < ((f_X8_scoreOf nw ((nI k20))) - (f_X8_scoreOf nw ((nI k4)))) then (f_X8_playerByScore_j99 (v2_20) (v4_20)) else (if ((f_X8_scoreOf nw ((nI k20))) - (f_X8_scoreOf nw ((nI k4)))) = 0 then (if 0 < ((nw ((14 + 2 * k20) + 0)) - (nw ((14 + 2 * k4) + 0))) then (f_X8_playerByScore_j99 (v2_20) (v4_20)) else (if ((nw ((14 + 2 * k20) + 0)) - (nw ((14 + 2 * k4) + 0))) = 0 then (if (nI k4) ≤ (nI k20) then (f_X8_playerByScore_j103 (v2_20) (v4_20)) else (f_X8_playerByScore_j99 (v2_20) (v4_20))) else (f_X8_playerByScore_j103 (v2_20) (v4_20)))) else (f_X8_playerByScore_j103 (v2_20) (v4_20))))
def f_X8_playerByScore_l20x (nw : (Nat → Int32)) (x : Int32) (k4 : Nat) (v2_20 : Int32) (v4_20 : Int32) : Sum (Int32 × Int32) (Int32) := (if v4_20 = x then (f_X8_playerByScore_j124 ((nI k4))) else (f_X8_playerByScore_j124 (v2_20)))
def f_X8_playerByScore_l20s (nw : (Nat → Int32)) (x : Int32) (k4 : Nat) (k20 : Nat) (q_ : Int32 × Int32) : Sum (Sum (Int32 × Int32) (Int32)) (Int32 × Int32) := f_X8_playerByScore_l20b nw x k4 k20 (q_.1) (q_.2)
def f_X8_playerByScore_l20e (nw : (Nat → Int32)) (x : Int32) (k4 : Nat) (q_ : Int32 × Int32) : Sum (Int32 × Int32) (Int32) := f_X8_playerByScore_l20x nw x k4 (q_.1) (q_.2)
def f_X8_playerByScore_l20 (nw : (Nat → Int32)) (x : Int32) (k4 : Nat) (n20 k20 : Nat) (v2_20 : Int32) (v4_20 : Int32) : Sum (Int32 × Int32) (Int32) := lpF (f_X8_playerByScore_l20s nw x k4) (f_X8_playerByScore_l20e nw x k4) n20 k20 (v2_20, v4_20)
def f_X8_playerByScore_l4b (nw : (Nat → Int32)) (x : Int32) (k4 : Nat) (v2_4 : Int32) : Sum (Int32 × Int32) (Int32) := (f_X8_playerByScore_l20 nw x k4 (mP nw) 0 (v2_4) (0))
def f_X8_playerByScore_l4x (nw : (Nat → Int32)) (x : Int32) (v2_4 : Int32) : Int32 × Int32 := (if v2_4 = (-1) then (f_X8_playerByScore_j142 (v2_4) (false)) else (f_X8_playerByScore_j142 (v2_4) (true)))
def f_X8_playerByScore_l4s (nw : (Nat → Int32)) (x : Int32) (k4 : Nat) (q_ : Int32) : Sum (Int32 × Int32) (Int32) := f_X8_playerByScore_l4b nw x k4 (q_)
def f_X8_playerByScore_l4e (nw : (Nat → Int32)) (x : Int32) (q_ : Int32) : Int32 × Int32 := f_X8_playerByScore_l4x nw x (q_)
def f_X8_playerByScore_l4 (nw : (Nat → Int32)) (x : Int32) (n4 k4 : Nat) (v2_4 : Int32) : Int32 × Int32 := lpF (f_X8_playerByScore_l4s nw x) (f_X8_playerByScore_l4e nw x) n4 k4 v2_4
def f_X8_playerByScore (nw : (Nat → Int32)) (x : Int32) : Int32 × Int32 := (f_X8_playerByScore_l4 nw x (mP nw) 0 ((-1)))
set_option maxHeartbeats 4000000 in
set_option maxRecDepth 100000 in
theorem c_X8_playerByScore (l : Launch) (D : va_G) (C : Nat → ClassId) (b : Nat → Nat) (M : MS) (x : Int32) (sz : Nat) (hM : MSafe M) : Met l yX8_playerByScore wsX8_playerByScore ({ frames := 4, cells := 0, slots := 0, locals := 89 } : Room) (rwP [.ref (b 0), .int x] D C (mcells C b M) sz) (rwO (some (.int ((f_X8_playerByScore (mNow M) x).1))) D (mcells C b (mkM (mNow M) (mBef M) (mSav M) (mHis M) (mIsS M) (mRem M) (mErA M) (mFaA M) (mTxt M) (mTyp M) (mLin M) (mLnd M) ((f_X8_playerByScore (mNow M) x).2) (mFar M) (mGrp M) (mSiz M) (mPla M) (mWro M) (mTol M) (mNum M))) (va_A (mcells C b M) sz)) 0 0 (va_A (mcells C b M) sz) := by
  refine Met.ofW (cc := cX8_playerByScore) (maxL := 8) (ret := (some .int)) (by decide) rfl ?_
  intro p e s m args below meth c s₁ B hml hv
  obtain ⟨rfl, hsz, hP, hK, hD0, hE⟩ := hv
  have hx := B.exec
  have hb := B.bytes
  have hr := B.returns
  have hts := atoms_spec (ws := wsX8_playerByScore) B.pre
  have hown : s.vm.findClass RX8 = some m.cls := findClass_of_methodNamed B.named
  have hlocks := B.notSynchronized
  subst hsz
  have hD := hD0.self (sz := s.heap.size)
  generalize hAe : va_A (mcells C b M) s.heap.size = A at hD ⊢
  have hA : ∀ q : Nat, s.heap.size ≤ q → A q := fun q h => by rw [← hAe]; exact Or.inr h
  have hS0 : va_S A s.heap s.heap [] := va_S.rf
  have hP : va_P D vwCl (mcells C b M) s.heap := hP
  have hS := hS0
  obtain ⟨⟨hS2, hS12⟩, ⟨hP2, hP4⟩, hLH, hFE⟩ := id hM
  have hinX8 : ∀ w ∈ u_ws RX8 TX8 20, w ∈ wsX8_playerByScore := by decide +kernel
  have hl := lv_entry ([.ref (b 0), .int x]) (n := 8) (Nat.le_of_ble_eq_true rfl)
  rw [lg_entry_eq]
  generalize (lg_sl ([.ref (b 0), .int x]) ++ List.replicate (8 - (lg_sl ([.ref (b 0), .int x])).length) Slot.unset).toArray = ls at hl ⊢
  have hl : lv_has ls 8 [(0, .ref (b 0)), (1, .int x)] := hl
  obtain ⟨z, hz⟩ : ∃ z, z = f_X8_playerByScore (mNow M) x := ⟨_, rfl⟩
  rw [← hz]
  have J153 : ∀ (s0_153 : Int32) (thr0_153 : Int32)  (H : Heap) (locs : List Loc) (ls : Array Slot), z = f_X8_playerByScore_j153 s0_153 thr0_153 → va_P D vwCl (mcells C b (mkM (mNow M) (mBef M) (mSav M) (mHis M) (mIsS M) (mRem M) (mErA M) (mFaA M) (mTxt M) (mTyp M) (mLin M) (mLnd M) thr0_153 (mFar M) (mGrp M) (mSiz M) (mPla M) (mWro M) (mTol M) (mNum M))) H → va_D A (mcells C b (mkM (mNow M) (mBef M) (mSav M) (mHis M) (mIsS M) (mRem M) (mErA M) (mFaA M) (mTxt M) (mTyp M) (mLin M) (mLnd M) thr0_153 (mFar M) (mGrp M) (mSiz M) (mPla M) (mWro M) (mTol M) (mNum M))) → va_S A s.heap H locs → lv_has ls 8 [] → W p l e ({ frames := 4, cells := 0, slots := 0, locals := 89 } : Room) s m ([.ref (b 0), .int x] : List Value).toArray below meth c H locs 0 0 (MQ below (rwO (some (.int z.1)) D (mcells C b (mkM (mNow M) (mBef M) (mSav M) (mHis M) (mIsS M) (mRem M) (mErA M) (mFaA M) (mTxt M) (mTyp M) (mLin M) (mLnd M) z.2 (mFar M) (mGrp M) (mSiz M) (mPla M) (mWro M) (mTol M) (mNum M))) A) ([.ref (b 0), .int x] : List Value).toArray s 0 0 A) (F0 m 153 ls [.int s0_153]) := by
    intro s0_153 thr0_153 H locs ls hz  hP hD hS hl
    have hz : z = (s0_153, thr0_153) := hz
    rw [hz]
    exact rw_ret hx hb hr hP hS rfl dX8_playerByScore_153 hlocks
  have J142 : ∀ (v2_142 : Int32) (s0_142 : Bool)  (H : Heap) (locs : List Loc) (ls : Array Slot), z = f_X8_playerByScore_j142 v2_142 s0_142 → va_P D vwCl (mcells C b M) H → va_D A (mcells C b M) → va_S A s.heap H locs → lv_has ls 8 [(2, .int v2_142)] → W p l e ({ frames := 4, cells := 0, slots := 0, locals := 89 } : Room) s m ([.ref (b 0), .int x] : List Value).toArray below meth c H locs 0 0 (MQ below (rwO (some (.int z.1)) D (mcells C b (mkM (mNow M) (mBef M) (mSav M) (mHis M) (mIsS M) (mRem M) (mErA M) (mFaA M) (mTxt M) (mTyp M) (mLin M) (mLnd M) z.2 (mFar M) (mGrp M) (mSiz M) (mPla M) (mWro M) (mTol M) (mNum M))) A) ([.ref (b 0), .int x] : List Value).toArray s 0 0 A) (F0 m 142 ls [.int (bI s0_142), .ref (b 0)]) := by
    intro v2_142 s0_142 H locs ls hz  hP hD hS hl
    have hFc := va_free (wc := (mcells C b M)) hD hS hA [0, 1, 2, 3, 4, 5, 6, 7, 8, 9] rfl
    refine callRw (va_runV (As := [.int (bI s0_142)]) (rest := []) ⟨hx, hb, hml, hown, hts⟩ (c_X8_goes_ l D C b M (s0_142) _) (cwV 1 hts gX8_playerByScore_X8_goes rfl rfl rfl (by decide +kernel) ⟨Nat.le_of_ble_eq_true rfl, Nat.le_of_ble_eq_true rfl⟩) (rwP_v hP hK hE hD (va_recv hK hP (ci := 9) (q0 := 0) rfl rfl)) rfl rfl hl.1 rfl (lv_room (Nat.le_of_ble_eq_true rfl)) dX8_playerByScore_142 ⟨Nat.le_refl _, Nat.le_refl _⟩) hS hFc (fun H1 locs hPn hk hS => ?_)
    have hP : va_P D vwCl (mcells C b (mkM (mNow M) (mBef M) (mSav M) (mHis M) (mIsS M) (mRem M) (mErA M) (mFaA M) (mTxt M) (mTyp M) (mLin M) (mLnd M) (gThr s0_142) (mFar M) (mGrp M) (mSiz M) (mPla M) (mWro M) (mTol M) (mNum M))) H1 := hPn
    have hD : va_D A (mcells C b (mkM (mNow M) (mBef M) (mSav M) (mHis M) (mIsS M) (mRem M) (mErA M) (mFaA M) (mTxt M) (mTyp M) (mLin M) (mLnd M) (gThr s0_142) (mFar M) (mGrp M) (mSiz M) (mPla M) (mWro M) (mTol M) (mNum M))) := adr_D hD rfl
    generalize H1 = H at hP hS ⊢
    refine topI (y := (bI s0_142)) rfl ?_
    refine bif_eq (tgt := 152) hx hb dX8_playerByScore_145 (by decide) (fun c_145 => ?_) (fun c_145 => ?_)
    · have hz := hz.trans (ifB_f c_145)
      refine lv_iconst (v := 0) hx hb dX8_playerByScore_152 (by decide) ?_
      exact J153 (0) ((gThr s0_142)) _ _ ls hz  hP hD hS (lv_sub hl [] rfl)
    · have hz := hz.trans (ifB_t c_145)
      refine lv_iload_n hx hb dX8_playerByScore_148 rfl (lv_at hl 0 rfl) ?_
      refine lv_goto (tgt := 153) hx hb dX8_playerByScore_149 (by decide) ?_
      exact J153 (v2_142) ((gThr s0_142)) _ _ ls hz  hP hD hS (lv_sub hl [] rfl)
  have J4 : ∀ (n4 k4 : Nat) (v2_4 : Int32) (H : Heap) (locs : List Loc) (ls : Array Slot), k4 + n4 = mP (mNow M) → z = f_X8_playerByScore_l4 (mNow M) x n4 k4 v2_4 → va_P D vwCl (mcells C b M) H → va_D A (mcells C b M) → va_S A s.heap H locs → lv_has ls 8 [(0, .ref (b 0)), (1, .int x), (2, .int v2_4), (3, .int (nI k4))] → W p l e ({ frames := 4, cells := 0, slots := 0, locals := 89 } : Room) s m ([.ref (b 0), .int x] : List Value).toArray below meth c H locs 0 0 (MQ below (rwO (some (.int z.1)) D (mcells C b (mkM (mNow M) (mBef M) (mSav M) (mHis M) (mIsS M) (mRem M) (mErA M) (mFaA M) (mTxt M) (mTyp M) (mLin M) (mLnd M) z.2 (mFar M) (mGrp M) (mSiz M) (mPla M) (mWro M) (mTol M) (mNum M))) A) ([.ref (b 0), .int x] : List Value).toArray s 0 0 A) (F0 m 4 ls []) := by
    intro n4
    induction n4 with
    | zero =>
      intro k4 v2_4 H locs ls hk4 hz  hP hD hS hl
      have hz : z = f_X8_playerByScore_l4x (mNow M) x v2_4 := hz
      refine lv_iload_n hx hb dX8_playerByScore_4 rfl (lv_at hl 3 rfl) ?_
      refine lv_aload_n hx hb dX8_playerByScore_5 rfl (lv_at hl 0 rfl) ?_
      refine va_get (D := D) (ci := 9) (v := .ref (b 1)) (C := RX8) (T := TX8) (N := 20) hx hb hts hinX8 hown hK hP 0 rfl rfl 0 (by decide) (hts (.fieldLink RX8 9 "BridgeAuctionModel" "now" "[I") (by decide +kernel)) (fun _ h9 => h9) rfl dX8_playerByScore_6 ?_
      refine lv_iconst (v := 1) hx hb dX8_playerByScore_9 (by decide) ?_
      refine topN (k := 1) (by decide +kernel) ?_
      refine ialdN (tys := tyA C) hx hb hK hP 1 0 rfl rfl (i := 1) (by omega) (by decide) dX8_playerByScore_10 ?_
      refine topN (k := mP (mNow M)) (by first | exact hS2 | exact hP2) ?_
      refine lv_icmp_ge (tgt := 131) hx hb dX8_playerByScore_11 (by decide) (fun c_11 => ?_) (fun c_11 => absurd (nI_le (by omega) (by omega)) c_11)
      refine lv_aload_n hx hb dX8_playerByScore_131 rfl (lv_at hl 0 rfl) ?_
      refine lv_iload_n hx hb dX8_playerByScore_132 rfl (lv_at hl 2 rfl) ?_
      refine lv_iconst (v := (-1)) hx hb dX8_playerByScore_133 (by decide) ?_
      refine lv_icmp_eq (tgt := 141) hx hb dX8_playerByScore_134 (by decide) (fun c_134 => ?_) (fun c_134 => ?_)
      · have hz := hz.trans (if_pos c_134)
        refine lv_iconst (v := 0) hx hb dX8_playerByScore_141 (by decide) ?_
        exact J142 (v2_4) (false) _ _ ls hz  hP hD hS (lv_sub hl [2] rfl)
      · have hz := hz.trans (if_neg c_134)
        refine lv_iconst (v := 1) hx hb dX8_playerByScore_137 (by decide) ?_
        refine lv_goto (tgt := 142) hx hb dX8_playerByScore_138 (by decide) ?_
        exact J142 (v2_4) (true) _ _ ls hz  hP hD hS (lv_sub hl [2] rfl)
    | succ n4 ih4 =>
      intro k4 v2_4 H locs ls hk4 hz4  hP hD hS hl
      obtain ⟨z4, hz⟩ : ∃ zz_, zz_ = f_X8_playerByScore_l4b (mNow M) x k4 v2_4 := ⟨_, rfl⟩
      have hq4 : z = sE id (fun q_ => lpF (f_X8_playerByScore_l4s (mNow M) x) (f_X8_playerByScore_l4e (mNow M) x) n4 (k4 + 1) q_) z4 := by rw [hz4, hz]; rfl
      have J124 : ∀ (s0_124 : Int32)  (H : Heap) (locs : List Loc) (ls : Array Slot), z4 = f_X8_playerByScore_j124 s0_124 → va_P D vwCl (mcells C b M) H → va_D A (mcells C b M) → va_S A s.heap H locs → lv_has ls 8 [(0, .ref (b 0)), (1, .int x), (3, .int (nI k4))] → W p l e ({ frames := 4, cells := 0, slots := 0, locals := 89 } : Room) s m ([.ref (b 0), .int x] : List Value).toArray below meth c H locs 0 0 (MQ below (rwO (some (.int z.1)) D (mcells C b (mkM (mNow M) (mBef M) (mSav M) (mHis M) (mIsS M) (mRem M) (mErA M) (mFaA M) (mTxt M) (mTyp M) (mLin M) (mLnd M) z.2 (mFar M) (mGrp M) (mSiz M) (mPla M) (mWro M) (mTol M) (mNum M))) A) ([.ref (b 0), .int x] : List Value).toArray s 0 0 A) (F0 m 124 ls [.int s0_124]) := by
        intro s0_124 H locs ls hz  hP hD hS hl
        refine lv_istore_n (lv' := [(2, .int s0_124), (0, .ref (b 0)), (1, .int x), (3, .int (nI k4))]) hx hb dX8_playerByScore_124 rfl hl (by decide) rfl (fun ls hl => ?_)
        refine lv_iinc (v := (nI (k4 + 1))) (lv' := [(3, .int (nI (k4 + 1))), (2, .int s0_124), (0, .ref (b 0)), (1, .int x)]) hx hb dX8_playerByScore_125 hl (k := 3) rfl (by exact nI_1 _) (by decide) rfl (fun ls hl => ?_)
        refine lv_goto (tgt := 4) hx hb dX8_playerByScore_128 (by decide) ?_
        exact ih4 (k4 + 1) (s0_124) _ _ ls (by omega) (by rw [hq4, hz]; rfl)  hP hD hS (lv_sub hl [2, 3, 1, 0] rfl)
      have J20 : ∀ (n20 k20 : Nat) (v2_20 : Int32) (v4_20 : Int32) (H : Heap) (locs : List Loc) (ls : Array Slot), k20 + n20 = mP (mNow M) → z4 = f_X8_playerByScore_l20 (mNow M) x k4 n20 k20 v2_20 v4_20 → va_P D vwCl (mcells C b M) H → va_D A (mcells C b M) → va_S A s.heap H locs → lv_has ls 8 [(0, .ref (b 0)), (1, .int x), (2, .int v2_20), (3, .int (nI k4)), (4, .int v4_20), (5, .int (nI k20))] → W p l e ({ frames := 4, cells := 0, slots := 0, locals := 89 } : Room) s m ([.ref (b 0), .int x] : List Value).toArray below meth c H locs 0 0 (MQ below (rwO (some (.int z.1)) D (mcells C b (mkM (mNow M) (mBef M) (mSav M) (mHis M) (mIsS M) (mRem M) (mErA M) (mFaA M) (mTxt M) (mTyp M) (mLin M) (mLnd M) z.2 (mFar M) (mGrp M) (mSiz M) (mPla M) (mWro M) (mTol M) (mNum M))) A) ([.ref (b 0), .int x] : List Value).toArray s 0 0 A) (F0 m 20 ls []) := by
        intro n20
        induction n20 with
        | zero =>
          intro k20 v2_20 v4_20 H locs ls hk20 hz  hP hD hS hl
          have hz : z4 = f_X8_playerByScore_l20x (mNow M) x k4 v2_20 v4_20 := hz
          refine lv_iload hx hb dX8_playerByScore_20 (lv_at hl 5 rfl) ?_
          refine lv_aload_n hx hb dX8_playerByScore_22 rfl (lv_at hl 0 rfl) ?_
          refine va_get (D := D) (ci := 9) (v := .ref (b 1)) (C := RX8) (T := TX8) (N := 20) hx hb hts hinX8 hown hK hP 0 rfl rfl 0 (by decide) (hts (.fieldLink RX8 9 "BridgeAuctionModel" "now" "[I") (by decide +kernel)) (fun _ h9 => h9) rfl dX8_playerByScore_23 ?_
          refine lv_iconst (v := 1) hx hb dX8_playerByScore_26 (by decide) ?_
          refine topN (k := 1) (by decide +kernel) ?_
          refine ialdN (tys := tyA C) hx hb hK hP 1 0 rfl rfl (i := 1) (by omega) (by decide) dX8_playerByScore_27 ?_
          refine topN (k := mP (mNow M)) (by first | exact hS2 | exact hP2) ?_
          refine lv_icmp_ge (tgt := 113) hx hb dX8_playerByScore_28 (by decide) (fun c_28 => ?_) (fun c_28 => absurd (nI_le (by omega) (by omega)) c_28)
          refine lv_iload hx hb dX8_playerByScore_113 (lv_at hl 4 rfl) ?_
          refine lv_iload_n hx hb dX8_playerByScore_115 rfl (lv_at hl 1 rfl) ?_
          refine lv_icmp_ne (tgt := 123) hx hb dX8_playerByScore_116 (by decide) (fun c_116 => ?_) (fun c_116 => ?_)
          · have hz := hz.trans (if_neg c_116)
            refine lv_iload_n hx hb dX8_playerByScore_123 rfl (lv_at hl 2 rfl) ?_
            exact J124 (v2_20) _ _ ls hz  hP hD hS (lv_sub hl [0, 1, 3] rfl)
          · have hz := hz.trans (if_pos c_116)
            refine lv_iload_n hx hb dX8_playerByScore_119 rfl (lv_at hl 3 rfl) ?_
            refine lv_goto (tgt := 124) hx hb dX8_playerByScore_120 (by decide) ?_
            exact J124 ((nI k4)) _ _ ls hz  hP hD hS (lv_sub hl [0, 1, 3] rfl)
        | succ n20 ih20 =>
          intro k20 v2_20 v4_20 H locs ls hk20 hz20  hP hD hS hl
          obtain ⟨z20, hz⟩ : ∃ zz_, zz_ = f_X8_playerByScore_l20b (mNow M) x k4 k20 v2_20 v4_20 := ⟨_, rfl⟩
          have hq20 : z4 = sE id (fun q_ => lpF (f_X8_playerByScore_l20s (mNow M) x k4) (f_X8_playerByScore_l20e (mNow M) x k4) n20 (k20 + 1) q_) z20 := by rw [hz20, hz]; rfl
          have J104 : ∀ (v2_104 : Int32) (s0_104 : Bool) (s1_104 : Int32)  (H : Heap) (locs : List Loc) (ls : Array Slot), z20 = f_X8_playerByScore_j104 v2_104 s0_104 s1_104 → va_P D vwCl (mcells C b M) H → va_D A (mcells C b M) → va_S A s.heap H locs → lv_has ls 8 [(0, .ref (b 0)), (1, .int x), (2, .int v2_104), (3, .int (nI k4)), (5, .int (nI k20))] → W p l e ({ frames := 4, cells := 0, slots := 0, locals := 89 } : Room) s m ([.ref (b 0), .int x] : List Value).toArray below meth c H locs 0 0 (MQ below (rwO (some (.int z.1)) D (mcells C b (mkM (mNow M) (mBef M) (mSav M) (mHis M) (mIsS M) (mRem M) (mErA M) (mFaA M) (mTxt M) (mTyp M) (mLin M) (mLnd M) z.2 (mFar M) (mGrp M) (mSiz M) (mPla M) (mWro M) (mTol M) (mNum M))) A) ([.ref (b 0), .int x] : List Value).toArray s 0 0 A) (F0 m 104 ls [.int (bI s0_104), .int s1_104]) := by
            intro v2_104 s0_104 s1_104 H locs ls hz  hP hD hS hl
            refine lv_iadd hx hb dX8_playerByScore_104 ?_
            refine lv_istore (lv' := [(4, .int (s1_104 + (bI s0_104))), (0, .ref (b 0)), (1, .int x), (2, .int v2_104), (3, .int (nI k4)), (5, .int (nI k20))]) hx hb dX8_playerByScore_105 hl (by decide) rfl (fun ls hl => ?_)
            refine lv_iinc (v := (nI (k20 + 1))) (lv' := [(5, .int (nI (k20 + 1))), (4, .int (s1_104 + (bI s0_104))), (0, .ref (b 0)), (1, .int x), (2, .int v2_104), (3, .int (nI k4))]) hx hb dX8_playerByScore_107 hl (k := 5) rfl (by exact nI_1 _) (by decide) rfl (fun ls hl => ?_)
            refine lv_goto (tgt := 20) hx hb dX8_playerByScore_110 (by decide) ?_
            exact ih20 (k20 + 1) (v2_104) ((s1_104 + (bI s0_104))) _ _ ls (by omega) (by rw [hq20, hz]; rfl)  hP hD hS (lv_sub hl [2, 3, 4, 5, 1, 0] rfl)
          have J103 : ∀ (v2_103 : Int32) (s0_103 : Int32)  (H : Heap) (locs : List Loc) (ls : Array Slot), z20 = f_X8_playerByScore_j103 v2_103 s0_103 → va_P D vwCl (mcells C b M) H → va_D A (mcells C b M) → va_S A s.heap H locs → lv_has ls 8 [(0, .ref (b 0)), (1, .int x), (2, .int v2_103), (3, .int (nI k4)), (5, .int (nI k20))] → W p l e ({ frames := 4, cells := 0, slots := 0, locals := 89 } : Room) s m ([.ref (b 0), .int x] : List Value).toArray below meth c H locs 0 0 (MQ below (rwO (some (.int z.1)) D (mcells C b (mkM (mNow M) (mBef M) (mSav M) (mHis M) (mIsS M) (mRem M) (mErA M) (mFaA M) (mTxt M) (mTyp M) (mLin M) (mLnd M) z.2 (mFar M) (mGrp M) (mSiz M) (mPla M) (mWro M) (mTol M) (mNum M))) A) ([.ref (b 0), .int x] : List Value).toArray s 0 0 A) (F0 m 103 ls [.int s0_103]) := by
            intro v2_103 s0_103 H locs ls hz  hP hD hS hl
            refine lv_iconst (v := 0) hx hb dX8_playerByScore_103 (by decide) ?_
            exact J104 (v2_103) (false) (s0_103) _ _ ls hz  hP hD hS (lv_sub hl [0, 1, 2, 3, 4] rfl)
          have J99 : ∀ (v2_99 : Int32) (s0_99 : Int32)  (H : Heap) (locs : List Loc) (ls : Array Slot), z20 = f_X8_playerByScore_j99 v2_99 s0_99 → va_P D vwCl (mcells C b M) H → va_D A (mcells C b M) → va_S A s.heap H locs → lv_has ls 8 [(0, .ref (b 0)), (1, .int x), (2, .int v2_99), (3, .int (nI k4)), (5, .int (nI k20))] → W p l e ({ frames := 4, cells := 0, slots := 0, locals := 89 } : Room) s m ([.ref (b 0), .int x] : List Value).toArray below meth c H locs 0 0 (MQ below (rwO (some (.int z.1)) D (mcells C b (mkM (mNow M) (mBef M) (mSav M) (mHis M) (mIsS M) (mRem M) (mErA M) (mFaA M) (mTxt M) (mTyp M) (mLin M) (mLnd M) z.2 (mFar M) (mGrp M) (mSiz M) (mPla M) (mWro M) (mTol M) (mNum M))) A) ([.ref (b 0), .int x] : List Value).toArray s 0 0 A) (F0 m 99 ls [.int s0_99]) := by
            intro v2_99 s0_99 H locs ls hz  hP hD hS hl
            refine lv_iconst (v := 1) hx hb dX8_playerByScore_99 (by decide) ?_
            refine lv_goto (tgt := 104) hx hb dX8_playerByScore_100 (by decide) ?_
            exact J104 (v2_99) (true) (s0_99) _ _ ls hz  hP hD hS (lv_sub hl [0, 1, 2, 3, 4] rfl)
          refine lv_iload hx hb dX8_playerByScore_20 (lv_at hl 5 rfl) ?_
          refine lv_aload_n hx hb dX8_playerByScore_22 rfl (lv_at hl 0 rfl) ?_
          refine va_get (D := D) (ci := 9) (v := .ref (b 1)) (C := RX8) (T := TX8) (N := 20) hx hb hts hinX8 hown hK hP 0 rfl rfl 0 (by decide) (hts (.fieldLink RX8 9 "BridgeAuctionModel" "now" "[I") (by decide +kernel)) (fun _ h9 => h9) rfl dX8_playerByScore_23 ?_
          refine lv_iconst (v := 1) hx hb dX8_playerByScore_26 (by decide) ?_
          refine topN (k := 1) (by decide +kernel) ?_
          refine ialdN (tys := tyA C) hx hb hK hP 1 0 rfl rfl (i := 1) (by omega) (by decide) dX8_playerByScore_27 ?_
          refine topN (k := mP (mNow M)) (by first | exact hS2 | exact hP2) ?_
          refine lv_icmp_ge (tgt := 113) hx hb dX8_playerByScore_28 (by decide) (fun c_28 => absurd c_28 (nI_ge (by omega) (by omega))) (fun c_28 => ?_)
          refine lv_aload_n hx hb dX8_playerByScore_31 rfl (lv_at hl 0 rfl) ?_
          refine lv_iload hx hb dX8_playerByScore_32 (lv_at hl 5 rfl) ?_
          refine callRo (va_runV (As := [.int (nI k20)]) (rest := []) ⟨hx, hb, hml, hown, hts⟩ (c_X8_scoreOf l D C b M ((nI k20)) hM) (cwV 1 hts gX8_playerByScore_X8_scoreOf rfl rfl rfl (by decide +kernel) ⟨Nat.le_of_ble_eq_true rfl, Nat.le_of_ble_eq_true rfl⟩) (roP_v hP hK hE (va_recv hK hP (ci := 9) (q0 := 0) rfl rfl)) rfl rfl hl.1 rfl (lv_room (Nat.le_of_ble_eq_true rfl)) dX8_playerByScore_34 ⟨Nat.le_refl _, Nat.le_refl _⟩) ?_
          refine lv_aload_n hx hb dX8_playerByScore_37 rfl (lv_at hl 0 rfl) ?_
          refine lv_iload_n hx hb dX8_playerByScore_38 rfl (lv_at hl 3 rfl) ?_
          refine callRo (va_runV (As := [.int (nI k4)]) (rest := [.int (f_X8_scoreOf (mNow M) ((nI k20)))]) ⟨hx, hb, hml, hown, hts⟩ (c_X8_scoreOf l D C b M ((nI k4)) hM) (cwV 1 hts gX8_playerByScore_X8_scoreOf rfl rfl rfl (by decide +kernel) ⟨Nat.le_of_ble_eq_true rfl, Nat.le_of_ble_eq_true rfl⟩) (roP_v hP hK hE (va_recv hK hP (ci := 9) (q0 := 0) rfl rfl)) rfl rfl hl.1 rfl (lv_room (Nat.le_of_ble_eq_true rfl)) dX8_playerByScore_39 ⟨Nat.le_refl _, Nat.le_refl _⟩) ?_
          refine lv_isub hx hb dX8_playerByScore_42 ?_
          refine lv_istore (lv' := [(6, .int ((f_X8_scoreOf (mNow M) ((nI k20))) - (f_X8_scoreOf (mNow M) ((nI k4))))), (0, .ref (b 0)), (1, .int x), (2, .int v2_20), (3, .int (nI k4)), (4, .int v4_20), (5, .int (nI k20))]) hx hb dX8_playerByScore_43 hl (by decide) rfl (fun ls hl => ?_)
          refine lv_aload_n hx hb dX8_playerByScore_45 rfl (lv_at hl 1 rfl) ?_
          refine va_get (D := D) (ci := 9) (v := .ref (b 1)) (C := RX8) (T := TX8) (N := 20) hx hb hts hinX8 hown hK hP 0 rfl rfl 0 (by decide) (hts (.fieldLink RX8 9 "BridgeAuctionModel" "now" "[I") (by decide +kernel)) (fun _ h9 => h9) rfl dX8_playerByScore_46 ?_
          refine lv_iload hx hb dX8_playerByScore_49 (lv_at hl 6 rfl) ?_
          refine callRo (va_runS (As := [.int (nI k20)]) (rest := [.ref (b 1)]) ⟨hx, hb, hml, hown, hts⟩ (c_X8_playerAt l D C (k20) (by omega)) (va_cwS 1 hts gX8_playerByScore_X8_playerAt rfl rfl rfl (by decide +kernel) ⟨Nat.le_of_ble_eq_true rfl, Nat.le_of_ble_eq_true rfl⟩) (roP_s (hP.sub (ws' := ([] : va_W)) [] rfl) hK hE) rfl rfl hl.1 rfl (lv_room (Nat.le_of_ble_eq_true rfl)) dX8_playerByScore_51 ⟨Nat.le_refl _, Nat.le_refl _⟩) ?_
          refine topN (k := (14 + 2 * k20)) rfl ?_
          refine lv_iconst (v := 0) hx hb dX8_playerByScore_54 (by decide) ?_
          refine topN (k := 0) (by decide +kernel) ?_
          refine addN hx hb dX8_playerByScore_55 ?_
          refine ialdN (tys := tyA C) hx hb hK hP 1 0 rfl rfl (i := ((14 + 2 * k20) + 0)) (by omega) (by decide) dX8_playerByScore_56 ?_
          refine lv_aload_n hx hb dX8_playerByScore_57 rfl (lv_at hl 1 rfl) ?_
          refine va_get (D := D) (ci := 9) (v := .ref (b 1)) (C := RX8) (T := TX8) (N := 20) hx hb hts hinX8 hown hK hP 0 rfl rfl 0 (by decide) (hts (.fieldLink RX8 9 "BridgeAuctionModel" "now" "[I") (by decide +kernel)) (fun _ h9 => h9) rfl dX8_playerByScore_58 ?_
          refine lv_iload_n hx hb dX8_playerByScore_61 rfl (lv_at hl 4 rfl) ?_
          refine callRo (va_runS (As := [.int (nI k4)]) (rest := [.ref (b 1), .int ((mNow M) ((14 + 2 * k20) + 0))]) ⟨hx, hb, hml, hown, hts⟩ (c_X8_playerAt l D C (k4) (by omega)) (va_cwS 1 hts gX8_playerByScore_X8_playerAt rfl rfl rfl (by decide +kernel) ⟨Nat.le_of_ble_eq_true rfl, Nat.le_of_ble_eq_true rfl⟩) (roP_s (hP.sub (ws' := ([] : va_W)) [] rfl) hK hE) rfl rfl hl.1 rfl (lv_room (Nat.le_of_ble_eq_true rfl)) dX8_playerByScore_62 ⟨Nat.le_refl _, Nat.le_refl _⟩) ?_
          refine topN (k := (14 + 2 * k4)) rfl ?_
          refine lv_iconst (v := 0) hx hb dX8_playerByScore_65 (by decide) ?_
          refine topN (k := 0) (by decide +kernel) ?_
          refine addN hx hb dX8_playerByScore_66 ?_
          refine ialdN (tys := tyA C) hx hb hK hP 1 0 rfl rfl (i := ((14 + 2 * k4) + 0)) (by omega) (by decide) dX8_playerByScore_67 ?_
          refine lv_isub hx hb dX8_playerByScore_68 ?_
          refine lv_istore (lv' := [(7, .int (((mNow M) ((14 + 2 * k20) + 0)) - ((mNow M) ((14 + 2 * k4) + 0)))), (6, .int ((f_X8_scoreOf (mNow M) ((nI k20))) - (f_X8_scoreOf (mNow M) ((nI k4))))), (0, .ref (b 0)), (1, .int x), (2, .int v2_20), (3, .int (nI k4)), (4, .int v4_20), (5, .int (nI k20))]) hx hb dX8_playerByScore_69 hl (by decide) rfl (fun ls hl => ?_)
          refine lv_iload hx hb dX8_playerByScore_71 (lv_at hl 6 rfl) ?_
          refine lv_iload hx hb dX8_playerByScore_73 (lv_at hl 1 rfl) ?_
          refine lv_if_gt (tgt := 99) hx hb dX8_playerByScore_75 (by decide) (fun c_75 => ?_) (fun c_75 => ?_)
          · have hz := hz.trans (if_pos c_75)
            exact J99 (v2_20) (v4_20) _ _ ls hz  hP hD hS (lv_sub hl [2, 3, 4, 5, 7] rfl)
          · have hz := hz.trans (if_neg c_75)
            refine lv_iload hx hb dX8_playerByScore_78 (lv_at hl 1 rfl) ?_
            refine lv_if_ne (tgt := 103) hx hb dX8_playerByScore_80 (by decide) (fun c_80 => ?_) (fun c_80 => ?_)
            · have hz := hz.trans (if_neg c_80)
              exact J103 (v2_20) (v4_20) _ _ ls hz  hP hD hS (lv_sub hl [2, 3, 4, 5, 7] rfl)
            · have hz := hz.trans (if_pos c_80)
              refine lv_iload hx hb dX8_playerByScore_83 (lv_at hl 0 rfl) ?_
              refine lv_if_gt (tgt := 99) hx hb dX8_playerByScore_85 (by decide) (fun c_85 => ?_) (fun c_85 => ?_)
              · have hz := hz.trans (if_pos c_85)
                exact J99 (v2_20) (v4_20) _ _ ls hz  hP hD hS (lv_sub hl [2, 3, 4, 5, 7] rfl)
              · have hz := hz.trans (if_neg c_85)
                refine lv_iload hx hb dX8_playerByScore_88 (lv_at hl 0 rfl) ?_
                refine lv_if_ne (tgt := 103) hx hb dX8_playerByScore_90 (by decide) (fun c_90 => ?_) (fun c_90 => ?_)
                · have hz := hz.trans (if_neg c_90)
                  exact J103 (v2_20) (v4_20) _ _ ls hz  hP hD hS (lv_sub hl [2, 3, 4, 5, 7] rfl)
                · have hz := hz.trans (if_pos c_90)
                  refine lv_iload hx hb dX8_playerByScore_93 (lv_at hl 7 rfl) ?_
                  refine lv_iload_n hx hb dX8_playerByScore_95 rfl (lv_at hl 5 rfl) ?_
                  refine lv_icmp_ge (tgt := 103) hx hb dX8_playerByScore_96 (by decide) (fun c_96 => ?_) (fun c_96 => ?_)
                  · have hz := hz.trans (if_pos c_96)
                    exact J103 (v2_20) (v4_20) _ _ ls hz  hP hD hS (lv_sub hl [2, 3, 4, 5, 7] rfl)
                  · have hz := hz.trans (if_neg c_96)
                    exact J99 (v2_20) (v4_20) _ _ ls hz  hP hD hS (lv_sub hl [2, 3, 4, 5, 7] rfl)
      refine lv_iload_n hx hb dX8_playerByScore_4 rfl (lv_at hl 3 rfl) ?_
      refine lv_aload_n hx hb dX8_playerByScore_5 rfl (lv_at hl 0 rfl) ?_
      refine va_get (D := D) (ci := 9) (v := .ref (b 1)) (C := RX8) (T := TX8) (N := 20) hx hb hts hinX8 hown hK hP 0 rfl rfl 0 (by decide) (hts (.fieldLink RX8 9 "BridgeAuctionModel" "now" "[I") (by decide +kernel)) (fun _ h9 => h9) rfl dX8_playerByScore_6 ?_
      refine lv_iconst (v := 1) hx hb dX8_playerByScore_9 (by decide) ?_
      refine topN (k := 1) (by decide +kernel) ?_
      refine ialdN (tys := tyA C) hx hb hK hP 1 0 rfl rfl (i := 1) (by omega) (by decide) dX8_playerByScore_10 ?_
      refine topN (k := mP (mNow M)) (by first | exact hS2 | exact hP2) ?_
      refine lv_icmp_ge (tgt := 131) hx hb dX8_playerByScore_11 (by decide) (fun c_11 => absurd c_11 (nI_ge (by omega) (by omega))) (fun c_11 => ?_)
      refine lv_iconst (v := 0) hx hb dX8_playerByScore_14 (by decide) ?_
      refine lv_istore (lv' := [(4, .int 0), (0, .ref (b 0)), (1, .int x), (2, .int v2_4), (3, .int (nI k4))]) hx hb dX8_playerByScore_15 hl (by decide) rfl (fun ls hl => ?_)
      refine lv_iconst (v := 0) hx hb dX8_playerByScore_17 (by decide) ?_
      refine lv_istore (lv' := [(5, .int 0), (4, .int 0), (0, .ref (b 0)), (1, .int x), (2, .int v2_4), (3, .int (nI k4))]) hx hb dX8_playerByScore_18 hl (by decide) rfl (fun ls hl => ?_)
      exact J20 (mP (mNow M)) 0 (v2_4) (0) _ _ ls (by omega) hz  hP hD hS (lv_sub hl [2, 3, 4, 5, 1, 0] rfl)
  refine lv_iconst (v := (-1)) hx hb dX8_playerByScore_0 (by decide) ?_
  refine lv_istore_n (lv' := [(2, .int (-1)), (0, .ref (b 0)), (1, .int x)]) hx hb dX8_playerByScore_1 rfl hl (by decide) rfl (fun ls hl => ?_)
  refine lv_iconst (v := 0) hx hb dX8_playerByScore_2 (by decide) ?_
  refine lv_istore_n (lv' := [(3, .int 0), (2, .int (-1)), (0, .ref (b 0)), (1, .int x)]) hx hb dX8_playerByScore_3 rfl hl (by decide) rfl (fun ls hl => ?_)
  exact J4 (mP (mNow M)) 0 ((-1)) _ _ ls (by omega) hz  hP hD hS (lv_sub hl [2, 3, 1, 0] rfl)

