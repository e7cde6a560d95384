/-! the reference's writes -/
def hOk (b c d e : Bool) : Bool := b && (c && (d && e))
def hThr (b c d e : Bool) : Int32 := if b = true then (if c = true then (if d = true then (if e = true then 0 else 4) else 3) else 2) else 1
theorem hOk_1 {b c d e : Bool} (h : hOk b c d e = true) : b = true ∧ c = true ∧ d = true ∧ e = true := by
  cases b <;> cases c <;> cases d <;> cases e <;> first | exact ⟨rfl, rfl, rfl, rfl⟩ | exact absurd h (by decide)
theorem posN {k : Nat} (hk : k < 2 ^ 31) (h : ¬ nI k ≤ 0) : 0 < k := by
  rcases Nat.eq_zero_or_pos k with e | e
  · subst e; exact absurd (by decide) h
  · exact e
theorem neN {k n : Nat} {x : Int32} (e : x = nI n) (h : ¬ nI k = x) : k ≠ n := fun h1 => h (by rw [e, h1])
theorem eqN {k n : Nat} {x : Int32} (e : x = nI n) (hk : k < 2 ^ 31) (hn : n < 2 ^ 31) (h : nI k = x) : k = n := (nI_eq hk hn).1 (by rw [h, e])
def f_X8_holds_j50 (M : MS) (s0_50 : Bool) (thr0_50 : Int32) : Bool × MS := (s0_50, (mkM (mNow M) (mBef M) (mSav M) (mHis M) (mIsS M) (mRem M) (mErA M) (mFaA M) (mTxt M) (mTyp M) (mLin M) (mLnd M) thr0_50 (mFar M) (mGrp M) (mSiz M) (mPla M) (mWro M) (mTol M) (mNum M)))
def f_X8_holds_j35 (M : MS) (s0_35 : Int32) (thr0_35 : Int32) : Bool × MS := (if s0_35 = 0 then (f_X8_holds_j50 M (true) (s0_35)) else (f_X8_holds_j50 M (false) (s0_35)))
def f_X8_holds (M : MS) (c1 : Bool) (c2 : Bool) (c3 : Bool) (c4 : Bool) : Bool × MS := (if c1 = true then (if c2 = true then (if c3 = true then (if c4 = true then (f_X8_holds_j35 M (0) ((mThr M))) else (f_X8_holds_j35 M (4) ((mThr M)))) else (f_X8_holds_j35 M (3) ((mThr M)))) else (f_X8_holds_j35 M (2) ((mThr M)))) else (f_X8_holds_j35 M (1) ((mThr M))))
set_option maxHeartbeats 4000000 in
set_option maxRecDepth 100000 in
theorem c_X8_holds (l : Launch) (D : va_G) (C : Nat → ClassId) (b : Nat → Nat) (M : MS) (c1 : Bool) (c2 : Bool) (c3 : Bool) (c4 : Bool) (sz : Nat) : Met l yX8_holds wsX8_holds ({ frames := 0, cells := 0, slots := 0, locals := 0 } : Room) (rwP [.ref (b 0), .int (bI c1), .int (bI c2), .int (bI c3), .int (bI c4)] D C (mcells C b M) sz) (rwO (some (.int (bI (f_X8_holds M c1 c2 c3 c4).1))) D (mcells C b ((f_X8_holds M c1 c2 c3 c4).2)) (va_A (mcells C b M) sz)) 0 0 (va_A (mcells C b M) sz) := by
  refine Met.ofW (cc := cX8_holds) (maxL := 5) (ret := (some .boolean)) (by decide) rfl ?_
  intro p e s m args below meth c s₁ B hml hv
  obtain ⟨rfl, hsz, hP, hK, hD0, hE⟩ := hv
  have hx := B.exec
  have hb := B.bytes
  have hr := B.returns
  have hts := atoms_spec (ws := wsX8_holds) B.pre
  have hown : s.vm.findClass RX8 = some m.cls := findClass_of_methodNamed B.named
  have hlocks := B.notSynchronized
  subst hsz
  have hD := hD0.self (sz := s.heap.size)
  generalize hAe : va_A (mcells C b M) s.heap.size = A at hD ⊢
  have hA : ∀ q : Nat, s.heap.size ≤ q → A q := fun q h => by rw [← hAe]; exact Or.inr h
  have hS0 : va_S A s.heap s.heap [] := va_S.rf
  have hP : va_P D vwCl (mcells C b M) s.heap := hP
  have hS := hS0
  have hinX8 : ∀ w ∈ u_ws RX8 TX8 20, w ∈ wsX8_holds := by decide +kernel
  have hl := lv_entry ([.ref (b 0), .int (bI c1), .int (bI c2), .int (bI c3), .int (bI c4)]) (n := 5) (Nat.le_of_ble_eq_true rfl)
  rw [lg_entry_eq]
  generalize (lg_sl ([.ref (b 0), .int (bI c1), .int (bI c2), .int (bI c3), .int (bI c4)]) ++ List.replicate (5 - (lg_sl ([.ref (b 0), .int (bI c1), .int (bI c2), .int (bI c3), .int (bI c4)])).length) Slot.unset).toArray = ls at hl ⊢
  have hl : lv_has ls 5 [(0, .ref (b 0)), (1, .int (bI c1)), (2, .int (bI c2)), (3, .int (bI c3)), (4, .int (bI c4))] := hl
  obtain ⟨z, hz⟩ : ∃ z, z = f_X8_holds M c1 c2 c3 c4 := ⟨_, rfl⟩
  rw [← hz]
  have J50 : ∀ (s0_50 : Bool) (thr0_50 : Int32)  (H : Heap) (locs : List Loc) (ls : Array Slot), z = f_X8_holds_j50 M s0_50 thr0_50 → va_P D vwCl (mcells C b (mkM (mNow M) (mBef M) (mSav M) (mHis M) (mIsS M) (mRem M) (mErA M) (mFaA M) (mTxt M) (mTyp M) (mLin M) (mLnd M) thr0_50 (mFar M) (mGrp M) (mSiz M) (mPla M) (mWro M) (mTol M) (mNum M))) H → va_D A (mcells C b (mkM (mNow M) (mBef M) (mSav M) (mHis M) (mIsS M) (mRem M) (mErA M) (mFaA M) (mTxt M) (mTyp M) (mLin M) (mLnd M) thr0_50 (mFar M) (mGrp M) (mSiz M) (mPla M) (mWro M) (mTol M) (mNum M))) → va_S A s.heap H locs → lv_has ls 5 [] → W p l e ({ frames := 0, cells := 0, slots := 0, locals := 0 } : Room) s m ([.ref (b 0), .int (bI c1), .int (bI c2), .int (bI c3), .int (bI c4)] : List Value).toArray below meth c H locs 0 0 (MQ below (rwO (some (.int (bI z.1))) D (mcells C b z.2) A) ([.ref (b 0), .int (bI c1), .int (bI c2), .int (bI c3), .int (bI c4)] : List Value).toArray s 0 0 A) (F0 m 50 ls [.int (bI s0_50)]) := by
    intro s0_50 thr0_50 H locs ls hz  hP hD hS hl
    have hz : z = (s0_50, (mkM (mNow M) (mBef M) (mSav M) (mHis M) (mIsS M) (mRem M) (mErA M) (mFaA M) (mTxt M) (mTyp M) (mLin M) (mLnd M) thr0_50 (mFar M) (mGrp M) (mSiz M) (mPla M) (mWro M) (mTol M) (mNum M))) := hz
    rw [hz]
    exact rw_retB hx hb hr hP hS rfl dX8_holds_50 hlocks
  have J35 : ∀ (s0_35 : Int32) (thr0_35 : Int32)  (H : Heap) (locs : List Loc) (ls : Array Slot), z = f_X8_holds_j35 M s0_35 thr0_35 → va_P D vwCl (mcells C b (mkM (mNow M) (mBef M) (mSav M) (mHis M) (mIsS M) (mRem M) (mErA M) (mFaA M) (mTxt M) (mTyp M) (mLin M) (mLnd M) thr0_35 (mFar M) (mGrp M) (mSiz M) (mPla M) (mWro M) (mTol M) (mNum M))) H → va_D A (mcells C b (mkM (mNow M) (mBef M) (mSav M) (mHis M) (mIsS M) (mRem M) (mErA M) (mFaA M) (mTxt M) (mTyp M) (mLin M) (mLnd M) thr0_35 (mFar M) (mGrp M) (mSiz M) (mPla M) (mWro M) (mTol M) (mNum M))) → va_S A s.heap H locs → lv_has ls 5 [(0, .ref (b 0))] → W p l e ({ frames := 0, cells := 0, slots := 0, locals := 0 } : Room) s m ([.ref (b 0), .int (bI c1), .int (bI c2), .int (bI c3), .int (bI c4)] : List Value).toArray below meth c H locs 0 0 (MQ below (rwO (some (.int (bI z.1))) D (mcells C b z.2) A) ([.ref (b 0), .int (bI c1), .int (bI c2), .int (bI c3), .int (bI c4)] : List Value).toArray s 0 0 A) (F0 m 35 ls [.int s0_35, .ref (b 0)]) := by
    intro s0_35 thr0_35 H locs ls hz  hP hD hS hl
    refine va_put (D := D) (ci := 9) (v := .int s0_35) (ty := .int) (C := RX8) (T := TX8) (N := 20) hx hb hts hinX8 tyX8 tyX8_ok nmX8 hown hK hP hD hS 0 rfl rfl 12 (by decide) (hts (.fieldLink RX8 44 "BridgeAuctionModel" "thrown" "I") (by decide +kernel)) (fun _ h9 => h9) rfl (by decide +kernel) rfl rfl (Nat.le_of_ble_eq_true rfl) dX8_holds_35 (fun H locs hP hD hS => ?_)
    have hP : va_P D vwCl (mcells C b (mkM (mNow M) (mBef M) (mSav M) (mHis M) (mIsS M) (mRem M) (mErA M) (mFaA M) (mTxt M) (mTyp M) (mLin M) (mLnd M) s0_35 (mFar M) (mGrp M) (mSiz M) (mPla M) (mWro M) (mTol M) (mNum M))) H := hP
    have hD : va_D A (mcells C b (mkM (mNow M) (mBef M) (mSav M) (mHis M) (mIsS M) (mRem M) (mErA M) (mFaA M) (mTxt M) (mTyp M) (mLin M) (mLnd M) s0_35 (mFar M) (mGrp M) (mSiz M) (mPla M) (mWro M) (mTol M) (mNum M))) := hD
    refine lv_aload_n hx hb dX8_holds_38 rfl (lv_at hl 0 rfl) ?_
    refine va_get (D := D) (ci := 9) (v := .int s0_35) (C := RX8) (T := TX8) (N := 20) hx hb hts hinX8 hown hK hP 0 rfl rfl 12 (by decide) (hts (.fieldLink RX8 44 "BridgeAuctionModel" "thrown" "I") (by decide +kernel)) (fun _ h9 => h9) rfl dX8_holds_39 ?_
    refine lv_if_ne (tgt := 49) hx hb dX8_holds_42 (by decide) (fun c_42 => ?_) (fun c_42 => ?_)
    · have hz := hz.trans (if_neg c_42)
      refine lv_iconst (v := 0) hx hb dX8_holds_49 (by decide) ?_
      exact J50 (false) (s0_35) _ _ ls hz  hP hD hS (lv_sub hl [] rfl)
    · have hz := hz.trans (if_pos c_42)
      refine lv_iconst (v := 1) hx hb dX8_holds_45 (by decide) ?_
      refine lv_goto (tgt := 50) hx hb dX8_holds_46 (by decide) ?_
      exact J50 (true) (s0_35) _ _ ls hz  hP hD hS (lv_sub hl [] rfl)
  refine lv_aload_n hx hb dX8_holds_0 rfl (lv_at hl 0 rfl) ?_
  refine lv_iload_n hx hb dX8_holds_1 rfl (lv_at hl 1 rfl) ?_
  refine bif_ne (tgt := 9) hx hb dX8_holds_2 (by decide) (fun c_2 => ?_) (fun c_2 => ?_)
  · have hz := hz.trans (ifB_t c_2)
    refine lv_iload_n hx hb dX8_holds_9 rfl (lv_at hl 2 rfl) ?_
    refine bif_ne (tgt := 17) hx hb dX8_holds_10 (by decide) (fun c_10 => ?_) (fun c_10 => ?_)
    · have hz := hz.trans (ifB_t c_10)
      refine lv_iload_n hx hb dX8_holds_17 rfl (lv_at hl 3 rfl) ?_
      refine bif_ne (tgt := 25) hx hb dX8_holds_18 (by decide) (fun c_18 => ?_) (fun c_18 => ?_)
      · have hz := hz.trans (ifB_t c_18)
        refine lv_iload hx hb dX8_holds_25 (lv_at hl 4 rfl) ?_
        refine bif_ne (tgt := 34) hx hb dX8_holds_27 (by decide) (fun c_27 => ?_) (fun c_27 => ?_)
        · have hz := hz.trans (ifB_t c_27)
          refine lv_iconst (v := 0) hx hb dX8_holds_34 (by decide) ?_
          exact J35 (0) ((mThr M)) _ _ ls hz  hP hD hS (lv_sub hl [0] rfl)
        · have hz := hz.trans (ifB_f c_27)
          refine lv_iconst (v := 4) hx hb dX8_holds_30 (by decide) ?_
          refine lv_goto (tgt := 35) hx hb dX8_holds_31 (by decide) ?_
          exact J35 (4) ((mThr M)) _ _ ls hz  hP hD hS (lv_sub hl [0] rfl)
      · have hz := hz.trans (ifB_f c_18)
        refine lv_iconst (v := 3) hx hb dX8_holds_21 (by decide) ?_
        refine lv_goto (tgt := 35) hx hb dX8_holds_22 (by decide) ?_
        exact J35 (3) ((mThr M)) _ _ ls hz  hP hD hS (lv_sub hl [0] rfl)
    · have hz := hz.trans (ifB_f c_10)
      refine lv_iconst (v := 2) hx hb dX8_holds_13 (by decide) ?_
      refine lv_goto (tgt := 35) hx hb dX8_holds_14 (by decide) ?_
      exact J35 (2) ((mThr M)) _ _ ls hz  hP hD hS (lv_sub hl [0] rfl)
  · have hz := hz.trans (ifB_f c_2)
    refine lv_iconst (v := 1) hx hb dX8_holds_5 (by decide) ?_
    refine lv_goto (tgt := 35) hx hb dX8_holds_6 (by decide) ?_
    exact J35 (1) ((mThr M)) _ _ ls hz  hP hD hS (lv_sub hl [0] rfl)

