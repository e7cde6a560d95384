theorem mkM_eta (M : MS) : (mkM (mNow M) (mBef M) (mSav M) (mHis M) (mIsS M) (mRem M) (mErA M) (mFaA M) (mTxt M) (mTyp M) (mLin M) (mLnd M) (mThr M) (mFar M) (mGrp M) (mSiz M) (mPla M) (mWro M) (mTol M) (mNum M)) = M := rfl
/-! the reference's writes -/
def hOk (b c d e : Bool) : Bool := b && (c && (d && e))
def hThr (b c d e : Bool) : Int32 := if b = true then (if c = true then (if d = true then (if e = true then 0 else 4) else 3) else 2) else 1
def gThr (b : Bool) : Int32 := if b = true then 0 else 1
theorem hOk_1 {b c d e : Bool} (h : hOk b c d e = true) : b = true ∧ c = true ∧ d = true ∧ e = true := by
  cases b <;> cases c <;> cases d <;> cases e <;> first | exact ⟨rfl, rfl, rfl, rfl⟩ | exact absurd h (by decide)
theorem posN {k : Nat} (hk : k < 2 ^ 31) (h : ¬ nI k ≤ 0) : 0 < k := by
  rcases Nat.eq_zero_or_pos k with e | e
  · subst e; exact absurd (by decide) h
  · exact e
theorem neN {k n : Nat} {x : Int32} (e : x = nI n) (h : ¬ nI k = x) : k ≠ n := fun h1 => h (by rw [e, h1])
theorem eqN {k n : Nat} {x : Int32} (e : x = nI n) (hk : k < 2 ^ 31) (hn : n < 2 ^ 31) (h : nI k = x) : k = n := (nI_eq hk hn).1 (by rw [h, e])
theorem ltN {k n : Nat} {x : Int32} (e : x = nI n) (hk : k < 2 ^ 31) (h : ¬ x ≤ nI k) : k < n := by
  rcases Nat.lt_or_ge k n with a | a
  · exact a
  · exact absurd (by rw [e]; exact nI_le a hk) h
theorem nI_dec {r : Nat} (h : 0 < r) : nI r - 1 = nI (r - 1) := by
  obtain ⟨n, rfl⟩ : ∃ n, r = n + 1 := ⟨r - 1, by omega⟩
  rw [nI_pred, Nat.add_sub_cancel]
theorem upd_o {f : Nat → Int32} {k j : Nat} {x y : Int32} (h : j ≠ k) (e : f j = y) : upd f k x j = y := by
  unfold upd; rw [if_neg h]; exact e
theorem upd_s {f : Nat → Int32} {k : Nat} {x : Int32} : upd f k x k = x := by
  unfold upd; rw [if_pos rfl]
theorem upd_n {f : Nat → Int32} {k j : Nat} {x : Int32} (h : j ≠ k) : upd f k x j = f j := upd_o h rfl
theorem NowOK_ext {f g : Nat → Int32} (h : NowOK f) (e : ∀ j, j < 178 → (j = 1 ∨ j = 2 ∨ ∃ k, k < 12 ∧ (j = 22 + 13 * k + 0 ∨ j = 22 + 13 * k + 1 ∨ j = 22 + 13 * k + 4)) → g j = f j) : NowOK g := by
  unfold NowOK at h ⊢
  have e1 := e 1 (by decide) (Or.inl rfl)
  have e2 := e 2 (by decide) (Or.inr (Or.inl rfl))
  have s1 : mP g = mP f := by unfold mP; rw [e1]
  have s2 : mS g = mS f := by unfold mS; rw [e2]
  rw [s1, s2, e1, e2]
  refine ⟨h.1, h.2.1, fun k hk => ?_, fun k hk => ?_⟩
  · rw [e _ (by omega) (Or.inr (Or.inr ⟨k, hk, Or.inl rfl⟩)), e _ (by omega) (Or.inr (Or.inr ⟨k, hk, Or.inr (Or.inl rfl)⟩))]
    exact h.2.2.1 k hk
  · rw [e _ (by omega) (Or.inr (Or.inr ⟨k, hk, Or.inr (Or.inr rfl)⟩))]
    exact h.2.2.2 k hk
theorem NowOK_upd {f : Nat → Int32} {i : Nat} {x : Int32} (h : NowOK f) {k j : Nat} (hk : k < 12) (hj : (5 ≤ j ∧ j < 13) ∨ j = 2 ∨ j = 3) (hi : i = 22 + 13 * k + j) : NowOK (upd f i x) :=
  NowOK_ext h (fun q hq hc => upd_n (by rcases hc with r | r | ⟨k', hk', r | r | r⟩ <;> omega))
theorem NowOK_fer {f : Nat → Int32} {i : Nat} {x : Int32} (h : NowOK f) {k : Nat} (hk : k < 12) (hi : i = 22 + 13 * k + 4) (hx : x = -1 ∨ vp_in x 4) : NowOK (upd f i x) := by
  have e : ∀ j, j ≠ i → upd f i x j = f j := fun j hj => upd_n hj
  unfold NowOK at h ⊢
  have s1 : mP (upd f i x) = mP f := by unfold mP; rw [e 1 (by omega)]
  have s2 : mS (upd f i x) = mS f := by unfold mS; rw [e 2 (by omega)]
  rw [s1, s2, e 1 (by omega), e 2 (by omega)]
  refine ⟨h.1, h.2.1, fun q hq => ?_, fun q hq => ?_⟩
  · rw [e _ (by omega), e _ (by omega)]
    exact h.2.2.1 q hq
  · by_cases hqk : q = k
    · subst hqk; rw [← hi, upd_s]; exact hx
    · rw [e _ (by omega)]; exact h.2.2.2 q hq
theorem X8_isIsland_in {x : Int32} (h : f_X8_isIsland x = true) : vp_in x 8 :=
  X8_isIn_of (n := 8) (by decide) (by rw [show nI 8 - 1 = (7 : Int32) by decide +kernel]; exact h)
theorem X8_lo_in2 {nw : Nat → Int32} (hM : NowOK nw) {y : Int32} (h : vp_in y (mS nw)) : vp_in (f_X8_of nw y 0) 8 := by
  have h12 := hM.1.2
  obtain ⟨j, hj, rfl⟩ := vp_in_of h (by omega)
  exact X8_lo_in hM hj
theorem X8_hi_in2 {nw : Nat → Int32} (hM : NowOK nw) {y : Int32} (h : vp_in y (mS nw)) : vp_in (f_X8_of nw y 1) 8 := by
  have h12 := hM.1.2
  obtain ⟨j, hj, rfl⟩ := vp_in_of h (by omega)
  exact X8_hi_in hM hj
theorem X8_of_in {nw : Nat → Int32} {y : Int32} {n : Nat} : f_X8_of nw y n = f_X8_of nw y n := rfl
def f_X8_holds_j50  (s0_50 : Bool) (thr0_50 : Int32) : Bool × Int32 := (s0_50, thr0_50)
def f_X8_holds_j35  (s0_35 : Int32) : Bool × Int32 := (if s0_35 = 0 then (f_X8_holds_j50 (true) (s0_35)) else (f_X8_holds_j50 (false) (s0_35)))
def f_X8_holds (c1 : Bool) (c2 : Bool) (c3 : Bool) (c4 : Bool) : Bool × Int32 := (if c1 = true then (if c2 = true then (if c3 = true then (if c4 = true then (f_X8_holds_j35 (0)) else (f_X8_holds_j35 (4))) else (f_X8_holds_j35 (3))) else (f_X8_holds_j35 (2))) else (f_X8_holds_j35 (1)))
set_option maxHeartbeats 4000000 in
set_option maxRecDepth 100000 in
theorem c_X8_holds (l : Launch) (D : va_G) (C : Nat → ClassId) (b : Nat → Nat) (M : MS) (c1 : Bool) (c2 : Bool) (c3 : Bool) (c4 : Bool) (sz : Nat) : Met l yX8_holds wsX8_holds ({ frames := 0, cells := 0, slots := 0, locals := 0 } : Room) (rwP [.ref (b 0), .int (bI c1), .int (bI c2), .int (bI c3), .int (bI c4)] D C (mcells C b M) sz) (rwO (some (.int (bI ((f_X8_holds c1 c2 c3 c4).1)))) D (mcells C b (mkM (mNow M) (mBef M) (mSav M) (mHis M) (mIsS M) (mRem M) (mErA M) (mFaA M) (mTxt M) (mTyp M) (mLin M) (mLnd M) ((f_X8_holds c1 c2 c3 c4).2) (mFar M) (mGrp M) (mSiz M) (mPla M) (mWro M) (mTol M) (mNum M))) (va_A (mcells C b M) sz)) 0 0 (va_A (mcells C b M) sz) := by
  refine Met.ofW (cc := cX8_holds) (maxL := 5) (ret := (some .boolean)) (by decide) rfl ?_
  intro p e s m args below meth c s₁ B hml hv
  obtain ⟨rfl, hsz, hP, hK, hD0, hE⟩ := hv
  have hx := B.exec
  have hb := B.bytes
  have hr := B.returns
  have hts := atoms_spec (ws := wsX8_holds) B.pre
  have hown : s.vm.findClass RX8 = some m.cls := findClass_of_methodNamed B.named
  have hlocks := B.notSynchronized
  subst hsz
  have hD := hD0.self (sz := s.heap.size)
  generalize hAe : va_A (mcells C b M) s.heap.size = A at hD ⊢
  have hA : ∀ q : Nat, s.heap.size ≤ q → A q := fun q h => by rw [← hAe]; exact Or.inr h
  have hS0 : va_S A s.heap s.heap [] := va_S.rf
  have hP : va_P D vwCl (mcells C b M) s.heap := hP
  have hS := hS0
  have hinX8 : ∀ w ∈ u_ws RX8 TX8 20, w ∈ wsX8_holds := by decide +kernel
  have hl := lv_entry ([.ref (b 0), .int (bI c1), .int (bI c2), .int (bI c3), .int (bI c4)]) (n := 5) (Nat.le_of_ble_eq_true rfl)
  rw [lg_entry_eq]
  generalize (lg_sl ([.ref (b 0), .int (bI c1), .int (bI c2), .int (bI c3), .int (bI c4)]) ++ List.replicate (5 - (lg_sl ([.ref (b 0), .int (bI c1), .int (bI c2), .int (bI c3), .int (bI c4)])).length) Slot.unset).toArray = ls at hl ⊢
  have hl : lv_has ls 5 [(0, .ref (b 0)), (1, .int (bI c1)), (2, .int (bI c2)), (3, .int (bI c3)), (4, .int (bI c4))] := hl
  obtain ⟨z, hz⟩ : ∃ z, z = f_X8_holds c1 c2 c3 c4 := ⟨_, rfl⟩
  rw [← hz]
  have J50 : ∀ (s0_50 : Bool) (thr0_50 : Int32)  (H : Heap) (locs : List Loc) (ls : Array Slot), z = f_X8_holds_j50 s0_50 thr0_50 → va_P D vwCl (mcells C b (mkM (mNow M) (mBef M) (mSav M) (mHis M) (mIsS M) (mRem M) (mErA M) (mFaA M) (mTxt M) (mTyp M) (mLin M) (mLnd M) thr0_50 (mFar M) (mGrp M) (mSiz M) (mPla M) (mWro M) (mTol M) (mNum M))) H → va_D A (mcells C b (mkM (mNow M) (mBef M) (mSav M) (mHis M) (mIsS M) (mRem M) (mErA M) (mFaA M) (mTxt M) (mTyp M) (mLin M) (mLnd M) thr0_50 (mFar M) (mGrp M) (mSiz M) (mPla M) (mWro M) (mTol M) (mNum M))) → va_S A s.heap H locs → lv_has ls 5 [] → W p l e ({ frames := 0, cells := 0, slots := 0, locals := 0 } : Room) s m ([.ref (b 0), .int (bI c1), .int (bI c2), .int (bI c3), .int (bI c4)] : List Value).toArray below meth c H locs 0 0 (MQ below (rwO (some (.int (bI z.1))) D (mcells C b (mkM (mNow M) (mBef M) (mSav M) (mHis M) (mIsS M) (mRem M) (mErA M) (mFaA M) (mTxt M) (mTyp M) (mLin M) (mLnd M) z.2 (mFar M) (mGrp M) (mSiz M) (mPla M) (mWro M) (mTol M) (mNum M))) A) ([.ref (b 0), .int (bI c1), .int (bI c2), .int (bI c3), .int (bI c4)] : List Value).toArray s 0 0 A) (F0 m 50 ls [.int (bI s0_50)]) := by
    intro s0_50 thr0_50 H locs ls hz  hP hD hS hl
    have hz : z = (s0_50, thr0_50) := hz
    rw [hz]
    exact rw_retB hx hb hr hP hS rfl dX8_holds_50 hlocks
  have J35 : ∀ (s0_35 : Int32)  (H : Heap) (locs : List Loc) (ls : Array Slot), z = f_X8_holds_j35 s0_35 → va_P D vwCl (mcells C b M) H → va_D A (mcells C b M) → va_S A s.heap H locs → lv_has ls 5 [(0, .ref (b 0))] → W p l e ({ frames := 0, cells := 0, slots := 0, locals := 0 } : Room) s m ([.ref (b 0), .int (bI c1), .int (bI c2), .int (bI c3), .int (bI c4)] : List Value).toArray below meth c H locs 0 0 (MQ below (rwO (some (.int (bI z.1))) D (mcells C b (mkM (mNow M) (mBef M) (mSav M) (mHis M) (mIsS M) (mRem M) (mErA M) (mFaA M) (mTxt M) (mTyp M) (mLin M) (mLnd M) z.2 (mFar M) (mGrp M) (mSiz M) (mPla M) (mWro M) (mTol M) (mNum M))) A) ([.ref (b 0), .int (bI c1), .int (bI c2), .int (bI c3), .int (bI c4)] : List Value).toArray s 0 0 A) (F0 m 35 ls [.int s0_35, .ref (b 0)]) := by
    intro s0_35 H locs ls hz  hP hD hS hl
    refine va_put (D := D) (ci := 9) (v := .int s0_35) (ty := .int) (C := RX8) (T := TX8) (N := 20) hx hb hts hinX8 tyX8 tyX8_ok nmX8 hown hK hP hD hS 0 rfl rfl 12 (by decide) (hts (.fieldLink RX8 44 "BridgeAuctionModel" "thrown" "I") (by decide +kernel)) (fun _ h9 => h9) rfl (by decide +kernel) rfl rfl (Nat.le_of_ble_eq_true rfl) dX8_holds_35 (fun H locs hP hD hS => ?_)
    have hP : va_P D vwCl (mcells C b (mkM (mNow M) (mBef M) (mSav M) (mHis M) (mIsS M) (mRem M) (mErA M) (mFaA M) (mTxt M) (mTyp M) (mLin M) (mLnd M) s0_35 (mFar M) (mGrp M) (mSiz M) (mPla M) (mWro M) (mTol M) (mNum M))) H := hP
    have hD : va_D A (mcells C b (mkM (mNow M) (mBef M) (mSav M) (mHis M) (mIsS M) (mRem M) (mErA M) (mFaA M) (mTxt M) (mTyp M) (mLin M) (mLnd M) s0_35 (mFar M) (mGrp M) (mSiz M) (mPla M) (mWro M) (mTol M) (mNum M))) := hD
    refine lv_aload_n hx hb dX8_holds_38 rfl (lv_at hl 0 rfl) ?_
    refine va_get (D := D) (ci := 9) (v := .int s0_35) (C := RX8) (T := TX8) (N := 20) hx hb hts hinX8 hown hK hP 0 rfl rfl 12 (by decide) (hts (.fieldLink RX8 44 "BridgeAuctionModel" "thrown" "I") (by decide +kernel)) (fun _ h9 => h9) rfl dX8_holds_39 ?_
    refine lv_if_ne (tgt := 49) hx hb dX8_holds_42 (by decide) (fun c_42 => ?_) (fun c_42 => ?_)
    · have hz := hz.trans (if_neg c_42)
      refine lv_iconst (v := 0) hx hb dX8_holds_49 (by decide) ?_
      exact J50 (false) (s0_35) _ _ ls hz  hP hD hS (lv_sub hl [] rfl)
    · have hz := hz.trans (if_pos c_42)
      refine lv_iconst (v := 1) hx hb dX8_holds_45 (by decide) ?_
      refine lv_goto (tgt := 50) hx hb dX8_holds_46 (by decide) ?_
      exact J50 (true) (s0_35) _ _ ls hz  hP hD hS (lv_sub hl [] rfl)
  refine lv_aload_n hx hb dX8_holds_0 rfl (lv_at hl 0 rfl) ?_
  refine lv_iload_n hx hb dX8_holds_1 rfl (lv_at hl 1 rfl) ?_
  refine bif_ne (tgt := 9) hx hb dX8_holds_2 (by decide) (fun c_2 => ?_) (fun c_2 => ?_)
  · have hz := hz.trans (ifB_t c_2)
    refine lv_iload_n hx hb dX8_holds_9 rfl (lv_at hl 2 rfl) ?_
    refine bif_ne (tgt := 17) hx hb dX8_holds_10 (by decide) (fun c_10 => ?_) (fun c_10 => ?_)
    · have hz := hz.trans (ifB_t c_10)
      refine lv_iload_n hx hb dX8_holds_17 rfl (lv_at hl 3 rfl) ?_
      refine bif_ne (tgt := 25) hx hb dX8_holds_18 (by decide) (fun c_18 => ?_) (fun c_18 => ?_)
      · have hz := hz.trans (ifB_t c_18)
        refine lv_iload hx hb dX8_holds_25 (lv_at hl 4 rfl) ?_
        refine bif_ne (tgt := 34) hx hb dX8_holds_27 (by decide) (fun c_27 => ?_) (fun c_27 => ?_)
        · have hz := hz.trans (ifB_t c_27)
          refine lv_iconst (v := 0) hx hb dX8_holds_34 (by decide) ?_
          exact J35 (0) _ _ ls hz  hP hD hS (lv_sub hl [0] rfl)
        · have hz := hz.trans (ifB_f c_27)
          refine lv_iconst (v := 4) hx hb dX8_holds_30 (by decide) ?_
          refine lv_goto (tgt := 35) hx hb dX8_holds_31 (by decide) ?_
          exact J35 (4) _ _ ls hz  hP hD hS (lv_sub hl [0] rfl)
      · have hz := hz.trans (ifB_f c_18)
        refine lv_iconst (v := 3) hx hb dX8_holds_21 (by decide) ?_
        refine lv_goto (tgt := 35) hx hb dX8_holds_22 (by decide) ?_
        exact J35 (3) _ _ ls hz  hP hD hS (lv_sub hl [0] rfl)
    · have hz := hz.trans (ifB_f c_10)
      refine lv_iconst (v := 2) hx hb dX8_holds_13 (by decide) ?_
      refine lv_goto (tgt := 35) hx hb dX8_holds_14 (by decide) ?_
      exact J35 (2) _ _ ls hz  hP hD hS (lv_sub hl [0] rfl)
  · have hz := hz.trans (ifB_f c_2)
    refine lv_iconst (v := 1) hx hb dX8_holds_5 (by decide) ?_
    refine lv_goto (tgt := 35) hx hb dX8_holds_6 (by decide) ?_
    exact J35 (1) _ _ ls hz  hP hD hS (lv_sub hl [0] rfl)
