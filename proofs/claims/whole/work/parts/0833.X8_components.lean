def f_X8_components_j69  (s0_69 : Bool) (s1_69 : Int32) (thr0_69 : Int32) (far0_69 : (Nat → Int32)) : Sum (Int32 × Int32 × (Nat → Int32)) (Int32 × Int32 × (Nat → Int32)) := (Sum.inr ((s1_69 + (bI s0_69)), thr0_69, far0_69))
def f_X8_components_j52  (v1_52 : Int32) (s0_52 : Bool) (thr0_52 : Int32) (far0_52 : (Nat → Int32)) : Sum (Sum (Int32 × Int32 × (Nat → Int32)) (Int32 × Int32 × (Nat → Int32))) (Int32 × Bool × Int32 × (Nat → Int32)) := (Sum.inr (v1_52, s0_52, thr0_52, far0_52))
def f_X8_components_j51  (v1_51 : Int32) (thr0_51 : Int32) (far0_51 : (Nat → Int32)) : Sum (Sum (Int32 × Int32 × (Nat → Int32)) (Int32 × Int32 × (Nat → Int32))) (Int32 × Bool × Int32 × (Nat → Int32)) := (f_X8_components_j52 (v1_51) (false) (thr0_51) (far0_51))
def f_X8_components_l25b  (k25 : Nat) (v1_25 : Int32) (v3_25 : Bool) (thr0_25 : Int32) (far0_25 : (Nat → Int32)) : Sum (Sum (Int32 × Int32 × (Nat → Int32)) (Int32 × Int32 × (Nat → Int32))) (Int32 × Bool × Int32 × (Nat → Int32)) := (if v3_25 = true then (if (far0_25 k25) < 1000000 then (f_X8_components_j51 (v1_25) (thr0_25) (far0_25)) else (f_X8_components_j52 (v1_25) (true) (thr0_25) (far0_25))) else (f_X8_components_j51 (v1_25) (thr0_25) (far0_25)))
def f_X8_components_l25x  (v1_25 : Int32) (v3_25 : Bool) (thr0_25 : Int32) (far0_25 : (Nat → Int32)) : Sum (Int32 × Int32 × (Nat → Int32)) (Int32 × Int32 × (Nat → Int32)) := (if v3_25 = true then (f_X8_components_j69 (true) (v1_25) (thr0_25) (far0_25)) else (f_X8_components_j69 (false) (v1_25) (thr0_25) (far0_25)))
def f_X8_components_l25s  (k25 : Nat) (q_ : Int32 × Bool × Int32 × (Nat → Int32)) : Sum (Sum (Int32 × Int32 × (Nat → Int32)) (Int32 × Int32 × (Nat → Int32))) (Int32 × Bool × Int32 × (Nat → Int32)) := f_X8_components_l25b  k25 (q_.1) (q_.2.1) (q_.2.2.1) (q_.2.2.2)
def f_X8_components_l25e  (q_ : Int32 × Bool × Int32 × (Nat → Int32)) : Sum (Int32 × Int32 × (Nat → Int32)) (Int32 × Int32 × (Nat → Int32)) := f_X8_components_l25x  (q_.1) (q_.2.1) (q_.2.2.1) (q_.2.2.2)
def f_X8_components_l25  (n25 k25 : Nat) (v1_25 : Int32) (v3_25 : Bool) (thr0_25 : Int32) (far0_25 : (Nat → Int32)) : Sum (Int32 × Int32 × (Nat → Int32)) (Int32 × Int32 × (Nat → Int32)) := lpF (f_X8_components_l25s ) (f_X8_components_l25e ) n25 k25 (v1_25, v3_25, thr0_25, far0_25)
def f_X8_components_l9b (nw : (Nat → Int32)) (k9 : Nat) (v1_9 : Int32) (thr0_9 : Int32) (far0_9 : (Nat → Int32)) : Sum (Int32 × Int32 × (Nat → Int32)) (Int32 × Int32 × (Nat → Int32)) := (lt_ (f_X8_measures nw far0_9 ((nI k9))) (fun y17 => (f_X8_components_l25 (k9) 0 (v1_9) (true) (thr0_9) (y17))))
def f_X8_components_l9x (nw : (Nat → Int32)) (v1_9 : Int32) (thr0_9 : Int32) (far0_9 : (Nat → Int32)) : Int32 × Int32 × (Nat → Int32) := (v1_9, thr0_9, far0_9)
def f_X8_components_l9s (nw : (Nat → Int32)) (k9 : Nat) (q_ : Int32 × Int32 × (Nat → Int32)) : Sum (Int32 × Int32 × (Nat → Int32)) (Int32 × Int32 × (Nat → Int32)) := f_X8_components_l9b nw k9 (q_.1) (q_.2.1) (q_.2.2)
def f_X8_components_l9e (nw : (Nat → Int32)) (q_ : Int32 × Int32 × (Nat → Int32)) : Int32 × Int32 × (Nat → Int32) := f_X8_components_l9x nw (q_.1) (q_.2.1) (q_.2.2)
def f_X8_components_l9 (nw : (Nat → Int32)) (n9 k9 : Nat) (v1_9 : Int32) (thr0_9 : Int32) (far0_9 : (Nat → Int32)) : Int32 × Int32 × (Nat → Int32) := lpF (f_X8_components_l9s nw) (f_X8_components_l9e nw) n9 k9 (v1_9, thr0_9, far0_9)
def f_X8_components (nw : (Nat → Int32)) (fr : (Nat → Int32)) : Int32 × Int32 × (Nat → Int32) := (f_X8_components_l9 nw (8) 0 (0) (0) (fr))
set_option maxHeartbeats 4000000 in
set_option maxRecDepth 100000 in
theorem c_X8_components (l : Launch) (D : va_G) (C : Nat → ClassId) (b : Nat → Nat) (M : MS) (sz : Nat) (hM : MSafe M) : Met l yX8_components wsX8_components ({ frames := 5, cells := 0, slots := 0, locals := 111 } : Room) (rwP [.ref (b 0)] D C (mcells C b M) sz) (rwO (some (.int ((f_X8_components (mNow M) (mFar M)).1))) D (mcells C b (mkM (mNow M) (mBef M) (mSav M) (mHis M) (mIsS M) (mRem M) (mErA M) (mFaA M) (mTxt M) (mTyp M) (mLin M) (mLnd M) ((f_X8_components (mNow M) (mFar M)).2.1) ((f_X8_components (mNow M) (mFar M)).2.2) (mGrp M) (mSiz M) (mPla M) (mWro M) (mTol M) (mNum M))) (va_A (mcells C b M) sz)) 0 0 (va_A (mcells C b M) sz) := by
  refine Met.ofW (cc := cX8_components) (maxL := 5) (ret := (some .int)) (by decide) rfl ?_
  intro p e s m args below meth c s₁ B hml hv
  obtain ⟨rfl, hsz, hP, hK, hD0, hE⟩ := hv
  have hx := B.exec
  have hb := B.bytes
  have hr := B.returns
  have hts := atoms_spec (ws := wsX8_components) B.pre
  have hown : s.vm.findClass RX8 = some m.cls := findClass_of_methodNamed B.named
  have hlocks := B.notSynchronized
  subst hsz
  have hD := hD0.self (sz := s.heap.size)
  generalize hAe : va_A (mcells C b M) s.heap.size = A at hD ⊢
  have hA : ∀ q : Nat, s.heap.size ≤ q → A q := fun q h => by rw [← hAe]; exact Or.inr h
  have hS0 : va_S A s.heap s.heap [] := va_S.rf
  have hP : va_P D vwCl (mcells C b M) s.heap := hP
  have hS := hS0
  obtain ⟨⟨hS2, hS12⟩, ⟨hP2, hP4⟩, hLH, hFE⟩ := id hM
  have hinX8 : ∀ w ∈ u_ws RX8 TX8 20, w ∈ wsX8_components := by decide +kernel
  have hl := lv_entry ([.ref (b 0)]) (n := 5) (Nat.le_of_ble_eq_true rfl)
  rw [lg_entry_eq]
  generalize (lg_sl ([.ref (b 0)]) ++ List.replicate (5 - (lg_sl ([.ref (b 0)])).length) Slot.unset).toArray = ls at hl ⊢
  have hl : lv_has ls 5 [(0, .ref (b 0))] := hl
  obtain ⟨z, hz⟩ : ∃ z, z = f_X8_components (mNow M) (mFar M) := ⟨_, rfl⟩
  rw [← hz]
  have J9 : ∀ (n9 k9 : Nat) (v1_9 : Int32) (thr0_9 : Int32) (far0_9 : (Nat → Int32)) (H : Heap) (locs : List Loc) (ls : Array Slot), k9 + n9 = 8 → z = f_X8_components_l9 (mNow M) n9 k9 v1_9 thr0_9 far0_9 → va_P D vwCl (mcells C b (mkM (mNow M) (mBef M) (mSav M) (mHis M) (mIsS M) (mRem M) (mErA M) (mFaA M) (mTxt M) (mTyp M) (mLin M) (mLnd M) thr0_9 far0_9 (mGrp M) (mSiz M) (mPla M) (mWro M) (mTol M) (mNum M))) H → va_D A (mcells C b (mkM (mNow M) (mBef M) (mSav M) (mHis M) (mIsS M) (mRem M) (mErA M) (mFaA M) (mTxt M) (mTyp M) (mLin M) (mLnd M) thr0_9 far0_9 (mGrp M) (mSiz M) (mPla M) (mWro M) (mTol M) (mNum M))) → va_S A s.heap H locs → lv_has ls 5 [(0, .ref (b 0)), (1, .int v1_9), (2, .int (nI k9))] → W p l e ({ frames := 5, cells := 0, slots := 0, locals := 111 } : Room) s m ([.ref (b 0)] : List Value).toArray below meth c H locs 0 0 (MQ below (rwO (some (.int z.1)) D (mcells C b (mkM (mNow M) (mBef M) (mSav M) (mHis M) (mIsS M) (mRem M) (mErA M) (mFaA M) (mTxt M) (mTyp M) (mLin M) (mLnd M) z.2.1 z.2.2 (mGrp M) (mSiz M) (mPla M) (mWro M) (mTol M) (mNum M))) A) ([.ref (b 0)] : List Value).toArray s 0 0 A) (F0 m 9 ls []) := by
    intro n9
    induction n9 with
    | zero =>
      intro k9 v1_9 thr0_9 far0_9 H locs ls hk9 hz  hP hD hS hl
      have hz : z = f_X8_components_l9x (mNow M) v1_9 thr0_9 far0_9 := hz
      refine lv_iload_n hx hb dX8_components_9 rfl (lv_at hl 2 rfl) ?_
      refine lv_bipush (v := 8) hx hb dX8_components_10 (by decide +kernel) ?_
      refine lv_icmp_ge (tgt := 77) hx hb dX8_components_12 (by decide) (fun c_12 => ?_) (fun c_12 => absurd (by have e : (8 : Int32) = nI 8 := (by decide +kernel); rw [e]; exact nI_le (by omega) (by omega)) c_12)
      refine lv_iload_n hx hb dX8_components_77 rfl (lv_at hl 1 rfl) ?_
      have hz : z = (v1_9, thr0_9, far0_9) := hz
      rw [hz]
      exact rw_ret hx hb hr hP hS rfl dX8_components_78 hlocks
    | succ n9 ih9 =>
      intro k9 v1_9 thr0_9 far0_9 H locs ls hk9 hz9  hP hD hS hl
      obtain ⟨z9, hz⟩ : ∃ zz_, zz_ = f_X8_components_l9b (mNow M) k9 v1_9 thr0_9 far0_9 := ⟨_, rfl⟩
      have hq9 : z = sE id (fun q_ => lpF (f_X8_components_l9s (mNow M)) (f_X8_components_l9e (mNow M)) n9 (k9 + 1) q_) z9 := by rw [hz9, hz]; rfl
      have J69 : ∀ (s0_69 : Bool) (s1_69 : Int32) (thr0_69 : Int32) (far0_69 : (Nat → Int32))  (H : Heap) (locs : List Loc) (ls : Array Slot), z9 = f_X8_components_j69 s0_69 s1_69 thr0_69 far0_69 → va_P D vwCl (mcells C b (mkM (mNow M) (mBef M) (mSav M) (mHis M) (mIsS M) (mRem M) (mErA M) (mFaA M) (mTxt M) (mTyp M) (mLin M) (mLnd M) thr0_69 far0_69 (mGrp M) (mSiz M) (mPla M) (mWro M) (mTol M) (mNum M))) H → va_D A (mcells C b (mkM (mNow M) (mBef M) (mSav M) (mHis M) (mIsS M) (mRem M) (mErA M) (mFaA M) (mTxt M) (mTyp M) (mLin M) (mLnd M) thr0_69 far0_69 (mGrp M) (mSiz M) (mPla M) (mWro M) (mTol M) (mNum M))) → va_S A s.heap H locs → lv_has ls 5 [(0, .ref (b 0)), (2, .int (nI k9))] → W p l e ({ frames := 5, cells := 0, slots := 0, locals := 111 } : Room) s m ([.ref (b 0)] : List Value).toArray below meth c H locs 0 0 (MQ below (rwO (some (.int z.1)) D (mcells C b (mkM (mNow M) (mBef M) (mSav M) (mHis M) (mIsS M) (mRem M) (mErA M) (mFaA M) (mTxt M) (mTyp M) (mLin M) (mLnd M) z.2.1 z.2.2 (mGrp M) (mSiz M) (mPla M) (mWro M) (mTol M) (mNum M))) A) ([.ref (b 0)] : List Value).toArray s 0 0 A) (F0 m 69 ls [.int (bI s0_69), .int s1_69]) := by
        intro s0_69 s1_69 thr0_69 far0_69 H locs ls hz  hP hD hS hl
        refine lv_iadd hx hb dX8_components_69 ?_
        refine lv_istore_n (lv' := [(1, .int (s1_69 + (bI s0_69))), (0, .ref (b 0)), (2, .int (nI k9))]) hx hb dX8_components_70 rfl hl (by decide) rfl (fun ls hl => ?_)
        refine lv_iinc (v := (nI (k9 + 1))) (lv' := [(2, .int (nI (k9 + 1))), (1, .int (s1_69 + (bI s0_69))), (0, .ref (b 0))]) hx hb dX8_components_71 hl (k := 2) rfl (by exact nI_1 _) (by decide) rfl (fun ls hl => ?_)
        refine lv_goto (tgt := 9) hx hb dX8_components_74 (by decide) ?_
        exact ih9 (k9 + 1) ((s1_69 + (bI s0_69))) (thr0_69) (far0_69) _ _ ls (by omega) (by rw [hq9, hz]; rfl)  hP hD hS (lv_sub hl [2, 1, 0] rfl)
      have J25 : ∀ (n25 k25 : Nat) (v1_25 : Int32) (v3_25 : Bool) (thr0_25 : Int32) (far0_25 : (Nat → Int32)) (H : Heap) (locs : List Loc) (ls : Array Slot), k25 + n25 = k9 → z9 = f_X8_components_l25  n25 k25 v1_25 v3_25 thr0_25 far0_25 → va_P D vwCl (mcells C b (mkM (mNow M) (mBef M) (mSav M) (mHis M) (mIsS M) (mRem M) (mErA M) (mFaA M) (mTxt M) (mTyp M) (mLin M) (mLnd M) thr0_25 far0_25 (mGrp M) (mSiz M) (mPla M) (mWro M) (mTol M) (mNum M))) H → va_D A (mcells C b (mkM (mNow M) (mBef M) (mSav M) (mHis M) (mIsS M) (mRem M) (mErA M) (mFaA M) (mTxt M) (mTyp M) (mLin M) (mLnd M) thr0_25 far0_25 (mGrp M) (mSiz M) (mPla M) (mWro M) (mTol M) (mNum M))) → va_S A s.heap H locs → lv_has ls 5 [(0, .ref (b 0)), (1, .int v1_25), (2, .int (nI k9)), (3, .int (bI v3_25)), (4, .int (nI k25))] → W p l e ({ frames := 5, cells := 0, slots := 0, locals := 111 } : Room) s m ([.ref (b 0)] : List Value).toArray below meth c H locs 0 0 (MQ below (rwO (some (.int z.1)) D (mcells C b (mkM (mNow M) (mBef M) (mSav M) (mHis M) (mIsS M) (mRem M) (mErA M) (mFaA M) (mTxt M) (mTyp M) (mLin M) (mLnd M) z.2.1 z.2.2 (mGrp M) (mSiz M) (mPla M) (mWro M) (mTol M) (mNum M))) A) ([.ref (b 0)] : List Value).toArray s 0 0 A) (F0 m 25 ls []) := by
        intro n25
        induction n25 with
        | zero =>
          intro k25 v1_25 v3_25 thr0_25 far0_25 H locs ls hk25 hz  hP hD hS hl
          have hz : z9 = f_X8_components_l25x  v1_25 v3_25 thr0_25 far0_25 := hz
          refine lv_iload hx hb dX8_components_25 (lv_at hl 4 rfl) ?_
          refine lv_iload_n hx hb dX8_components_27 rfl (lv_at hl 2 rfl) ?_
          refine lv_icmp_ge (tgt := 59) hx hb dX8_components_28 (by decide) (fun c_28 => ?_) (fun c_28 => absurd (nI_le (by omega) (by omega)) c_28)
          refine lv_iload_n hx hb dX8_components_59 rfl (lv_at hl 1 rfl) ?_
          refine lv_iload_n hx hb dX8_components_60 rfl (lv_at hl 3 rfl) ?_
          refine bif_eq (tgt := 68) hx hb dX8_components_61 (by decide) (fun c_61 => ?_) (fun c_61 => ?_)
          · have hz := hz.trans (ifB_f c_61)
            refine lv_iconst (v := 0) hx hb dX8_components_68 (by decide) ?_
            exact J69 (false) (v1_25) (thr0_25) (far0_25) _ _ ls hz  hP hD hS (lv_sub hl [0, 2] rfl)
          · have hz := hz.trans (ifB_t c_61)
            refine lv_iconst (v := 1) hx hb dX8_components_64 (by decide) ?_
            refine lv_goto (tgt := 69) hx hb dX8_components_65 (by decide) ?_
            exact J69 (true) (v1_25) (thr0_25) (far0_25) _ _ ls hz  hP hD hS (lv_sub hl [0, 2] rfl)
        | succ n25 ih25 =>
          intro k25 v1_25 v3_25 thr0_25 far0_25 H locs ls hk25 hz25  hP hD hS hl
          obtain ⟨z25, hz⟩ : ∃ zz_, zz_ = f_X8_components_l25b  k25 v1_25 v3_25 thr0_25 far0_25 := ⟨_, rfl⟩
          have hq25 : z9 = sE id (fun q_ => lpF (f_X8_components_l25s ) (f_X8_components_l25e ) n25 (k25 + 1) q_) z25 := by rw [hz25, hz]; rfl
          have J52 : ∀ (v1_52 : Int32) (s0_52 : Bool) (thr0_52 : Int32) (far0_52 : (Nat → Int32))  (H : Heap) (locs : List Loc) (ls : Array Slot), z25 = f_X8_components_j52 v1_52 s0_52 thr0_52 far0_52 → va_P D vwCl (mcells C b (mkM (mNow M) (mBef M) (mSav M) (mHis M) (mIsS M) (mRem M) (mErA M) (mFaA M) (mTxt M) (mTyp M) (mLin M) (mLnd M) thr0_52 far0_52 (mGrp M) (mSiz M) (mPla M) (mWro M) (mTol M) (mNum M))) H → va_D A (mcells C b (mkM (mNow M) (mBef M) (mSav M) (mHis M) (mIsS M) (mRem M) (mErA M) (mFaA M) (mTxt M) (mTyp M) (mLin M) (mLnd M) thr0_52 far0_52 (mGrp M) (mSiz M) (mPla M) (mWro M) (mTol M) (mNum M))) → va_S A s.heap H locs → lv_has ls 5 [(0, .ref (b 0)), (1, .int v1_52), (2, .int (nI k9)), (4, .int (nI k25))] → W p l e ({ frames := 5, cells := 0, slots := 0, locals := 111 } : Room) s m ([.ref (b 0)] : List Value).toArray below meth c H locs 0 0 (MQ below (rwO (some (.int z.1)) D (mcells C b (mkM (mNow M) (mBef M) (mSav M) (mHis M) (mIsS M) (mRem M) (mErA M) (mFaA M) (mTxt M) (mTyp M) (mLin M) (mLnd M) z.2.1 z.2.2 (mGrp M) (mSiz M) (mPla M) (mWro M) (mTol M) (mNum M))) A) ([.ref (b 0)] : List Value).toArray s 0 0 A) (F0 m 52 ls [.int (bI s0_52)]) := by
            intro v1_52 s0_52 thr0_52 far0_52 H locs ls hz  hP hD hS hl
            refine lv_istore_n (lv' := [(3, .int (bI s0_52)), (0, .ref (b 0)), (1, .int v1_52), (2, .int (nI k9)), (4, .int (nI k25))]) hx hb dX8_components_52 rfl hl (by decide) rfl (fun ls hl => ?_)
            refine lv_iinc (v := (nI (k25 + 1))) (lv' := [(4, .int (nI (k25 + 1))), (3, .int (bI s0_52)), (0, .ref (b 0)), (1, .int v1_52), (2, .int (nI k9))]) hx hb dX8_components_53 hl (k := 4) rfl (by exact nI_1 _) (by decide) rfl (fun ls hl => ?_)
            refine lv_goto (tgt := 25) hx hb dX8_components_56 (by decide) ?_
            exact ih25 (k25 + 1) (v1_52) (s0_52) (thr0_52) (far0_52) _ _ ls (by omega) (by rw [hq25, hz]; rfl)  hP hD hS (lv_sub hl [2, 3, 4, 1, 0] rfl)
          have J51 : ∀ (v1_51 : Int32) (thr0_51 : Int32) (far0_51 : (Nat → Int32))  (H : Heap) (locs : List Loc) (ls : Array Slot), z25 = f_X8_components_j51 v1_51 thr0_51 far0_51 → va_P D vwCl (mcells C b (mkM (mNow M) (mBef M) (mSav M) (mHis M) (mIsS M) (mRem M) (mErA M) (mFaA M) (mTxt M) (mTyp M) (mLin M) (mLnd M) thr0_51 far0_51 (mGrp M) (mSiz M) (mPla M) (mWro M) (mTol M) (mNum M))) H → va_D A (mcells C b (mkM (mNow M) (mBef M) (mSav M) (mHis M) (mIsS M) (mRem M) (mErA M) (mFaA M) (mTxt M) (mTyp M) (mLin M) (mLnd M) thr0_51 far0_51 (mGrp M) (mSiz M) (mPla M) (mWro M) (mTol M) (mNum M))) → va_S A s.heap H locs → lv_has ls 5 [(0, .ref (b 0)), (1, .int v1_51), (2, .int (nI k9)), (4, .int (nI k25))] → W p l e ({ frames := 5, cells := 0, slots := 0, locals := 111 } : Room) s m ([.ref (b 0)] : List Value).toArray below meth c H locs 0 0 (MQ below (rwO (some (.int z.1)) D (mcells C b (mkM (mNow M) (mBef M) (mSav M) (mHis M) (mIsS M) (mRem M) (mErA M) (mFaA M) (mTxt M) (mTyp M) (mLin M) (mLnd M) z.2.1 z.2.2 (mGrp M) (mSiz M) (mPla M) (mWro M) (mTol M) (mNum M))) A) ([.ref (b 0)] : List Value).toArray s 0 0 A) (F0 m 51 ls []) := by
            intro v1_51 thr0_51 far0_51 H locs ls hz  hP hD hS hl
            refine lv_iconst (v := 0) hx hb dX8_components_51 (by decide) ?_
            exact J52 (v1_51) (false) (thr0_51) (far0_51) _ _ ls hz  hP hD hS (lv_sub hl [0, 1, 2, 3] rfl)
          refine lv_iload hx hb dX8_components_25 (lv_at hl 4 rfl) ?_
          refine lv_iload_n hx hb dX8_components_27 rfl (lv_at hl 2 rfl) ?_
          refine lv_icmp_ge (tgt := 59) hx hb dX8_components_28 (by decide) (fun c_28 => absurd c_28 (nI_ge (by omega) (by omega))) (fun c_28 => ?_)
          refine lv_iload_n hx hb dX8_components_31 rfl (lv_at hl 3 rfl) ?_
          refine bif_eq (tgt := 51) hx hb dX8_components_32 (by decide) (fun c_32 => ?_) (fun c_32 => ?_)
          · have hz := hz.trans (ifB_f c_32)
            exact J51 (v1_25) (thr0_25) (far0_25) _ _ ls hz  hP hD hS (lv_sub hl [0, 1, 2, 4] rfl)
          · have hz := hz.trans (ifB_t c_32)
            refine lv_aload_n hx hb dX8_components_35 rfl (lv_at hl 0 rfl) ?_
            refine va_get (D := D) (ci := 9) (v := .ref (b 7)) (C := RX8) (T := TX8) (N := 20) hx hb hts hinX8 hown hK hP 0 rfl rfl 13 (by decide) (hts (.fieldLink RX8 35 "BridgeAuctionModel" "far" "[I") (by decide +kernel)) (fun _ h9 => h9) rfl dX8_components_36 ?_
            refine lv_iload hx hb dX8_components_39 (lv_at hl 4 rfl) ?_
            refine ialdN (tys := tyA C) hx hb hK hP 7 0 rfl rfl (i := k25) (by omega) (by decide) dX8_components_41 ?_
            refine lv_ldc (v := 1000000) hx hb hown (hts (.constant RX8 171 (1000000)) (by decide +kernel)) dX8_components_42 ?_
            refine lv_icmp_lt (tgt := 51) hx hb dX8_components_44 (by decide) (fun c_44 => ?_) (fun c_44 => ?_)
            · have hz := hz.trans (if_pos c_44)
              exact J51 (v1_25) (thr0_25) (far0_25) _ _ ls hz  hP hD hS (lv_sub hl [0, 1, 2, 4] rfl)
            · have hz := hz.trans (if_neg c_44)
              refine lv_iconst (v := 1) hx hb dX8_components_47 (by decide) ?_
              refine lv_goto (tgt := 52) hx hb dX8_components_48 (by decide) ?_
              exact J52 (v1_25) (true) (thr0_25) (far0_25) _ _ ls hz  hP hD hS (lv_sub hl [0, 1, 2, 4] rfl)
      refine lv_iload_n hx hb dX8_components_9 rfl (lv_at hl 2 rfl) ?_
      refine lv_bipush (v := 8) hx hb dX8_components_10 (by decide +kernel) ?_
      refine lv_icmp_ge (tgt := 77) hx hb dX8_components_12 (by decide) (fun c_12 => absurd c_12 (by have e : (8 : Int32) = nI 8 := (by decide +kernel); rw [e]; exact nI_ge (by omega) (by omega))) (fun c_12 => ?_)
      refine lv_aload_n hx hb dX8_components_15 rfl (lv_at hl 0 rfl) ?_
      refine lv_iload_n hx hb dX8_components_16 rfl (lv_at hl 2 rfl) ?_
      have hFc := va_free (wc := (mcells C b (mkM (mNow M) (mBef M) (mSav M) (mHis M) (mIsS M) (mRem M) (mErA M) (mFaA M) (mTxt M) (mTyp M) (mLin M) (mLnd M) thr0_9 far0_9 (mGrp M) (mSiz M) (mPla M) (mWro M) (mTol M) (mNum M)))) hD hS hA [0, 1, 2, 3, 4, 5, 6, 7, 8, 9] rfl
      refine callRw (va_runV (As := [.int (nI k9)]) (rest := []) ⟨hx, hb, hml, hown, hts⟩ (c_X8_measures l D C b (mkM (mNow M) (mBef M) (mSav M) (mHis M) (mIsS M) (mRem M) (mErA M) (mFaA M) (mTxt M) (mTyp M) (mLin M) (mLnd M) thr0_9 far0_9 (mGrp M) (mSiz M) (mPla M) (mWro M) (mTol M) (mNum M)) ((nI k9)) _ (MSafe_of hM rfl)) (cwV 1 hts gX8_components_X8_measures rfl rfl rfl (by decide +kernel) ⟨Nat.le_of_ble_eq_true rfl, Nat.le_of_ble_eq_true rfl⟩) (rwP_v hP hK hE hD (va_recv hK hP (ci := 9) (q0 := 0) rfl rfl)) rfl rfl hl.1 rfl (lv_room (Nat.le_of_ble_eq_true rfl)) dX8_components_17 ⟨Nat.le_refl _, Nat.le_refl _⟩) hS hFc (fun H1 locs hPn hk hS => ?_)
      obtain ⟨y17, hy17⟩ : ∃ y_, y_ = (f_X8_measures (mNow M) far0_9 ((nI k9))) := ⟨_, rfl⟩
      have hPn : va_P D vwCl (mcells C b (mkM (mNow M) (mBef M) (mSav M) (mHis M) (mIsS M) (mRem M) (mErA M) (mFaA M) (mTxt M) (mTyp M) (mLin M) (mLnd M) thr0_9 y17 (mGrp M) (mSiz M) (mPla M) (mWro M) (mTol M) (mNum M))) H1 := by rw [hy17]; exact hPn
      have hz := lt_eq hz hy17
      have hP : va_P D vwCl (mcells C b (mkM (mNow M) (mBef M) (mSav M) (mHis M) (mIsS M) (mRem M) (mErA M) (mFaA M) (mTxt M) (mTyp M) (mLin M) (mLnd M) thr0_9 y17 (mGrp M) (mSiz M) (mPla M) (mWro M) (mTol M) (mNum M))) H1 := hPn
      have hD : va_D A (mcells C b (mkM (mNow M) (mBef M) (mSav M) (mHis M) (mIsS M) (mRem M) (mErA M) (mFaA M) (mTxt M) (mTyp M) (mLin M) (mLnd M) thr0_9 y17 (mGrp M) (mSiz M) (mPla M) (mWro M) (mTol M) (mNum M))) := adr_D hD rfl
      generalize H1 = H at hP hS ⊢
      refine lv_iconst (v := 1) hx hb dX8_components_20 (by decide) ?_
      refine lv_istore_n (lv' := [(3, .int 1), (0, .ref (b 0)), (1, .int v1_9), (2, .int (nI k9))]) hx hb dX8_components_21 rfl hl (by decide) rfl (fun ls hl => ?_)
      refine lv_iconst (v := 0) hx hb dX8_components_22 (by decide) ?_
      refine lv_istore (lv' := [(4, .int 0), (3, .int 1), (0, .ref (b 0)), (1, .int v1_9), (2, .int (nI k9))]) hx hb dX8_components_23 hl (by decide) rfl (fun ls hl => ?_)
      exact J25 (k9) 0 (v1_9) (true) (thr0_9) (y17) _ _ ls (by omega) hz  hP hD hS (lv_sub hl [2, 3, 4, 1, 0] rfl)
  refine lv_aload_n hx hb dX8_components_0 rfl (lv_at hl 0 rfl) ?_
  refine lv_iconst (v := 0) hx hb dX8_components_1 (by decide) ?_
  refine va_put (D := D) (ci := 9) (v := .int 0) (ty := .int) (C := RX8) (T := TX8) (N := 20) hx hb hts hinX8 tyX8 tyX8_ok nmX8 hown hK hP hD hS 0 rfl rfl 12 (by decide) (hts (.fieldLink RX8 44 "BridgeAuctionModel" "thrown" "I") (by decide +kernel)) (fun _ h9 => h9) rfl (by decide +kernel) rfl rfl (Nat.le_of_ble_eq_true rfl) dX8_components_2 (fun H locs hP hD hS => ?_)
  have hP : va_P D vwCl (mcells C b (mkM (mNow M) (mBef M) (mSav M) (mHis M) (mIsS M) (mRem M) (mErA M) (mFaA M) (mTxt M) (mTyp M) (mLin M) (mLnd M) 0 (mFar M) (mGrp M) (mSiz M) (mPla M) (mWro M) (mTol M) (mNum M))) H := hP
  have hD : va_D A (mcells C b (mkM (mNow M) (mBef M) (mSav M) (mHis M) (mIsS M) (mRem M) (mErA M) (mFaA M) (mTxt M) (mTyp M) (mLin M) (mLnd M) 0 (mFar M) (mGrp M) (mSiz M) (mPla M) (mWro M) (mTol M) (mNum M))) := hD
  refine lv_iconst (v := 0) hx hb dX8_components_5 (by decide) ?_
  refine lv_istore_n (lv' := [(1, .int 0), (0, .ref (b 0))]) hx hb dX8_components_6 rfl hl (by decide) rfl (fun ls hl => ?_)
  refine lv_iconst (v := 0) hx hb dX8_components_7 (by decide) ?_
  refine lv_istore_n (lv' := [(2, .int 0), (1, .int 0), (0, .ref (b 0))]) hx hb dX8_components_8 rfl hl (by decide) rfl (fun ls hl => ?_)
  exact J9 (8) 0 (0) (0) ((mFar M)) _ _ ls (by omega) hz  hP hD hS (lv_sub hl [2, 1, 0] rfl)

