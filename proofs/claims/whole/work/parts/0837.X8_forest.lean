def f_X8_forest_j103  (s0_103 : Int32) (s1_103 : Int32) (thr0_103 : Int32) (grp0_103 : (Nat → Int32)) : Sum (Sum (Int32 × Int32 × (Nat → Int32)) (Int32 × Int32 × (Nat → Int32))) (Int32 × Int32 × (Nat → Int32)) := (Sum.inr ((s1_103 + s0_103), thr0_103, grp0_103))
def f_X8_forest_j90 (k30 : Nat) (v1_90 : Int32) (s0_90 : Bool) (thr0_90 : Int32) (grp0_90 : (Nat → Int32)) : Sum (Sum (Int32 × Int32 × (Nat → Int32)) (Int32 × Int32 × (Nat → Int32))) (Int32 × Int32 × (Nat → Int32)) := (if s0_90 = true then (f_X8_forest_j103 ((nI k30)) (v1_90) (thr0_90) (grp0_90)) else (f_X8_forest_j103 (0) (v1_90) (thr0_90) (grp0_90)))
def f_X8_forest_j89 (k30 : Nat) (v1_89 : Int32) (thr0_89 : Int32) (grp0_89 : (Nat → Int32)) : Sum (Sum (Int32 × Int32 × (Nat → Int32)) (Int32 × Int32 × (Nat → Int32))) (Int32 × Int32 × (Nat → Int32)) := (f_X8_forest_j90 k30 (v1_89) (false) (thr0_89) (grp0_89))
def f_X8_forest_l38b (nw : (Nat → Int32)) (k30 : Nat) (k38 : Nat) (v1_38 : Int32) (thr0_38 : Int32) (grp0_38 : (Nat → Int32)) : Sum (Sum (Int32 × Int32 × (Nat → Int32)) (Int32 × Int32 × (Nat → Int32))) (Int32 × Int32 × (Nat → Int32)) := (if (f_X8_isDone nw ((nI k38))) = true then (if (f_X8_of nw ((nI k38)) (2)) = (nI k30) then (lt_ (f_X8_joinsGroups grp0_38 (((f_X8_of nw ((nI k38)) (0))).toNatClampNeg) (((f_X8_of nw ((nI k38)) (1))).toNatClampNeg)) (fun y79 => (if y79.1 = true then (f_X8_forest_j90 k30 (v1_38) (true) (thr0_38) (y79.2)) else (f_X8_forest_j89 k30 (v1_38) (thr0_38) (y79.2))))) else (f_X8_forest_j89 k30 (v1_38) (thr0_38) (grp0_38))) else (f_X8_forest_j89 k30 (v1_38) (thr0_38) (grp0_38)))
def f_X8_forest_l38x (nw : (Nat → Int32)) (k30 : Nat) (v1_38 : Int32) (thr0_38 : Int32) (grp0_38 : (Nat → Int32)) : Sum (Int32 × Int32 × (Nat → Int32)) (Int32 × Int32 × (Nat → Int32)) := (Sum.inr (v1_38, thr0_38, grp0_38))
def f_X8_forest_l38s (nw : (Nat → Int32)) (k30 : Nat) (k38 : Nat) (q_ : Int32 × Int32 × (Nat → Int32)) : Sum (Sum (Int32 × Int32 × (Nat → Int32)) (Int32 × Int32 × (Nat → Int32))) (Int32 × Int32 × (Nat → Int32)) := f_X8_forest_l38b nw k30 k38 (q_.1) (q_.2.1) (q_.2.2)
def f_X8_forest_l38e (nw : (Nat → Int32)) (k30 : Nat) (q_ : Int32 × Int32 × (Nat → Int32)) : Sum (Int32 × Int32 × (Nat → Int32)) (Int32 × Int32 × (Nat → Int32)) := f_X8_forest_l38x nw k30 (q_.1) (q_.2.1) (q_.2.2)
def f_X8_forest_l38 (nw : (Nat → Int32)) (k30 : Nat) (n38 k38 : Nat) (v1_38 : Int32) (thr0_38 : Int32) (grp0_38 : (Nat → Int32)) : Sum (Int32 × Int32 × (Nat → Int32)) (Int32 × Int32 × (Nat → Int32)) := lpF (f_X8_forest_l38s nw k30) (f_X8_forest_l38e nw k30) n38 k38 (v1_38, thr0_38, grp0_38)
def f_X8_forest_l30b (nw : (Nat → Int32)) (k30 : Nat) (v1_30 : Int32) (thr0_30 : Int32) (grp0_30 : (Nat → Int32)) : Sum (Int32 × Int32 × (Nat → Int32)) (Int32 × Int32 × (Nat → Int32)) := (f_X8_forest_l38 nw k30 (mS nw) 0 (v1_30) (thr0_30) (grp0_30))
def f_X8_forest_l30x (nw : (Nat → Int32)) (v1_30 : Int32) (thr0_30 : Int32) (grp0_30 : (Nat → Int32)) : Int32 × Int32 × (Nat → Int32) := (v1_30, thr0_30, grp0_30)
def f_X8_forest_l30s (nw : (Nat → Int32)) (k30 : Nat) (q_ : Int32 × Int32 × (Nat → Int32)) : Sum (Int32 × Int32 × (Nat → Int32)) (Int32 × Int32 × (Nat → Int32)) := f_X8_forest_l30b nw k30 (q_.1) (q_.2.1) (q_.2.2)
def f_X8_forest_l30e (nw : (Nat → Int32)) (q_ : Int32 × Int32 × (Nat → Int32)) : Int32 × Int32 × (Nat → Int32) := f_X8_forest_l30x nw (q_.1) (q_.2.1) (q_.2.2)
def f_X8_forest_l30 (nw : (Nat → Int32)) (n30 k30 : Nat) (v1_30 : Int32) (thr0_30 : Int32) (grp0_30 : (Nat → Int32)) : Int32 × Int32 × (Nat → Int32) := lpF (f_X8_forest_l30s nw) (f_X8_forest_l30e nw) n30 k30 (v1_30, thr0_30, grp0_30)
def f_X8_forest_l7b (nw : (Nat → Int32)) (k7 : Nat) (thr0_7 : Int32) (grp0_7 : (Nat → Int32)) : Sum (Int32 × Int32 × (Nat → Int32)) (Int32 × (Nat → Int32)) := (Sum.inr (thr0_7, (upd grp0_7 k7 (nI k7))))
def f_X8_forest_l7x (nw : (Nat → Int32)) (thr0_7 : Int32) (grp0_7 : (Nat → Int32)) : Int32 × Int32 × (Nat → Int32) := (f_X8_forest_l30 nw (10 - 1) 1 (0) (thr0_7) (grp0_7))
def f_X8_forest_l7s (nw : (Nat → Int32)) (k7 : Nat) (q_ : Int32 × (Nat → Int32)) : Sum (Int32 × Int32 × (Nat → Int32)) (Int32 × (Nat → Int32)) := f_X8_forest_l7b nw k7 (q_.1) (q_.2)
def f_X8_forest_l7e (nw : (Nat → Int32)) (q_ : Int32 × (Nat → Int32)) : Int32 × Int32 × (Nat → Int32) := f_X8_forest_l7x nw (q_.1) (q_.2)
def f_X8_forest_l7 (nw : (Nat → Int32)) (n7 k7 : Nat) (thr0_7 : Int32) (grp0_7 : (Nat → Int32)) : Int32 × Int32 × (Nat → Int32) := lpF (f_X8_forest_l7s nw) (f_X8_forest_l7e nw) n7 k7 (thr0_7, grp0_7)
def f_X8_forest (nw : (Nat → Int32)) (gp : (Nat → Int32)) : Int32 × Int32 × (Nat → Int32) := (f_X8_forest_l7 nw (8) 0 (0) (gp))
set_option maxHeartbeats 4000000 in
set_option maxRecDepth 100000 in
theorem c_X8_forest (l : Launch) (D : va_G) (C : Nat → ClassId) (b : Nat → Nat) (M : MS) (sz : Nat) (hM : MSafe M) : Met l yX8_forest wsX8_forest ({ frames := 4, cells := 0, slots := 0, locals := 86 } : Room) (rwP [.ref (b 0)] D C (mcells C b M) sz) (rwO (some (.int ((f_X8_forest (mNow M) (mGrp M)).1))) D (mcells C b (mkM (mNow M) (mBef M) (mSav M) (mHis M) (mIsS M) (mRem M) (mErA M) (mFaA M) (mTxt M) (mTyp M) (mLin M) (mLnd M) ((f_X8_forest (mNow M) (mGrp M)).2.1) (mFar M) ((f_X8_forest (mNow M) (mGrp M)).2.2) (mSiz M) (mPla M) (mWro M) (mTol M) (mNum M))) (va_A (mcells C b M) sz)) 0 0 (va_A (mcells C b M) sz) := by
  refine Met.ofW (cc := cX8_forest) (maxL := 5) (ret := (some .int)) (by decide) rfl ?_
  intro p e s m args below meth c s₁ B hml hv
  obtain ⟨rfl, hsz, hP, hK, hD0, hE⟩ := hv
  have hx := B.exec
  have hb := B.bytes
  have hr := B.returns
  have hts := atoms_spec (ws := wsX8_forest) B.pre
  have hown : s.vm.findClass RX8 = some m.cls := findClass_of_methodNamed B.named
  have hlocks := B.notSynchronized
  subst hsz
  have hD := hD0.self (sz := s.heap.size)
  generalize hAe : va_A (mcells C b M) s.heap.size = A at hD ⊢
  have hA : ∀ q : Nat, s.heap.size ≤ q → A q := fun q h => by rw [← hAe]; exact Or.inr h
  have hS0 : va_S A s.heap s.heap [] := va_S.rf
  have hP : va_P D vwCl (mcells C b M) s.heap := hP
  have hS := hS0
  obtain ⟨⟨hS2, hS12⟩, ⟨hP2, hP4⟩, hLH, hFE⟩ := id hM
  have hinX8 : ∀ w ∈ u_ws RX8 TX8 20, w ∈ wsX8_forest := by decide +kernel
  have hl := lv_entry ([.ref (b 0)]) (n := 5) (Nat.le_of_ble_eq_true rfl)
  rw [lg_entry_eq]
  generalize (lg_sl ([.ref (b 0)]) ++ List.replicate (5 - (lg_sl ([.ref (b 0)])).length) Slot.unset).toArray = ls at hl ⊢
  have hl : lv_has ls 5 [(0, .ref (b 0))] := hl
  obtain ⟨z, hz⟩ : ∃ z, z = f_X8_forest (mNow M) (mGrp M) := ⟨_, rfl⟩
  rw [← hz]
  have J30 : ∀ (n30 k30 : Nat) (v1_30 : Int32) (thr0_30 : Int32) (grp0_30 : (Nat → Int32)) (H : Heap) (locs : List Loc) (ls : Array Slot), k30 + n30 = 10 → z = f_X8_forest_l30 (mNow M) n30 k30 v1_30 thr0_30 grp0_30 → va_P D vwCl (mcells C b (mkM (mNow M) (mBef M) (mSav M) (mHis M) (mIsS M) (mRem M) (mErA M) (mFaA M) (mTxt M) (mTyp M) (mLin M) (mLnd M) thr0_30 (mFar M) grp0_30 (mSiz M) (mPla M) (mWro M) (mTol M) (mNum M))) H → va_D A (mcells C b (mkM (mNow M) (mBef M) (mSav M) (mHis M) (mIsS M) (mRem M) (mErA M) (mFaA M) (mTxt M) (mTyp M) (mLin M) (mLnd M) thr0_30 (mFar M) grp0_30 (mSiz M) (mPla M) (mWro M) (mTol M) (mNum M))) → va_S A s.heap H locs → lv_has ls 5 [(0, .ref (b 0)), (1, .int v1_30), (2, .int (nI k30))] → W p l e ({ frames := 4, cells := 0, slots := 0, locals := 86 } : Room) s m ([.ref (b 0)] : List Value).toArray below meth c H locs 0 0 (MQ below (rwO (some (.int z.1)) D (mcells C b (mkM (mNow M) (mBef M) (mSav M) (mHis M) (mIsS M) (mRem M) (mErA M) (mFaA M) (mTxt M) (mTyp M) (mLin M) (mLnd M) z.2.1 (mFar M) z.2.2 (mSiz M) (mPla M) (mWro M) (mTol M) (mNum M))) A) ([.ref (b 0)] : List Value).toArray s 0 0 A) (F0 m 30 ls []) := by
    intro n30
    induction n30 with
    | zero =>
      intro k30 v1_30 thr0_30 grp0_30 H locs ls hk30 hz  hP hD hS hl
      have hz : z = f_X8_forest_l30x (mNow M) v1_30 thr0_30 grp0_30 := hz
      refine lv_iload_n hx hb dX8_forest_30 rfl (lv_at hl 2 rfl) ?_
      refine lv_bipush (v := 10) hx hb dX8_forest_31 (by decide +kernel) ?_
      refine lv_icmp_ge (tgt := 117) hx hb dX8_forest_33 (by decide) (fun c_33 => ?_) (fun c_33 => absurd (by have e : (10 : Int32) = nI 10 := (by decide +kernel); rw [e]; exact nI_le (by omega) (by omega)) c_33)
      refine lv_iload_n hx hb dX8_forest_117 rfl (lv_at hl 1 rfl) ?_
      have hz : z = (v1_30, thr0_30, grp0_30) := hz
      rw [hz]
      exact rw_ret hx hb hr hP hS rfl dX8_forest_118 hlocks
    | succ n30 ih30 =>
      intro k30 v1_30 thr0_30 grp0_30 H locs ls hk30 hz30  hP hD hS hl
      obtain ⟨z30, hz⟩ : ∃ zz_, zz_ = f_X8_forest_l30b (mNow M) k30 v1_30 thr0_30 grp0_30 := ⟨_, rfl⟩
      have hq30 : z = sE id (fun q_ => lpF (f_X8_forest_l30s (mNow M)) (f_X8_forest_l30e (mNow M)) n30 (k30 + 1) q_) z30 := by rw [hz30, hz]; rfl
      have J38 : ∀ (n38 k38 : Nat) (v1_38 : Int32) (thr0_38 : Int32) (grp0_38 : (Nat → Int32)) (H : Heap) (locs : List Loc) (ls : Array Slot), k38 + n38 = mS (mNow M) → z30 = f_X8_forest_l38 (mNow M) k30 n38 k38 v1_38 thr0_38 grp0_38 → va_P D vwCl (mcells C b (mkM (mNow M) (mBef M) (mSav M) (mHis M) (mIsS M) (mRem M) (mErA M) (mFaA M) (mTxt M) (mTyp M) (mLin M) (mLnd M) thr0_38 (mFar M) grp0_38 (mSiz M) (mPla M) (mWro M) (mTol M) (mNum M))) H → va_D A (mcells C b (mkM (mNow M) (mBef M) (mSav M) (mHis M) (mIsS M) (mRem M) (mErA M) (mFaA M) (mTxt M) (mTyp M) (mLin M) (mLnd M) thr0_38 (mFar M) grp0_38 (mSiz M) (mPla M) (mWro M) (mTol M) (mNum M))) → va_S A s.heap H locs → lv_has ls 5 [(0, .ref (b 0)), (1, .int v1_38), (2, .int (nI k30)), (3, .int (nI k38))] → W p l e ({ frames := 4, cells := 0, slots := 0, locals := 86 } : Room) s m ([.ref (b 0)] : List Value).toArray below meth c H locs 0 0 (MQ below (rwO (some (.int z.1)) D (mcells C b (mkM (mNow M) (mBef M) (mSav M) (mHis M) (mIsS M) (mRem M) (mErA M) (mFaA M) (mTxt M) (mTyp M) (mLin M) (mLnd M) z.2.1 (mFar M) z.2.2 (mSiz M) (mPla M) (mWro M) (mTol M) (mNum M))) A) ([.ref (b 0)] : List Value).toArray s 0 0 A) (F0 m 38 ls []) := by
        intro n38
        induction n38 with
        | zero =>
          intro k38 v1_38 thr0_38 grp0_38 H locs ls hk38 hz  hP hD hS hl
          have hz : z30 = f_X8_forest_l38x (mNow M) k30 v1_38 thr0_38 grp0_38 := hz
          refine lv_iload_n hx hb dX8_forest_38 rfl (lv_at hl 3 rfl) ?_
          refine lv_aload_n hx hb dX8_forest_39 rfl (lv_at hl 0 rfl) ?_
          refine va_get (D := D) (ci := 9) (v := .ref (b 1)) (C := RX8) (T := TX8) (N := 20) hx hb hts hinX8 hown hK hP 0 rfl rfl 0 (by decide) (hts (.fieldLink RX8 9 "BridgeAuctionModel" "now" "[I") (by decide +kernel)) (fun _ h9 => h9) rfl dX8_forest_40 ?_
          refine lv_iconst (v := 2) hx hb dX8_forest_43 (by decide) ?_
          refine topN (k := 2) (by decide +kernel) ?_
          refine ialdN (tys := tyA C) hx hb hK hP 1 0 rfl rfl (i := 2) (by omega) (by decide) dX8_forest_44 ?_
          refine topN (k := mS (mNow M)) (by first | exact hS2 | exact hP2) ?_
          refine lv_icmp_ge (tgt := 111) hx hb dX8_forest_45 (by decide) (fun c_45 => ?_) (fun c_45 => absurd (nI_le (by omega) (by omega)) c_45)
          refine lv_iinc (v := (nI (k30 + 1))) (lv' := [(2, .int (nI (k30 + 1))), (0, .ref (b 0)), (1, .int v1_38), (3, .int (nI k38))]) hx hb dX8_forest_111 hl (k := 2) rfl (by exact nI_1 _) (by decide) rfl (fun ls hl => ?_)
          refine lv_goto (tgt := 30) hx hb dX8_forest_114 (by decide) ?_
          exact ih30 (k30 + 1) (v1_38) (thr0_38) (grp0_38) _ _ ls (by omega) (by rw [hq30, hz]; rfl)  hP hD hS (lv_sub hl [1, 2, 0] rfl)
        | succ n38 ih38 =>
          intro k38 v1_38 thr0_38 grp0_38 H locs ls hk38 hz38  hP hD hS hl
          obtain ⟨z38, hz⟩ : ∃ zz_, zz_ = f_X8_forest_l38b (mNow M) k30 k38 v1_38 thr0_38 grp0_38 := ⟨_, rfl⟩
          have hq38 : z30 = sE id (fun q_ => lpF (f_X8_forest_l38s (mNow M) k30) (f_X8_forest_l38e (mNow M) k30) n38 (k38 + 1) q_) z38 := by rw [hz38, hz]; rfl
          have J103 : ∀ (s0_103 : Int32) (s1_103 : Int32) (thr0_103 : Int32) (grp0_103 : (Nat → Int32))  (H : Heap) (locs : List Loc) (ls : Array Slot), z38 = f_X8_forest_j103 s0_103 s1_103 thr0_103 grp0_103 → va_P D vwCl (mcells C b (mkM (mNow M) (mBef M) (mSav M) (mHis M) (mIsS M) (mRem M) (mErA M) (mFaA M) (mTxt M) (mTyp M) (mLin M) (mLnd M) thr0_103 (mFar M) grp0_103 (mSiz M) (mPla M) (mWro M) (mTol M) (mNum M))) H → va_D A (mcells C b (mkM (mNow M) (mBef M) (mSav M) (mHis M) (mIsS M) (mRem M) (mErA M) (mFaA M) (mTxt M) (mTyp M) (mLin M) (mLnd M) thr0_103 (mFar M) grp0_103 (mSiz M) (mPla M) (mWro M) (mTol M) (mNum M))) → va_S A s.heap H locs → lv_has ls 5 [(0, .ref (b 0)), (2, .int (nI k30)), (3, .int (nI k38))] → W p l e ({ frames := 4, cells := 0, slots := 0, locals := 86 } : Room) s m ([.ref (b 0)] : List Value).toArray below meth c H locs 0 0 (MQ below (rwO (some (.int z.1)) D (mcells C b (mkM (mNow M) (mBef M) (mSav M) (mHis M) (mIsS M) (mRem M) (mErA M) (mFaA M) (mTxt M) (mTyp M) (mLin M) (mLnd M) z.2.1 (mFar M) z.2.2 (mSiz M) (mPla M) (mWro M) (mTol M) (mNum M))) A) ([.ref (b 0)] : List Value).toArray s 0 0 A) (F0 m 103 ls [.int s0_103, .int s1_103]) := by
            intro s0_103 s1_103 thr0_103 grp0_103 H locs ls hz  hP hD hS hl
            refine lv_iadd hx hb dX8_forest_103 ?_
            refine lv_istore_n (lv' := [(1, .int (s1_103 + s0_103)), (0, .ref (b 0)), (2, .int (nI k30)), (3, .int (nI k38))]) hx hb dX8_forest_104 rfl hl (by decide) rfl (fun ls hl => ?_)
            refine lv_iinc (v := (nI (k38 + 1))) (lv' := [(3, .int (nI (k38 + 1))), (1, .int (s1_103 + s0_103)), (0, .ref (b 0)), (2, .int (nI k30))]) hx hb dX8_forest_105 hl (k := 3) rfl (by exact nI_1 _) (by decide) rfl (fun ls hl => ?_)
            refine lv_goto (tgt := 38) hx hb dX8_forest_108 (by decide) ?_
            exact ih38 (k38 + 1) ((s1_103 + s0_103)) (thr0_103) (grp0_103) _ _ ls (by omega) (by rw [hq38, hz]; rfl)  hP hD hS (lv_sub hl [2, 1, 3, 0] rfl)
          have J90 : ∀ (v1_90 : Int32) (s0_90 : Bool) (thr0_90 : Int32) (grp0_90 : (Nat → Int32))  (H : Heap) (locs : List Loc) (ls : Array Slot), z38 = f_X8_forest_j90 k30 v1_90 s0_90 thr0_90 grp0_90 → va_P D vwCl (mcells C b (mkM (mNow M) (mBef M) (mSav M) (mHis M) (mIsS M) (mRem M) (mErA M) (mFaA M) (mTxt M) (mTyp M) (mLin M) (mLnd M) thr0_90 (mFar M) grp0_90 (mSiz M) (mPla M) (mWro M) (mTol M) (mNum M))) H → va_D A (mcells C b (mkM (mNow M) (mBef M) (mSav M) (mHis M) (mIsS M) (mRem M) (mErA M) (mFaA M) (mTxt M) (mTyp M) (mLin M) (mLnd M) thr0_90 (mFar M) grp0_90 (mSiz M) (mPla M) (mWro M) (mTol M) (mNum M))) → va_S A s.heap H locs → lv_has ls 5 [(0, .ref (b 0)), (1, .int v1_90), (2, .int (nI k30)), (3, .int (nI k38))] → W p l e ({ frames := 4, cells := 0, slots := 0, locals := 86 } : Room) s m ([.ref (b 0)] : List Value).toArray below meth c H locs 0 0 (MQ below (rwO (some (.int z.1)) D (mcells C b (mkM (mNow M) (mBef M) (mSav M) (mHis M) (mIsS M) (mRem M) (mErA M) (mFaA M) (mTxt M) (mTyp M) (mLin M) (mLnd M) z.2.1 (mFar M) z.2.2 (mSiz M) (mPla M) (mWro M) (mTol M) (mNum M))) A) ([.ref (b 0)] : List Value).toArray s 0 0 A) (F0 m 90 ls [.int (bI s0_90)]) := by
            intro v1_90 s0_90 thr0_90 grp0_90 H locs ls hz  hP hD hS hl
            refine lv_istore (lv' := [(4, .int (bI s0_90)), (0, .ref (b 0)), (1, .int v1_90), (2, .int (nI k30)), (3, .int (nI k38))]) hx hb dX8_forest_90 hl (by decide) rfl (fun ls hl => ?_)
            refine lv_iload_n hx hb dX8_forest_92 rfl (lv_at hl 2 rfl) ?_
            refine lv_iload hx hb dX8_forest_93 (lv_at hl 0 rfl) ?_
            refine bif_eq (tgt := 102) hx hb dX8_forest_95 (by decide) (fun c_95 => ?_) (fun c_95 => ?_)
            · have hz := hz.trans (ifB_f c_95)
              refine lv_iconst (v := 0) hx hb dX8_forest_102 (by decide) ?_
              exact J103 (0) (v1_90) (thr0_90) (grp0_90) _ _ ls hz  hP hD hS (lv_sub hl [1, 3, 4] rfl)
            · have hz := hz.trans (ifB_t c_95)
              refine lv_iload_n hx hb dX8_forest_98 rfl (lv_at hl 3 rfl) ?_
              refine lv_goto (tgt := 103) hx hb dX8_forest_99 (by decide) ?_
              exact J103 ((nI k30)) (v1_90) (thr0_90) (grp0_90) _ _ ls hz  hP hD hS (lv_sub hl [1, 3, 4] rfl)
          have J89 : ∀ (v1_89 : Int32) (thr0_89 : Int32) (grp0_89 : (Nat → Int32))  (H : Heap) (locs : List Loc) (ls : Array Slot), z38 = f_X8_forest_j89 k30 v1_89 thr0_89 grp0_89 → va_P D vwCl (mcells C b (mkM (mNow M) (mBef M) (mSav M) (mHis M) (mIsS M) (mRem M) (mErA M) (mFaA M) (mTxt M) (mTyp M) (mLin M) (mLnd M) thr0_89 (mFar M) grp0_89 (mSiz M) (mPla M) (mWro M) (mTol M) (mNum M))) H → va_D A (mcells C b (mkM (mNow M) (mBef M) (mSav M) (mHis M) (mIsS M) (mRem M) (mErA M) (mFaA M) (mTxt M) (mTyp M) (mLin M) (mLnd M) thr0_89 (mFar M) grp0_89 (mSiz M) (mPla M) (mWro M) (mTol M) (mNum M))) → va_S A s.heap H locs → lv_has ls 5 [(0, .ref (b 0)), (1, .int v1_89), (2, .int (nI k30)), (3, .int (nI k38))] → W p l e ({ frames := 4, cells := 0, slots := 0, locals := 86 } : Room) s m ([.ref (b 0)] : List Value).toArray below meth c H locs 0 0 (MQ below (rwO (some (.int z.1)) D (mcells C b (mkM (mNow M) (mBef M) (mSav M) (mHis M) (mIsS M) (mRem M) (mErA M) (mFaA M) (mTxt M) (mTyp M) (mLin M) (mLnd M) z.2.1 (mFar M) z.2.2 (mSiz M) (mPla M) (mWro M) (mTol M) (mNum M))) A) ([.ref (b 0)] : List Value).toArray s 0 0 A) (F0 m 89 ls []) := by
            intro v1_89 thr0_89 grp0_89 H locs ls hz  hP hD hS hl
            refine lv_iconst (v := 0) hx hb dX8_forest_89 (by decide) ?_
            exact J90 (v1_89) (false) (thr0_89) (grp0_89) _ _ ls hz  hP hD hS (lv_sub hl [0, 1, 2, 3] rfl)
          refine lv_iload_n hx hb dX8_forest_38 rfl (lv_at hl 3 rfl) ?_
          refine lv_aload_n hx hb dX8_forest_39 rfl (lv_at hl 0 rfl) ?_
          refine va_get (D := D) (ci := 9) (v := .ref (b 1)) (C := RX8) (T := TX8) (N := 20) hx hb hts hinX8 hown hK hP 0 rfl rfl 0 (by decide) (hts (.fieldLink RX8 9 "BridgeAuctionModel" "now" "[I") (by decide +kernel)) (fun _ h9 => h9) rfl dX8_forest_40 ?_
          refine lv_iconst (v := 2) hx hb dX8_forest_43 (by decide) ?_
          refine topN (k := 2) (by decide +kernel) ?_
          refine ialdN (tys := tyA C) hx hb hK hP 1 0 rfl rfl (i := 2) (by omega) (by decide) dX8_forest_44 ?_
          refine topN (k := mS (mNow M)) (by first | exact hS2 | exact hP2) ?_
          refine lv_icmp_ge (tgt := 111) hx hb dX8_forest_45 (by decide) (fun c_45 => absurd c_45 (nI_ge (by omega) (by omega))) (fun c_45 => ?_)
          refine lv_aload_n hx hb dX8_forest_48 rfl (lv_at hl 0 rfl) ?_
          refine lv_iload_n hx hb dX8_forest_49 rfl (lv_at hl 3 rfl) ?_
          refine callRo (va_runV (As := [.int (nI k38)]) (rest := []) ⟨hx, hb, hml, hown, hts⟩ (c_X8_isDone l D C b (mkM (mNow M) (mBef M) (mSav M) (mHis M) (mIsS M) (mRem M) (mErA M) (mFaA M) (mTxt M) (mTyp M) (mLin M) (mLnd M) thr0_38 (mFar M) grp0_38 (mSiz M) (mPla M) (mWro M) (mTol M) (mNum M)) ((nI k38)) (MSafe_of hM rfl)) (cwV 1 hts gX8_forest_X8_isDone rfl rfl rfl (by decide +kernel) ⟨Nat.le_of_ble_eq_true rfl, Nat.le_of_ble_eq_true rfl⟩) (roP_v hP hK hE (va_recv hK hP (ci := 9) (q0 := 0) rfl rfl)) rfl rfl hl.1 rfl (lv_room (Nat.le_of_ble_eq_true rfl)) dX8_forest_50 ⟨Nat.le_refl _, Nat.le_refl _⟩) ?_
          refine topI (y := (bI (f_X8_isDone (mNow M) ((nI k38))))) rfl ?_
          refine bif_eq (tgt := 89) hx hb dX8_forest_53 (by decide) (fun c_53 => ?_) (fun c_53 => ?_)
          · have hz := hz.trans (ifB_f c_53)
            exact J89 (v1_38) (thr0_38) (grp0_38) _ _ ls hz  hP hD hS (lv_sub hl [0, 1, 2, 3] rfl)
          · have hz := hz.trans (ifB_t c_53)
            refine lv_aload_n hx hb dX8_forest_56 rfl (lv_at hl 0 rfl) ?_
            refine lv_iload_n hx hb dX8_forest_57 rfl (lv_at hl 3 rfl) ?_
            refine lv_iconst (v := 2) hx hb dX8_forest_58 (by decide) ?_
            refine topN (k := 2) (by decide +kernel) ?_
            refine callRo (va_runV (As := [.int (nI k38), .int (nI 2)]) (rest := []) ⟨hx, hb, hml, hown, hts⟩ (c_X8_of l D C b (mkM (mNow M) (mBef M) (mSav M) (mHis M) (mIsS M) (mRem M) (mErA M) (mFaA M) (mTxt M) (mTyp M) (mLin M) (mLnd M) thr0_38 (mFar M) grp0_38 (mSiz M) (mPla M) (mWro M) (mTol M) (mNum M)) ((nI k38)) (2) (MSafe_of hM rfl) (by omega)) (cwV 2 hts gX8_forest_X8_of rfl rfl rfl (by decide +kernel) ⟨Nat.le_of_ble_eq_true rfl, Nat.le_of_ble_eq_true rfl⟩) (roP_v hP hK hE (va_recv hK hP (ci := 9) (q0 := 0) rfl rfl)) rfl rfl hl.1 rfl (lv_room (Nat.le_of_ble_eq_true rfl)) dX8_forest_59 ⟨Nat.le_refl _, Nat.le_refl _⟩) ?_
            refine topI (y := (f_X8_of (mNow M) ((nI k38)) (2))) rfl ?_
            refine lv_iload_n hx hb dX8_forest_62 rfl (lv_at hl 2 rfl) ?_
            refine lv_icmp_ne (tgt := 89) hx hb dX8_forest_63 (by decide) (fun c_63 => ?_) (fun c_63 => ?_)
            · have hz := hz.trans (if_neg c_63)
              exact J89 (v1_38) (thr0_38) (grp0_38) _ _ ls hz  hP hD hS (lv_sub hl [0, 1, 2, 3] rfl)
            · have hz := hz.trans (if_pos c_63)
              refine lv_aload_n hx hb dX8_forest_66 rfl (lv_at hl 0 rfl) ?_
              refine lv_aload_n hx hb dX8_forest_67 rfl (lv_at hl 0 rfl) ?_
              refine lv_iload_n hx hb dX8_forest_68 rfl (lv_at hl 3 rfl) ?_
              refine lv_iconst (v := 0) hx hb dX8_forest_69 (by decide) ?_
              refine topN (k := 0) (by decide +kernel) ?_
              refine callRo (va_runV (As := [.int (nI k38), .int (nI 0)]) (rest := [.ref (b 0)]) ⟨hx, hb, hml, hown, hts⟩ (c_X8_of l D C b (mkM (mNow M) (mBef M) (mSav M) (mHis M) (mIsS M) (mRem M) (mErA M) (mFaA M) (mTxt M) (mTyp M) (mLin M) (mLnd M) thr0_38 (mFar M) grp0_38 (mSiz M) (mPla M) (mWro M) (mTol M) (mNum M)) ((nI k38)) (0) (MSafe_of hM rfl) (by omega)) (cwV 2 hts gX8_forest_X8_of rfl rfl rfl (by decide +kernel) ⟨Nat.le_of_ble_eq_true rfl, Nat.le_of_ble_eq_true rfl⟩) (roP_v hP hK hE (va_recv hK hP (ci := 9) (q0 := 0) rfl rfl)) rfl rfl hl.1 rfl (lv_room (Nat.le_of_ble_eq_true rfl)) dX8_forest_70 ⟨Nat.le_refl _, Nat.le_refl _⟩) ?_
              refine topI (y := (f_X8_of (mNow M) ((nI k38)) (0))) rfl ?_
              refine lv_aload_n hx hb dX8_forest_73 rfl (lv_at hl 0 rfl) ?_
              refine lv_iload_n hx hb dX8_forest_74 rfl (lv_at hl 3 rfl) ?_
              refine lv_iconst (v := 1) hx hb dX8_forest_75 (by decide) ?_
              refine topN (k := 1) (by decide +kernel) ?_
              refine callRo (va_runV (As := [.int (nI k38), .int (nI 1)]) (rest := [.int (f_X8_of (mNow M) ((nI k38)) (0)), .ref (b 0)]) ⟨hx, hb, hml, hown, hts⟩ (c_X8_of l D C b (mkM (mNow M) (mBef M) (mSav M) (mHis M) (mIsS M) (mRem M) (mErA M) (mFaA M) (mTxt M) (mTyp M) (mLin M) (mLnd M) thr0_38 (mFar M) grp0_38 (mSiz M) (mPla M) (mWro M) (mTol M) (mNum M)) ((nI k38)) (1) (MSafe_of hM rfl) (by omega)) (cwV 2 hts gX8_forest_X8_of rfl rfl rfl (by decide +kernel) ⟨Nat.le_of_ble_eq_true rfl, Nat.le_of_ble_eq_true rfl⟩) (roP_v hP hK hE (va_recv hK hP (ci := 9) (q0 := 0) rfl rfl)) rfl rfl hl.1 rfl (lv_room (Nat.le_of_ble_eq_true rfl)) dX8_forest_76 ⟨Nat.le_refl _, Nat.le_refl _⟩) ?_
              refine topI (y := (f_X8_of (mNow M) ((nI k38)) (1))) rfl ?_
              obtain ⟨ehn_1, lhn_1⟩ := nat_of (x := (f_X8_of (mNow M) ((nI k38)) (0))) (n := 8) (by exact X8_lo_in hM (by omega)) (by omega)
              refine topN2 ehn_1 ?_
              obtain ⟨ehn_2, lhn_2⟩ := nat_of (x := (f_X8_of (mNow M) ((nI k38)) (1))) (n := 8) (by exact X8_hi_in hM (by omega)) (by omega)
              refine topN ehn_2 ?_
              have hFc := va_free (wc := (mcells C b (mkM (mNow M) (mBef M) (mSav M) (mHis M) (mIsS M) (mRem M) (mErA M) (mFaA M) (mTxt M) (mTyp M) (mLin M) (mLnd M) thr0_38 (mFar M) grp0_38 (mSiz M) (mPla M) (mWro M) (mTol M) (mNum M)))) hD hS hA [0, 1, 2, 3, 4, 5, 6, 7, 8, 9] rfl
              refine callRw (va_runV (As := [.int (nI ((f_X8_of (mNow M) ((nI k38)) (0))).toNatClampNeg), .int (nI ((f_X8_of (mNow M) ((nI k38)) (1))).toNatClampNeg)]) (rest := []) ⟨hx, hb, hml, hown, hts⟩ (c_X8_joinsGroups l D C b (mkM (mNow M) (mBef M) (mSav M) (mHis M) (mIsS M) (mRem M) (mErA M) (mFaA M) (mTxt M) (mTyp M) (mLin M) (mLnd M) thr0_38 (mFar M) grp0_38 (mSiz M) (mPla M) (mWro M) (mTol M) (mNum M)) (((f_X8_of (mNow M) ((nI k38)) (0))).toNatClampNeg) (((f_X8_of (mNow M) ((nI k38)) (1))).toNatClampNeg) _ (by omega) (by omega)) (cwV 2 hts gX8_forest_X8_joinsGroups rfl rfl rfl (by decide +kernel) ⟨Nat.le_of_ble_eq_true rfl, Nat.le_of_ble_eq_true rfl⟩) (rwP_v hP hK hE hD (va_recv hK hP (ci := 9) (q0 := 0) rfl rfl)) rfl rfl hl.1 rfl (lv_room (Nat.le_of_ble_eq_true rfl)) dX8_forest_79 ⟨Nat.le_refl _, Nat.le_refl _⟩) hS hFc (fun H1 locs hPn hk hS => ?_)
              obtain ⟨y79, hy79⟩ : ∃ y_, y_ = (f_X8_joinsGroups grp0_38 (((f_X8_of (mNow M) ((nI k38)) (0))).toNatClampNeg) (((f_X8_of (mNow M) ((nI k38)) (1))).toNatClampNeg)) := ⟨_, rfl⟩
              have hPn : va_P D vwCl (mcells C b (mkM (mNow M) (mBef M) (mSav M) (mHis M) (mIsS M) (mRem M) (mErA M) (mFaA M) (mTxt M) (mTyp M) (mLin M) (mLnd M) thr0_38 (mFar M) y79.2 (mSiz M) (mPla M) (mWro M) (mTol M) (mNum M))) H1 := by rw [hy79]; exact hPn
              refine topI (y := bI y79.1) (congrArg bI (congrArg Prod.fst hy79).symm) ?_
              have hz := lt_eq hz hy79
              have hP : va_P D vwCl (mcells C b (mkM (mNow M) (mBef M) (mSav M) (mHis M) (mIsS M) (mRem M) (mErA M) (mFaA M) (mTxt M) (mTyp M) (mLin M) (mLnd M) thr0_38 (mFar M) y79.2 (mSiz M) (mPla M) (mWro M) (mTol M) (mNum M))) H1 := hPn
              have hD : va_D A (mcells C b (mkM (mNow M) (mBef M) (mSav M) (mHis M) (mIsS M) (mRem M) (mErA M) (mFaA M) (mTxt M) (mTyp M) (mLin M) (mLnd M) thr0_38 (mFar M) y79.2 (mSiz M) (mPla M) (mWro M) (mTol M) (mNum M))) := adr_D hD rfl
              generalize H1 = H at hP hS ⊢
              refine bif_eq (tgt := 89) hx hb dX8_forest_82 (by decide) (fun c_82 => ?_) (fun c_82 => ?_)
              · have hz := hz.trans (ifB_f c_82)
                exact J89 (v1_38) (thr0_38) (y79.2) _ _ ls hz  hP hD hS (lv_sub hl [0, 1, 2, 3] rfl)
              · have hz := hz.trans (ifB_t c_82)
                refine lv_iconst (v := 1) hx hb dX8_forest_85 (by decide) ?_
                refine lv_goto (tgt := 90) hx hb dX8_forest_86 (by decide) ?_
                exact J90 (v1_38) (true) (thr0_38) (y79.2) _ _ ls hz  hP hD hS (lv_sub hl [0, 1, 2, 3] rfl)
      refine lv_iload_n hx hb dX8_forest_30 rfl (lv_at hl 2 rfl) ?_
      refine lv_bipush (v := 10) hx hb dX8_forest_31 (by decide +kernel) ?_
      refine lv_icmp_ge (tgt := 117) hx hb dX8_forest_33 (by decide) (fun c_33 => absurd c_33 (by have e : (10 : Int32) = nI 10 := (by decide +kernel); rw [e]; exact nI_ge (by omega) (by omega))) (fun c_33 => ?_)
      refine lv_iconst (v := 0) hx hb dX8_forest_36 (by decide) ?_
      refine lv_istore_n (lv' := [(3, .int 0), (0, .ref (b 0)), (1, .int v1_30), (2, .int (nI k30))]) hx hb dX8_forest_37 rfl hl (by decide) rfl (fun ls hl => ?_)
      exact J38 (mS (mNow M)) 0 (v1_30) (thr0_30) (grp0_30) _ _ ls (by omega) hz  hP hD hS (lv_sub hl [1, 2, 3, 0] rfl)
  have J7 : ∀ (n7 k7 : Nat) (thr0_7 : Int32) (grp0_7 : (Nat → Int32)) (H : Heap) (locs : List Loc) (ls : Array Slot), k7 + n7 = 8 → z = f_X8_forest_l7 (mNow M) n7 k7 thr0_7 grp0_7 → va_P D vwCl (mcells C b (mkM (mNow M) (mBef M) (mSav M) (mHis M) (mIsS M) (mRem M) (mErA M) (mFaA M) (mTxt M) (mTyp M) (mLin M) (mLnd M) thr0_7 (mFar M) grp0_7 (mSiz M) (mPla M) (mWro M) (mTol M) (mNum M))) H → va_D A (mcells C b (mkM (mNow M) (mBef M) (mSav M) (mHis M) (mIsS M) (mRem M) (mErA M) (mFaA M) (mTxt M) (mTyp M) (mLin M) (mLnd M) thr0_7 (mFar M) grp0_7 (mSiz M) (mPla M) (mWro M) (mTol M) (mNum M))) → va_S A s.heap H locs → lv_has ls 5 [(0, .ref (b 0)), (1, .int (nI k7))] → W p l e ({ frames := 4, cells := 0, slots := 0, locals := 86 } : Room) s m ([.ref (b 0)] : List Value).toArray below meth c H locs 0 0 (MQ below (rwO (some (.int z.1)) D (mcells C b (mkM (mNow M) (mBef M) (mSav M) (mHis M) (mIsS M) (mRem M) (mErA M) (mFaA M) (mTxt M) (mTyp M) (mLin M) (mLnd M) z.2.1 (mFar M) z.2.2 (mSiz M) (mPla M) (mWro M) (mTol M) (mNum M))) A) ([.ref (b 0)] : List Value).toArray s 0 0 A) (F0 m 7 ls []) := by
    intro n7
    induction n7 with
    | zero =>
      intro k7 thr0_7 grp0_7 H locs ls hk7 hz  hP hD hS hl
      have hz : z = f_X8_forest_l7x (mNow M) thr0_7 grp0_7 := hz
      refine lv_iload_n hx hb dX8_forest_7 rfl (lv_at hl 1 rfl) ?_
      refine lv_bipush (v := 8) hx hb dX8_forest_8 (by decide +kernel) ?_
      refine lv_icmp_ge (tgt := 26) hx hb dX8_forest_10 (by decide) (fun c_10 => ?_) (fun c_10 => absurd (by have e : (8 : Int32) = nI 8 := (by decide +kernel); rw [e]; exact nI_le (by omega) (by omega)) c_10)
      refine lv_iconst (v := 0) hx hb dX8_forest_26 (by decide) ?_
      refine lv_istore_n (lv' := [(1, .int 0), (0, .ref (b 0))]) hx hb dX8_forest_27 rfl hl (by decide) rfl (fun ls hl => ?_)
      refine lv_iconst (v := 1) hx hb dX8_forest_28 (by decide) ?_
      refine lv_istore_n (lv' := [(2, .int 1), (1, .int 0), (0, .ref (b 0))]) hx hb dX8_forest_29 rfl hl (by decide) rfl (fun ls hl => ?_)
      exact J30 (10 - 1) 1 (0) (thr0_7) (grp0_7) _ _ ls (by omega) hz  hP hD hS (lv_sub hl [2, 1, 0] rfl)
    | succ n7 ih7 =>
      intro k7 thr0_7 grp0_7 H locs ls hk7 hz7  hP hD hS hl
      obtain ⟨z7, hz⟩ : ∃ zz_, zz_ = f_X8_forest_l7b (mNow M) k7 thr0_7 grp0_7 := ⟨_, rfl⟩
      have hq7 : z = sE id (fun q_ => lpF (f_X8_forest_l7s (mNow M)) (f_X8_forest_l7e (mNow M)) n7 (k7 + 1) q_) z7 := by rw [hz7, hz]; rfl
      refine lv_iload_n hx hb dX8_forest_7 rfl (lv_at hl 1 rfl) ?_
      refine lv_bipush (v := 8) hx hb dX8_forest_8 (by decide +kernel) ?_
      refine lv_icmp_ge (tgt := 26) hx hb dX8_forest_10 (by decide) (fun c_10 => absurd c_10 (by have e : (8 : Int32) = nI 8 := (by decide +kernel); rw [e]; exact nI_ge (by omega) (by omega))) (fun c_10 => ?_)
      refine lv_aload_n hx hb dX8_forest_13 rfl (lv_at hl 0 rfl) ?_
      refine va_get (D := D) (ci := 9) (v := .ref (b 8)) (C := RX8) (T := TX8) (N := 20) hx hb hts hinX8 hown hK hP 0 rfl rfl 14 (by decide) (hts (.fieldLink RX8 38 "BridgeAuctionModel" "group" "[I") (by decide +kernel)) (fun _ h9 => h9) rfl dX8_forest_14 ?_
      refine lv_iload_n hx hb dX8_forest_17 rfl (lv_at hl 1 rfl) ?_
      refine lv_iload_n hx hb dX8_forest_18 rfl (lv_at hl 1 rfl) ?_
      refine iastN (tys := tyA C) hx hb hK hP hD hS 8 0 rfl rfl (i := k7) (by omega) (by decide) dX8_forest_19 (fun H locs hP hD hS => ?_)
      have hP : va_P D vwCl (mcells C b (mkM (mNow M) (mBef M) (mSav M) (mHis M) (mIsS M) (mRem M) (mErA M) (mFaA M) (mTxt M) (mTyp M) (mLin M) (mLnd M) thr0_7 (mFar M) (upd grp0_7 k7 (nI k7)) (mSiz M) (mPla M) (mWro M) (mTol M) (mNum M))) H := mP8 hP
      have hD : va_D A (mcells C b (mkM (mNow M) (mBef M) (mSav M) (mHis M) (mIsS M) (mRem M) (mErA M) (mFaA M) (mTxt M) (mTyp M) (mLin M) (mLnd M) thr0_7 (mFar M) (upd grp0_7 k7 (nI k7)) (mSiz M) (mPla M) (mWro M) (mTol M) (mNum M))) := mD8 hD
      refine lv_iinc (v := (nI (k7 + 1))) (lv' := [(1, .int (nI (k7 + 1))), (0, .ref (b 0))]) hx hb dX8_forest_20 hl (k := 1) rfl (by exact nI_1 _) (by decide) rfl (fun ls hl => ?_)
      refine lv_goto (tgt := 7) hx hb dX8_forest_23 (by decide) ?_
      exact ih7 (k7 + 1) (thr0_7) ((upd grp0_7 k7 (nI k7))) _ _ ls (by omega) (by rw [hq7, hz]; rfl)  hP hD hS (lv_sub hl [1, 0] rfl)
  refine lv_aload_n hx hb dX8_forest_0 rfl (lv_at hl 0 rfl) ?_
  refine lv_iconst (v := 0) hx hb dX8_forest_1 (by decide) ?_
  refine va_put (D := D) (ci := 9) (v := .int 0) (ty := .int) (C := RX8) (T := TX8) (N := 20) hx hb hts hinX8 tyX8 tyX8_ok nmX8 hown hK hP hD hS 0 rfl rfl 12 (by decide) (hts (.fieldLink RX8 44 "BridgeAuctionModel" "thrown" "I") (by decide +kernel)) (fun _ h9 => h9) rfl (by decide +kernel) rfl rfl (Nat.le_of_ble_eq_true rfl) dX8_forest_2 (fun H locs hP hD hS => ?_)
  have hP : va_P D vwCl (mcells C b (mkM (mNow M) (mBef M) (mSav M) (mHis M) (mIsS M) (mRem M) (mErA M) (mFaA M) (mTxt M) (mTyp M) (mLin M) (mLnd M) 0 (mFar M) (mGrp M) (mSiz M) (mPla M) (mWro M) (mTol M) (mNum M))) H := hP
  have hD : va_D A (mcells C b (mkM (mNow M) (mBef M) (mSav M) (mHis M) (mIsS M) (mRem M) (mErA M) (mFaA M) (mTxt M) (mTyp M) (mLin M) (mLnd M) 0 (mFar M) (mGrp M) (mSiz M) (mPla M) (mWro M) (mTol M) (mNum M))) := hD
  refine lv_iconst (v := 0) hx hb dX8_forest_5 (by decide) ?_
  refine lv_istore_n (lv' := [(1, .int 0), (0, .ref (b 0))]) hx hb dX8_forest_6 rfl hl (by decide) rfl (fun ls hl => ?_)
  exact J7 (8) 0 (0) ((mGrp M)) _ _ ls (by omega) hz  hP hD hS (lv_sub hl [1, 0] rfl)

