theorem mP7 {D : va_G} {C : Nat → ClassId} {b : Nat → Nat} {H : Heap} {x0 : Nat → Int32} {x1 : Nat → Int32} {x2 : Nat → Int32} {x3 : Nat → Int32} {x4 : Bool} {x5 : Nat} {x6 : Int32} {x7 : Int32} {x8 : Nat → Int32} {x9 : Nat} {x10 : Nat → Int32} {x11 : Nat} {x12 : Int32} {x13 : Nat → Int32} {x14 : Nat → Int32} {x15 : Nat} {x16 : Nat} {x17 : Int32} {x18 : Nat} {x19 : Nat → Int32} {f : Nat → Int32} (h : va_P D vwCl ((mcells C b (mkM x0 x1 x2 x3 x4 x5 x6 x7 x8 x9 x10 x11 x12 x13 x14 x15 x16 x17 x18 x19)).set 7 (b 7, .inl (C 0, 8, .inl f))) H) : va_P D vwCl (mcells C b (mkM x0 x1 x2 x3 x4 x5 x6 x7 x8 x9 x10 x11 x12 f x14 x15 x16 x17 x18 x19)) H := h
theorem mD7 {A : Nat → Prop} {C : Nat → ClassId} {b : Nat → Nat} {x0 : Nat → Int32} {x1 : Nat → Int32} {x2 : Nat → Int32} {x3 : Nat → Int32} {x4 : Bool} {x5 : Nat} {x6 : Int32} {x7 : Int32} {x8 : Nat → Int32} {x9 : Nat} {x10 : Nat → Int32} {x11 : Nat} {x12 : Int32} {x13 : Nat → Int32} {x14 : Nat → Int32} {x15 : Nat} {x16 : Nat} {x17 : Int32} {x18 : Nat} {x19 : Nat → Int32} {f : Nat → Int32} (h : va_D A ((mcells C b (mkM x0 x1 x2 x3 x4 x5 x6 x7 x8 x9 x10 x11 x12 x13 x14 x15 x16 x17 x18 x19)).set 7 (b 7, .inl (C 0, 8, .inl f)))) : va_D A (mcells C b (mkM x0 x1 x2 x3 x4 x5 x6 x7 x8 x9 x10 x11 x12 f x14 x15 x16 x17 x18 x19)) := h
def f_X8_measures_j137  (far0_137 : (Nat → Int32)) : Sum (Sum ((Nat → Int32)) ((Nat → Int32))) ((Nat → Int32)) := (Sum.inr far0_137)
def f_X8_measures_l41b (nw : (Nat → Int32)) (k41 : Nat) (far0_41 : (Nat → Int32)) : Sum (Sum ((Nat → Int32)) ((Nat → Int32))) ((Nat → Int32)) := (if (f_X8_isDone nw ((nI k41))) = true then (lt_ (f_X8_of nw (nI k41) 0).toNatClampNeg (fun n62 => (lt_ (f_X8_of nw (nI k41) 1).toNatClampNeg (fun n70 => (f_X8_measures_j137 ((upd (upd far0_41 n70 (imin (far0_41 n70) ((far0_41 n62) + (f_X8_of nw ((nI k41)) (2))))) n62 (imin ((upd far0_41 n70 (imin (far0_41 n70) ((far0_41 n62) + (f_X8_of nw ((nI k41)) (2))))) n62) (((upd far0_41 n70 (imin (far0_41 n70) ((far0_41 n62) + (f_X8_of nw ((nI k41)) (2))))) n70) + (f_X8_of nw ((nI k41)) (2))))))))))) else (f_X8_measures_j137 (far0_41)))
def f_X8_measures_l41x (nw : (Nat → Int32)) (far0_41 : (Nat → Int32)) : Sum ((Nat → Int32)) ((Nat → Int32)) := (Sum.inr far0_41)
def f_X8_measures_l41s (nw : (Nat → Int32)) (k41 : Nat) (q_ : (Nat → Int32)) : Sum (Sum ((Nat → Int32)) ((Nat → Int32))) ((Nat → Int32)) := f_X8_measures_l41b nw k41 (q_)
def f_X8_measures_l41e (nw : (Nat → Int32)) (q_ : (Nat → Int32)) : Sum ((Nat → Int32)) ((Nat → Int32)) := f_X8_measures_l41x nw (q_)
def f_X8_measures_l41 (nw : (Nat → Int32)) (n41 k41 : Nat) (far0_41 : (Nat → Int32)) : Sum ((Nat → Int32)) ((Nat → Int32)) := lpF (f_X8_measures_l41s nw) (f_X8_measures_l41e nw) n41 k41 far0_41
def f_X8_measures_l33b (nw : (Nat → Int32)) (k33 : Nat) (far0_33 : (Nat → Int32)) : Sum ((Nat → Int32)) ((Nat → Int32)) := (f_X8_measures_l41 nw (mS nw) 0 (far0_33))
def f_X8_measures_l33x (nw : (Nat → Int32)) (far0_33 : (Nat → Int32)) : (Nat → Int32) := far0_33
def f_X8_measures_l33s (nw : (Nat → Int32)) (k33 : Nat) (q_ : (Nat → Int32)) : Sum ((Nat → Int32)) ((Nat → Int32)) := f_X8_measures_l33b nw k33 (q_)
def f_X8_measures_l33e (nw : (Nat → Int32)) (q_ : (Nat → Int32)) : (Nat → Int32) := f_X8_measures_l33x nw (q_)
def f_X8_measures_l33 (nw : (Nat → Int32)) (n33 k33 : Nat) (far0_33 : (Nat → Int32)) : (Nat → Int32) := lpF (f_X8_measures_l33s nw) (f_X8_measures_l33e nw) n33 k33 far0_33
def f_X8_measures_j24  (s0_24 : Int32) (s1_24 : Nat) (far0_24 : (Nat → Int32)) : Sum ((Nat → Int32)) ((Nat → Int32)) := (Sum.inr (upd far0_24 s1_24 s0_24))
def f_X8_measures_l2b (nw : (Nat → Int32)) (x : Int32) (k2 : Nat) (far0_2 : (Nat → Int32)) : Sum ((Nat → Int32)) ((Nat → Int32)) := (if (nI k2) = x then (f_X8_measures_j24 (0) (k2) (far0_2)) else (f_X8_measures_j24 (1000000) (k2) (far0_2)))
def f_X8_measures_l2x (nw : (Nat → Int32)) (x : Int32) (far0_2 : (Nat → Int32)) : (Nat → Int32) := (f_X8_measures_l33 nw (8) 0 (far0_2))
def f_X8_measures_l2s (nw : (Nat → Int32)) (x : Int32) (k2 : Nat) (q_ : (Nat → Int32)) : Sum ((Nat → Int32)) ((Nat → Int32)) := f_X8_measures_l2b nw x k2 (q_)
def f_X8_measures_l2e (nw : (Nat → Int32)) (x : Int32) (q_ : (Nat → Int32)) : (Nat → Int32) := f_X8_measures_l2x nw x (q_)
def f_X8_measures_l2 (nw : (Nat → Int32)) (x : Int32) (n2 k2 : Nat) (far0_2 : (Nat → Int32)) : (Nat → Int32) := lpF (f_X8_measures_l2s nw x) (f_X8_measures_l2e nw x) n2 k2 far0_2
def f_X8_measures (nw : (Nat → Int32)) (fr : (Nat → Int32)) (x : Int32) : (Nat → Int32) := (f_X8_measures_l2 nw x (8) 0 (fr))
set_option maxHeartbeats 4000000 in
set_option maxRecDepth 100000 in
theorem c_X8_measures (l : Launch) (D : va_G) (C : Nat → ClassId) (b : Nat → Nat) (M : MS) (x : Int32) (sz : Nat) (hM : MSafe M) : Met l yX8_measures wsX8_measures ({ frames := 4, cells := 0, slots := 0, locals := 86 } : Room) (rwP [.ref (b 0), .int x] D C (mcells C b M) sz) (rwO none D (mcells C b (mkM (mNow M) (mBef M) (mSav M) (mHis M) (mIsS M) (mRem M) (mErA M) (mFaA M) (mTxt M) (mTyp M) (mLin M) (mLnd M) (mThr M) ((f_X8_measures (mNow M) (mFar M) x)) (mGrp M) (mSiz M) (mPla M) (mWro M) (mTol M) (mNum M))) (va_A (mcells C b M) sz)) 0 0 (va_A (mcells C b M) sz) := by
  refine Met.ofW (cc := cX8_measures) (maxL := 6) (ret := none) (by decide) rfl ?_
  intro p e s m args below meth c s₁ B hml hv
  obtain ⟨rfl, hsz, hP, hK, hD0, hE⟩ := hv
  have hx := B.exec
  have hb := B.bytes
  have hr := B.returns
  have hts := atoms_spec (ws := wsX8_measures) B.pre
  have hown : s.vm.findClass RX8 = some m.cls := findClass_of_methodNamed B.named
  have hlocks := B.notSynchronized
  subst hsz
  have hD := hD0.self (sz := s.heap.size)
  generalize hAe : va_A (mcells C b M) s.heap.size = A at hD ⊢
  have hA : ∀ q : Nat, s.heap.size ≤ q → A q := fun q h => by rw [← hAe]; exact Or.inr h
  have hS0 : va_S A s.heap s.heap [] := va_S.rf
  have hP : va_P D vwCl (mcells C b M) s.heap := hP
  have hS := hS0
  obtain ⟨⟨hS2, hS12⟩, ⟨hP2, hP4⟩, hLH, hFE⟩ := id hM
  have hinX8 : ∀ w ∈ u_ws RX8 TX8 20, w ∈ wsX8_measures := by decide +kernel
  have hl := lv_entry ([.ref (b 0), .int x]) (n := 6) (Nat.le_of_ble_eq_true rfl)
  rw [lg_entry_eq]
  generalize (lg_sl ([.ref (b 0), .int x]) ++ List.replicate (6 - (lg_sl ([.ref (b 0), .int x])).length) Slot.unset).toArray = ls at hl ⊢
  have hl : lv_has ls 6 [(0, .ref (b 0)), (1, .int x)] := hl
  obtain ⟨z, hz⟩ : ∃ z, z = f_X8_measures (mNow M) (mFar M) x := ⟨_, rfl⟩
  rw [← hz]
  have J33 : ∀ (n33 k33 : Nat) (far0_33 : (Nat → Int32)) (H : Heap) (locs : List Loc) (ls : Array Slot), k33 + n33 = 8 → z = f_X8_measures_l33 (mNow M) n33 k33 far0_33 → va_P D vwCl (mcells C b (mkM (mNow M) (mBef M) (mSav M) (mHis M) (mIsS M) (mRem M) (mErA M) (mFaA M) (mTxt M) (mTyp M) (mLin M) (mLnd M) (mThr M) far0_33 (mGrp M) (mSiz M) (mPla M) (mWro M) (mTol M) (mNum M))) H → va_D A (mcells C b (mkM (mNow M) (mBef M) (mSav M) (mHis M) (mIsS M) (mRem M) (mErA M) (mFaA M) (mTxt M) (mTyp M) (mLin M) (mLnd M) (mThr M) far0_33 (mGrp M) (mSiz M) (mPla M) (mWro M) (mTol M) (mNum M))) → va_S A s.heap H locs → lv_has ls 6 [(0, .ref (b 0)), (2, .int (nI k33))] → W p l e ({ frames := 4, cells := 0, slots := 0, locals := 86 } : Room) s m ([.ref (b 0), .int x] : List Value).toArray below meth c H locs 0 0 (MQ below (rwO none D (mcells C b (mkM (mNow M) (mBef M) (mSav M) (mHis M) (mIsS M) (mRem M) (mErA M) (mFaA M) (mTxt M) (mTyp M) (mLin M) (mLnd M) (mThr M) z (mGrp M) (mSiz M) (mPla M) (mWro M) (mTol M) (mNum M))) A) ([.ref (b 0), .int x] : List Value).toArray s 0 0 A) (F0 m 33 ls []) := by
    intro n33
    induction n33 with
    | zero =>
      intro k33 far0_33 H locs ls hk33 hz  hP hD hS hl
      have hz : z = f_X8_measures_l33x (mNow M) far0_33 := hz
      refine lv_iload_n hx hb dX8_measures_33 rfl (lv_at hl 1 rfl) ?_
      refine lv_bipush (v := 8) hx hb dX8_measures_34 (by decide +kernel) ?_
      refine lv_icmp_ge (tgt := 149) hx hb dX8_measures_36 (by decide) (fun c_36 => ?_) (fun c_36 => absurd (by have e : (8 : Int32) = nI 8 := (by decide +kernel); rw [e]; exact nI_le (by omega) (by omega)) c_36)
      have hz : z = far0_33 := hz
      rw [hz]
      exact rw_retV hx hb hr hP hS dX8_measures_149 hlocks
    | succ n33 ih33 =>
      intro k33 far0_33 H locs ls hk33 hz33  hP hD hS hl
      obtain ⟨z33, hz⟩ : ∃ zz_, zz_ = f_X8_measures_l33b (mNow M) k33 far0_33 := ⟨_, rfl⟩
      have hq33 : z = sE id (fun q_ => lpF (f_X8_measures_l33s (mNow M)) (f_X8_measures_l33e (mNow M)) n33 (k33 + 1) q_) z33 := by rw [hz33, hz]; rfl
      have J41 : ∀ (n41 k41 : Nat) (far0_41 : (Nat → Int32)) (H : Heap) (locs : List Loc) (ls : Array Slot), k41 + n41 = mS (mNow M) → z33 = f_X8_measures_l41 (mNow M) n41 k41 far0_41 → va_P D vwCl (mcells C b (mkM (mNow M) (mBef M) (mSav M) (mHis M) (mIsS M) (mRem M) (mErA M) (mFaA M) (mTxt M) (mTyp M) (mLin M) (mLnd M) (mThr M) far0_41 (mGrp M) (mSiz M) (mPla M) (mWro M) (mTol M) (mNum M))) H → va_D A (mcells C b (mkM (mNow M) (mBef M) (mSav M) (mHis M) (mIsS M) (mRem M) (mErA M) (mFaA M) (mTxt M) (mTyp M) (mLin M) (mLnd M) (mThr M) far0_41 (mGrp M) (mSiz M) (mPla M) (mWro M) (mTol M) (mNum M))) → va_S A s.heap H locs → lv_has ls 6 [(0, .ref (b 0)), (2, .int (nI k33)), (3, .int (nI k41))] → W p l e ({ frames := 4, cells := 0, slots := 0, locals := 86 } : Room) s m ([.ref (b 0), .int x] : List Value).toArray below meth c H locs 0 0 (MQ below (rwO none D (mcells C b (mkM (mNow M) (mBef M) (mSav M) (mHis M) (mIsS M) (mRem M) (mErA M) (mFaA M) (mTxt M) (mTyp M) (mLin M) (mLnd M) (mThr M) z (mGrp M) (mSiz M) (mPla M) (mWro M) (mTol M) (mNum M))) A) ([.ref (b 0), .int x] : List Value).toArray s 0 0 A) (F0 m 41 ls []) := by
        intro n41
        induction n41 with
        | zero =>
          intro k41 far0_41 H locs ls hk41 hz  hP hD hS hl
          have hz : z33 = f_X8_measures_l41x (mNow M) far0_41 := hz
          refine lv_iload_n hx hb dX8_measures_41 rfl (lv_at hl 2 rfl) ?_
          refine lv_aload_n hx hb dX8_measures_42 rfl (lv_at hl 0 rfl) ?_
          refine va_get (D := D) (ci := 9) (v := .ref (b 1)) (C := RX8) (T := TX8) (N := 20) hx hb hts hinX8 hown hK hP 0 rfl rfl 0 (by decide) (hts (.fieldLink RX8 9 "BridgeAuctionModel" "now" "[I") (by decide +kernel)) (fun _ h9 => h9) rfl dX8_measures_43 ?_
          refine lv_iconst (v := 2) hx hb dX8_measures_46 (by decide) ?_
          refine topN (k := 2) (by decide +kernel) ?_
          refine ialdN (tys := tyA C) hx hb hK hP 1 0 rfl rfl (i := 2) (by omega) (by decide) dX8_measures_47 ?_
          refine topN (k := mS (mNow M)) (by first | exact hS2 | exact hP2) ?_
          refine lv_icmp_ge (tgt := 143) hx hb dX8_measures_48 (by decide) (fun c_48 => ?_) (fun c_48 => absurd (nI_le (by omega) (by omega)) c_48)
          refine lv_iinc (v := (nI (k33 + 1))) (lv' := [(2, .int (nI (k33 + 1))), (0, .ref (b 0)), (3, .int (nI k41))]) hx hb dX8_measures_143 hl (k := 1) rfl (by exact nI_1 _) (by decide) rfl (fun ls hl => ?_)
          refine lv_goto (tgt := 33) hx hb dX8_measures_146 (by decide) ?_
          exact ih33 (k33 + 1) (far0_41) _ _ ls (by omega) (by rw [hq33, hz]; rfl)  hP hD hS (lv_sub hl [1, 0] rfl)
        | succ n41 ih41 =>
          intro k41 far0_41 H locs ls hk41 hz41  hP hD hS hl
          obtain ⟨z41, hz⟩ : ∃ zz_, zz_ = f_X8_measures_l41b (mNow M) k41 far0_41 := ⟨_, rfl⟩
          have hq41 : z33 = sE id (fun q_ => lpF (f_X8_measures_l41s (mNow M)) (f_X8_measures_l41e (mNow M)) n41 (k41 + 1) q_) z41 := by rw [hz41, hz]; rfl
          have J137 : ∀ (far0_137 : (Nat → Int32))  (H : Heap) (locs : List Loc) (ls : Array Slot), z41 = f_X8_measures_j137 far0_137 → va_P D vwCl (mcells C b (mkM (mNow M) (mBef M) (mSav M) (mHis M) (mIsS M) (mRem M) (mErA M) (mFaA M) (mTxt M) (mTyp M) (mLin M) (mLnd M) (mThr M) far0_137 (mGrp M) (mSiz M) (mPla M) (mWro M) (mTol M) (mNum M))) H → va_D A (mcells C b (mkM (mNow M) (mBef M) (mSav M) (mHis M) (mIsS M) (mRem M) (mErA M) (mFaA M) (mTxt M) (mTyp M) (mLin M) (mLnd M) (mThr M) far0_137 (mGrp M) (mSiz M) (mPla M) (mWro M) (mTol M) (mNum M))) → va_S A s.heap H locs → lv_has ls 6 [(0, .ref (b 0)), (2, .int (nI k33)), (3, .int (nI k41))] → W p l e ({ frames := 4, cells := 0, slots := 0, locals := 86 } : Room) s m ([.ref (b 0), .int x] : List Value).toArray below meth c H locs 0 0 (MQ below (rwO none D (mcells C b (mkM (mNow M) (mBef M) (mSav M) (mHis M) (mIsS M) (mRem M) (mErA M) (mFaA M) (mTxt M) (mTyp M) (mLin M) (mLnd M) (mThr M) z (mGrp M) (mSiz M) (mPla M) (mWro M) (mTol M) (mNum M))) A) ([.ref (b 0), .int x] : List Value).toArray s 0 0 A) (F0 m 137 ls []) := by
            intro far0_137 H locs ls hz  hP hD hS hl
            refine lv_iinc (v := (nI (k41 + 1))) (lv' := [(3, .int (nI (k41 + 1))), (0, .ref (b 0)), (2, .int (nI k33))]) hx hb dX8_measures_137 hl (k := 2) rfl (by exact nI_1 _) (by decide) rfl (fun ls hl => ?_)
            refine lv_goto (tgt := 41) hx hb dX8_measures_140 (by decide) ?_
            exact ih41 (k41 + 1) (far0_137) _ _ ls (by omega) (by rw [hq41, hz]; rfl)  hP hD hS (lv_sub hl [1, 2, 0] rfl)
          refine lv_iload_n hx hb dX8_measures_41 rfl (lv_at hl 2 rfl) ?_
          refine lv_aload_n hx hb dX8_measures_42 rfl (lv_at hl 0 rfl) ?_
          refine va_get (D := D) (ci := 9) (v := .ref (b 1)) (C := RX8) (T := TX8) (N := 20) hx hb hts hinX8 hown hK hP 0 rfl rfl 0 (by decide) (hts (.fieldLink RX8 9 "BridgeAuctionModel" "now" "[I") (by decide +kernel)) (fun _ h9 => h9) rfl dX8_measures_43 ?_
          refine lv_iconst (v := 2) hx hb dX8_measures_46 (by decide) ?_
          refine topN (k := 2) (by decide +kernel) ?_
          refine ialdN (tys := tyA C) hx hb hK hP 1 0 rfl rfl (i := 2) (by omega) (by decide) dX8_measures_47 ?_
          refine topN (k := mS (mNow M)) (by first | exact hS2 | exact hP2) ?_
          refine lv_icmp_ge (tgt := 143) hx hb dX8_measures_48 (by decide) (fun c_48 => absurd c_48 (nI_ge (by omega) (by omega))) (fun c_48 => ?_)
          refine lv_aload_n hx hb dX8_measures_51 rfl (lv_at hl 0 rfl) ?_
          refine lv_iload_n hx hb dX8_measures_52 rfl (lv_at hl 2 rfl) ?_
          refine callRo (va_runV (As := [.int (nI k41)]) (rest := []) ⟨hx, hb, hml, hown, hts⟩ (c_X8_isDone l D C b (mkM (mNow M) (mBef M) (mSav M) (mHis M) (mIsS M) (mRem M) (mErA M) (mFaA M) (mTxt M) (mTyp M) (mLin M) (mLnd M) (mThr M) far0_41 (mGrp M) (mSiz M) (mPla M) (mWro M) (mTol M) (mNum M)) ((nI k41)) (MSafe_of hM rfl)) (cwV 1 hts gX8_measures_X8_isDone rfl rfl rfl (by decide +kernel) ⟨Nat.le_of_ble_eq_true rfl, Nat.le_of_ble_eq_true rfl⟩) (roP_v hP hK hE (va_recv hK hP (ci := 9) (q0 := 0) rfl rfl)) rfl rfl hl.1 rfl (lv_room (Nat.le_of_ble_eq_true rfl)) dX8_measures_53 ⟨Nat.le_refl _, Nat.le_refl _⟩) ?_
          refine topI (y := (bI (f_X8_isDone (mNow M) ((nI k41))))) rfl ?_
          refine bif_eq (tgt := 137) hx hb dX8_measures_56 (by decide) (fun c_56 => ?_) (fun c_56 => ?_)
          · have hz := hz.trans (ifB_f c_56)
            exact J137 (far0_41) _ _ ls hz  hP hD hS (lv_sub hl [0, 1, 2] rfl)
          · have hz := hz.trans (ifB_t c_56)
            refine lv_aload_n hx hb dX8_measures_59 rfl (lv_at hl 0 rfl) ?_
            refine lv_iload_n hx hb dX8_measures_60 rfl (lv_at hl 2 rfl) ?_
            refine lv_iconst (v := 0) hx hb dX8_measures_61 (by decide) ?_
            refine topN (k := 0) (by decide +kernel) ?_
            refine callRo (va_runV (As := [.int (nI k41), .int (nI 0)]) (rest := []) ⟨hx, hb, hml, hown, hts⟩ (c_X8_of l D C b (mkM (mNow M) (mBef M) (mSav M) (mHis M) (mIsS M) (mRem M) (mErA M) (mFaA M) (mTxt M) (mTyp M) (mLin M) (mLnd M) (mThr M) far0_41 (mGrp M) (mSiz M) (mPla M) (mWro M) (mTol M) (mNum M)) ((nI k41)) (0) (MSafe_of hM rfl) (by omega)) (cwV 2 hts gX8_measures_X8_of rfl rfl rfl (by decide +kernel) ⟨Nat.le_of_ble_eq_true rfl, Nat.le_of_ble_eq_true rfl⟩) (roP_v hP hK hE (va_recv hK hP (ci := 9) (q0 := 0) rfl rfl)) rfl rfl hl.1 rfl (lv_room (Nat.le_of_ble_eq_true rfl)) dX8_measures_62 ⟨Nat.le_refl _, Nat.le_refl _⟩) ?_
            refine topI (y := (f_X8_of (mNow M) ((nI k41)) (0))) rfl ?_
            obtain ⟨n62, hn62⟩ : ∃ x_ : Nat, x_ = (f_X8_of (mNow M) (nI k41) 0).toNatClampNeg := ⟨_, rfl⟩
            refine topN (k := n62) (show (f_X8_of (mNow M) ((nI k41)) (0)) = nI n62 from by rw [hn62]; exact (nat_of (X8_lo_in hM (by omega)) (by decide)).1) ?_
            have hz := lt_eq hz hn62
            have ln62 : n62 < 8 := by rw [hn62]; exact (nat_of (X8_lo_in hM (k := k41) (by omega)) (by decide)).2
            refine lv_istore (lv' := [(4, .int (nI n62)), (0, .ref (b 0)), (2, .int (nI k33)), (3, .int (nI k41))]) hx hb dX8_measures_65 hl (by decide) rfl (fun ls hl => ?_)
            refine lv_aload_n hx hb dX8_measures_67 rfl (lv_at hl 1 rfl) ?_
            refine lv_iload_n hx hb dX8_measures_68 rfl (lv_at hl 3 rfl) ?_
            refine lv_iconst (v := 1) hx hb dX8_measures_69 (by decide) ?_
            refine topN (k := 1) (by decide +kernel) ?_
            refine callRo (va_runV (As := [.int (nI k41), .int (nI 1)]) (rest := []) ⟨hx, hb, hml, hown, hts⟩ (c_X8_of l D C b (mkM (mNow M) (mBef M) (mSav M) (mHis M) (mIsS M) (mRem M) (mErA M) (mFaA M) (mTxt M) (mTyp M) (mLin M) (mLnd M) (mThr M) far0_41 (mGrp M) (mSiz M) (mPla M) (mWro M) (mTol M) (mNum M)) ((nI k41)) (1) (MSafe_of hM rfl) (by omega)) (cwV 2 hts gX8_measures_X8_of rfl rfl rfl (by decide +kernel) ⟨Nat.le_of_ble_eq_true rfl, Nat.le_of_ble_eq_true rfl⟩) (roP_v hP hK hE (va_recv hK hP (ci := 9) (q0 := 0) rfl rfl)) rfl rfl hl.1 rfl (lv_room (Nat.le_of_ble_eq_true rfl)) dX8_measures_70 ⟨Nat.le_refl _, Nat.le_refl _⟩) ?_
            refine topI (y := (f_X8_of (mNow M) ((nI k41)) (1))) rfl ?_
            obtain ⟨n70, hn70⟩ : ∃ x_ : Nat, x_ = (f_X8_of (mNow M) (nI k41) 1).toNatClampNeg := ⟨_, rfl⟩
            refine topN (k := n70) (show (f_X8_of (mNow M) ((nI k41)) (1)) = nI n70 from by rw [hn70]; exact (nat_of (X8_hi_in hM (by omega)) (by decide)).1) ?_
            have hz := lt_eq hz hn70
            have ln70 : n70 < 8 := by rw [hn70]; exact (nat_of (X8_hi_in hM (k := k41) (by omega)) (by decide)).2
            refine lv_istore (lv' := [(5, .int (nI n70)), (4, .int (nI n62)), (0, .ref (b 0)), (2, .int (nI k33)), (3, .int (nI k41))]) hx hb dX8_measures_73 hl (by decide) rfl (fun ls hl => ?_)
            refine lv_aload_n hx hb dX8_measures_75 rfl (lv_at hl 2 rfl) ?_
            refine va_get (D := D) (ci := 9) (v := .ref (b 7)) (C := RX8) (T := TX8) (N := 20) hx hb hts hinX8 hown hK hP 0 rfl rfl 13 (by decide) (hts (.fieldLink RX8 35 "BridgeAuctionModel" "far" "[I") (by decide +kernel)) (fun _ h9 => h9) rfl dX8_measures_76 ?_
            refine lv_iload hx hb dX8_measures_79 (lv_at hl 0 rfl) ?_
            refine lv_aload_n hx hb dX8_measures_81 rfl (lv_at hl 2 rfl) ?_
            refine va_get (D := D) (ci := 9) (v := .ref (b 7)) (C := RX8) (T := TX8) (N := 20) hx hb hts hinX8 hown hK hP 0 rfl rfl 13 (by decide) (hts (.fieldLink RX8 35 "BridgeAuctionModel" "far" "[I") (by decide +kernel)) (fun _ h9 => h9) rfl dX8_measures_82 ?_
            refine lv_iload hx hb dX8_measures_85 (lv_at hl 0 rfl) ?_
            refine ialdN (tys := tyA C) hx hb hK hP 7 0 rfl rfl (i := n70) (by omega) (by decide) dX8_measures_87 ?_
            refine lv_aload_n hx hb dX8_measures_88 rfl (lv_at hl 2 rfl) ?_
            refine va_get (D := D) (ci := 9) (v := .ref (b 7)) (C := RX8) (T := TX8) (N := 20) hx hb hts hinX8 hown hK hP 0 rfl rfl 13 (by decide) (hts (.fieldLink RX8 35 "BridgeAuctionModel" "far" "[I") (by decide +kernel)) (fun _ h9 => h9) rfl dX8_measures_89 ?_
            refine lv_iload hx hb dX8_measures_92 (lv_at hl 1 rfl) ?_
            refine ialdN (tys := tyA C) hx hb hK hP 7 0 rfl rfl (i := n62) (by omega) (by decide) dX8_measures_94 ?_
            refine lv_aload_n hx hb dX8_measures_95 rfl (lv_at hl 2 rfl) ?_
            refine lv_iload_n hx hb dX8_measures_96 rfl (lv_at hl 4 rfl) ?_
            refine lv_iconst (v := 2) hx hb dX8_measures_97 (by decide) ?_
            refine topN (k := 2) (by decide +kernel) ?_
            refine callRo (va_runV (As := [.int (nI k41), .int (nI 2)]) (rest := [.int (far0_41 n62), .int (far0_41 n70), .int (nI n70), .ref (b 7)]) ⟨hx, hb, hml, hown, hts⟩ (c_X8_of l D C b (mkM (mNow M) (mBef M) (mSav M) (mHis M) (mIsS M) (mRem M) (mErA M) (mFaA M) (mTxt M) (mTyp M) (mLin M) (mLnd M) (mThr M) far0_41 (mGrp M) (mSiz M) (mPla M) (mWro M) (mTol M) (mNum M)) ((nI k41)) (2) (MSafe_of hM rfl) (by omega)) (cwV 2 hts gX8_measures_X8_of rfl rfl rfl (by decide +kernel) ⟨Nat.le_of_ble_eq_true rfl, Nat.le_of_ble_eq_true rfl⟩) (roP_v hP hK hE (va_recv hK hP (ci := 9) (q0 := 0) rfl rfl)) rfl rfl hl.1 rfl (lv_room (Nat.le_of_ble_eq_true rfl)) dX8_measures_98 ⟨Nat.le_refl _, Nat.le_refl _⟩) ?_
            refine topI (y := (f_X8_of (mNow M) ((nI k41)) (2))) rfl ?_
            refine lv_iadd hx hb dX8_measures_101 ?_
            refine va_mmin hx hb (hml.trans hl.1.symm) hown (hts (.methodLink RX8 114 Lib.Math.min.name) (by decide +kernel)) (hts (.static Lib.Math.min.name) (by decide +kernel)) (hts (.initialized "java/lang/Math") (by decide +kernel)) (hts (.code Lib.Math.min.name Lib.Math.min.code 2 (some .int)) (by decide +kernel)) (Nat.le_of_ble_eq_true rfl) (Nat.le_of_ble_eq_true rfl) (Nat.le_of_ble_eq_true rfl) (Nat.le_of_ble_eq_true rfl) dX8_measures_102 ?_
            refine topI (y := (imin (far0_41 n70) ((far0_41 n62) + (f_X8_of (mNow M) ((nI k41)) (2))))) rfl ?_
            refine iastN (tys := tyA C) hx hb hK hP hD hS 7 0 rfl rfl (i := n70) (by omega) (by decide) dX8_measures_105 (fun H locs hP hD hS => ?_)
            have hP : va_P D vwCl (mcells C b (mkM (mNow M) (mBef M) (mSav M) (mHis M) (mIsS M) (mRem M) (mErA M) (mFaA M) (mTxt M) (mTyp M) (mLin M) (mLnd M) (mThr M) (upd far0_41 n70 (imin (far0_41 n70) ((far0_41 n62) + (f_X8_of (mNow M) ((nI k41)) (2))))) (mGrp M) (mSiz M) (mPla M) (mWro M) (mTol M) (mNum M))) H := mP7 hP
            have hD : va_D A (mcells C b (mkM (mNow M) (mBef M) (mSav M) (mHis M) (mIsS M) (mRem M) (mErA M) (mFaA M) (mTxt M) (mTyp M) (mLin M) (mLnd M) (mThr M) (upd far0_41 n70 (imin (far0_41 n70) ((far0_41 n62) + (f_X8_of (mNow M) ((nI k41)) (2))))) (mGrp M) (mSiz M) (mPla M) (mWro M) (mTol M) (mNum M))) := mD7 hD
            refine lv_aload_n hx hb dX8_measures_106 rfl (lv_at hl 2 rfl) ?_
            refine va_get (D := D) (ci := 9) (v := .ref (b 7)) (C := RX8) (T := TX8) (N := 20) hx hb hts hinX8 hown hK hP 0 rfl rfl 13 (by decide) (hts (.fieldLink RX8 35 "BridgeAuctionModel" "far" "[I") (by decide +kernel)) (fun _ h9 => h9) rfl dX8_measures_107 ?_
            refine lv_iload hx hb dX8_measures_110 (lv_at hl 1 rfl) ?_
            refine lv_aload_n hx hb dX8_measures_112 rfl (lv_at hl 2 rfl) ?_
            refine va_get (D := D) (ci := 9) (v := .ref (b 7)) (C := RX8) (T := TX8) (N := 20) hx hb hts hinX8 hown hK hP 0 rfl rfl 13 (by decide) (hts (.fieldLink RX8 35 "BridgeAuctionModel" "far" "[I") (by decide +kernel)) (fun _ h9 => h9) rfl dX8_measures_113 ?_
            refine lv_iload hx hb dX8_measures_116 (lv_at hl 1 rfl) ?_
            refine ialdN (tys := tyA C) hx hb hK hP 7 0 rfl rfl (i := n62) (by omega) (by decide) dX8_measures_118 ?_
            refine lv_aload_n hx hb dX8_measures_119 rfl (lv_at hl 2 rfl) ?_
            refine va_get (D := D) (ci := 9) (v := .ref (b 7)) (C := RX8) (T := TX8) (N := 20) hx hb hts hinX8 hown hK hP 0 rfl rfl 13 (by decide) (hts (.fieldLink RX8 35 "BridgeAuctionModel" "far" "[I") (by decide +kernel)) (fun _ h9 => h9) rfl dX8_measures_120 ?_
            refine lv_iload hx hb dX8_measures_123 (lv_at hl 0 rfl) ?_
            refine ialdN (tys := tyA C) hx hb hK hP 7 0 rfl rfl (i := n70) (by omega) (by decide) dX8_measures_125 ?_
            refine lv_aload_n hx hb dX8_measures_126 rfl (lv_at hl 2 rfl) ?_
            refine lv_iload_n hx hb dX8_measures_127 rfl (lv_at hl 4 rfl) ?_
            refine lv_iconst (v := 2) hx hb dX8_measures_128 (by decide) ?_
            refine topN (k := 2) (by decide +kernel) ?_
            refine callRo (va_runV (As := [.int (nI k41), .int (nI 2)]) (rest := [.int ((upd far0_41 n70 (imin (far0_41 n70) ((far0_41 n62) + (f_X8_of (mNow M) ((nI k41)) (2))))) n70), .int ((upd far0_41 n70 (imin (far0_41 n70) ((far0_41 n62) + (f_X8_of (mNow M) ((nI k41)) (2))))) n62), .int (nI n62), .ref (b 7)]) ⟨hx, hb, hml, hown, hts⟩ (c_X8_of l D C b (mkM (mNow M) (mBef M) (mSav M) (mHis M) (mIsS M) (mRem M) (mErA M) (mFaA M) (mTxt M) (mTyp M) (mLin M) (mLnd M) (mThr M) (upd far0_41 n70 (imin (far0_41 n70) ((far0_41 n62) + (f_X8_of (mNow M) ((nI k41)) (2))))) (mGrp M) (mSiz M) (mPla M) (mWro M) (mTol M) (mNum M)) ((nI k41)) (2) (MSafe_of hM rfl) (by omega)) (cwV 2 hts gX8_measures_X8_of rfl rfl rfl (by decide +kernel) ⟨Nat.le_of_ble_eq_true rfl, Nat.le_of_ble_eq_true rfl⟩) (roP_v hP hK hE (va_recv hK hP (ci := 9) (q0 := 0) rfl rfl)) rfl rfl hl.1 rfl (lv_room (Nat.le_of_ble_eq_true rfl)) dX8_measures_129 ⟨Nat.le_refl _, Nat.le_refl _⟩) ?_
            refine topI (y := (f_X8_of (mNow M) ((nI k41)) (2))) rfl ?_
            refine lv_iadd hx hb dX8_measures_132 ?_
            refine va_mmin hx hb (hml.trans hl.1.symm) hown (hts (.methodLink RX8 114 Lib.Math.min.name) (by decide +kernel)) (hts (.static Lib.Math.min.name) (by decide +kernel)) (hts (.initialized "java/lang/Math") (by decide +kernel)) (hts (.code Lib.Math.min.name Lib.Math.min.code 2 (some .int)) (by decide +kernel)) (Nat.le_of_ble_eq_true rfl) (Nat.le_of_ble_eq_true rfl) (Nat.le_of_ble_eq_true rfl) (Nat.le_of_ble_eq_true rfl) dX8_measures_133 ?_
            refine topI (y := (imin ((upd far0_41 n70 (imin (far0_41 n70) ((far0_41 n62) + (f_X8_of (mNow M) ((nI k41)) (2))))) n62) (((upd far0_41 n70 (imin (far0_41 n70) ((far0_41 n62) + (f_X8_of (mNow M) ((nI k41)) (2))))) n70) + (f_X8_of (mNow M) ((nI k41)) (2))))) rfl ?_
            refine iastN (tys := tyA C) hx hb hK hP hD hS 7 0 rfl rfl (i := n62) (by omega) (by decide) dX8_measures_136 (fun H locs hP hD hS => ?_)
            have hP : va_P D vwCl (mcells C b (mkM (mNow M) (mBef M) (mSav M) (mHis M) (mIsS M) (mRem M) (mErA M) (mFaA M) (mTxt M) (mTyp M) (mLin M) (mLnd M) (mThr M) (upd (upd far0_41 n70 (imin (far0_41 n70) ((far0_41 n62) + (f_X8_of (mNow M) ((nI k41)) (2))))) n62 (imin ((upd far0_41 n70 (imin (far0_41 n70) ((far0_41 n62) + (f_X8_of (mNow M) ((nI k41)) (2))))) n62) (((upd far0_41 n70 (imin (far0_41 n70) ((far0_41 n62) + (f_X8_of (mNow M) ((nI k41)) (2))))) n70) + (f_X8_of (mNow M) ((nI k41)) (2))))) (mGrp M) (mSiz M) (mPla M) (mWro M) (mTol M) (mNum M))) H := mP7 hP
            have hD : va_D A (mcells C b (mkM (mNow M) (mBef M) (mSav M) (mHis M) (mIsS M) (mRem M) (mErA M) (mFaA M) (mTxt M) (mTyp M) (mLin M) (mLnd M) (mThr M) (upd (upd far0_41 n70 (imin (far0_41 n70) ((far0_41 n62) + (f_X8_of (mNow M) ((nI k41)) (2))))) n62 (imin ((upd far0_41 n70 (imin (far0_41 n70) ((far0_41 n62) + (f_X8_of (mNow M) ((nI k41)) (2))))) n62) (((upd far0_41 n70 (imin (far0_41 n70) ((far0_41 n62) + (f_X8_of (mNow M) ((nI k41)) (2))))) n70) + (f_X8_of (mNow M) ((nI k41)) (2))))) (mGrp M) (mSiz M) (mPla M) (mWro M) (mTol M) (mNum M))) := mD7 hD
            exact J137 ((upd (upd far0_41 n70 (imin (far0_41 n70) ((far0_41 n62) + (f_X8_of (mNow M) ((nI k41)) (2))))) n62 (imin ((upd far0_41 n70 (imin (far0_41 n70) ((far0_41 n62) + (f_X8_of (mNow M) ((nI k41)) (2))))) n62) (((upd far0_41 n70 (imin (far0_41 n70) ((far0_41 n62) + (f_X8_of (mNow M) ((nI k41)) (2))))) n70) + (f_X8_of (mNow M) ((nI k41)) (2)))))) _ _ ls hz  hP hD hS (lv_sub hl [2, 3, 4] rfl)
      refine lv_iload_n hx hb dX8_measures_33 rfl (lv_at hl 1 rfl) ?_
      refine lv_bipush (v := 8) hx hb dX8_measures_34 (by decide +kernel) ?_
      refine lv_icmp_ge (tgt := 149) hx hb dX8_measures_36 (by decide) (fun c_36 => absurd c_36 (by have e : (8 : Int32) = nI 8 := (by decide +kernel); rw [e]; exact nI_ge (by omega) (by omega))) (fun c_36 => ?_)
      refine lv_iconst (v := 0) hx hb dX8_measures_39 (by decide) ?_
      refine lv_istore_n (lv' := [(3, .int 0), (0, .ref (b 0)), (2, .int (nI k33))]) hx hb dX8_measures_40 rfl hl (by decide) rfl (fun ls hl => ?_)
      exact J41 (mS (mNow M)) 0 (far0_33) _ _ ls (by omega) hz  hP hD hS (lv_sub hl [1, 2, 0] rfl)
  have J2 : ∀ (n2 k2 : Nat) (far0_2 : (Nat → Int32)) (H : Heap) (locs : List Loc) (ls : Array Slot), k2 + n2 = 8 → z = f_X8_measures_l2 (mNow M) x n2 k2 far0_2 → va_P D vwCl (mcells C b (mkM (mNow M) (mBef M) (mSav M) (mHis M) (mIsS M) (mRem M) (mErA M) (mFaA M) (mTxt M) (mTyp M) (mLin M) (mLnd M) (mThr M) far0_2 (mGrp M) (mSiz M) (mPla M) (mWro M) (mTol M) (mNum M))) H → va_D A (mcells C b (mkM (mNow M) (mBef M) (mSav M) (mHis M) (mIsS M) (mRem M) (mErA M) (mFaA M) (mTxt M) (mTyp M) (mLin M) (mLnd M) (mThr M) far0_2 (mGrp M) (mSiz M) (mPla M) (mWro M) (mTol M) (mNum M))) → va_S A s.heap H locs → lv_has ls 6 [(0, .ref (b 0)), (1, .int x), (2, .int (nI k2))] → W p l e ({ frames := 4, cells := 0, slots := 0, locals := 86 } : Room) s m ([.ref (b 0), .int x] : List Value).toArray below meth c H locs 0 0 (MQ below (rwO none D (mcells C b (mkM (mNow M) (mBef M) (mSav M) (mHis M) (mIsS M) (mRem M) (mErA M) (mFaA M) (mTxt M) (mTyp M) (mLin M) (mLnd M) (mThr M) z (mGrp M) (mSiz M) (mPla M) (mWro M) (mTol M) (mNum M))) A) ([.ref (b 0), .int x] : List Value).toArray s 0 0 A) (F0 m 2 ls []) := by
    intro n2
    induction n2 with
    | zero =>
      intro k2 far0_2 H locs ls hk2 hz  hP hD hS hl
      have hz : z = f_X8_measures_l2x (mNow M) x far0_2 := hz
      refine lv_iload_n hx hb dX8_measures_2 rfl (lv_at hl 2 rfl) ?_
      refine lv_bipush (v := 8) hx hb dX8_measures_3 (by decide +kernel) ?_
      refine lv_icmp_ge (tgt := 31) hx hb dX8_measures_5 (by decide) (fun c_5 => ?_) (fun c_5 => absurd (by have e : (8 : Int32) = nI 8 := (by decide +kernel); rw [e]; exact nI_le (by omega) (by omega)) c_5)
      refine lv_iconst (v := 0) hx hb dX8_measures_31 (by decide) ?_
      refine lv_istore_n (lv' := [(2, .int 0), (0, .ref (b 0)), (1, .int x)]) hx hb dX8_measures_32 rfl hl (by decide) rfl (fun ls hl => ?_)
      exact J33 (8) 0 (far0_2) _ _ ls (by omega) hz  hP hD hS (lv_sub hl [1, 0] rfl)
    | succ n2 ih2 =>
      intro k2 far0_2 H locs ls hk2 hz2  hP hD hS hl
      obtain ⟨z2, hz⟩ : ∃ zz_, zz_ = f_X8_measures_l2b (mNow M) x k2 far0_2 := ⟨_, rfl⟩
      have hq2 : z = sE id (fun q_ => lpF (f_X8_measures_l2s (mNow M) x) (f_X8_measures_l2e (mNow M) x) n2 (k2 + 1) q_) z2 := by rw [hz2, hz]; rfl
      have J24 : ∀ (s0_24 : Int32) (s1_24 : Nat) (far0_24 : (Nat → Int32))  (H : Heap) (locs : List Loc) (ls : Array Slot), z2 = f_X8_measures_j24 s0_24 s1_24 far0_24 → (s1_24 < 8) → va_P D vwCl (mcells C b (mkM (mNow M) (mBef M) (mSav M) (mHis M) (mIsS M) (mRem M) (mErA M) (mFaA M) (mTxt M) (mTyp M) (mLin M) (mLnd M) (mThr M) far0_24 (mGrp M) (mSiz M) (mPla M) (mWro M) (mTol M) (mNum M))) H → va_D A (mcells C b (mkM (mNow M) (mBef M) (mSav M) (mHis M) (mIsS M) (mRem M) (mErA M) (mFaA M) (mTxt M) (mTyp M) (mLin M) (mLnd M) (mThr M) far0_24 (mGrp M) (mSiz M) (mPla M) (mWro M) (mTol M) (mNum M))) → va_S A s.heap H locs → lv_has ls 6 [(0, .ref (b 0)), (1, .int x), (2, .int (nI k2))] → W p l e ({ frames := 4, cells := 0, slots := 0, locals := 86 } : Room) s m ([.ref (b 0), .int x] : List Value).toArray below meth c H locs 0 0 (MQ below (rwO none D (mcells C b (mkM (mNow M) (mBef M) (mSav M) (mHis M) (mIsS M) (mRem M) (mErA M) (mFaA M) (mTxt M) (mTyp M) (mLin M) (mLnd M) (mThr M) z (mGrp M) (mSiz M) (mPla M) (mWro M) (mTol M) (mNum M))) A) ([.ref (b 0), .int x] : List Value).toArray s 0 0 A) (F0 m 24 ls [.int s0_24, .int (nI s1_24), .ref (b 7)]) := by
        intro s0_24 s1_24 far0_24 H locs ls hz iv24_0 hP hD hS hl
        refine iastN (tys := tyA C) hx hb hK hP hD hS 7 0 rfl rfl (i := s1_24) (by omega) (by decide) dX8_measures_24 (fun H locs hP hD hS => ?_)
        have hP : va_P D vwCl (mcells C b (mkM (mNow M) (mBef M) (mSav M) (mHis M) (mIsS M) (mRem M) (mErA M) (mFaA M) (mTxt M) (mTyp M) (mLin M) (mLnd M) (mThr M) (upd far0_24 s1_24 s0_24) (mGrp M) (mSiz M) (mPla M) (mWro M) (mTol M) (mNum M))) H := mP7 hP
        have hD : va_D A (mcells C b (mkM (mNow M) (mBef M) (mSav M) (mHis M) (mIsS M) (mRem M) (mErA M) (mFaA M) (mTxt M) (mTyp M) (mLin M) (mLnd M) (mThr M) (upd far0_24 s1_24 s0_24) (mGrp M) (mSiz M) (mPla M) (mWro M) (mTol M) (mNum M))) := mD7 hD
        refine lv_iinc (v := (nI (k2 + 1))) (lv' := [(2, .int (nI (k2 + 1))), (0, .ref (b 0)), (1, .int x)]) hx hb dX8_measures_25 hl (k := 2) rfl (by exact nI_1 _) (by decide) rfl (fun ls hl => ?_)
        refine lv_goto (tgt := 2) hx hb dX8_measures_28 (by decide) ?_
        exact ih2 (k2 + 1) ((upd far0_24 s1_24 s0_24)) _ _ ls (by omega) (by rw [hq2, hz]; rfl)  hP hD hS (lv_sub hl [1, 2, 0] rfl)
      refine lv_iload_n hx hb dX8_measures_2 rfl (lv_at hl 2 rfl) ?_
      refine lv_bipush (v := 8) hx hb dX8_measures_3 (by decide +kernel) ?_
      refine lv_icmp_ge (tgt := 31) hx hb dX8_measures_5 (by decide) (fun c_5 => absurd c_5 (by have e : (8 : Int32) = nI 8 := (by decide +kernel); rw [e]; exact nI_ge (by omega) (by omega))) (fun c_5 => ?_)
      refine lv_aload_n hx hb dX8_measures_8 rfl (lv_at hl 0 rfl) ?_
      refine va_get (D := D) (ci := 9) (v := .ref (b 7)) (C := RX8) (T := TX8) (N := 20) hx hb hts hinX8 hown hK hP 0 rfl rfl 13 (by decide) (hts (.fieldLink RX8 35 "BridgeAuctionModel" "far" "[I") (by decide +kernel)) (fun _ h9 => h9) rfl dX8_measures_9 ?_
      refine lv_iload_n hx hb dX8_measures_12 rfl (lv_at hl 2 rfl) ?_
      refine lv_iload_n hx hb dX8_measures_13 rfl (lv_at hl 2 rfl) ?_
      refine lv_iload_n hx hb dX8_measures_14 rfl (lv_at hl 1 rfl) ?_
      refine lv_icmp_ne (tgt := 22) hx hb dX8_measures_15 (by decide) (fun c_15 => ?_) (fun c_15 => ?_)
      · have hz := hz.trans (if_neg c_15)
        refine lv_ldc (v := 1000000) hx hb hown (hts (.constant RX8 171 (1000000)) (by decide +kernel)) dX8_measures_22 ?_
        exact J24 (1000000) (k2) (far0_2) _ _ ls hz (by omega) hP hD hS (lv_sub hl [0, 1, 2] rfl)
      · have hz := hz.trans (if_pos c_15)
        refine lv_iconst (v := 0) hx hb dX8_measures_18 (by decide) ?_
        refine lv_goto (tgt := 24) hx hb dX8_measures_19 (by decide) ?_
        exact J24 (0) (k2) (far0_2) _ _ ls hz (by omega) hP hD hS (lv_sub hl [0, 1, 2] rfl)
  refine lv_iconst (v := 0) hx hb dX8_measures_0 (by decide) ?_
  refine lv_istore_n (lv' := [(2, .int 0), (0, .ref (b 0)), (1, .int x)]) hx hb dX8_measures_1 rfl hl (by decide) rfl (fun ls hl => ?_)
  exact J2 (8) 0 ((mFar M)) _ _ ls (by omega) hz  (by rw [mkM_eta M]; exact hP) (by rw [mkM_eta M]; exact hD) hS (lv_sub hl [1, 2, 0] rfl)

