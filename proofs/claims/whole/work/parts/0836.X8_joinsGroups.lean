theorem mP8 {D : va_G} {C : Nat → ClassId} {b : Nat → Nat} {H : Heap} {x0 : Nat → Int32} {x1 : Nat → Int32} {x2 : Nat → Int32} {x3 : Nat → Int32} {x4 : Bool} {x5 : Nat} {x6 : Int32} {x7 : Int32} {x8 : Nat → Int32} {x9 : Nat} {x10 : Nat → Int32} {x11 : Nat} {x12 : Int32} {x13 : Nat → Int32} {x14 : Nat → Int32} {x15 : Nat} {x16 : Nat} {x17 : Int32} {x18 : Nat} {x19 : Nat → Int32} {f : Nat → Int32} (h : va_P D vwCl ((mcells C b (mkM x0 x1 x2 x3 x4 x5 x6 x7 x8 x9 x10 x11 x12 x13 x14 x15 x16 x17 x18 x19)).set 8 (b 8, .inl (C 0, 8, .inl f))) H) : va_P D vwCl (mcells C b (mkM x0 x1 x2 x3 x4 x5 x6 x7 x8 x9 x10 x11 x12 x13 f x15 x16 x17 x18 x19)) H := h
theorem mD8 {A : Nat → Prop} {C : Nat → ClassId} {b : Nat → Nat} {x0 : Nat → Int32} {x1 : Nat → Int32} {x2 : Nat → Int32} {x3 : Nat → Int32} {x4 : Bool} {x5 : Nat} {x6 : Int32} {x7 : Int32} {x8 : Nat → Int32} {x9 : Nat} {x10 : Nat → Int32} {x11 : Nat} {x12 : Int32} {x13 : Nat → Int32} {x14 : Nat → Int32} {x15 : Nat} {x16 : Nat} {x17 : Int32} {x18 : Nat} {x19 : Nat → Int32} {f : Nat → Int32} (h : va_D A ((mcells C b (mkM x0 x1 x2 x3 x4 x5 x6 x7 x8 x9 x10 x11 x12 x13 x14 x15 x16 x17 x18 x19)).set 8 (b 8, .inl (C 0, 8, .inl f)))) : va_D A (mcells C b (mkM x0 x1 x2 x3 x4 x5 x6 x7 x8 x9 x10 x11 x12 x13 f x15 x16 x17 x18 x19)) := h
def f_X8_joinsGroups_j72  (s0_72 : Bool) (grp0_72 : (Nat → Int32)) : Bool × (Nat → Int32) := (s0_72, grp0_72)
def f_X8_joinsGroups_j54  (v3_54 : Int32) (v4_54 : Int32) (s0_54 : Int32) (s1_54 : Nat) (grp0_54 : (Nat → Int32)) : Sum (Bool × (Nat → Int32)) (Int32 × Int32 × (Nat → Int32)) := (Sum.inr (v3_54, v4_54, (upd grp0_54 s1_54 s0_54)))
def f_X8_joinsGroups_l18b  (k18 : Nat) (v3_18 : Int32) (v4_18 : Int32) (grp0_18 : (Nat → Int32)) : Sum (Bool × (Nat → Int32)) (Int32 × Int32 × (Nat → Int32)) := (if (grp0_18 k18) = v3_18 then (f_X8_joinsGroups_j54 (v3_18) (v4_18) (v4_18) (k18) (grp0_18)) else (f_X8_joinsGroups_j54 (v3_18) (v4_18) ((grp0_18 k18)) (k18) (grp0_18)))
def f_X8_joinsGroups_l18x  (v3_18 : Int32) (v4_18 : Int32) (grp0_18 : (Nat → Int32)) : Bool × (Nat → Int32) := (if v3_18 = v4_18 then (f_X8_joinsGroups_j72 (false) (grp0_18)) else (f_X8_joinsGroups_j72 (true) (grp0_18)))
def f_X8_joinsGroups_l18s  (k18 : Nat) (q_ : Int32 × Int32 × (Nat → Int32)) : Sum (Bool × (Nat → Int32)) (Int32 × Int32 × (Nat → Int32)) := f_X8_joinsGroups_l18b  k18 (q_.1) (q_.2.1) (q_.2.2)
def f_X8_joinsGroups_l18e  (q_ : Int32 × Int32 × (Nat → Int32)) : Bool × (Nat → Int32) := f_X8_joinsGroups_l18x  (q_.1) (q_.2.1) (q_.2.2)
def f_X8_joinsGroups_l18  (n18 k18 : Nat) (v3_18 : Int32) (v4_18 : Int32) (grp0_18 : (Nat → Int32)) : Bool × (Nat → Int32) := lpF (f_X8_joinsGroups_l18s ) (f_X8_joinsGroups_l18e ) n18 k18 (v3_18, v4_18, grp0_18)
def f_X8_joinsGroups (gp : (Nat → Int32)) (x : Nat) (y : Nat) : Bool × (Nat → Int32) := (f_X8_joinsGroups_l18 (8) 0 ((gp y)) ((gp x)) (gp))
set_option maxHeartbeats 4000000 in
set_option maxRecDepth 100000 in
theorem c_X8_joinsGroups (l : Launch) (D : va_G) (C : Nat → ClassId) (b : Nat → Nat) (M : MS) (x : Nat) (y : Nat) (sz : Nat) (h_x : x < 8) (h_y : y < 8) : Met l yX8_joinsGroups wsX8_joinsGroups ({ frames := 0, cells := 0, slots := 0, locals := 0 } : Room) (rwP [.ref (b 0), .int (nI x), .int (nI y)] D C (mcells C b M) sz) (rwO (some (.int (bI ((f_X8_joinsGroups (mGrp M) x y).1)))) D (mcells C b (mkM (mNow M) (mBef M) (mSav M) (mHis M) (mIsS M) (mRem M) (mErA M) (mFaA M) (mTxt M) (mTyp M) (mLin M) (mLnd M) (mThr M) (mFar M) ((f_X8_joinsGroups (mGrp M) x y).2) (mSiz M) (mPla M) (mWro M) (mTol M) (mNum M))) (va_A (mcells C b M) sz)) 0 0 (va_A (mcells C b M) sz) := by
  refine Met.ofW (cc := cX8_joinsGroups) (maxL := 6) (ret := (some .boolean)) (by decide) rfl ?_
  intro p e s m args below meth c s₁ B hml hv
  obtain ⟨rfl, hsz, hP, hK, hD0, hE⟩ := hv
  have hx := B.exec
  have hb := B.bytes
  have hr := B.returns
  have hts := atoms_spec (ws := wsX8_joinsGroups) B.pre
  have hown : s.vm.findClass RX8 = some m.cls := findClass_of_methodNamed B.named
  have hlocks := B.notSynchronized
  subst hsz
  have hD := hD0.self (sz := s.heap.size)
  generalize hAe : va_A (mcells C b M) s.heap.size = A at hD ⊢
  have hA : ∀ q : Nat, s.heap.size ≤ q → A q := fun q h => by rw [← hAe]; exact Or.inr h
  have hS0 : va_S A s.heap s.heap [] := va_S.rf
  have hP : va_P D vwCl (mcells C b M) s.heap := hP
  have hS := hS0
  have hinX8 : ∀ w ∈ u_ws RX8 TX8 20, w ∈ wsX8_joinsGroups := by decide +kernel
  have hl := lv_entry ([.ref (b 0), .int (nI x), .int (nI y)]) (n := 6) (Nat.le_of_ble_eq_true rfl)
  rw [lg_entry_eq]
  generalize (lg_sl ([.ref (b 0), .int (nI x), .int (nI y)]) ++ List.replicate (6 - (lg_sl ([.ref (b 0), .int (nI x), .int (nI y)])).length) Slot.unset).toArray = ls at hl ⊢
  have hl : lv_has ls 6 [(0, .ref (b 0)), (1, .int (nI x)), (2, .int (nI y))] := hl
  obtain ⟨z, hz⟩ : ∃ z, z = f_X8_joinsGroups (mGrp M) x y := ⟨_, rfl⟩
  rw [← hz]
  have J72 : ∀ (s0_72 : Bool) (grp0_72 : (Nat → Int32))  (H : Heap) (locs : List Loc) (ls : Array Slot), z = f_X8_joinsGroups_j72 s0_72 grp0_72 → va_P D vwCl (mcells C b (mkM (mNow M) (mBef M) (mSav M) (mHis M) (mIsS M) (mRem M) (mErA M) (mFaA M) (mTxt M) (mTyp M) (mLin M) (mLnd M) (mThr M) (mFar M) grp0_72 (mSiz M) (mPla M) (mWro M) (mTol M) (mNum M))) H → va_D A (mcells C b (mkM (mNow M) (mBef M) (mSav M) (mHis M) (mIsS M) (mRem M) (mErA M) (mFaA M) (mTxt M) (mTyp M) (mLin M) (mLnd M) (mThr M) (mFar M) grp0_72 (mSiz M) (mPla M) (mWro M) (mTol M) (mNum M))) → va_S A s.heap H locs → lv_has ls 6 [] → W p l e ({ frames := 0, cells := 0, slots := 0, locals := 0 } : Room) s m ([.ref (b 0), .int (nI x), .int (nI y)] : List Value).toArray below meth c H locs 0 0 (MQ below (rwO (some (.int (bI z.1))) D (mcells C b (mkM (mNow M) (mBef M) (mSav M) (mHis M) (mIsS M) (mRem M) (mErA M) (mFaA M) (mTxt M) (mTyp M) (mLin M) (mLnd M) (mThr M) (mFar M) z.2 (mSiz M) (mPla M) (mWro M) (mTol M) (mNum M))) A) ([.ref (b 0), .int (nI x), .int (nI y)] : List Value).toArray s 0 0 A) (F0 m 72 ls [.int (bI s0_72)]) := by
    intro s0_72 grp0_72 H locs ls hz  hP hD hS hl
    have hz : z = (s0_72, grp0_72) := hz
    rw [hz]
    exact rw_retB hx hb hr hP hS rfl dX8_joinsGroups_72 hlocks
  have J18 : ∀ (n18 k18 : Nat) (v3_18 : Int32) (v4_18 : Int32) (grp0_18 : (Nat → Int32)) (H : Heap) (locs : List Loc) (ls : Array Slot), k18 + n18 = 8 → z = f_X8_joinsGroups_l18  n18 k18 v3_18 v4_18 grp0_18 → va_P D vwCl (mcells C b (mkM (mNow M) (mBef M) (mSav M) (mHis M) (mIsS M) (mRem M) (mErA M) (mFaA M) (mTxt M) (mTyp M) (mLin M) (mLnd M) (mThr M) (mFar M) grp0_18 (mSiz M) (mPla M) (mWro M) (mTol M) (mNum M))) H → va_D A (mcells C b (mkM (mNow M) (mBef M) (mSav M) (mHis M) (mIsS M) (mRem M) (mErA M) (mFaA M) (mTxt M) (mTyp M) (mLin M) (mLnd M) (mThr M) (mFar M) grp0_18 (mSiz M) (mPla M) (mWro M) (mTol M) (mNum M))) → va_S A s.heap H locs → lv_has ls 6 [(0, .ref (b 0)), (3, .int v3_18), (4, .int v4_18), (5, .int (nI k18))] → W p l e ({ frames := 0, cells := 0, slots := 0, locals := 0 } : Room) s m ([.ref (b 0), .int (nI x), .int (nI y)] : List Value).toArray below meth c H locs 0 0 (MQ below (rwO (some (.int (bI z.1))) D (mcells C b (mkM (mNow M) (mBef M) (mSav M) (mHis M) (mIsS M) (mRem M) (mErA M) (mFaA M) (mTxt M) (mTyp M) (mLin M) (mLnd M) (mThr M) (mFar M) z.2 (mSiz M) (mPla M) (mWro M) (mTol M) (mNum M))) A) ([.ref (b 0), .int (nI x), .int (nI y)] : List Value).toArray s 0 0 A) (F0 m 18 ls []) := by
    intro n18
    induction n18 with
    | zero =>
      intro k18 v3_18 v4_18 grp0_18 H locs ls hk18 hz  hP hD hS hl
      have hz : z = f_X8_joinsGroups_l18x  v3_18 v4_18 grp0_18 := hz
      refine lv_iload hx hb dX8_joinsGroups_18 (lv_at hl 3 rfl) ?_
      refine lv_bipush (v := 8) hx hb dX8_joinsGroups_20 (by decide +kernel) ?_
      refine lv_icmp_ge (tgt := 61) hx hb dX8_joinsGroups_22 (by decide) (fun c_22 => ?_) (fun c_22 => absurd (by have e : (8 : Int32) = nI 8 := (by decide +kernel); rw [e]; exact nI_le (by omega) (by omega)) c_22)
      refine lv_iload_n hx hb dX8_joinsGroups_61 rfl (lv_at hl 1 rfl) ?_
      refine lv_iload hx hb dX8_joinsGroups_62 (lv_at hl 2 rfl) ?_
      refine lv_icmp_eq (tgt := 71) hx hb dX8_joinsGroups_64 (by decide) (fun c_64 => ?_) (fun c_64 => ?_)
      · have hz := hz.trans (if_pos c_64)
        refine lv_iconst (v := 0) hx hb dX8_joinsGroups_71 (by decide) ?_
        exact J72 (false) (grp0_18) _ _ ls hz  hP hD hS (lv_sub hl [] rfl)
      · have hz := hz.trans (if_neg c_64)
        refine lv_iconst (v := 1) hx hb dX8_joinsGroups_67 (by decide) ?_
        refine lv_goto (tgt := 72) hx hb dX8_joinsGroups_68 (by decide) ?_
        exact J72 (true) (grp0_18) _ _ ls hz  hP hD hS (lv_sub hl [] rfl)
    | succ n18 ih18 =>
      intro k18 v3_18 v4_18 grp0_18 H locs ls hk18 hz18  hP hD hS hl
      obtain ⟨z18, hz⟩ : ∃ zz_, zz_ = f_X8_joinsGroups_l18b  k18 v3_18 v4_18 grp0_18 := ⟨_, rfl⟩
      have hq18 : z = sE id (fun q_ => lpF (f_X8_joinsGroups_l18s ) (f_X8_joinsGroups_l18e ) n18 (k18 + 1) q_) z18 := by rw [hz18, hz]; rfl
      have J54 : ∀ (v3_54 : Int32) (v4_54 : Int32) (s0_54 : Int32) (s1_54 : Nat) (grp0_54 : (Nat → Int32))  (H : Heap) (locs : List Loc) (ls : Array Slot), z18 = f_X8_joinsGroups_j54 v3_54 v4_54 s0_54 s1_54 grp0_54 → (s1_54 < 8) → va_P D vwCl (mcells C b (mkM (mNow M) (mBef M) (mSav M) (mHis M) (mIsS M) (mRem M) (mErA M) (mFaA M) (mTxt M) (mTyp M) (mLin M) (mLnd M) (mThr M) (mFar M) grp0_54 (mSiz M) (mPla M) (mWro M) (mTol M) (mNum M))) H → va_D A (mcells C b (mkM (mNow M) (mBef M) (mSav M) (mHis M) (mIsS M) (mRem M) (mErA M) (mFaA M) (mTxt M) (mTyp M) (mLin M) (mLnd M) (mThr M) (mFar M) grp0_54 (mSiz M) (mPla M) (mWro M) (mTol M) (mNum M))) → va_S A s.heap H locs → lv_has ls 6 [(0, .ref (b 0)), (3, .int v3_54), (4, .int v4_54), (5, .int (nI k18))] → W p l e ({ frames := 0, cells := 0, slots := 0, locals := 0 } : Room) s m ([.ref (b 0), .int (nI x), .int (nI y)] : List Value).toArray below meth c H locs 0 0 (MQ below (rwO (some (.int (bI z.1))) D (mcells C b (mkM (mNow M) (mBef M) (mSav M) (mHis M) (mIsS M) (mRem M) (mErA M) (mFaA M) (mTxt M) (mTyp M) (mLin M) (mLnd M) (mThr M) (mFar M) z.2 (mSiz M) (mPla M) (mWro M) (mTol M) (mNum M))) A) ([.ref (b 0), .int (nI x), .int (nI y)] : List Value).toArray s 0 0 A) (F0 m 54 ls [.int s0_54, .int (nI s1_54), .ref (b 8)]) := by
        intro v3_54 v4_54 s0_54 s1_54 grp0_54 H locs ls hz iv54_0 hP hD hS hl
        refine iastN (tys := tyA C) hx hb hK hP hD hS 8 0 rfl rfl (i := s1_54) (by omega) (by decide) dX8_joinsGroups_54 (fun H locs hP hD hS => ?_)
        have hP : va_P D vwCl (mcells C b (mkM (mNow M) (mBef M) (mSav M) (mHis M) (mIsS M) (mRem M) (mErA M) (mFaA M) (mTxt M) (mTyp M) (mLin M) (mLnd M) (mThr M) (mFar M) (upd grp0_54 s1_54 s0_54) (mSiz M) (mPla M) (mWro M) (mTol M) (mNum M))) H := mP8 hP
        have hD : va_D A (mcells C b (mkM (mNow M) (mBef M) (mSav M) (mHis M) (mIsS M) (mRem M) (mErA M) (mFaA M) (mTxt M) (mTyp M) (mLin M) (mLnd M) (mThr M) (mFar M) (upd grp0_54 s1_54 s0_54) (mSiz M) (mPla M) (mWro M) (mTol M) (mNum M))) := mD8 hD
        refine lv_iinc (v := (nI (k18 + 1))) (lv' := [(5, .int (nI (k18 + 1))), (0, .ref (b 0)), (3, .int v3_54), (4, .int v4_54)]) hx hb dX8_joinsGroups_55 hl (k := 3) rfl (by exact nI_1 _) (by decide) rfl (fun ls hl => ?_)
        refine lv_goto (tgt := 18) hx hb dX8_joinsGroups_58 (by decide) ?_
        exact ih18 (k18 + 1) (v3_54) (v4_54) ((upd grp0_54 s1_54 s0_54)) _ _ ls (by omega) (by rw [hq18, hz]; rfl)  hP hD hS (lv_sub hl [1, 2, 3, 0] rfl)
      refine lv_iload hx hb dX8_joinsGroups_18 (lv_at hl 3 rfl) ?_
      refine lv_bipush (v := 8) hx hb dX8_joinsGroups_20 (by decide +kernel) ?_
      refine lv_icmp_ge (tgt := 61) hx hb dX8_joinsGroups_22 (by decide) (fun c_22 => absurd c_22 (by have e : (8 : Int32) = nI 8 := (by decide +kernel); rw [e]; exact nI_ge (by omega) (by omega))) (fun c_22 => ?_)
      refine lv_aload_n hx hb dX8_joinsGroups_25 rfl (lv_at hl 0 rfl) ?_
      refine va_get (D := D) (ci := 9) (v := .ref (b 8)) (C := RX8) (T := TX8) (N := 20) hx hb hts hinX8 hown hK hP 0 rfl rfl 14 (by decide) (hts (.fieldLink RX8 38 "BridgeAuctionModel" "group" "[I") (by decide +kernel)) (fun _ h9 => h9) rfl dX8_joinsGroups_26 ?_
      refine lv_iload hx hb dX8_joinsGroups_29 (lv_at hl 3 rfl) ?_
      refine lv_aload_n hx hb dX8_joinsGroups_31 rfl (lv_at hl 0 rfl) ?_
      refine va_get (D := D) (ci := 9) (v := .ref (b 8)) (C := RX8) (T := TX8) (N := 20) hx hb hts hinX8 hown hK hP 0 rfl rfl 14 (by decide) (hts (.fieldLink RX8 38 "BridgeAuctionModel" "group" "[I") (by decide +kernel)) (fun _ h9 => h9) rfl dX8_joinsGroups_32 ?_
      refine lv_iload hx hb dX8_joinsGroups_35 (lv_at hl 3 rfl) ?_
      refine ialdN (tys := tyA C) hx hb hK hP 8 0 rfl rfl (i := k18) (by omega) (by decide) dX8_joinsGroups_37 ?_
      refine lv_iload_n hx hb dX8_joinsGroups_38 rfl (lv_at hl 1 rfl) ?_
      refine lv_icmp_ne (tgt := 47) hx hb dX8_joinsGroups_39 (by decide) (fun c_39 => ?_) (fun c_39 => ?_)
      · have hz := hz.trans (if_neg c_39)
        refine lv_aload_n hx hb dX8_joinsGroups_47 rfl (lv_at hl 0 rfl) ?_
        refine va_get (D := D) (ci := 9) (v := .ref (b 8)) (C := RX8) (T := TX8) (N := 20) hx hb hts hinX8 hown hK hP 0 rfl rfl 14 (by decide) (hts (.fieldLink RX8 38 "BridgeAuctionModel" "group" "[I") (by decide +kernel)) (fun _ h9 => h9) rfl dX8_joinsGroups_48 ?_
        refine lv_iload hx hb dX8_joinsGroups_51 (lv_at hl 3 rfl) ?_
        refine ialdN (tys := tyA C) hx hb hK hP 8 0 rfl rfl (i := k18) (by omega) (by decide) dX8_joinsGroups_53 ?_
        exact J54 (v3_18) (v4_18) ((grp0_18 k18)) (k18) (grp0_18) _ _ ls hz (by omega) hP hD hS (lv_sub hl [0, 1, 2, 3] rfl)
      · have hz := hz.trans (if_pos c_39)
        refine lv_iload hx hb dX8_joinsGroups_42 (lv_at hl 2 rfl) ?_
        refine lv_goto (tgt := 54) hx hb dX8_joinsGroups_44 (by decide) ?_
        exact J54 (v3_18) (v4_18) (v4_18) (k18) (grp0_18) _ _ ls hz (by omega) hP hD hS (lv_sub hl [0, 1, 2, 3] rfl)
  refine lv_aload_n hx hb dX8_joinsGroups_0 rfl (lv_at hl 0 rfl) ?_
  refine va_get (D := D) (ci := 9) (v := .ref (b 8)) (C := RX8) (T := TX8) (N := 20) hx hb hts hinX8 hown hK hP 0 rfl rfl 14 (by decide) (hts (.fieldLink RX8 38 "BridgeAuctionModel" "group" "[I") (by decide +kernel)) (fun _ h9 => h9) rfl dX8_joinsGroups_1 ?_
  refine lv_iload_n hx hb dX8_joinsGroups_4 rfl (lv_at hl 2 rfl) ?_
  refine ialdN (tys := tyA C) hx hb hK hP 8 0 rfl rfl (i := y) (by omega) (by decide) dX8_joinsGroups_5 ?_
  refine lv_istore_n (lv' := [(3, .int ((mGrp M) y)), (0, .ref (b 0)), (1, .int (nI x)), (2, .int (nI y))]) hx hb dX8_joinsGroups_6 rfl hl (by decide) rfl (fun ls hl => ?_)
  refine lv_aload_n hx hb dX8_joinsGroups_7 rfl (lv_at hl 1 rfl) ?_
  refine va_get (D := D) (ci := 9) (v := .ref (b 8)) (C := RX8) (T := TX8) (N := 20) hx hb hts hinX8 hown hK hP 0 rfl rfl 14 (by decide) (hts (.fieldLink RX8 38 "BridgeAuctionModel" "group" "[I") (by decide +kernel)) (fun _ h9 => h9) rfl dX8_joinsGroups_8 ?_
  refine lv_iload_n hx hb dX8_joinsGroups_11 rfl (lv_at hl 2 rfl) ?_
  refine ialdN (tys := tyA C) hx hb hK hP 8 0 rfl rfl (i := x) (by omega) (by decide) dX8_joinsGroups_12 ?_
  refine lv_istore (lv' := [(4, .int ((mGrp M) x)), (3, .int ((mGrp M) y)), (0, .ref (b 0)), (1, .int (nI x)), (2, .int (nI y))]) hx hb dX8_joinsGroups_13 hl (by decide) rfl (fun ls hl => ?_)
  refine lv_iconst (v := 0) hx hb dX8_joinsGroups_15 (by decide) ?_
  refine lv_istore (lv' := [(5, .int 0), (4, .int ((mGrp M) x)), (3, .int ((mGrp M) y)), (0, .ref (b 0)), (1, .int (nI x)), (2, .int (nI y))]) hx hb dX8_joinsGroups_16 hl (by decide) rfl (fun ls hl => ?_)
  exact J18 (8) 0 (((mGrp M) y)) (((mGrp M) x)) ((mGrp M)) _ _ ls (by omega) hz  (by rw [mkM_eta M]; exact hP) (by rw [mkM_eta M]; exact hD) hS (lv_sub hl [3, 2, 1, 0] rfl)

