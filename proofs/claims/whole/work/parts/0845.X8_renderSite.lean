theorem X8_wB_le (nw li : Nat → Int32) (x q : Nat) (y : Int32) : (f_X8_writesBid nw li x q y).1 ≤ x + 8 := by
  have h1 := X8_wN_le (upd li x 32) (x + 1) (nI q)
  simp only [f_X8_writesBid, lt_]
  generalize f_X8_writesNumber (upd li x 32) (x + 1) (nI q) = y10 at h1 ⊢
  have h2 := X8_wN_le (upd y10.2 y10.1 58) (y10.1 + 1) (f_X8_of nw y (5 + q))
  generalize f_X8_writesNumber (upd y10.2 y10.1 58) (y10.1 + 1) (f_X8_of nw y (5 + q)) = y31 at h2 ⊢
  simp only [f_X8_writesBid_j62, f_X8_writesBid_j87]
  split <;> split <;> (dsimp only; omega)
def f_X8_renderSite_j121  (s0_121 : Nat) (lin0_121 : (Nat → Int32)) (thr0_121 : Int32) : Sum (Nat × (Nat → Int32) × Nat × Int32) (Nat × (Nat → Int32) × Int32) := (Sum.inr (s0_121, lin0_121, thr0_121))
def f_X8_renderSite_l94b (nw : (Nat → Int32)) (x : Int32) (k94 : Nat) (v2_94 : Nat) (lin0_94 : (Nat → Int32)) (thr0_94 : Int32) : Sum (Nat × (Nat → Int32) × Nat × Int32) (Nat × (Nat → Int32) × Int32) := (if (f_X8_of nw (x) ((5 + k94))) ≤ 0 then (f_X8_renderSite_j121 (v2_94) (lin0_94) (thr0_94)) else (lt_ (f_X8_writesBid nw lin0_94 (v2_94) (k94) (x)) (fun y114 => (f_X8_renderSite_j121 (y114.1) (y114.2) (thr0_94)))))
def f_X8_renderSite_l94x (nw : (Nat → Int32)) (x : Int32) (v2_94 : Nat) (lin0_94 : (Nat → Int32)) (thr0_94 : Int32) : Nat × (Nat → Int32) × Nat × Int32 := (v2_94, lin0_94, v2_94, thr0_94)
def f_X8_renderSite_l94s (nw : (Nat → Int32)) (x : Int32) (k94 : Nat) (q_ : Nat × (Nat → Int32) × Int32) : Sum (Nat × (Nat → Int32) × Nat × Int32) (Nat × (Nat → Int32) × Int32) := f_X8_renderSite_l94b nw x k94 (q_.1) (q_.2.1) (q_.2.2)
def f_X8_renderSite_l94e (nw : (Nat → Int32)) (x : Int32) (q_ : Nat × (Nat → Int32) × Int32) : Nat × (Nat → Int32) × Nat × Int32 := f_X8_renderSite_l94x nw x (q_.1) (q_.2.1) (q_.2.2)
def f_X8_renderSite_l94 (nw : (Nat → Int32)) (x : Int32) (n94 k94 : Nat) (v2_94 : Nat) (lin0_94 : (Nat → Int32)) (thr0_94 : Int32) : Nat × (Nat → Int32) × Nat × Int32 := lpF (f_X8_renderSite_l94s nw x) (f_X8_renderSite_l94e nw x) n94 k94 (v2_94, lin0_94, thr0_94)
def f_X8_renderSite_j91 (nw : (Nat → Int32)) (x : Int32) (s0_91 : Nat) (lin0_91 : (Nat → Int32)) (thr0_91 : Int32) : Nat × (Nat → Int32) × Nat × Int32 := (f_X8_renderSite_l94 nw x (4) 0 (s0_91) (lin0_91) (thr0_91))
def f_X8_renderSite (nw : (Nat → Int32)) (li : (Nat → Int32)) (ld : Nat) (x : Int32) : Nat × (Nat → Int32) × Nat × Int32 := (if (f_X8_isSite nw (x)) = true then (lt_ (f_X8_writesNumber li (0) ((f_X8_of nw (x) (0)))) (fun y23 => (lt_ (f_X8_writesNumber (upd y23.2 y23.1 45) ((y23.1 + 1)) ((f_X8_of nw (x) (1)))) (fun y41 => (lt_ (f_X8_writesNumber (upd y41.2 y41.1 47) ((y41.1 + 1)) ((f_X8_of nw (x) (2)))) (fun y58 => (if (f_X8_isDone nw (x)) = true then (lt_ (f_X8_writesNumber (upd y58.2 y58.1 61) ((y58.1 + 1)) ((f_X8_of nw (x) (3)))) (fun y84 => (f_X8_renderSite_j91 nw x (y84.1) (y84.2) ((gThr (f_X8_isSite nw (x))))))) else (f_X8_renderSite_j91 nw x (y58.1) (y58.2) ((gThr (f_X8_isSite nw (x)))))))))))) else (0, li, ld, (gThr (f_X8_isSite nw (x)))))
set_option maxHeartbeats 4000000 in
set_option maxRecDepth 100000 in
theorem c_X8_renderSite (l : Launch) (D : va_G) (C : Nat → ClassId) (b : Nat → Nat) (M : MS) (x : Int32) (sz : Nat) (hM : MSafe M) : Met l yX8_renderSite wsX8_renderSite ({ frames := 4, cells := 0, slots := 0, locals := 89 } : Room) (rwP [.ref (b 0), .int x] D C (mcells C b M) sz) (rwO (some (.int (nI ((f_X8_renderSite (mNow M) (mLin M) (mLnd M) x).1)))) D (mcells C b (mkM (mNow M) (mBef M) (mSav M) (mHis M) (mIsS M) (mRem M) (mErA M) (mFaA M) (mTxt M) (mTyp M) ((f_X8_renderSite (mNow M) (mLin M) (mLnd M) x).2.1) ((f_X8_renderSite (mNow M) (mLin M) (mLnd M) x).2.2.1) ((f_X8_renderSite (mNow M) (mLin M) (mLnd M) x).2.2.2) (mFar M) (mGrp M) (mSiz M) (mPla M) (mWro M) (mTol M) (mNum M))) (va_A (mcells C b M) sz)) 0 0 (va_A (mcells C b M) sz) := by
  refine Met.ofW (cc := cX8_renderSite) (maxL := 4) (ret := (some .int)) (by decide) rfl ?_
  intro p e s m args below meth c s₁ B hml hv
  obtain ⟨rfl, hsz, hP, hK, hD0, hE⟩ := hv
  have hx := B.exec
  have hb := B.bytes
  have hr := B.returns
  have hts := atoms_spec (ws := wsX8_renderSite) B.pre
  have hown : s.vm.findClass RX8 = some m.cls := findClass_of_methodNamed B.named
  have hlocks := B.notSynchronized
  subst hsz
  have hD := hD0.self (sz := s.heap.size)
  generalize hAe : va_A (mcells C b M) s.heap.size = A at hD ⊢
  have hA : ∀ q : Nat, s.heap.size ≤ q → A q := fun q h => by rw [← hAe]; exact Or.inr h
  have hS0 : va_S A s.heap s.heap [] := va_S.rf
  have hP : va_P D vwCl (mcells C b M) s.heap := hP
  have hS := hS0
  obtain ⟨⟨hS2, hS12⟩, ⟨hP2, hP4⟩, hLH, hFE⟩ := id hM
  have hinX8 : ∀ w ∈ u_ws RX8 TX8 20, w ∈ wsX8_renderSite := by decide +kernel
  have hl := lv_entry ([.ref (b 0), .int x]) (n := 4) (Nat.le_of_ble_eq_true rfl)
  rw [lg_entry_eq]
  generalize (lg_sl ([.ref (b 0), .int x]) ++ List.replicate (4 - (lg_sl ([.ref (b 0), .int x])).length) Slot.unset).toArray = ls at hl ⊢
  have hl : lv_has ls 4 [(0, .ref (b 0)), (1, .int x)] := hl
  obtain ⟨z, hz⟩ : ∃ z, z = f_X8_renderSite (mNow M) (mLin M) (mLnd M) x := ⟨_, rfl⟩
  rw [← hz]
  have J94 : ∀ (n94 k94 : Nat) (v2_94 : Nat) (lin0_94 : (Nat → Int32)) (thr0_94 : Int32) (H : Heap) (locs : List Loc) (ls : Array Slot), k94 + n94 = 4 → z = f_X8_renderSite_l94 (mNow M) x n94 k94 v2_94 lin0_94 thr0_94 → (v2_94 ≤ 11 + 8 * k94) → va_P D vwCl (mcells C b (mkM (mNow M) (mBef M) (mSav M) (mHis M) (mIsS M) (mRem M) (mErA M) (mFaA M) (mTxt M) (mTyp M) lin0_94 (mLnd M) thr0_94 (mFar M) (mGrp M) (mSiz M) (mPla M) (mWro M) (mTol M) (mNum M))) H → va_D A (mcells C b (mkM (mNow M) (mBef M) (mSav M) (mHis M) (mIsS M) (mRem M) (mErA M) (mFaA M) (mTxt M) (mTyp M) lin0_94 (mLnd M) thr0_94 (mFar M) (mGrp M) (mSiz M) (mPla M) (mWro M) (mTol M) (mNum M))) → va_S A s.heap H locs → lv_has ls 4 [(0, .ref (b 0)), (1, .int x), (2, .int (nI v2_94)), (3, .int (nI k94))] → W p l e ({ frames := 4, cells := 0, slots := 0, locals := 89 } : Room) s m ([.ref (b 0), .int x] : List Value).toArray below meth c H locs 0 0 (MQ below (rwO (some (.int (nI z.1))) D (mcells C b (mkM (mNow M) (mBef M) (mSav M) (mHis M) (mIsS M) (mRem M) (mErA M) (mFaA M) (mTxt M) (mTyp M) z.2.1 z.2.2.1 z.2.2.2 (mFar M) (mGrp M) (mSiz M) (mPla M) (mWro M) (mTol M) (mNum M))) A) ([.ref (b 0), .int x] : List Value).toArray s 0 0 A) (F0 m 94 ls []) := by
    intro n94
    induction n94 with
    | zero =>
      intro k94 v2_94 lin0_94 thr0_94 H locs ls hk94 hz iv94_0 hP hD hS hl
      have hz : z = f_X8_renderSite_l94x (mNow M) x v2_94 lin0_94 thr0_94 := hz
      refine lv_iload_n hx hb dX8_renderSite_94 rfl (lv_at hl 3 rfl) ?_
      refine lv_iconst (v := 4) hx hb dX8_renderSite_95 (by decide) ?_
      refine lv_icmp_ge (tgt := 128) hx hb dX8_renderSite_96 (by decide) (fun c_96 => ?_) (fun c_96 => absurd (by have e : (4 : Int32) = nI 4 := (by decide +kernel); rw [e]; exact nI_le (by omega) (by omega)) c_96)
      refine lv_aload_n hx hb dX8_renderSite_128 rfl (lv_at hl 0 rfl) ?_
      refine lv_iload_n hx hb dX8_renderSite_129 rfl (lv_at hl 2 rfl) ?_
      refine va_put (D := D) (ci := 9) (v := .int (nI v2_94)) (ty := .int) (C := RX8) (T := TX8) (N := 20) hx hb hts hinX8 tyX8 tyX8_ok nmX8 hown hK hP hD hS 0 rfl rfl 11 (by decide) (hts (.fieldLink RX8 201 "BridgeAuctionModel" "lined" "I") (by decide +kernel)) (fun _ h9 => h9) rfl (by decide +kernel) rfl rfl (Nat.le_of_ble_eq_true rfl) dX8_renderSite_130 (fun H locs hP hD hS => ?_)
      have hP : va_P D vwCl (mcells C b (mkM (mNow M) (mBef M) (mSav M) (mHis M) (mIsS M) (mRem M) (mErA M) (mFaA M) (mTxt M) (mTyp M) lin0_94 v2_94 thr0_94 (mFar M) (mGrp M) (mSiz M) (mPla M) (mWro M) (mTol M) (mNum M))) H := hP
      have hD : va_D A (mcells C b (mkM (mNow M) (mBef M) (mSav M) (mHis M) (mIsS M) (mRem M) (mErA M) (mFaA M) (mTxt M) (mTyp M) lin0_94 v2_94 thr0_94 (mFar M) (mGrp M) (mSiz M) (mPla M) (mWro M) (mTol M) (mNum M))) := hD
      refine lv_iload_n hx hb dX8_renderSite_133 rfl (lv_at hl 2 rfl) ?_
      have hz : z = (v2_94, lin0_94, v2_94, thr0_94) := hz
      rw [hz]
      exact rw_ret hx hb hr hP hS rfl dX8_renderSite_134 hlocks
    | succ n94 ih94 =>
      intro k94 v2_94 lin0_94 thr0_94 H locs ls hk94 hz94 iv94_0 hP hD hS hl
      obtain ⟨z94, hz⟩ : ∃ zz_, zz_ = f_X8_renderSite_l94b (mNow M) x k94 v2_94 lin0_94 thr0_94 := ⟨_, rfl⟩
      have hq94 : z = sE id (fun q_ => lpF (f_X8_renderSite_l94s (mNow M) x) (f_X8_renderSite_l94e (mNow M) x) n94 (k94 + 1) q_) z94 := by rw [hz94, hz]; rfl
      have J121 : ∀ (s0_121 : Nat) (lin0_121 : (Nat → Int32)) (thr0_121 : Int32)  (H : Heap) (locs : List Loc) (ls : Array Slot), z94 = f_X8_renderSite_j121 s0_121 lin0_121 thr0_121 → (s0_121 ≤ 19 + 8 * k94) → va_P D vwCl (mcells C b (mkM (mNow M) (mBef M) (mSav M) (mHis M) (mIsS M) (mRem M) (mErA M) (mFaA M) (mTxt M) (mTyp M) lin0_121 (mLnd M) thr0_121 (mFar M) (mGrp M) (mSiz M) (mPla M) (mWro M) (mTol M) (mNum M))) H → va_D A (mcells C b (mkM (mNow M) (mBef M) (mSav M) (mHis M) (mIsS M) (mRem M) (mErA M) (mFaA M) (mTxt M) (mTyp M) lin0_121 (mLnd M) thr0_121 (mFar M) (mGrp M) (mSiz M) (mPla M) (mWro M) (mTol M) (mNum M))) → va_S A s.heap H locs → lv_has ls 4 [(0, .ref (b 0)), (1, .int x), (3, .int (nI k94))] → W p l e ({ frames := 4, cells := 0, slots := 0, locals := 89 } : Room) s m ([.ref (b 0), .int x] : List Value).toArray below meth c H locs 0 0 (MQ below (rwO (some (.int (nI z.1))) D (mcells C b (mkM (mNow M) (mBef M) (mSav M) (mHis M) (mIsS M) (mRem M) (mErA M) (mFaA M) (mTxt M) (mTyp M) z.2.1 z.2.2.1 z.2.2.2 (mFar M) (mGrp M) (mSiz M) (mPla M) (mWro M) (mTol M) (mNum M))) A) ([.ref (b 0), .int x] : List Value).toArray s 0 0 A) (F0 m 121 ls [.int (nI s0_121)]) := by
        intro s0_121 lin0_121 thr0_121 H locs ls hz iv121_0 hP hD hS hl
        refine lv_istore_n (lv' := [(2, .int (nI s0_121)), (0, .ref (b 0)), (1, .int x), (3, .int (nI k94))]) hx hb dX8_renderSite_121 rfl hl (by decide) rfl (fun ls hl => ?_)
        refine lv_iinc (v := (nI (k94 + 1))) (lv' := [(3, .int (nI (k94 + 1))), (2, .int (nI s0_121)), (0, .ref (b 0)), (1, .int x)]) hx hb dX8_renderSite_122 hl (k := 3) rfl (by exact nI_1 _) (by decide) rfl (fun ls hl => ?_)
        refine lv_goto (tgt := 94) hx hb dX8_renderSite_125 (by decide) ?_
        exact ih94 (k94 + 1) (s0_121) (lin0_121) (thr0_121) _ _ ls (by omega) (by rw [hq94, hz]; rfl) (by omega) hP hD hS (lv_sub hl [2, 3, 1, 0] rfl)
      refine lv_iload_n hx hb dX8_renderSite_94 rfl (lv_at hl 3 rfl) ?_
      refine lv_iconst (v := 4) hx hb dX8_renderSite_95 (by decide) ?_
      refine lv_icmp_ge (tgt := 128) hx hb dX8_renderSite_96 (by decide) (fun c_96 => absurd c_96 (by have e : (4 : Int32) = nI 4 := (by decide +kernel); rw [e]; exact nI_ge (by omega) (by omega))) (fun c_96 => ?_)
      refine lv_aload_n hx hb dX8_renderSite_99 rfl (lv_at hl 0 rfl) ?_
      refine lv_iload_n hx hb dX8_renderSite_100 rfl (lv_at hl 1 rfl) ?_
      refine lv_iconst (v := 5) hx hb dX8_renderSite_101 (by decide) ?_
      refine lv_iload_n hx hb dX8_renderSite_102 rfl (lv_at hl 3 rfl) ?_
      refine topN2 (k := 5) (by decide +kernel) ?_
      refine addN hx hb dX8_renderSite_103 ?_
      refine callRo (va_runV (As := [.int x, .int (nI (5 + k94))]) (rest := []) ⟨hx, hb, hml, hown, hts⟩ (c_X8_of l D C b (mkM (mNow M) (mBef M) (mSav M) (mHis M) (mIsS M) (mRem M) (mErA M) (mFaA M) (mTxt M) (mTyp M) lin0_94 (mLnd M) thr0_94 (mFar M) (mGrp M) (mSiz M) (mPla M) (mWro M) (mTol M) (mNum M)) (x) ((5 + k94)) (MSafe_of hM rfl) (by omega)) (cwV 2 hts gX8_renderSite_X8_of rfl rfl rfl (by decide +kernel) ⟨Nat.le_of_ble_eq_true rfl, Nat.le_of_ble_eq_true rfl⟩) (roP_v hP hK hE (va_recv hK hP (ci := 9) (q0 := 0) rfl rfl)) rfl rfl hl.1 rfl (lv_room (Nat.le_of_ble_eq_true rfl)) dX8_renderSite_104 ⟨Nat.le_refl _, Nat.le_refl _⟩) ?_
      refine topI (y := (f_X8_of (mNow M) (x) ((5 + k94)))) rfl ?_
      refine lv_if_le (tgt := 120) hx hb dX8_renderSite_107 (by decide) (fun c_107 => ?_) (fun c_107 => ?_)
      · have hz := hz.trans (if_pos c_107)
        refine lv_iload_n hx hb dX8_renderSite_120 rfl (lv_at hl 2 rfl) ?_
        exact J121 (v2_94) (lin0_94) (thr0_94) _ _ ls hz (by omega) hP hD hS (lv_sub hl [0, 1, 3] rfl)
      · have hz := hz.trans (if_neg c_107)
        refine lv_aload_n hx hb dX8_renderSite_110 rfl (lv_at hl 0 rfl) ?_
        refine lv_iload_n hx hb dX8_renderSite_111 rfl (lv_at hl 2 rfl) ?_
        refine lv_iload_n hx hb dX8_renderSite_112 rfl (lv_at hl 3 rfl) ?_
        refine lv_iload_n hx hb dX8_renderSite_113 rfl (lv_at hl 1 rfl) ?_
        have hFc := va_free (wc := (mcells C b (mkM (mNow M) (mBef M) (mSav M) (mHis M) (mIsS M) (mRem M) (mErA M) (mFaA M) (mTxt M) (mTyp M) lin0_94 (mLnd M) thr0_94 (mFar M) (mGrp M) (mSiz M) (mPla M) (mWro M) (mTol M) (mNum M)))) hD hS hA [0, 1, 2, 3, 4, 5, 6, 7, 8, 9] rfl
        refine callRw (va_runV (As := [.int (nI v2_94), .int (nI k94), .int x]) (rest := []) ⟨hx, hb, hml, hown, hts⟩ (c_X8_writesBid l D C b (mkM (mNow M) (mBef M) (mSav M) (mHis M) (mIsS M) (mRem M) (mErA M) (mFaA M) (mTxt M) (mTyp M) lin0_94 (mLnd M) thr0_94 (mFar M) (mGrp M) (mSiz M) (mPla M) (mWro M) (mTol M) (mNum M)) (v2_94) (k94) (x) _ (MSafe_of hM rfl) (by omega) (by omega)) (cwV 3 hts gX8_renderSite_X8_writesBid rfl rfl rfl (by decide +kernel) ⟨Nat.le_of_ble_eq_true rfl, Nat.le_of_ble_eq_true rfl⟩) (rwP_v hP hK hE hD (va_recv hK hP (ci := 9) (q0 := 0) rfl rfl)) rfl rfl hl.1 rfl (lv_room (Nat.le_of_ble_eq_true rfl)) dX8_renderSite_114 ⟨Nat.le_refl _, Nat.le_refl _⟩) hS hFc (fun H1 locs hPn hk hS => ?_)
        obtain ⟨y114, hy114⟩ : ∃ y_, y_ = (f_X8_writesBid (mNow M) lin0_94 (v2_94) (k94) (x)) := ⟨_, rfl⟩
        have hPn : va_P D vwCl (mcells C b (mkM (mNow M) (mBef M) (mSav M) (mHis M) (mIsS M) (mRem M) (mErA M) (mFaA M) (mTxt M) (mTyp M) y114.2 (mLnd M) thr0_94 (mFar M) (mGrp M) (mSiz M) (mPla M) (mWro M) (mTol M) (mNum M))) H1 := by rw [hy114]; exact hPn
        refine topI (y := nI y114.1) (congrArg nI (congrArg Prod.fst hy114).symm) ?_
        have hz := lt_eq hz hy114
        have hP : va_P D vwCl (mcells C b (mkM (mNow M) (mBef M) (mSav M) (mHis M) (mIsS M) (mRem M) (mErA M) (mFaA M) (mTxt M) (mTyp M) y114.2 (mLnd M) thr0_94 (mFar M) (mGrp M) (mSiz M) (mPla M) (mWro M) (mTol M) (mNum M))) H1 := hPn
        have hD : va_D A (mcells C b (mkM (mNow M) (mBef M) (mSav M) (mHis M) (mIsS M) (mRem M) (mErA M) (mFaA M) (mTxt M) (mTyp M) y114.2 (mLnd M) thr0_94 (mFar M) (mGrp M) (mSiz M) (mPla M) (mWro M) (mTol M) (mNum M))) := adr_D hD rfl
        generalize H1 = H at hP hS ⊢
        have b114 : y114.1 ≤ _ := Nat.le_trans (Nat.le_of_eq (congrArg Prod.fst hy114)) (X8_wB_le _ _ _ _ _)
        refine lv_goto (tgt := 121) hx hb dX8_renderSite_117 (by decide) ?_
        exact J121 (y114.1) (y114.2) (thr0_94) _ _ ls hz (by omega) hP hD hS (lv_sub hl [0, 1, 3] rfl)
  have J91 : ∀ (s0_91 : Nat) (lin0_91 : (Nat → Int32)) (thr0_91 : Int32)  (H : Heap) (locs : List Loc) (ls : Array Slot), z = f_X8_renderSite_j91 (mNow M) x s0_91 lin0_91 thr0_91 → (s0_91 ≤ 11) → va_P D vwCl (mcells C b (mkM (mNow M) (mBef M) (mSav M) (mHis M) (mIsS M) (mRem M) (mErA M) (mFaA M) (mTxt M) (mTyp M) lin0_91 (mLnd M) thr0_91 (mFar M) (mGrp M) (mSiz M) (mPla M) (mWro M) (mTol M) (mNum M))) H → va_D A (mcells C b (mkM (mNow M) (mBef M) (mSav M) (mHis M) (mIsS M) (mRem M) (mErA M) (mFaA M) (mTxt M) (mTyp M) lin0_91 (mLnd M) thr0_91 (mFar M) (mGrp M) (mSiz M) (mPla M) (mWro M) (mTol M) (mNum M))) → va_S A s.heap H locs → lv_has ls 4 [(0, .ref (b 0)), (1, .int x)] → W p l e ({ frames := 4, cells := 0, slots := 0, locals := 89 } : Room) s m ([.ref (b 0), .int x] : List Value).toArray below meth c H locs 0 0 (MQ below (rwO (some (.int (nI z.1))) D (mcells C b (mkM (mNow M) (mBef M) (mSav M) (mHis M) (mIsS M) (mRem M) (mErA M) (mFaA M) (mTxt M) (mTyp M) z.2.1 z.2.2.1 z.2.2.2 (mFar M) (mGrp M) (mSiz M) (mPla M) (mWro M) (mTol M) (mNum M))) A) ([.ref (b 0), .int x] : List Value).toArray s 0 0 A) (F0 m 91 ls [.int (nI s0_91)]) := by
    intro s0_91 lin0_91 thr0_91 H locs ls hz iv91_0 hP hD hS hl
    refine lv_istore_n (lv' := [(2, .int (nI s0_91)), (0, .ref (b 0)), (1, .int x)]) hx hb dX8_renderSite_91 rfl hl (by decide) rfl (fun ls hl => ?_)
    refine lv_iconst (v := 0) hx hb dX8_renderSite_92 (by decide) ?_
    refine lv_istore_n (lv' := [(3, .int 0), (2, .int (nI s0_91)), (0, .ref (b 0)), (1, .int x)]) hx hb dX8_renderSite_93 rfl hl (by decide) rfl (fun ls hl => ?_)
    exact J94 (4) 0 (s0_91) (lin0_91) (thr0_91) _ _ ls (by omega) hz (by omega) hP hD hS (lv_sub hl [2, 3, 1, 0] rfl)
  refine lv_aload_n hx hb dX8_renderSite_0 rfl (lv_at hl 0 rfl) ?_
  refine lv_aload_n hx hb dX8_renderSite_1 rfl (lv_at hl 0 rfl) ?_
  refine lv_iload_n hx hb dX8_renderSite_2 rfl (lv_at hl 1 rfl) ?_
  refine callRo (va_runV (As := [.int x]) (rest := [.ref (b 0)]) ⟨hx, hb, hml, hown, hts⟩ (c_X8_isSite l D C b M (x) hM) (cwV 1 hts gX8_renderSite_X8_isSite rfl rfl rfl (by decide +kernel) ⟨Nat.le_of_ble_eq_true rfl, Nat.le_of_ble_eq_true rfl⟩) (roP_v hP hK hE (va_recv hK hP (ci := 9) (q0 := 0) rfl rfl)) rfl rfl hl.1 rfl (lv_room (Nat.le_of_ble_eq_true rfl)) dX8_renderSite_3 ⟨Nat.le_refl _, Nat.le_refl _⟩) ?_
  have hFc := va_free (wc := (mcells C b M)) hD hS hA [0, 1, 2, 3, 4, 5, 6, 7, 8, 9] rfl
  refine callRw (va_runV (As := [.int (bI (f_X8_isSite (mNow M) (x)))]) (rest := []) ⟨hx, hb, hml, hown, hts⟩ (c_X8_goes_ l D C b M ((f_X8_isSite (mNow M) (x))) _) (cwV 1 hts gX8_renderSite_X8_goes rfl rfl rfl (by decide +kernel) ⟨Nat.le_of_ble_eq_true rfl, Nat.le_of_ble_eq_true rfl⟩) (rwP_v hP hK hE hD (va_recv hK hP (ci := 9) (q0 := 0) rfl rfl)) rfl rfl hl.1 rfl (lv_room (Nat.le_of_ble_eq_true rfl)) dX8_renderSite_6 ⟨Nat.le_refl _, Nat.le_refl _⟩) hS hFc (fun H1 locs hPn hk hS => ?_)
  have hP : va_P D vwCl (mcells C b (mkM (mNow M) (mBef M) (mSav M) (mHis M) (mIsS M) (mRem M) (mErA M) (mFaA M) (mTxt M) (mTyp M) (mLin M) (mLnd M) (gThr (f_X8_isSite (mNow M) (x))) (mFar M) (mGrp M) (mSiz M) (mPla M) (mWro M) (mTol M) (mNum M))) H1 := hPn
  have hD : va_D A (mcells C b (mkM (mNow M) (mBef M) (mSav M) (mHis M) (mIsS M) (mRem M) (mErA M) (mFaA M) (mTxt M) (mTyp M) (mLin M) (mLnd M) (gThr (f_X8_isSite (mNow M) (x))) (mFar M) (mGrp M) (mSiz M) (mPla M) (mWro M) (mTol M) (mNum M))) := adr_D hD rfl
  generalize H1 = H at hP hS ⊢
  refine topI (y := (bI (f_X8_isSite (mNow M) (x)))) rfl ?_
  refine bif_ne (tgt := 14) hx hb dX8_renderSite_9 (by decide) (fun c_9 => ?_) (fun c_9 => ?_)
  · have hz := hz.trans (ifB_t c_9)
    refine lv_aload_n hx hb dX8_renderSite_14 rfl (lv_at hl 0 rfl) ?_
    refine lv_aload_n hx hb dX8_renderSite_15 rfl (lv_at hl 0 rfl) ?_
    refine lv_iconst (v := 0) hx hb dX8_renderSite_16 (by decide) ?_
    refine lv_aload_n hx hb dX8_renderSite_17 rfl (lv_at hl 0 rfl) ?_
    refine lv_iload_n hx hb dX8_renderSite_18 rfl (lv_at hl 1 rfl) ?_
    refine lv_iconst (v := 0) hx hb dX8_renderSite_19 (by decide) ?_
    refine topN (k := 0) (by decide +kernel) ?_
    refine callRo (va_runV (As := [.int x, .int (nI 0)]) (rest := [.int 0, .ref (b 0), .ref (b 0)]) ⟨hx, hb, hml, hown, hts⟩ (c_X8_of l D C b (mkM (mNow M) (mBef M) (mSav M) (mHis M) (mIsS M) (mRem M) (mErA M) (mFaA M) (mTxt M) (mTyp M) (mLin M) (mLnd M) (gThr (f_X8_isSite (mNow M) (x))) (mFar M) (mGrp M) (mSiz M) (mPla M) (mWro M) (mTol M) (mNum M)) (x) (0) (MSafe_of hM rfl) (by omega)) (cwV 2 hts gX8_renderSite_X8_of rfl rfl rfl (by decide +kernel) ⟨Nat.le_of_ble_eq_true rfl, Nat.le_of_ble_eq_true rfl⟩) (roP_v hP hK hE (va_recv hK hP (ci := 9) (q0 := 0) rfl rfl)) rfl rfl hl.1 rfl (lv_room (Nat.le_of_ble_eq_true rfl)) dX8_renderSite_20 ⟨Nat.le_refl _, Nat.le_refl _⟩) ?_
    refine topI (y := (f_X8_of (mNow M) (x) (0))) rfl ?_
    refine topN2 (k := 0) (by decide +kernel) ?_
    have hFc := va_free (wc := (mcells C b (mkM (mNow M) (mBef M) (mSav M) (mHis M) (mIsS M) (mRem M) (mErA M) (mFaA M) (mTxt M) (mTyp M) (mLin M) (mLnd M) (gThr (f_X8_isSite (mNow M) (x))) (mFar M) (mGrp M) (mSiz M) (mPla M) (mWro M) (mTol M) (mNum M)))) hD hS hA [0, 1, 2, 3, 4, 5, 6, 7, 8, 9] rfl
    refine callRw (va_runV (As := [.int (nI 0), .int (f_X8_of (mNow M) (x) (0))]) (rest := [.ref (b 0)]) ⟨hx, hb, hml, hown, hts⟩ (c_X8_writesNumber l D C b (mkM (mNow M) (mBef M) (mSav M) (mHis M) (mIsS M) (mRem M) (mErA M) (mFaA M) (mTxt M) (mTyp M) (mLin M) (mLnd M) (gThr (f_X8_isSite (mNow M) (x))) (mFar M) (mGrp M) (mSiz M) (mPla M) (mWro M) (mTol M) (mNum M)) (0) ((f_X8_of (mNow M) (x) (0))) _ (by omega)) (cwV 2 hts gX8_renderSite_X8_writesNumber rfl rfl rfl (by decide +kernel) ⟨Nat.le_of_ble_eq_true rfl, Nat.le_of_ble_eq_true rfl⟩) (rwP_v hP hK hE hD (va_recv hK hP (ci := 9) (q0 := 0) rfl rfl)) rfl rfl hl.1 rfl (lv_room (Nat.le_of_ble_eq_true rfl)) dX8_renderSite_23 ⟨Nat.le_refl _, Nat.le_refl _⟩) hS hFc (fun H1 locs hPn hk hS => ?_)
    obtain ⟨y23, hy23⟩ : ∃ y_, y_ = (f_X8_writesNumber (mLin M) (0) ((f_X8_of (mNow M) (x) (0)))) := ⟨_, rfl⟩
    have hPn : va_P D vwCl (mcells C b (mkM (mNow M) (mBef M) (mSav M) (mHis M) (mIsS M) (mRem M) (mErA M) (mFaA M) (mTxt M) (mTyp M) y23.2 (mLnd M) (gThr (f_X8_isSite (mNow M) (x))) (mFar M) (mGrp M) (mSiz M) (mPla M) (mWro M) (mTol M) (mNum M))) H1 := by rw [hy23]; exact hPn
    refine topI (y := nI y23.1) (congrArg nI (congrArg Prod.fst hy23).symm) ?_
    have hz := lt_eq hz hy23
    have hP : va_P D vwCl (mcells C b (mkM (mNow M) (mBef M) (mSav M) (mHis M) (mIsS M) (mRem M) (mErA M) (mFaA M) (mTxt M) (mTyp M) y23.2 (mLnd M) (gThr (f_X8_isSite (mNow M) (x))) (mFar M) (mGrp M) (mSiz M) (mPla M) (mWro M) (mTol M) (mNum M))) H1 := hPn
    have hD : va_D A (mcells C b (mkM (mNow M) (mBef M) (mSav M) (mHis M) (mIsS M) (mRem M) (mErA M) (mFaA M) (mTxt M) (mTyp M) y23.2 (mLnd M) (gThr (f_X8_isSite (mNow M) (x))) (mFar M) (mGrp M) (mSiz M) (mPla M) (mWro M) (mTol M) (mNum M))) := adr_D hD rfl
    generalize H1 = H at hP hS ⊢
    have b23 : y23.1 ≤ _ := Nat.le_trans (Nat.le_of_eq (congrArg Prod.fst hy23)) (X8_wN_le _ _ _)
    refine lv_bipush (v := 45) hx hb dX8_renderSite_26 (by decide +kernel) ?_
    have hFc := va_free (wc := (mcells C b (mkM (mNow M) (mBef M) (mSav M) (mHis M) (mIsS M) (mRem M) (mErA M) (mFaA M) (mTxt M) (mTyp M) y23.2 (mLnd M) (gThr (f_X8_isSite (mNow M) (x))) (mFar M) (mGrp M) (mSiz M) (mPla M) (mWro M) (mTol M) (mNum M)))) hD hS hA [0, 1, 2, 3, 4, 5, 6, 7, 8, 9] rfl
    refine callRw (va_runV (As := [.int (nI y23.1), .int 45]) (rest := []) ⟨hx, hb, hml, hown, hts⟩ (c_X8_put_ l D C b (mkM (mNow M) (mBef M) (mSav M) (mHis M) (mIsS M) (mRem M) (mErA M) (mFaA M) (mTxt M) (mTyp M) y23.2 (mLnd M) (gThr (f_X8_isSite (mNow M) (x))) (mFar M) (mGrp M) (mSiz M) (mPla M) (mWro M) (mTol M) (mNum M)) (y23.1) (45) _ (by omega)) (cwV 2 hts gX8_renderSite_X8_put rfl rfl rfl (by decide +kernel) ⟨Nat.le_of_ble_eq_true rfl, Nat.le_of_ble_eq_true rfl⟩) (rwP_v hP hK hE hD (va_recv hK hP (ci := 9) (q0 := 0) rfl rfl)) rfl rfl hl.1 rfl (lv_room (Nat.le_of_ble_eq_true rfl)) dX8_renderSite_28 ⟨Nat.le_refl _, Nat.le_refl _⟩) hS hFc (fun H1 locs hPn hk hS => ?_)
    have hP : va_P D vwCl (mcells C b (mkM (mNow M) (mBef M) (mSav M) (mHis M) (mIsS M) (mRem M) (mErA M) (mFaA M) (mTxt M) (mTyp M) (upd y23.2 y23.1 45) (mLnd M) (gThr (f_X8_isSite (mNow M) (x))) (mFar M) (mGrp M) (mSiz M) (mPla M) (mWro M) (mTol M) (mNum M))) H1 := hPn
    have hD : va_D A (mcells C b (mkM (mNow M) (mBef M) (mSav M) (mHis M) (mIsS M) (mRem M) (mErA M) (mFaA M) (mTxt M) (mTyp M) (upd y23.2 y23.1 45) (mLnd M) (gThr (f_X8_isSite (mNow M) (x))) (mFar M) (mGrp M) (mSiz M) (mPla M) (mWro M) (mTol M) (mNum M))) := adr_D hD rfl
    generalize H1 = H at hP hS ⊢
    refine topI (y := (nI (y23.1 + 1))) rfl ?_
    refine lv_istore_n (lv' := [(2, .int (nI (y23.1 + 1))), (0, .ref (b 0)), (1, .int x)]) hx hb dX8_renderSite_31 rfl hl (by decide) rfl (fun ls hl => ?_)
    refine lv_aload_n hx hb dX8_renderSite_32 rfl (lv_at hl 1 rfl) ?_
    refine lv_aload_n hx hb dX8_renderSite_33 rfl (lv_at hl 1 rfl) ?_
    refine lv_iload_n hx hb dX8_renderSite_34 rfl (lv_at hl 0 rfl) ?_
    refine lv_aload_n hx hb dX8_renderSite_35 rfl (lv_at hl 1 rfl) ?_
    refine lv_iload_n hx hb dX8_renderSite_36 rfl (lv_at hl 2 rfl) ?_
    refine lv_iconst (v := 1) hx hb dX8_renderSite_37 (by decide) ?_
    refine topN (k := 1) (by decide +kernel) ?_
    refine callRo (va_runV (As := [.int x, .int (nI 1)]) (rest := [.int (nI (y23.1 + 1)), .ref (b 0), .ref (b 0)]) ⟨hx, hb, hml, hown, hts⟩ (c_X8_of l D C b (mkM (mNow M) (mBef M) (mSav M) (mHis M) (mIsS M) (mRem M) (mErA M) (mFaA M) (mTxt M) (mTyp M) (upd y23.2 y23.1 45) (mLnd M) (gThr (f_X8_isSite (mNow M) (x))) (mFar M) (mGrp M) (mSiz M) (mPla M) (mWro M) (mTol M) (mNum M)) (x) (1) (MSafe_of hM rfl) (by omega)) (cwV 2 hts gX8_renderSite_X8_of rfl rfl rfl (by decide +kernel) ⟨Nat.le_of_ble_eq_true rfl, Nat.le_of_ble_eq_true rfl⟩) (roP_v hP hK hE (va_recv hK hP (ci := 9) (q0 := 0) rfl rfl)) rfl rfl hl.1 rfl (lv_room (Nat.le_of_ble_eq_true rfl)) dX8_renderSite_38 ⟨Nat.le_refl _, Nat.le_refl _⟩) ?_
    refine topI (y := (f_X8_of (mNow M) (x) (1))) rfl ?_
    have hFc := va_free (wc := (mcells C b (mkM (mNow M) (mBef M) (mSav M) (mHis M) (mIsS M) (mRem M) (mErA M) (mFaA M) (mTxt M) (mTyp M) (upd y23.2 y23.1 45) (mLnd M) (gThr (f_X8_isSite (mNow M) (x))) (mFar M) (mGrp M) (mSiz M) (mPla M) (mWro M) (mTol M) (mNum M)))) hD hS hA [0, 1, 2, 3, 4, 5, 6, 7, 8, 9] rfl
    refine callRw (va_runV (As := [.int (nI (y23.1 + 1)), .int (f_X8_of (mNow M) (x) (1))]) (rest := [.ref (b 0)]) ⟨hx, hb, hml, hown, hts⟩ (c_X8_writesNumber l D C b (mkM (mNow M) (mBef M) (mSav M) (mHis M) (mIsS M) (mRem M) (mErA M) (mFaA M) (mTxt M) (mTyp M) (upd y23.2 y23.1 45) (mLnd M) (gThr (f_X8_isSite (mNow M) (x))) (mFar M) (mGrp M) (mSiz M) (mPla M) (mWro M) (mTol M) (mNum M)) ((y23.1 + 1)) ((f_X8_of (mNow M) (x) (1))) _ (by omega)) (cwV 2 hts gX8_renderSite_X8_writesNumber rfl rfl rfl (by decide +kernel) ⟨Nat.le_of_ble_eq_true rfl, Nat.le_of_ble_eq_true rfl⟩) (rwP_v hP hK hE hD (va_recv hK hP (ci := 9) (q0 := 0) rfl rfl)) rfl rfl hl.1 rfl (lv_room (Nat.le_of_ble_eq_true rfl)) dX8_renderSite_41 ⟨Nat.le_refl _, Nat.le_refl _⟩) hS hFc (fun H1 locs hPn hk hS => ?_)
    obtain ⟨y41, hy41⟩ : ∃ y_, y_ = (f_X8_writesNumber (upd y23.2 y23.1 45) ((y23.1 + 1)) ((f_X8_of (mNow M) (x) (1)))) := ⟨_, rfl⟩
    have hPn : va_P D vwCl (mcells C b (mkM (mNow M) (mBef M) (mSav M) (mHis M) (mIsS M) (mRem M) (mErA M) (mFaA M) (mTxt M) (mTyp M) y41.2 (mLnd M) (gThr (f_X8_isSite (mNow M) (x))) (mFar M) (mGrp M) (mSiz M) (mPla M) (mWro M) (mTol M) (mNum M))) H1 := by rw [hy41]; exact hPn
    refine topI (y := nI y41.1) (congrArg nI (congrArg Prod.fst hy41).symm) ?_
    have hz := lt_eq hz hy41
    have hP : va_P D vwCl (mcells C b (mkM (mNow M) (mBef M) (mSav M) (mHis M) (mIsS M) (mRem M) (mErA M) (mFaA M) (mTxt M) (mTyp M) y41.2 (mLnd M) (gThr (f_X8_isSite (mNow M) (x))) (mFar M) (mGrp M) (mSiz M) (mPla M) (mWro M) (mTol M) (mNum M))) H1 := hPn
    have hD : va_D A (mcells C b (mkM (mNow M) (mBef M) (mSav M) (mHis M) (mIsS M) (mRem M) (mErA M) (mFaA M) (mTxt M) (mTyp M) y41.2 (mLnd M) (gThr (f_X8_isSite (mNow M) (x))) (mFar M) (mGrp M) (mSiz M) (mPla M) (mWro M) (mTol M) (mNum M))) := adr_D hD rfl
    generalize H1 = H at hP hS ⊢
    have b41 : y41.1 ≤ _ := Nat.le_trans (Nat.le_of_eq (congrArg Prod.fst hy41)) (X8_wN_le _ _ _)
    refine lv_bipush (v := 47) hx hb dX8_renderSite_44 (by decide +kernel) ?_
    have hFc := va_free (wc := (mcells C b (mkM (mNow M) (mBef M) (mSav M) (mHis M) (mIsS M) (mRem M) (mErA M) (mFaA M) (mTxt M) (mTyp M) y41.2 (mLnd M) (gThr (f_X8_isSite (mNow M) (x))) (mFar M) (mGrp M) (mSiz M) (mPla M) (mWro M) (mTol M) (mNum M)))) hD hS hA [0, 1, 2, 3, 4, 5, 6, 7, 8, 9] rfl
    refine callRw (va_runV (As := [.int (nI y41.1), .int 47]) (rest := []) ⟨hx, hb, hml, hown, hts⟩ (c_X8_put_ l D C b (mkM (mNow M) (mBef M) (mSav M) (mHis M) (mIsS M) (mRem M) (mErA M) (mFaA M) (mTxt M) (mTyp M) y41.2 (mLnd M) (gThr (f_X8_isSite (mNow M) (x))) (mFar M) (mGrp M) (mSiz M) (mPla M) (mWro M) (mTol M) (mNum M)) (y41.1) (47) _ (by omega)) (cwV 2 hts gX8_renderSite_X8_put rfl rfl rfl (by decide +kernel) ⟨Nat.le_of_ble_eq_true rfl, Nat.le_of_ble_eq_true rfl⟩) (rwP_v hP hK hE hD (va_recv hK hP (ci := 9) (q0 := 0) rfl rfl)) rfl rfl hl.1 rfl (lv_room (Nat.le_of_ble_eq_true rfl)) dX8_renderSite_46 ⟨Nat.le_refl _, Nat.le_refl _⟩) hS hFc (fun H1 locs hPn hk hS => ?_)
    have hP : va_P D vwCl (mcells C b (mkM (mNow M) (mBef M) (mSav M) (mHis M) (mIsS M) (mRem M) (mErA M) (mFaA M) (mTxt M) (mTyp M) (upd y41.2 y41.1 47) (mLnd M) (gThr (f_X8_isSite (mNow M) (x))) (mFar M) (mGrp M) (mSiz M) (mPla M) (mWro M) (mTol M) (mNum M))) H1 := hPn
    have hD : va_D A (mcells C b (mkM (mNow M) (mBef M) (mSav M) (mHis M) (mIsS M) (mRem M) (mErA M) (mFaA M) (mTxt M) (mTyp M) (upd y41.2 y41.1 47) (mLnd M) (gThr (f_X8_isSite (mNow M) (x))) (mFar M) (mGrp M) (mSiz M) (mPla M) (mWro M) (mTol M) (mNum M))) := adr_D hD rfl
    generalize H1 = H at hP hS ⊢
    refine topI (y := (nI (y41.1 + 1))) rfl ?_
    refine lv_istore_n (lv' := [(2, .int (nI (y41.1 + 1))), (0, .ref (b 0)), (1, .int x)]) hx hb dX8_renderSite_49 rfl hl (by decide) rfl (fun ls hl => ?_)
    refine lv_aload_n hx hb dX8_renderSite_50 rfl (lv_at hl 1 rfl) ?_
    refine lv_iload_n hx hb dX8_renderSite_51 rfl (lv_at hl 0 rfl) ?_
    refine lv_aload_n hx hb dX8_renderSite_52 rfl (lv_at hl 1 rfl) ?_
    refine lv_iload_n hx hb dX8_renderSite_53 rfl (lv_at hl 2 rfl) ?_
    refine lv_iconst (v := 2) hx hb dX8_renderSite_54 (by decide) ?_
    refine topN (k := 2) (by decide +kernel) ?_
    refine callRo (va_runV (As := [.int x, .int (nI 2)]) (rest := [.int (nI (y41.1 + 1)), .ref (b 0)]) ⟨hx, hb, hml, hown, hts⟩ (c_X8_of l D C b (mkM (mNow M) (mBef M) (mSav M) (mHis M) (mIsS M) (mRem M) (mErA M) (mFaA M) (mTxt M) (mTyp M) (upd y41.2 y41.1 47) (mLnd M) (gThr (f_X8_isSite (mNow M) (x))) (mFar M) (mGrp M) (mSiz M) (mPla M) (mWro M) (mTol M) (mNum M)) (x) (2) (MSafe_of hM rfl) (by omega)) (cwV 2 hts gX8_renderSite_X8_of rfl rfl rfl (by decide +kernel) ⟨Nat.le_of_ble_eq_true rfl, Nat.le_of_ble_eq_true rfl⟩) (roP_v hP hK hE (va_recv hK hP (ci := 9) (q0 := 0) rfl rfl)) rfl rfl hl.1 rfl (lv_room (Nat.le_of_ble_eq_true rfl)) dX8_renderSite_55 ⟨Nat.le_refl _, Nat.le_refl _⟩) ?_
    refine topI (y := (f_X8_of (mNow M) (x) (2))) rfl ?_
    have hFc := va_free (wc := (mcells C b (mkM (mNow M) (mBef M) (mSav M) (mHis M) (mIsS M) (mRem M) (mErA M) (mFaA M) (mTxt M) (mTyp M) (upd y41.2 y41.1 47) (mLnd M) (gThr (f_X8_isSite (mNow M) (x))) (mFar M) (mGrp M) (mSiz M) (mPla M) (mWro M) (mTol M) (mNum M)))) hD hS hA [0, 1, 2, 3, 4, 5, 6, 7, 8, 9] rfl
    refine callRw (va_runV (As := [.int (nI (y41.1 + 1)), .int (f_X8_of (mNow M) (x) (2))]) (rest := []) ⟨hx, hb, hml, hown, hts⟩ (c_X8_writesNumber l D C b (mkM (mNow M) (mBef M) (mSav M) (mHis M) (mIsS M) (mRem M) (mErA M) (mFaA M) (mTxt M) (mTyp M) (upd y41.2 y41.1 47) (mLnd M) (gThr (f_X8_isSite (mNow M) (x))) (mFar M) (mGrp M) (mSiz M) (mPla M) (mWro M) (mTol M) (mNum M)) ((y41.1 + 1)) ((f_X8_of (mNow M) (x) (2))) _ (by omega)) (cwV 2 hts gX8_renderSite_X8_writesNumber rfl rfl rfl (by decide +kernel) ⟨Nat.le_of_ble_eq_true rfl, Nat.le_of_ble_eq_true rfl⟩) (rwP_v hP hK hE hD (va_recv hK hP (ci := 9) (q0 := 0) rfl rfl)) rfl rfl hl.1 rfl (lv_room (Nat.le_of_ble_eq_true rfl)) dX8_renderSite_58 ⟨Nat.le_refl _, Nat.le_refl _⟩) hS hFc (fun H1 locs hPn hk hS => ?_)
    obtain ⟨y58, hy58⟩ : ∃ y_, y_ = (f_X8_writesNumber (upd y41.2 y41.1 47) ((y41.1 + 1)) ((f_X8_of (mNow M) (x) (2)))) := ⟨_, rfl⟩
    have hPn : va_P D vwCl (mcells C b (mkM (mNow M) (mBef M) (mSav M) (mHis M) (mIsS M) (mRem M) (mErA M) (mFaA M) (mTxt M) (mTyp M) y58.2 (mLnd M) (gThr (f_X8_isSite (mNow M) (x))) (mFar M) (mGrp M) (mSiz M) (mPla M) (mWro M) (mTol M) (mNum M))) H1 := by rw [hy58]; exact hPn
    refine topI (y := nI y58.1) (congrArg nI (congrArg Prod.fst hy58).symm) ?_
    have hz := lt_eq hz hy58
    have hP : va_P D vwCl (mcells C b (mkM (mNow M) (mBef M) (mSav M) (mHis M) (mIsS M) (mRem M) (mErA M) (mFaA M) (mTxt M) (mTyp M) y58.2 (mLnd M) (gThr (f_X8_isSite (mNow M) (x))) (mFar M) (mGrp M) (mSiz M) (mPla M) (mWro M) (mTol M) (mNum M))) H1 := hPn
    have hD : va_D A (mcells C b (mkM (mNow M) (mBef M) (mSav M) (mHis M) (mIsS M) (mRem M) (mErA M) (mFaA M) (mTxt M) (mTyp M) y58.2 (mLnd M) (gThr (f_X8_isSite (mNow M) (x))) (mFar M) (mGrp M) (mSiz M) (mPla M) (mWro M) (mTol M) (mNum M))) := adr_D hD rfl
    generalize H1 = H at hP hS ⊢
    have b58 : y58.1 ≤ _ := Nat.le_trans (Nat.le_of_eq (congrArg Prod.fst hy58)) (X8_wN_le _ _ _)
    refine lv_istore_n (lv' := [(2, .int (nI y58.1)), (0, .ref (b 0)), (1, .int x)]) hx hb dX8_renderSite_61 rfl hl (by decide) rfl (fun ls hl => ?_)
    refine lv_aload_n hx hb dX8_renderSite_62 rfl (lv_at hl 1 rfl) ?_
    refine lv_iload_n hx hb dX8_renderSite_63 rfl (lv_at hl 2 rfl) ?_
    refine callRo (va_runV (As := [.int x]) (rest := []) ⟨hx, hb, hml, hown, hts⟩ (c_X8_isDone l D C b (mkM (mNow M) (mBef M) (mSav M) (mHis M) (mIsS M) (mRem M) (mErA M) (mFaA M) (mTxt M) (mTyp M) y58.2 (mLnd M) (gThr (f_X8_isSite (mNow M) (x))) (mFar M) (mGrp M) (mSiz M) (mPla M) (mWro M) (mTol M) (mNum M)) (x) (MSafe_of hM rfl)) (cwV 1 hts gX8_renderSite_X8_isDone rfl rfl rfl (by decide +kernel) ⟨Nat.le_of_ble_eq_true rfl, Nat.le_of_ble_eq_true rfl⟩) (roP_v hP hK hE (va_recv hK hP (ci := 9) (q0 := 0) rfl rfl)) rfl rfl hl.1 rfl (lv_room (Nat.le_of_ble_eq_true rfl)) dX8_renderSite_64 ⟨Nat.le_refl _, Nat.le_refl _⟩) ?_
    refine topI (y := (bI (f_X8_isDone (mNow M) (x)))) rfl ?_
    refine bif_eq (tgt := 90) hx hb dX8_renderSite_67 (by decide) (fun c_67 => ?_) (fun c_67 => ?_)
    · have hz := hz.trans (ifB_f c_67)
      refine lv_iload_n hx hb dX8_renderSite_90 rfl (lv_at hl 0 rfl) ?_
      exact J91 (y58.1) (y58.2) ((gThr (f_X8_isSite (mNow M) (x)))) _ _ ls hz (by omega) hP hD hS (lv_sub hl [1, 2] rfl)
    · have hz := hz.trans (ifB_t c_67)
      refine lv_aload_n hx hb dX8_renderSite_70 rfl (lv_at hl 1 rfl) ?_
      refine lv_aload_n hx hb dX8_renderSite_71 rfl (lv_at hl 1 rfl) ?_
      refine lv_iload_n hx hb dX8_renderSite_72 rfl (lv_at hl 0 rfl) ?_
      refine lv_bipush (v := 61) hx hb dX8_renderSite_73 (by decide +kernel) ?_
      have hFc := va_free (wc := (mcells C b (mkM (mNow M) (mBef M) (mSav M) (mHis M) (mIsS M) (mRem M) (mErA M) (mFaA M) (mTxt M) (mTyp M) y58.2 (mLnd M) (gThr (f_X8_isSite (mNow M) (x))) (mFar M) (mGrp M) (mSiz M) (mPla M) (mWro M) (mTol M) (mNum M)))) hD hS hA [0, 1, 2, 3, 4, 5, 6, 7, 8, 9] rfl
      refine callRw (va_runV (As := [.int (nI y58.1), .int 61]) (rest := [.ref (b 0)]) ⟨hx, hb, hml, hown, hts⟩ (c_X8_put_ l D C b (mkM (mNow M) (mBef M) (mSav M) (mHis M) (mIsS M) (mRem M) (mErA M) (mFaA M) (mTxt M) (mTyp M) y58.2 (mLnd M) (gThr (f_X8_isSite (mNow M) (x))) (mFar M) (mGrp M) (mSiz M) (mPla M) (mWro M) (mTol M) (mNum M)) (y58.1) (61) _ (by omega)) (cwV 2 hts gX8_renderSite_X8_put rfl rfl rfl (by decide +kernel) ⟨Nat.le_of_ble_eq_true rfl, Nat.le_of_ble_eq_true rfl⟩) (rwP_v hP hK hE hD (va_recv hK hP (ci := 9) (q0 := 0) rfl rfl)) rfl rfl hl.1 rfl (lv_room (Nat.le_of_ble_eq_true rfl)) dX8_renderSite_75 ⟨Nat.le_refl _, Nat.le_refl _⟩) hS hFc (fun H1 locs hPn hk hS => ?_)
      have hP : va_P D vwCl (mcells C b (mkM (mNow M) (mBef M) (mSav M) (mHis M) (mIsS M) (mRem M) (mErA M) (mFaA M) (mTxt M) (mTyp M) (upd y58.2 y58.1 61) (mLnd M) (gThr (f_X8_isSite (mNow M) (x))) (mFar M) (mGrp M) (mSiz M) (mPla M) (mWro M) (mTol M) (mNum M))) H1 := hPn
      have hD : va_D A (mcells C b (mkM (mNow M) (mBef M) (mSav M) (mHis M) (mIsS M) (mRem M) (mErA M) (mFaA M) (mTxt M) (mTyp M) (upd y58.2 y58.1 61) (mLnd M) (gThr (f_X8_isSite (mNow M) (x))) (mFar M) (mGrp M) (mSiz M) (mPla M) (mWro M) (mTol M) (mNum M))) := adr_D hD rfl
      generalize H1 = H at hP hS ⊢
      refine topI (y := (nI (y58.1 + 1))) rfl ?_
      refine lv_aload_n hx hb dX8_renderSite_78 rfl (lv_at hl 1 rfl) ?_
      refine lv_iload_n hx hb dX8_renderSite_79 rfl (lv_at hl 2 rfl) ?_
      refine lv_iconst (v := 3) hx hb dX8_renderSite_80 (by decide) ?_
      refine topN (k := 3) (by decide +kernel) ?_
      refine callRo (va_runV (As := [.int x, .int (nI 3)]) (rest := [.int (nI (y58.1 + 1)), .ref (b 0)]) ⟨hx, hb, hml, hown, hts⟩ (c_X8_of l D C b (mkM (mNow M) (mBef M) (mSav M) (mHis M) (mIsS M) (mRem M) (mErA M) (mFaA M) (mTxt M) (mTyp M) (upd y58.2 y58.1 61) (mLnd M) (gThr (f_X8_isSite (mNow M) (x))) (mFar M) (mGrp M) (mSiz M) (mPla M) (mWro M) (mTol M) (mNum M)) (x) (3) (MSafe_of hM rfl) (by omega)) (cwV 2 hts gX8_renderSite_X8_of rfl rfl rfl (by decide +kernel) ⟨Nat.le_of_ble_eq_true rfl, Nat.le_of_ble_eq_true rfl⟩) (roP_v hP hK hE (va_recv hK hP (ci := 9) (q0 := 0) rfl rfl)) rfl rfl hl.1 rfl (lv_room (Nat.le_of_ble_eq_true rfl)) dX8_renderSite_81 ⟨Nat.le_refl _, Nat.le_refl _⟩) ?_
      refine topI (y := (f_X8_of (mNow M) (x) (3))) rfl ?_
      have hFc := va_free (wc := (mcells C b (mkM (mNow M) (mBef M) (mSav M) (mHis M) (mIsS M) (mRem M) (mErA M) (mFaA M) (mTxt M) (mTyp M) (upd y58.2 y58.1 61) (mLnd M) (gThr (f_X8_isSite (mNow M) (x))) (mFar M) (mGrp M) (mSiz M) (mPla M) (mWro M) (mTol M) (mNum M)))) hD hS hA [0, 1, 2, 3, 4, 5, 6, 7, 8, 9] rfl
      refine callRw (va_runV (As := [.int (nI (y58.1 + 1)), .int (f_X8_of (mNow M) (x) (3))]) (rest := []) ⟨hx, hb, hml, hown, hts⟩ (c_X8_writesNumber l D C b (mkM (mNow M) (mBef M) (mSav M) (mHis M) (mIsS M) (mRem M) (mErA M) (mFaA M) (mTxt M) (mTyp M) (upd y58.2 y58.1 61) (mLnd M) (gThr (f_X8_isSite (mNow M) (x))) (mFar M) (mGrp M) (mSiz M) (mPla M) (mWro M) (mTol M) (mNum M)) ((y58.1 + 1)) ((f_X8_of (mNow M) (x) (3))) _ (by omega)) (cwV 2 hts gX8_renderSite_X8_writesNumber rfl rfl rfl (by decide +kernel) ⟨Nat.le_of_ble_eq_true rfl, Nat.le_of_ble_eq_true rfl⟩) (rwP_v hP hK hE hD (va_recv hK hP (ci := 9) (q0 := 0) rfl rfl)) rfl rfl hl.1 rfl (lv_room (Nat.le_of_ble_eq_true rfl)) dX8_renderSite_84 ⟨Nat.le_refl _, Nat.le_refl _⟩) hS hFc (fun H1 locs hPn hk hS => ?_)
      obtain ⟨y84, hy84⟩ : ∃ y_, y_ = (f_X8_writesNumber (upd y58.2 y58.1 61) ((y58.1 + 1)) ((f_X8_of (mNow M) (x) (3)))) := ⟨_, rfl⟩
      have hPn : va_P D vwCl (mcells C b (mkM (mNow M) (mBef M) (mSav M) (mHis M) (mIsS M) (mRem M) (mErA M) (mFaA M) (mTxt M) (mTyp M) y84.2 (mLnd M) (gThr (f_X8_isSite (mNow M) (x))) (mFar M) (mGrp M) (mSiz M) (mPla M) (mWro M) (mTol M) (mNum M))) H1 := by rw [hy84]; exact hPn
      refine topI (y := nI y84.1) (congrArg nI (congrArg Prod.fst hy84).symm) ?_
      have hz := lt_eq hz hy84
      have hP : va_P D vwCl (mcells C b (mkM (mNow M) (mBef M) (mSav M) (mHis M) (mIsS M) (mRem M) (mErA M) (mFaA M) (mTxt M) (mTyp M) y84.2 (mLnd M) (gThr (f_X8_isSite (mNow M) (x))) (mFar M) (mGrp M) (mSiz M) (mPla M) (mWro M) (mTol M) (mNum M))) H1 := hPn
      have hD : va_D A (mcells C b (mkM (mNow M) (mBef M) (mSav M) (mHis M) (mIsS M) (mRem M) (mErA M) (mFaA M) (mTxt M) (mTyp M) y84.2 (mLnd M) (gThr (f_X8_isSite (mNow M) (x))) (mFar M) (mGrp M) (mSiz M) (mPla M) (mWro M) (mTol M) (mNum M))) := adr_D hD rfl
      generalize H1 = H at hP hS ⊢
      have b84 : y84.1 ≤ _ := Nat.le_trans (Nat.le_of_eq (congrArg Prod.fst hy84)) (X8_wN_le _ _ _)
      refine lv_goto (tgt := 91) hx hb dX8_renderSite_87 (by decide) ?_
      exact J91 (y84.1) (y84.2) ((gThr (f_X8_isSite (mNow M) (x)))) _ _ ls hz (by omega) hP hD hS (lv_sub hl [1, 2] rfl)
  · have hz := hz.trans (ifB_f c_9)
    refine lv_iconst (v := 0) hx hb dX8_renderSite_12 (by decide) ?_
    have hz : z = (0, (mLin M), (mLnd M), (gThr (f_X8_isSite (mNow M) (x)))) := hz
    rw [hz]
    exact rw_ret hx hb hr hP hS rfl dX8_renderSite_13 hlocks

