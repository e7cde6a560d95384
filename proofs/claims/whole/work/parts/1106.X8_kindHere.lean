def wst (k : Nat) : Nat := [0, 7, 12, 17, 22, 26, 32, 38, 43, 50].getD k 50
def wlen (k : Nat) : Nat := wst (k + 1) - wst k
theorem X8_startOf_at {k : Nat} (h : k ≤ 9) : f_X8_startOf (nI k) = nI (wst k) := by
  revert k; decide +kernel
theorem wst_le {k : Nat} (h : k < 9) : wst k + wlen k = wst (k + 1) ∧ wst (k + 1) ≤ 50 ∧ 4 ≤ wlen k := by
  revert k; decide +kernel
theorem wlen_sub {k : Nat} (h : k < 9) : nI (wst (k + 1)) - nI (wst k) = nI (wlen k) := by
  revert k; decide +kernel
def f_X8_kindHere_j163  (v2_163 : Int32) (s0_163 : Int32) (s1_163 : Nat) (wro0_163 : Int32) : Int32 × Nat × Int32 := (lt_ ((nI s1_163) + s0_163).toNatClampNeg (fun n163 => (v2_163, n163, wro0_163)))
def f_X8_kindHere_j135 (pl : Nat) (v2_135 : Int32) (s0_135 : Int32) : Int32 × Nat × Int32 := (if v2_135 = (-1) then (f_X8_kindHere_j163 (v2_135) (0) (pl) (s0_135)) else (f_X8_kindHere_j163 (v2_135) (((f_X8_startOf ((v2_135 + 1))) - (f_X8_startOf (v2_135)))) (pl) (s0_135)))
def f_X8_kindHere_j121 (pl : Nat) (wr : Int32) (v1_121 : Int32) (v2_121 : Int32) : Int32 × Nat × Int32 := (if v2_121 = (-1) then (f_X8_kindHere_j135 pl (v2_121) (v1_121)) else (f_X8_kindHere_j135 pl (v2_121) (wr)))
def f_X8_kindHere_j114  (v1_114 : Int32) (s0_114 : Int32) : Sum (Int32 × Nat × Int32) (Int32 × Int32) := (Sum.inr (v1_114, s0_114))
def f_X8_kindHere_j90 (pl : Nat) (k9 : Nat) (v1_90 : Int32) (v2_90 : Int32) (v4_90 : Nat) (v5_90 : Nat) : Sum (Int32 × Nat × Int32) (Int32 × Int32) := (if (nI v5_90) = (nI v4_90) then (f_X8_kindHere_j114 ((imax v1_90 (nI (pl + v5_90)))) ((nI k9))) else (f_X8_kindHere_j114 ((imax v1_90 (nI (pl + v5_90)))) (v2_90)))
def f_X8_kindHere_l36b (tx : (Nat → Int32)) (sz : Nat) (pl : Nat) (k9 : Nat) (k36 : Nat) (v1_36 : Int32) (v2_36 : Int32) (v4_36 : Nat) : Sum (Sum (Int32 × Nat × Int32) (Int32 × Int32)) (Int32 × Int32 × Nat) := (if (nI sz) ≤ (nI (pl + k36)) then (Sum.inl (f_X8_kindHere_j90 pl k9 (v1_36) (v2_36) (v4_36) (k36))) else (if (tx (pl + k36)) = (f_J0_charAt_5068e 15 (((wst k9) + k36))) then (Sum.inr (v1_36, v2_36, v4_36)) else (Sum.inl (f_X8_kindHere_j90 pl k9 (v1_36) (v2_36) (v4_36) (k36)))))
def f_X8_kindHere_l36x (tx : (Nat → Int32)) (sz : Nat) (pl : Nat) (k9 : Nat) (v1_36 : Int32) (v2_36 : Int32) (v4_36 : Nat) : Sum (Int32 × Nat × Int32) (Int32 × Int32) := (f_X8_kindHere_j90 pl k9 (v1_36) (v2_36) (v4_36) (v4_36))
def f_X8_kindHere_l36s (tx : (Nat → Int32)) (sz : Nat) (pl : Nat) (k9 : Nat) (k36 : Nat) (q_ : Int32 × Int32 × Nat) : Sum (Sum (Int32 × Nat × Int32) (Int32 × Int32)) (Int32 × Int32 × Nat) := f_X8_kindHere_l36b tx sz pl k9 k36 (q_.1) (q_.2.1) (q_.2.2)
def f_X8_kindHere_l36e (tx : (Nat → Int32)) (sz : Nat) (pl : Nat) (k9 : Nat) (q_ : Int32 × Int32 × Nat) : Sum (Int32 × Nat × Int32) (Int32 × Int32) := f_X8_kindHere_l36x tx sz pl k9 (q_.1) (q_.2.1) (q_.2.2)
def f_X8_kindHere_l36 (tx : (Nat → Int32)) (sz : Nat) (pl : Nat) (k9 : Nat) (n36 k36 : Nat) (v1_36 : Int32) (v2_36 : Int32) (v4_36 : Nat) : Sum (Int32 × Nat × Int32) (Int32 × Int32) := lpF (f_X8_kindHere_l36s tx sz pl k9) (f_X8_kindHere_l36e tx sz pl k9) n36 k36 (v1_36, v2_36, v4_36)
def f_X8_kindHere_l9b (tx : (Nat → Int32)) (sz : Nat) (pl : Nat) (wr : Int32) (k9 : Nat) (v1_9 : Int32) (v2_9 : Int32) : Sum (Int32 × Nat × Int32) (Int32 × Int32) := (if v2_9 = (-1) then (f_X8_kindHere_l36 tx sz pl k9 ((wlen k9)) 0 (v1_9) (v2_9) ((wlen k9))) else (Sum.inl (f_X8_kindHere_j121 pl wr (v1_9) (v2_9))))
def f_X8_kindHere_l9x (tx : (Nat → Int32)) (sz : Nat) (pl : Nat) (wr : Int32) (v1_9 : Int32) (v2_9 : Int32) : Int32 × Nat × Int32 := (f_X8_kindHere_j121 pl wr (v1_9) (v2_9))
def f_X8_kindHere_l9s (tx : (Nat → Int32)) (sz : Nat) (pl : Nat) (wr : Int32) (k9 : Nat) (q_ : Int32 × Int32) : Sum (Int32 × Nat × Int32) (Int32 × Int32) := f_X8_kindHere_l9b tx sz pl wr k9 (q_.1) (q_.2)
def f_X8_kindHere_l9e (tx : (Nat → Int32)) (sz : Nat) (pl : Nat) (wr : Int32) (q_ : Int32 × Int32) : Int32 × Nat × Int32 := f_X8_kindHere_l9x tx sz pl wr (q_.1) (q_.2)
def f_X8_kindHere_l9 (tx : (Nat → Int32)) (sz : Nat) (pl : Nat) (wr : Int32) (n9 k9 : Nat) (v1_9 : Int32) (v2_9 : Int32) : Int32 × Nat × Int32 := lpF (f_X8_kindHere_l9s tx sz pl wr) (f_X8_kindHere_l9e tx sz pl wr) n9 k9 (v1_9, v2_9)
def f_X8_kindHere (tx : (Nat → Int32)) (sz : Nat) (pl : Nat) (wr : Int32) : Int32 × Nat × Int32 := (f_X8_kindHere_l9 tx sz pl wr (9) 0 ((nI pl)) ((-1)))
set_option maxHeartbeats 4000000 in
set_option maxRecDepth 100000 in
theorem c_X8_kindHere (l : Launch) (D : va_G) (C : Nat → ClassId) (ev : Nat → Nat) (b : Nat → Nat) (M : MS) (sz : Nat) (hSi : mSiz M ≤ 60) (hPl : mPla M ≤ mSiz M) : Met l yX8_kindHere wsX8_kindHere ({ frames := 4, cells := 0, slots := 0, locals := 85 } : Room) (rwPE [.ref (b 0)] D C ev (mcells C b M) sz) (rwO (some (.int ((f_X8_kindHere (mTxt M) (mSiz M) (mPla M) (mWro M)).1))) D (mcells C b (mkM (mNow M) (mBef M) (mSav M) (mHis M) (mIsS M) (mRem M) (mErA M) (mFaA M) (mTxt M) (mTyp M) (mLin M) (mLnd M) (mThr M) (mFar M) (mGrp M) (mSiz M) ((f_X8_kindHere (mTxt M) (mSiz M) (mPla M) (mWro M)).2.1) ((f_X8_kindHere (mTxt M) (mSiz M) (mPla M) (mWro M)).2.2) (mTol M) (mNum M))) (va_A (mcells C b M) sz)) 0 0 (va_A (mcells C b M) sz) := by
  refine Met.ofW (cc := cX8_kindHere) (maxL := 6) (ret := (some .int)) (by decide) rfl ?_
  intro p e s m args below meth c s₁ B hml hv
  obtain ⟨rfl, hsz, hP, hK, hD0, hE, hR, hX⟩ := hv
  have hx := B.exec
  have hb := B.bytes
  have hr := B.returns
  have hts := atoms_spec (ws := wsX8_kindHere) B.pre
  have hown : s.vm.findClass RX8 = some m.cls := findClass_of_methodNamed B.named
  have hlocks := B.notSynchronized
  subst hsz
  have hD := hD0.self (sz := s.heap.size)
  generalize hAe : va_A (mcells C b M) s.heap.size = A at hD hX ⊢
  have hA : ∀ q : Nat, s.heap.size ≤ q → A q := fun q h => by rw [← hAe]; exact Or.inr h
  have hS0 : va_S A s.heap s.heap [] := va_S.rf
  have hP : va_P D vwCl (mcells C b M) s.heap := hP
  have hS := hS0
  obtain ⟨⟨hV, hB, hMV, hMB, hAL, hEk, hEa, hTX, hXZ⟩, hCS, hSF⟩ := id hX
  have hinX8 : ∀ w ∈ u_ws RX8 TX8 20, w ∈ wsX8_kindHere := by decide +kernel
  have hl := lv_entry ([.ref (b 0)]) (n := 6) (Nat.le_of_ble_eq_true rfl)
  rw [lg_entry_eq]
  generalize (lg_sl ([.ref (b 0)]) ++ List.replicate (6 - (lg_sl ([.ref (b 0)])).length) Slot.unset).toArray = ls at hl ⊢
  have hl : lv_has ls 6 [(0, .ref (b 0))] := hl
  obtain ⟨z, hz⟩ : ∃ z, z = f_X8_kindHere (mTxt M) (mSiz M) (mPla M) (mWro M) := ⟨_, rfl⟩
  rw [← hz]
  have J163 : ∀ (v2_163 : Int32) (s0_163 : Int32) (s1_163 : Nat) (wro0_163 : Int32)  (H : Heap) (locs : List Loc) (ls : Array Slot), z = f_X8_kindHere_j163 v2_163 s0_163 s1_163 wro0_163 → (∃ n, s0_163 = nI n ∧ s1_163 + n ≤ mSiz M) → va_P D vwCl (mcells C b (mkM (mNow M) (mBef M) (mSav M) (mHis M) (mIsS M) (mRem M) (mErA M) (mFaA M) (mTxt M) (mTyp M) (mLin M) (mLnd M) (mThr M) (mFar M) (mGrp M) (mSiz M) (mPla M) wro0_163 (mTol M) (mNum M))) H → va_D A (mcells C b (mkM (mNow M) (mBef M) (mSav M) (mHis M) (mIsS M) (mRem M) (mErA M) (mFaA M) (mTxt M) (mTyp M) (mLin M) (mLnd M) (mThr M) (mFar M) (mGrp M) (mSiz M) (mPla M) wro0_163 (mTol M) (mNum M))) → va_S A s.heap H locs → lv_has ls 6 [(2, .int v2_163)] → W p l e ({ frames := 4, cells := 0, slots := 0, locals := 85 } : Room) s m ([.ref (b 0)] : List Value).toArray below meth c H locs 0 0 (MQ below (rwO (some (.int z.1)) D (mcells C b (mkM (mNow M) (mBef M) (mSav M) (mHis M) (mIsS M) (mRem M) (mErA M) (mFaA M) (mTxt M) (mTyp M) (mLin M) (mLnd M) (mThr M) (mFar M) (mGrp M) (mSiz M) z.2.1 z.2.2 (mTol M) (mNum M))) A) ([.ref (b 0)] : List Value).toArray s 0 0 A) (F0 m 163 ls [.int s0_163, .int (nI s1_163), .ref (b 0)]) := by
    intro v2_163 s0_163 s1_163 wro0_163 H locs ls hz iv163_0 hP hD hS hl
    refine lv_iadd hx hb dX8_kindHere_163 ?_
    obtain ⟨n163, hn163⟩ : ∃ x_ : Nat, x_ = ((nI s1_163) + s0_163).toNatClampNeg := ⟨_, rfl⟩
    refine topN (k := n163) (show ((nI s1_163) + s0_163) = nI n163 from by rw [hn163]; exact (nat_of (n := 61) (by obtain ⟨n, e, h⟩ := iv163_0; rw [e, nI_add]; exact vp_in_nI (by omega) (by decide)) (by decide)).1) ?_
    have hz := lt_eq hz hn163
    have hP := mX_P hP
    have hD := mX_D hD
    refine va_put (D := D) (ci := 9) (v := .int (nI n163)) (ty := .int) (C := RX8) (T := TX8) (N := 20) hx hb hts hinX8 tyX8 tyX8_ok nmX8 hown hK hP hD hS 0 rfl rfl 16 (by decide) (hts (.fieldLink RX8 207 "BridgeAuctionModel" "place" "I") (by decide +kernel)) (fun _ h9 => h9) rfl (by decide +kernel) rfl rfl (Nat.le_of_ble_eq_true rfl) dX8_kindHere_164 (fun H locs hP hD hS => ?_)
    have hP : va_P D vwCl (mcells C b (mkM (mNow M) (mBef M) (mSav M) (mHis M) (mIsS M) (mRem M) (mErA M) (mFaA M) (mTxt M) (mTyp M) (mLin M) (mLnd M) (mThr M) (mFar M) (mGrp M) (mSiz M) n163 wro0_163 (mTol M) (mNum M))) H := mX_Q (show va_P D vwCl (mX C b (mNow M) (mBef M) (mSav M) (mHis M) (mIsS M) (mRem M) (mErA M) (mFaA M) (mTxt M) (mTyp M) (mLin M) (mLnd M) (mThr M) (mFar M) (mGrp M) (mSiz M) n163 wro0_163 (mTol M) (mNum M)) H from hP)
    have hD : va_D A (mcells C b (mkM (mNow M) (mBef M) (mSav M) (mHis M) (mIsS M) (mRem M) (mErA M) (mFaA M) (mTxt M) (mTyp M) (mLin M) (mLnd M) (mThr M) (mFar M) (mGrp M) (mSiz M) n163 wro0_163 (mTol M) (mNum M))) := mX_R (show va_D A (mX C b (mNow M) (mBef M) (mSav M) (mHis M) (mIsS M) (mRem M) (mErA M) (mFaA M) (mTxt M) (mTyp M) (mLin M) (mLnd M) (mThr M) (mFar M) (mGrp M) (mSiz M) n163 wro0_163 (mTol M) (mNum M)) from hD)
    refine lv_iload_n hx hb dX8_kindHere_167 rfl (lv_at hl 0 rfl) ?_
    have hz : z = (v2_163, n163, wro0_163) := hz
    rw [hz]
    exact rw_ret hx hb hr hP hS rfl dX8_kindHere_168 hlocks
  have J135 : ∀ (v2_135 : Int32) (s0_135 : Int32)  (H : Heap) (locs : List Loc) (ls : Array Slot), z = f_X8_kindHere_j135 (mPla M) v2_135 s0_135 → (v2_135 = -1 ∨ ∃ w, w < 9 ∧ v2_135 = nI w ∧ mPla M + wlen w ≤ mSiz M) → va_P D vwCl (mcells C b M) H → va_D A (mcells C b M) → va_S A s.heap H locs → lv_has ls 6 [(0, .ref (b 0)), (2, .int v2_135)] → W p l e ({ frames := 4, cells := 0, slots := 0, locals := 85 } : Room) s m ([.ref (b 0)] : List Value).toArray below meth c H locs 0 0 (MQ below (rwO (some (.int z.1)) D (mcells C b (mkM (mNow M) (mBef M) (mSav M) (mHis M) (mIsS M) (mRem M) (mErA M) (mFaA M) (mTxt M) (mTyp M) (mLin M) (mLnd M) (mThr M) (mFar M) (mGrp M) (mSiz M) z.2.1 z.2.2 (mTol M) (mNum M))) A) ([.ref (b 0)] : List Value).toArray s 0 0 A) (F0 m 135 ls [.int s0_135, .ref (b 0)]) := by
    intro v2_135 s0_135 H locs ls hz iv135_0 hP hD hS hl
    refine va_put (D := D) (ci := 9) (v := .int s0_135) (ty := .int) (C := RX8) (T := TX8) (N := 20) hx hb hts hinX8 tyX8 tyX8_ok nmX8 hown hK hP hD hS 0 rfl rfl 17 (by decide) (hts (.fieldLink RX8 213 "BridgeAuctionModel" "wrong" "I") (by decide +kernel)) (fun _ h9 => h9) rfl (by decide +kernel) rfl rfl (Nat.le_of_ble_eq_true rfl) dX8_kindHere_135 (fun H locs hP hD hS => ?_)
    have hP : va_P D vwCl (mcells C b (mkM (mNow M) (mBef M) (mSav M) (mHis M) (mIsS M) (mRem M) (mErA M) (mFaA M) (mTxt M) (mTyp M) (mLin M) (mLnd M) (mThr M) (mFar M) (mGrp M) (mSiz M) (mPla M) s0_135 (mTol M) (mNum M))) H := hP
    have hD : va_D A (mcells C b (mkM (mNow M) (mBef M) (mSav M) (mHis M) (mIsS M) (mRem M) (mErA M) (mFaA M) (mTxt M) (mTyp M) (mLin M) (mLnd M) (mThr M) (mFar M) (mGrp M) (mSiz M) (mPla M) s0_135 (mTol M) (mNum M))) := hD
    refine lv_aload_n hx hb dX8_kindHere_138 rfl (lv_at hl 0 rfl) ?_
    refine lv_dup hx hb dX8_kindHere_139 rfl ?_
    refine va_get (D := D) (ci := 9) (v := .int (nI (mPla M))) (C := RX8) (T := TX8) (N := 20) hx hb hts hinX8 hown hK hP 0 rfl rfl 16 (by decide) (hts (.fieldLink RX8 207 "BridgeAuctionModel" "place" "I") (by decide +kernel)) (fun _ h9 => h9) rfl dX8_kindHere_140 ?_
    refine lv_iload_n hx hb dX8_kindHere_143 rfl (lv_at hl 1 rfl) ?_
    refine lv_iconst (v := (-1)) hx hb dX8_kindHere_144 (by decide) ?_
    refine lv_icmp_ne (tgt := 152) hx hb dX8_kindHere_145 (by decide) (fun c_145 => ?_) (fun c_145 => ?_)
    · have hz := hz.trans (if_neg c_145)
      refine lv_iload_n hx hb dX8_kindHere_152 rfl (lv_at hl 1 rfl) ?_
      refine lv_iconst (v := 1) hx hb dX8_kindHere_153 (by decide) ?_
      refine lv_iadd hx hb dX8_kindHere_154 ?_
      refine callRo (va_runS (As := [.int (v2_135 + 1)]) (rest := [.int (nI (mPla M)), .ref (b 0)]) ⟨hx, hb, hml, hown, hts⟩ (c_X8_startOf l D C ((v2_135 + 1))) (va_cwS 1 hts gX8_kindHere_X8_startOf rfl rfl rfl (by decide +kernel) ⟨Nat.le_of_ble_eq_true rfl, Nat.le_of_ble_eq_true rfl⟩) (roP_s (hP.sub (ws' := ([] : va_W)) [] rfl) hK hE) rfl rfl hl.1 rfl (lv_room (Nat.le_of_ble_eq_true rfl)) dX8_kindHere_155 ⟨Nat.le_refl _, Nat.le_refl _⟩) ?_
      refine lv_iload_n hx hb dX8_kindHere_158 rfl (lv_at hl 1 rfl) ?_
      refine callRo (va_runS (As := [.int v2_135]) (rest := [.int (f_X8_startOf ((v2_135 + 1))), .int (nI (mPla M)), .ref (b 0)]) ⟨hx, hb, hml, hown, hts⟩ (c_X8_startOf l D C (v2_135)) (va_cwS 1 hts gX8_kindHere_X8_startOf rfl rfl rfl (by decide +kernel) ⟨Nat.le_of_ble_eq_true rfl, Nat.le_of_ble_eq_true rfl⟩) (roP_s (hP.sub (ws' := ([] : va_W)) [] rfl) hK hE) rfl rfl hl.1 rfl (lv_room (Nat.le_of_ble_eq_true rfl)) dX8_kindHere_159 ⟨Nat.le_refl _, Nat.le_refl _⟩) ?_
      refine lv_isub hx hb dX8_kindHere_162 ?_
      exact J163 (v2_135) (((f_X8_startOf ((v2_135 + 1))) - (f_X8_startOf (v2_135)))) ((mPla M)) (s0_135) _ _ ls hz (by first | (obtain ⟨w, h1, h2, h3⟩ := iv135_0.resolve_left c_145; refine ⟨wlen w, ?_, h3⟩; rw [h2, nI_1, X8_startOf_at (by omega), X8_startOf_at (by omega)]; exact wlen_sub h1) | exact ⟨0, rfl, by omega⟩) hP hD hS (lv_sub hl [1] rfl)
    · have hz := hz.trans (if_pos c_145)
      refine lv_iconst (v := 0) hx hb dX8_kindHere_148 (by decide) ?_
      refine lv_goto (tgt := 163) hx hb dX8_kindHere_149 (by decide) ?_
      exact J163 (v2_135) (0) ((mPla M)) (s0_135) _ _ ls hz (by first | (obtain ⟨w, h1, h2, h3⟩ := iv135_0.resolve_left c_145; refine ⟨wlen w, ?_, h3⟩; rw [h2, nI_1, X8_startOf_at (by omega), X8_startOf_at (by omega)]; exact wlen_sub h1) | exact ⟨0, rfl, by omega⟩) hP hD hS (lv_sub hl [1] rfl)
  have J121 : ∀ (v1_121 : Int32) (v2_121 : Int32)  (H : Heap) (locs : List Loc) (ls : Array Slot), z = f_X8_kindHere_j121 (mPla M) (mWro M) v1_121 v2_121 → (v2_121 = -1 ∨ ∃ w, w < 9 ∧ v2_121 = nI w ∧ mPla M + wlen w ≤ mSiz M) → va_P D vwCl (mcells C b M) H → va_D A (mcells C b M) → va_S A s.heap H locs → lv_has ls 6 [(0, .ref (b 0)), (1, .int v1_121), (2, .int v2_121)] → W p l e ({ frames := 4, cells := 0, slots := 0, locals := 85 } : Room) s m ([.ref (b 0)] : List Value).toArray below meth c H locs 0 0 (MQ below (rwO (some (.int z.1)) D (mcells C b (mkM (mNow M) (mBef M) (mSav M) (mHis M) (mIsS M) (mRem M) (mErA M) (mFaA M) (mTxt M) (mTyp M) (mLin M) (mLnd M) (mThr M) (mFar M) (mGrp M) (mSiz M) z.2.1 z.2.2 (mTol M) (mNum M))) A) ([.ref (b 0)] : List Value).toArray s 0 0 A) (F0 m 121 ls []) := by
    intro v1_121 v2_121 H locs ls hz iv121_0 hP hD hS hl
    refine lv_aload_n hx hb dX8_kindHere_121 rfl (lv_at hl 0 rfl) ?_
    refine lv_iload_n hx hb dX8_kindHere_122 rfl (lv_at hl 2 rfl) ?_
    refine lv_iconst (v := (-1)) hx hb dX8_kindHere_123 (by decide) ?_
    refine lv_icmp_ne (tgt := 131) hx hb dX8_kindHere_124 (by decide) (fun c_124 => ?_) (fun c_124 => ?_)
    · have hz := hz.trans (if_neg c_124)
      refine lv_aload_n hx hb dX8_kindHere_131 rfl (lv_at hl 0 rfl) ?_
      refine va_get (D := D) (ci := 9) (v := .int (mWro M)) (C := RX8) (T := TX8) (N := 20) hx hb hts hinX8 hown hK hP 0 rfl rfl 17 (by decide) (hts (.fieldLink RX8 213 "BridgeAuctionModel" "wrong" "I") (by decide +kernel)) (fun _ h9 => h9) rfl dX8_kindHere_132 ?_
      exact J135 (v2_121) ((mWro M)) _ _ ls hz (by assumption) hP hD hS (lv_sub hl [0, 2] rfl)
    · have hz := hz.trans (if_pos c_124)
      refine lv_iload_n hx hb dX8_kindHere_127 rfl (lv_at hl 1 rfl) ?_
      refine lv_goto (tgt := 135) hx hb dX8_kindHere_128 (by decide) ?_
      exact J135 (v2_121) (v1_121) _ _ ls hz (by assumption) hP hD hS (lv_sub hl [0, 2] rfl)
  have J9 : ∀ (n9 k9 : Nat) (v1_9 : Int32) (v2_9 : Int32) (H : Heap) (locs : List Loc) (ls : Array Slot), k9 + n9 = 9 → z = f_X8_kindHere_l9 (mTxt M) (mSiz M) (mPla M) (mWro M) n9 k9 v1_9 v2_9 → (v2_9 = -1 ∨ ∃ w, w < 9 ∧ v2_9 = nI w ∧ mPla M + wlen w ≤ mSiz M) → va_P D vwCl (mcells C b M) H → va_D A (mcells C b M) → va_S A s.heap H locs → lv_has ls 6 [(0, .ref (b 0)), (1, .int v1_9), (2, .int v2_9), (3, .int (nI k9))] → W p l e ({ frames := 4, cells := 0, slots := 0, locals := 85 } : Room) s m ([.ref (b 0)] : List Value).toArray below meth c H locs 0 0 (MQ below (rwO (some (.int z.1)) D (mcells C b (mkM (mNow M) (mBef M) (mSav M) (mHis M) (mIsS M) (mRem M) (mErA M) (mFaA M) (mTxt M) (mTyp M) (mLin M) (mLnd M) (mThr M) (mFar M) (mGrp M) (mSiz M) z.2.1 z.2.2 (mTol M) (mNum M))) A) ([.ref (b 0)] : List Value).toArray s 0 0 A) (F0 m 9 ls []) := by
    intro n9
    induction n9 with
    | zero =>
      intro k9 v1_9 v2_9 H locs ls hk9 hz iv9_0 hP hD hS hl
      have hz : z = f_X8_kindHere_l9x (mTxt M) (mSiz M) (mPla M) (mWro M) v1_9 v2_9 := hz
      refine lv_iload_n hx hb dX8_kindHere_9 rfl (lv_at hl 3 rfl) ?_
      refine lv_bipush (v := 9) hx hb dX8_kindHere_10 (by decide +kernel) ?_
      refine lv_icmp_ge (tgt := 121) hx hb dX8_kindHere_12 (by decide) (fun c_12 => ?_) (fun c_12 => absurd (by have e : (9 : Int32) = nI 9 := (by decide +kernel); rw [e]; exact nI_le (by omega) (by omega)) c_12)
      exact J121 (v1_9) (v2_9) _ _ ls hz (by assumption) hP hD hS (lv_sub hl [0, 1, 2] rfl)
    | succ n9 ih9 =>
      intro k9 v1_9 v2_9 H locs ls hk9 hz9 iv9_0 hP hD hS hl
      obtain ⟨z9, hz⟩ : ∃ zz_, zz_ = f_X8_kindHere_l9b (mTxt M) (mSiz M) (mPla M) (mWro M) k9 v1_9 v2_9 := ⟨_, rfl⟩
      have hq9 : z = sE id (fun q_ => lpF (f_X8_kindHere_l9s (mTxt M) (mSiz M) (mPla M) (mWro M)) (f_X8_kindHere_l9e (mTxt M) (mSiz M) (mPla M) (mWro M)) n9 (k9 + 1) q_) z9 := by rw [hz9, hz]; rfl
      have J114 : ∀ (v1_114 : Int32) (s0_114 : Int32)  (H : Heap) (locs : List Loc) (ls : Array Slot), z9 = f_X8_kindHere_j114 v1_114 s0_114 → (s0_114 = -1 ∨ ∃ w, w < 9 ∧ s0_114 = nI w ∧ mPla M + wlen w ≤ mSiz M) → va_P D vwCl (mcells C b M) H → va_D A (mcells C b M) → va_S A s.heap H locs → lv_has ls 6 [(0, .ref (b 0)), (1, .int v1_114), (3, .int (nI k9))] → W p l e ({ frames := 4, cells := 0, slots := 0, locals := 85 } : Room) s m ([.ref (b 0)] : List Value).toArray below meth c H locs 0 0 (MQ below (rwO (some (.int z.1)) D (mcells C b (mkM (mNow M) (mBef M) (mSav M) (mHis M) (mIsS M) (mRem M) (mErA M) (mFaA M) (mTxt M) (mTyp M) (mLin M) (mLnd M) (mThr M) (mFar M) (mGrp M) (mSiz M) z.2.1 z.2.2 (mTol M) (mNum M))) A) ([.ref (b 0)] : List Value).toArray s 0 0 A) (F0 m 114 ls [.int s0_114]) := by
        intro v1_114 s0_114 H locs ls hz iv114_0 hP hD hS hl
        refine lv_istore_n (lv' := [(2, .int s0_114), (0, .ref (b 0)), (1, .int v1_114), (3, .int (nI k9))]) hx hb dX8_kindHere_114 rfl hl (by decide) rfl (fun ls hl => ?_)
        refine lv_iinc (v := (nI (k9 + 1))) (lv' := [(3, .int (nI (k9 + 1))), (2, .int s0_114), (0, .ref (b 0)), (1, .int v1_114)]) hx hb dX8_kindHere_115 hl (k := 3) rfl (by exact nI_1 _) (by decide) rfl (fun ls hl => ?_)
        refine lv_goto (tgt := 9) hx hb dX8_kindHere_118 (by decide) ?_
        exact ih9 (k9 + 1) (v1_114) (s0_114) _ _ ls (by omega) (by rw [hq9, hz]; rfl) (by first | exact Or.inl rfl | assumption) hP hD hS (lv_sub hl [2, 3, 1, 0] rfl)
      have J90 : ∀ (v1_90 : Int32) (v2_90 : Int32) (v4_90 : Nat) (v5_90 : Nat)  (H : Heap) (locs : List Loc) (ls : Array Slot), z9 = f_X8_kindHere_j90 (mPla M) k9 v1_90 v2_90 v4_90 v5_90 → (v4_90 = wlen k9) → (mPla M + v5_90 ≤ mSiz M) → (v5_90 ≤ wlen k9) → (v2_90 = -1 ∨ ∃ w, w < 9 ∧ v2_90 = nI w ∧ mPla M + wlen w ≤ mSiz M) → va_P D vwCl (mcells C b M) H → va_D A (mcells C b M) → va_S A s.heap H locs → lv_has ls 6 [(0, .ref (b 0)), (1, .int v1_90), (2, .int v2_90), (3, .int (nI k9)), (4, .int (nI v4_90)), (5, .int (nI v5_90))] → W p l e ({ frames := 4, cells := 0, slots := 0, locals := 85 } : Room) s m ([.ref (b 0)] : List Value).toArray below meth c H locs 0 0 (MQ below (rwO (some (.int z.1)) D (mcells C b (mkM (mNow M) (mBef M) (mSav M) (mHis M) (mIsS M) (mRem M) (mErA M) (mFaA M) (mTxt M) (mTyp M) (mLin M) (mLnd M) (mThr M) (mFar M) (mGrp M) (mSiz M) z.2.1 z.2.2 (mTol M) (mNum M))) A) ([.ref (b 0)] : List Value).toArray s 0 0 A) (F0 m 90 ls []) := by
        intro v1_90 v2_90 v4_90 v5_90 H locs ls hz iv90_0 iv90_1 iv90_2 iv90_3 hP hD hS hl
        have w9 := wst_le (k := k9) (by omega)
        refine lv_iload_n hx hb dX8_kindHere_90 rfl (lv_at hl 1 rfl) ?_
        refine lv_aload_n hx hb dX8_kindHere_91 rfl (lv_at hl 0 rfl) ?_
        refine va_get (D := D) (ci := 9) (v := .int (nI (mPla M))) (C := RX8) (T := TX8) (N := 20) hx hb hts hinX8 hown hK hP 0 rfl rfl 16 (by decide) (hts (.fieldLink RX8 207 "BridgeAuctionModel" "place" "I") (by decide +kernel)) (fun _ h9 => h9) rfl dX8_kindHere_92 ?_
        refine lv_iload hx hb dX8_kindHere_95 (lv_at hl 5 rfl) ?_
        refine addN hx hb dX8_kindHere_97 ?_
        refine va_mmax hx hb (hml.trans hl.1.symm) hown (hts (.methodLink RX8 88 Lib.Math.max.name) (by decide +kernel)) (hts (.static Lib.Math.max.name) (by decide +kernel)) (hts (.initialized "java/lang/Math") (by decide +kernel)) (hts (.code Lib.Math.max.name Lib.Math.max.code 2 (some .int)) (by decide +kernel)) (Nat.le_of_ble_eq_true rfl) (Nat.le_of_ble_eq_true rfl) (Nat.le_of_ble_eq_true rfl) (Nat.le_of_ble_eq_true rfl) dX8_kindHere_98 ?_
        refine topI (y := (imax v1_90 (nI ((mPla M) + v5_90)))) rfl ?_
        refine lv_istore_n (lv' := [(1, .int (imax v1_90 (nI ((mPla M) + v5_90)))), (0, .ref (b 0)), (2, .int v2_90), (3, .int (nI k9)), (4, .int (nI v4_90)), (5, .int (nI v5_90))]) hx hb dX8_kindHere_101 rfl hl (by decide) rfl (fun ls hl => ?_)
        refine lv_iload hx hb dX8_kindHere_102 (lv_at hl 5 rfl) ?_
        refine lv_iload hx hb dX8_kindHere_104 (lv_at hl 4 rfl) ?_
        refine lv_icmp_ne (tgt := 113) hx hb dX8_kindHere_106 (by decide) (fun c_106 => ?_) (fun c_106 => ?_)
        · have hz := hz.trans (if_neg c_106)
          refine lv_iload_n hx hb dX8_kindHere_113 rfl (lv_at hl 2 rfl) ?_
          exact J114 ((imax v1_90 (nI ((mPla M) + v5_90)))) (v2_90) _ _ ls hz (by first | assumption | exact Or.inr ⟨k9, by omega, rfl, by omega⟩) hP hD hS (lv_sub hl [1, 0, 3] rfl)
        · have hz := hz.trans (if_pos c_106)
          have e106 : v5_90 = v4_90 := (nI_eq (by omega) (by omega)).1 c_106
          refine lv_iload_n hx hb dX8_kindHere_109 rfl (lv_at hl 3 rfl) ?_
          refine lv_goto (tgt := 114) hx hb dX8_kindHere_110 (by decide) ?_
          exact J114 ((imax v1_90 (nI ((mPla M) + v5_90)))) ((nI k9)) _ _ ls hz (by first | assumption | exact Or.inr ⟨k9, by omega, rfl, by omega⟩) hP hD hS (lv_sub hl [1, 0, 3] rfl)
      have J36 : ∀ (n36 k36 : Nat) (v1_36 : Int32) (v2_36 : Int32) (v4_36 : Nat) (H : Heap) (locs : List Loc) (ls : Array Slot), k36 + n36 = v4_36 → z9 = f_X8_kindHere_l36 (mTxt M) (mSiz M) (mPla M) k9 n36 k36 v1_36 v2_36 v4_36 → (v4_36 = wlen k9) → (mPla M + k36 ≤ mSiz M) → (v2_36 = -1 ∨ ∃ w, w < 9 ∧ v2_36 = nI w ∧ mPla M + wlen w ≤ mSiz M) → va_P D vwCl (mcells C b M) H → va_D A (mcells C b M) → va_S A s.heap H locs → lv_has ls 6 [(0, .ref (b 0)), (1, .int v1_36), (2, .int v2_36), (3, .int (nI k9)), (4, .int (nI v4_36)), (5, .int (nI k36))] → W p l e ({ frames := 4, cells := 0, slots := 0, locals := 85 } : Room) s m ([.ref (b 0)] : List Value).toArray below meth c H locs 0 0 (MQ below (rwO (some (.int z.1)) D (mcells C b (mkM (mNow M) (mBef M) (mSav M) (mHis M) (mIsS M) (mRem M) (mErA M) (mFaA M) (mTxt M) (mTyp M) (mLin M) (mLnd M) (mThr M) (mFar M) (mGrp M) (mSiz M) z.2.1 z.2.2 (mTol M) (mNum M))) A) ([.ref (b 0)] : List Value).toArray s 0 0 A) (F0 m 36 ls []) := by
        intro n36
        induction n36 with
        | zero =>
          intro k36 v1_36 v2_36 v4_36 H locs ls hk36 hz iv36_0 iv36_1 iv36_2 hP hD hS hl
          have w9 := wst_le (k := k9) (by omega)
          have hz : z9 = f_X8_kindHere_l36x (mTxt M) (mSiz M) (mPla M) k9 v1_36 v2_36 v4_36 := hz
          refine lv_iload hx hb dX8_kindHere_36 (lv_at hl 5 rfl) ?_
          refine lv_iload hx hb dX8_kindHere_38 (lv_at hl 4 rfl) ?_
          refine lv_icmp_ge (tgt := 90) hx hb dX8_kindHere_40 (by decide) (fun c_40 => ?_) (fun c_40 => absurd (nI_le (by omega) (by omega)) c_40)
          rw [show k36 = v4_36 from by omega] at hl
          exact J90 (v1_36) (v2_36) (v4_36) (v4_36) _ _ ls hz (by first | rfl | assumption) (by omega) (by omega) (by assumption) hP hD hS (lv_sub hl [0, 1, 2, 3, 4, 5] rfl)
        | succ n36 ih36 =>
          intro k36 v1_36 v2_36 v4_36 H locs ls hk36 hz36 iv36_0 iv36_1 iv36_2 hP hD hS hl
          have w9 := wst_le (k := k9) (by omega)
          obtain ⟨z36, hz⟩ : ∃ zz_, zz_ = f_X8_kindHere_l36b (mTxt M) (mSiz M) (mPla M) k9 k36 v1_36 v2_36 v4_36 := ⟨_, rfl⟩
          have hq36 : z9 = sE id (fun q_ => lpF (f_X8_kindHere_l36s (mTxt M) (mSiz M) (mPla M) k9) (f_X8_kindHere_l36e (mTxt M) (mSiz M) (mPla M) k9) n36 (k36 + 1) q_) z36 := by rw [hz36, hz]; rfl
          refine lv_iload hx hb dX8_kindHere_36 (lv_at hl 5 rfl) ?_
          refine lv_iload hx hb dX8_kindHere_38 (lv_at hl 4 rfl) ?_
          refine lv_icmp_ge (tgt := 90) hx hb dX8_kindHere_40 (by decide) (fun c_40 => absurd c_40 (nI_ge (by omega) (by omega))) (fun c_40 => ?_)
          refine lv_aload_n hx hb dX8_kindHere_43 rfl (lv_at hl 0 rfl) ?_
          refine va_get (D := D) (ci := 9) (v := .int (nI (mPla M))) (C := RX8) (T := TX8) (N := 20) hx hb hts hinX8 hown hK hP 0 rfl rfl 16 (by decide) (hts (.fieldLink RX8 207 "BridgeAuctionModel" "place" "I") (by decide +kernel)) (fun _ h9 => h9) rfl dX8_kindHere_44 ?_
          refine lv_iload hx hb dX8_kindHere_47 (lv_at hl 5 rfl) ?_
          refine addN hx hb dX8_kindHere_49 ?_
          refine lv_aload_n hx hb dX8_kindHere_50 rfl (lv_at hl 0 rfl) ?_
          refine va_get (D := D) (ci := 9) (v := .int (nI (mSiz M))) (C := RX8) (T := TX8) (N := 20) hx hb hts hinX8 hown hK hP 0 rfl rfl 15 (by decide) (hts (.fieldLink RX8 210 "BridgeAuctionModel" "size" "I") (by decide +kernel)) (fun _ h9 => h9) rfl dX8_kindHere_51 ?_
          refine lv_icmp_ge (tgt := 90) hx hb dX8_kindHere_54 (by decide) (fun c_54 => ?_) (fun c_54 => ?_)
          · have hz := hz.trans (if_pos c_54)
            have hz := up1 hq36 hz
            exact J90 (v1_36) (v2_36) (v4_36) (k36) _ _ ls hz (by first | rfl | assumption) (by omega) (by omega) (by assumption) hP hD hS (lv_sub hl [0, 1, 2, 3, 4, 5] rfl)
          · have hz := hz.trans (if_neg c_54)
            have q := ltN' (by omega) c_54
            refine lv_aload_n hx hb dX8_kindHere_57 rfl (lv_at hl 0 rfl) ?_
            refine va_get (D := D) (ci := 9) (v := .ref (b 5)) (C := RX8) (T := TX8) (N := 20) hx hb hts hinX8 hown hK hP 0 rfl rfl 8 (by decide) (hts (.fieldLink RX8 29 "BridgeAuctionModel" "text" "[I") (by decide +kernel)) (fun _ h9 => h9) rfl dX8_kindHere_58 ?_
            refine lv_aload_n hx hb dX8_kindHere_61 rfl (lv_at hl 0 rfl) ?_
            refine va_get (D := D) (ci := 9) (v := .int (nI (mPla M))) (C := RX8) (T := TX8) (N := 20) hx hb hts hinX8 hown hK hP 0 rfl rfl 16 (by decide) (hts (.fieldLink RX8 207 "BridgeAuctionModel" "place" "I") (by decide +kernel)) (fun _ h9 => h9) rfl dX8_kindHere_62 ?_
            refine lv_iload hx hb dX8_kindHere_65 (lv_at hl 5 rfl) ?_
            refine addN hx hb dX8_kindHere_67 ?_
            refine ialdN (tys := tyA C) hx hb hK hP 5 0 rfl rfl (i := ((mPla M) + k36)) (by omega) (by decide) dX8_kindHere_68 ?_
            refine va_ldcS (q := (ev (40 + 15))) hx hb hown hR dX8_kindHere_69 ?_
            refine lv_iload_n hx hb dX8_kindHere_71 rfl (lv_at hl 3 rfl) ?_
            refine callRo (va_runS (As := [.int (nI k9)]) (rest := [.ref (ev (40 + 15)), .int ((mTxt M) ((mPla M) + k36))]) ⟨hx, hb, hml, hown, hts⟩ (c_X8_startOf l D C ((nI k9))) (va_cwS 1 hts gX8_kindHere_X8_startOf rfl rfl rfl (by decide +kernel) ⟨Nat.le_of_ble_eq_true rfl, Nat.le_of_ble_eq_true rfl⟩) (roP_s (hP.sub (ws' := ([] : va_W)) [] rfl) hK hE) rfl rfl hl.1 rfl (lv_room (Nat.le_of_ble_eq_true rfl)) dX8_kindHere_72 ⟨Nat.le_refl _, Nat.le_refl _⟩) ?_
            refine topN (k := (wst k9)) (show (f_X8_startOf ((nI k9))) = (nI (wst k9)) from by exact X8_startOf_at (by omega)) ?_
            refine lv_iload hx hb dX8_kindHere_75 (lv_at hl 5 rfl) ?_
            refine addN hx hb dX8_kindHere_77 ?_
            refine callRo (va_runV (As := [.int (nI ((wst k9) + k36))]) (rest := [.int ((mTxt M) ((mPla M) + k36))]) ⟨hx, hb, hml, hown, hts⟩ (c_J0_charAt_5068e l D C ev 15 (((wst k9) + k36)) (by first | assumption | omega) (by rw [show tlen 15 = 50 from by decide +kernel]; omega)) (cwV 1 hts gX8_kindHere_J0_charAt_5068e rfl rfl rfl (by decide +kernel) ⟨Nat.le_of_ble_eq_true rfl, Nat.le_of_ble_eq_true rfl⟩) (roPE_v (hP.sub (ws' := ([] : va_W)) [] rfl) hK hE hR hX hS (vk_recv (i := 15) hTX (by omega) hS)) rfl rfl hl.1 rfl (lv_room (Nat.le_of_ble_eq_true rfl)) dX8_kindHere_78 ⟨Nat.le_refl _, Nat.le_refl _⟩) ?_
            refine lv_icmp_ne (tgt := 90) hx hb dX8_kindHere_81 (by decide) (fun c_81 => ?_) (fun c_81 => ?_)
            · have hz := hz.trans (if_neg c_81)
              have hz := up1 hq36 hz
              exact J90 (v1_36) (v2_36) (v4_36) (k36) _ _ ls hz (by first | rfl | assumption) (by omega) (by omega) (by assumption) hP hD hS (lv_sub hl [0, 1, 2, 3, 4, 5] rfl)
            · have hz := hz.trans (if_pos c_81)
              refine lv_iinc (v := (nI (k36 + 1))) (lv' := [(5, .int (nI (k36 + 1))), (0, .ref (b 0)), (1, .int v1_36), (2, .int v2_36), (3, .int (nI k9)), (4, .int (nI v4_36))]) hx hb dX8_kindHere_84 hl (k := 5) rfl (by exact nI_1 _) (by decide) rfl (fun ls hl => ?_)
              refine lv_goto (tgt := 36) hx hb dX8_kindHere_87 (by decide) ?_
              exact ih36 (k36 + 1) (v1_36) (v2_36) (v4_36) _ _ ls (by omega) (by rw [hq36, hz]; rfl) (by first | rfl | assumption) (by omega) (by assumption) hP hD hS (lv_sub hl [1, 2, 3, 4, 5, 0] rfl)
      refine lv_iload_n hx hb dX8_kindHere_9 rfl (lv_at hl 3 rfl) ?_
      refine lv_bipush (v := 9) hx hb dX8_kindHere_10 (by decide +kernel) ?_
      refine lv_icmp_ge (tgt := 121) hx hb dX8_kindHere_12 (by decide) (fun c_12 => absurd c_12 (by have e : (9 : Int32) = nI 9 := (by decide +kernel); rw [e]; exact nI_ge (by omega) (by omega))) (fun c_12 => ?_)
      refine lv_iload_n hx hb dX8_kindHere_15 rfl (lv_at hl 2 rfl) ?_
      refine lv_iconst (v := (-1)) hx hb dX8_kindHere_16 (by decide) ?_
      refine lv_icmp_ne (tgt := 121) hx hb dX8_kindHere_17 (by decide) (fun c_17 => ?_) (fun c_17 => ?_)
      · have hz := hz.trans (if_neg c_17)
        have hz := up1 hq9 hz
        exact J121 (v1_9) (v2_9) _ _ ls hz (by assumption) hP hD hS (lv_sub hl [0, 1, 2] rfl)
      · have hz := hz.trans (if_pos c_17)
        refine lv_iload_n hx hb dX8_kindHere_20 rfl (lv_at hl 3 rfl) ?_
        refine lv_iconst (v := 1) hx hb dX8_kindHere_21 (by decide) ?_
        refine topN (k := 1) (by decide +kernel) ?_
        refine addN hx hb dX8_kindHere_22 ?_
        refine callRo (va_runS (As := [.int (nI (k9 + 1))]) (rest := []) ⟨hx, hb, hml, hown, hts⟩ (c_X8_startOf l D C ((nI (k9 + 1)))) (va_cwS 1 hts gX8_kindHere_X8_startOf rfl rfl rfl (by decide +kernel) ⟨Nat.le_of_ble_eq_true rfl, Nat.le_of_ble_eq_true rfl⟩) (roP_s (hP.sub (ws' := ([] : va_W)) [] rfl) hK hE) rfl rfl hl.1 rfl (lv_room (Nat.le_of_ble_eq_true rfl)) dX8_kindHere_23 ⟨Nat.le_refl _, Nat.le_refl _⟩) ?_
        refine topN (k := (wst (k9 + 1))) (show (f_X8_startOf ((nI (k9 + 1)))) = (nI (wst (k9 + 1))) from by exact X8_startOf_at (by omega)) ?_
        refine lv_iload_n hx hb dX8_kindHere_26 rfl (lv_at hl 3 rfl) ?_
        refine callRo (va_runS (As := [.int (nI k9)]) (rest := [.int (nI (wst (k9 + 1)))]) ⟨hx, hb, hml, hown, hts⟩ (c_X8_startOf l D C ((nI k9))) (va_cwS 1 hts gX8_kindHere_X8_startOf rfl rfl rfl (by decide +kernel) ⟨Nat.le_of_ble_eq_true rfl, Nat.le_of_ble_eq_true rfl⟩) (roP_s (hP.sub (ws' := ([] : va_W)) [] rfl) hK hE) rfl rfl hl.1 rfl (lv_room (Nat.le_of_ble_eq_true rfl)) dX8_kindHere_27 ⟨Nat.le_refl _, Nat.le_refl _⟩) ?_
        refine topN (k := (wst k9)) (show (f_X8_startOf ((nI k9))) = (nI (wst k9)) from by exact X8_startOf_at (by omega)) ?_
        refine lv_isub hx hb dX8_kindHere_30 ?_
        refine topN (k := (wlen k9)) (show ((nI (wst (k9 + 1))) - (nI (wst k9))) = (nI (wlen k9)) from by exact wlen_sub (by omega)) ?_
        refine lv_istore (lv' := [(4, .int (nI (wlen k9))), (0, .ref (b 0)), (1, .int v1_9), (2, .int v2_9), (3, .int (nI k9))]) hx hb dX8_kindHere_31 hl (by decide) rfl (fun ls hl => ?_)
        refine lv_iconst (v := 0) hx hb dX8_kindHere_33 (by decide) ?_
        refine lv_istore (lv' := [(5, .int 0), (4, .int (nI (wlen k9))), (0, .ref (b 0)), (1, .int v1_9), (2, .int v2_9), (3, .int (nI k9))]) hx hb dX8_kindHere_34 hl (by decide) rfl (fun ls hl => ?_)
        exact J36 ((wlen k9)) 0 (v1_9) (v2_9) ((wlen k9)) _ _ ls (by omega) hz (by first | rfl | assumption) (by omega) (by assumption) hP hD hS (lv_sub hl [2, 3, 4, 5, 1, 0] rfl)
  refine lv_aload_n hx hb dX8_kindHere_0 rfl (lv_at hl 0 rfl) ?_
  refine va_get (D := D) (ci := 9) (v := .int (nI (mPla M))) (C := RX8) (T := TX8) (N := 20) hx hb hts hinX8 hown hK hP 0 rfl rfl 16 (by decide) (hts (.fieldLink RX8 207 "BridgeAuctionModel" "place" "I") (by decide +kernel)) (fun _ h9 => h9) rfl dX8_kindHere_1 ?_
  refine lv_istore_n (lv' := [(1, .int (nI (mPla M))), (0, .ref (b 0))]) hx hb dX8_kindHere_4 rfl hl (by decide) rfl (fun ls hl => ?_)
  refine lv_iconst (v := (-1)) hx hb dX8_kindHere_5 (by decide) ?_
  refine lv_istore_n (lv' := [(2, .int (-1)), (1, .int (nI (mPla M))), (0, .ref (b 0))]) hx hb dX8_kindHere_6 rfl hl (by decide) rfl (fun ls hl => ?_)
  refine lv_iconst (v := 0) hx hb dX8_kindHere_7 (by decide) ?_
  refine lv_istore_n (lv' := [(3, .int 0), (2, .int (-1)), (1, .int (nI (mPla M))), (0, .ref (b 0))]) hx hb dX8_kindHere_8 rfl hl (by decide) rfl (fun ls hl => ?_)
  exact J9 (9) 0 ((nI (mPla M))) ((-1)) _ _ ls (by omega) hz (by first | exact Or.inl rfl | assumption) hP hD hS (lv_sub hl [3, 2, 1, 0] rfl)

