theorem X8_letter_lt {tx : Nat → Int32} {si pl : Nat} {x y : Int32} (hx : 0 ≤ x) (hp : pl ≤ si) (h : f_X8_isIn (f_X8_letterHere tx si pl) x y = true) : pl < si := by
  rcases Nat.lt_or_ge pl si with a | a
  · exact a
  · exfalso
    have e1 : pl = si := by omega
    subst e1
    have e : f_X8_letterHere tx pl pl = -1 := by
      unfold f_X8_letterHere
      rw [if_pos (Int32.le_refl _)]
      rfl
    rw [e] at h
    unfold f_X8_isIn at h
    rw [if_pos (by rw [Int32.lt_iff_toInt_lt, show (-1 : Int32).toInt = -1 from by decide]; rw [Int32.le_iff_toInt_le, Int32.toInt_zero] at hx; omega)] at h
    exact absurd h (by decide)
/-- a loop that ends by a measure -/
theorem lpW_inv {σ ρ : Type} {d : ρ} {step : σ → Sum ρ σ} (I : σ → Prop) (P : ρ → Prop) (μ : σ → Nat) (h1 : ∀ s r, I s → step s = .inl r → P r) (h2 : ∀ s s', I s → step s = .inr s' → I s' ∧ μ s' < μ s) : ∀ (n : Nat) (s : σ), I s → μ s < n → P (lpW d step n s) := by
  intro n
  induction n with
  | zero => intro s _ h; exact absurd h (Nat.not_lt_zero _)
  | succ n ih =>
    intro s h hm
    show P (sE id (lpW d step n) (step s))
    cases e : step s with
    | inl r => exact h1 s r h e
    | inr s' => exact ih s' (h2 s s' h e).1 (by have := (h2 s s' h e).2; omega)
def f_X8_reads_j64 (pl : Nat) (s0_64 : Int32) : Int32 × Nat × Int32 := (0, pl, s0_64)
def f_X8_reads_j44 (pl : Nat) (wr : Int32) : Int32 × Nat × Int32 := (if wr = (-1) then (f_X8_reads_j64 pl ((nI pl))) else (f_X8_reads_j64 pl (wr)))
def f_X8_reads (tx : (Nat → Int32)) (sz : Nat) (pl : Nat) (wr : Int32) (x : Int32) (y : Int32) : Int32 × Nat × Int32 := (if wr = (-1) then (if (f_X8_isIn ((f_X8_letterHere tx sz pl)) (x) (y)) = true then (((tx pl) - x), (pl + 1), wr) else (f_X8_reads_j44 pl wr)) else (f_X8_reads_j44 pl wr))
set_option maxHeartbeats 4000000 in
set_option maxRecDepth 100000 in
theorem c_X8_reads (l : Launch) (D : va_G) (C : Nat → ClassId) (b : Nat → Nat) (M : MS) (x : Int32) (y : Int32) (sz : Nat) (hSi : mSiz M ≤ 60) (hPl : mPla M ≤ mSiz M) (h0x : 0 ≤ x) : Met l yX8_reads wsX8_reads ({ frames := 1, cells := 0, slots := 0, locals := 22 } : Room) (rwP [.ref (b 0), .int x, .int y] D C (mcells C b M) sz) (rwO (some (.int ((f_X8_reads (mTxt M) (mSiz M) (mPla M) (mWro M) x y).1))) D (mcells C b (mkM (mNow M) (mBef M) (mSav M) (mHis M) (mIsS M) (mRem M) (mErA M) (mFaA M) (mTxt M) (mTyp M) (mLin M) (mLnd M) (mThr M) (mFar M) (mGrp M) (mSiz M) ((f_X8_reads (mTxt M) (mSiz M) (mPla M) (mWro M) x y).2.1) ((f_X8_reads (mTxt M) (mSiz M) (mPla M) (mWro M) x y).2.2) (mTol M) (mNum M))) (va_A (mcells C b M) sz)) 0 0 (va_A (mcells C b M) sz) := by
  refine Met.ofW (cc := cX8_reads) (maxL := 3) (ret := (some .int)) (by decide) rfl ?_
  intro p e s m args below meth c s₁ B hml hv
  obtain ⟨rfl, hsz, hP, hK, hD0, hE⟩ := hv
  have hx := B.exec
  have hb := B.bytes
  have hr := B.returns
  have hts := atoms_spec (ws := wsX8_reads) B.pre
  have hown : s.vm.findClass RX8 = some m.cls := findClass_of_methodNamed B.named
  have hlocks := B.notSynchronized
  subst hsz
  have hD := hD0.self (sz := s.heap.size)
  generalize hAe : va_A (mcells C b M) s.heap.size = A at hD ⊢
  have hA : ∀ q : Nat, s.heap.size ≤ q → A q := fun q h => by rw [← hAe]; exact Or.inr h
  have hS0 : va_S A s.heap s.heap [] := va_S.rf
  have hP : va_P D vwCl (mcells C b M) s.heap := hP
  have hS := hS0
  have hinX8 : ∀ w ∈ u_ws RX8 TX8 20, w ∈ wsX8_reads := by decide +kernel
  have hl := lv_entry ([.ref (b 0), .int x, .int y]) (n := 3) (Nat.le_of_ble_eq_true rfl)
  rw [lg_entry_eq]
  generalize (lg_sl ([.ref (b 0), .int x, .int y]) ++ List.replicate (3 - (lg_sl ([.ref (b 0), .int x, .int y])).length) Slot.unset).toArray = ls at hl ⊢
  have hl : lv_has ls 3 [(0, .ref (b 0)), (1, .int x), (2, .int y)] := hl
  obtain ⟨z, hz⟩ : ∃ z, z = f_X8_reads (mTxt M) (mSiz M) (mPla M) (mWro M) x y := ⟨_, rfl⟩
  rw [← hz]
  have J64 : ∀ (s0_64 : Int32)  (H : Heap) (locs : List Loc) (ls : Array Slot), z = f_X8_reads_j64 (mPla M) s0_64 → va_P D vwCl (mcells C b M) H → va_D A (mcells C b M) → va_S A s.heap H locs → lv_has ls 3 [] → W p l e ({ frames := 1, cells := 0, slots := 0, locals := 22 } : Room) s m ([.ref (b 0), .int x, .int y] : List Value).toArray below meth c H locs 0 0 (MQ below (rwO (some (.int z.1)) D (mcells C b (mkM (mNow M) (mBef M) (mSav M) (mHis M) (mIsS M) (mRem M) (mErA M) (mFaA M) (mTxt M) (mTyp M) (mLin M) (mLnd M) (mThr M) (mFar M) (mGrp M) (mSiz M) z.2.1 z.2.2 (mTol M) (mNum M))) A) ([.ref (b 0), .int x, .int y] : List Value).toArray s 0 0 A) (F0 m 64 ls [.int s0_64, .ref (b 0)]) := by
    intro s0_64 H locs ls hz  hP hD hS hl
    refine va_put (D := D) (ci := 9) (v := .int s0_64) (ty := .int) (C := RX8) (T := TX8) (N := 20) hx hb hts hinX8 tyX8 tyX8_ok nmX8 hown hK hP hD hS 0 rfl rfl 17 (by decide) (hts (.fieldLink RX8 213 "BridgeAuctionModel" "wrong" "I") (by decide +kernel)) (fun _ h9 => h9) rfl (by decide +kernel) rfl rfl (Nat.le_of_ble_eq_true rfl) dX8_reads_64 (fun H locs hP hD hS => ?_)
    have hP : va_P D vwCl (mcells C b (mkM (mNow M) (mBef M) (mSav M) (mHis M) (mIsS M) (mRem M) (mErA M) (mFaA M) (mTxt M) (mTyp M) (mLin M) (mLnd M) (mThr M) (mFar M) (mGrp M) (mSiz M) (mPla M) s0_64 (mTol M) (mNum M))) H := hP
    have hD : va_D A (mcells C b (mkM (mNow M) (mBef M) (mSav M) (mHis M) (mIsS M) (mRem M) (mErA M) (mFaA M) (mTxt M) (mTyp M) (mLin M) (mLnd M) (mThr M) (mFar M) (mGrp M) (mSiz M) (mPla M) s0_64 (mTol M) (mNum M))) := hD
    refine lv_iconst (v := 0) hx hb dX8_reads_67 (by decide) ?_
    have hz : z = (0, (mPla M), s0_64) := hz
    rw [hz]
    exact rw_ret hx hb hr hP hS rfl dX8_reads_68 hlocks
  have J44 : ∀  (H : Heap) (locs : List Loc) (ls : Array Slot), z = f_X8_reads_j44 (mPla M) (mWro M) → va_P D vwCl (mcells C b M) H → va_D A (mcells C b M) → va_S A s.heap H locs → lv_has ls 3 [(0, .ref (b 0))] → W p l e ({ frames := 1, cells := 0, slots := 0, locals := 22 } : Room) s m ([.ref (b 0), .int x, .int y] : List Value).toArray below meth c H locs 0 0 (MQ below (rwO (some (.int z.1)) D (mcells C b (mkM (mNow M) (mBef M) (mSav M) (mHis M) (mIsS M) (mRem M) (mErA M) (mFaA M) (mTxt M) (mTyp M) (mLin M) (mLnd M) (mThr M) (mFar M) (mGrp M) (mSiz M) z.2.1 z.2.2 (mTol M) (mNum M))) A) ([.ref (b 0), .int x, .int y] : List Value).toArray s 0 0 A) (F0 m 44 ls []) := by
    intro  H locs ls hz  hP hD hS hl
    refine lv_aload_n hx hb dX8_reads_44 rfl (lv_at hl 0 rfl) ?_
    refine lv_aload_n hx hb dX8_reads_45 rfl (lv_at hl 0 rfl) ?_
    refine va_get (D := D) (ci := 9) (v := .int (mWro M)) (C := RX8) (T := TX8) (N := 20) hx hb hts hinX8 hown hK hP 0 rfl rfl 17 (by decide) (hts (.fieldLink RX8 213 "BridgeAuctionModel" "wrong" "I") (by decide +kernel)) (fun _ h9 => h9) rfl dX8_reads_46 ?_
    refine lv_iconst (v := (-1)) hx hb dX8_reads_49 (by decide) ?_
    refine lv_icmp_ne (tgt := 60) hx hb dX8_reads_50 (by decide) (fun c_50 => ?_) (fun c_50 => ?_)
    · have hz := hz.trans (if_neg c_50)
      refine lv_aload_n hx hb dX8_reads_60 rfl (lv_at hl 0 rfl) ?_
      refine va_get (D := D) (ci := 9) (v := .int (mWro M)) (C := RX8) (T := TX8) (N := 20) hx hb hts hinX8 hown hK hP 0 rfl rfl 17 (by decide) (hts (.fieldLink RX8 213 "BridgeAuctionModel" "wrong" "I") (by decide +kernel)) (fun _ h9 => h9) rfl dX8_reads_61 ?_
      exact J64 ((mWro M)) _ _ ls hz  hP hD hS (lv_sub hl [] rfl)
    · have hz := hz.trans (if_pos c_50)
      refine lv_aload_n hx hb dX8_reads_53 rfl (lv_at hl 0 rfl) ?_
      refine va_get (D := D) (ci := 9) (v := .int (nI (mPla M))) (C := RX8) (T := TX8) (N := 20) hx hb hts hinX8 hown hK hP 0 rfl rfl 16 (by decide) (hts (.fieldLink RX8 207 "BridgeAuctionModel" "place" "I") (by decide +kernel)) (fun _ h9 => h9) rfl dX8_reads_54 ?_
      refine lv_goto (tgt := 64) hx hb dX8_reads_57 (by decide) ?_
      exact J64 ((nI (mPla M))) _ _ ls hz  hP hD hS (lv_sub hl [] rfl)
  refine lv_aload_n hx hb dX8_reads_0 rfl (lv_at hl 0 rfl) ?_
  refine va_get (D := D) (ci := 9) (v := .int (mWro M)) (C := RX8) (T := TX8) (N := 20) hx hb hts hinX8 hown hK hP 0 rfl rfl 17 (by decide) (hts (.fieldLink RX8 213 "BridgeAuctionModel" "wrong" "I") (by decide +kernel)) (fun _ h9 => h9) rfl dX8_reads_1 ?_
  refine lv_iconst (v := (-1)) hx hb dX8_reads_4 (by decide) ?_
  refine lv_icmp_ne (tgt := 44) hx hb dX8_reads_5 (by decide) (fun c_5 => ?_) (fun c_5 => ?_)
  · have hz := hz.trans (if_neg c_5)
    exact J44  _ _ ls hz  hP hD hS (lv_sub hl [0] rfl)
  · have hz := hz.trans (if_pos c_5)
    refine lv_aload_n hx hb dX8_reads_8 rfl (lv_at hl 0 rfl) ?_
    refine callRo (va_runV (As := []) (rest := []) ⟨hx, hb, hml, hown, hts⟩ (c_X8_letterHere l D C b M (by show (mSiz M) ≤ 60; first | assumption | omega) (by show (mPla M) ≤ (mSiz M); first | assumption | omega)) (cwV 0 hts gX8_reads_X8_letterHere rfl rfl rfl (by decide +kernel) ⟨Nat.le_of_ble_eq_true rfl, Nat.le_of_ble_eq_true rfl⟩) (roP_v hP hK hE (va_recv hK hP (ci := 9) (q0 := 0) rfl rfl)) rfl rfl hl.1 rfl (lv_room (Nat.le_of_ble_eq_true rfl)) dX8_reads_9 ⟨Nat.le_refl _, Nat.le_refl _⟩) ?_
    refine lv_iload_n hx hb dX8_reads_12 rfl (lv_at hl 1 rfl) ?_
    refine lv_iload_n hx hb dX8_reads_13 rfl (lv_at hl 2 rfl) ?_
    refine callRo (va_runS (As := [.int (f_X8_letterHere (mTxt M) (mSiz M) (mPla M)), .int x, .int y]) (rest := []) ⟨hx, hb, hml, hown, hts⟩ (c_X8_isIn l D C ((f_X8_letterHere (mTxt M) (mSiz M) (mPla M))) (x) (y)) (va_cwS 3 hts gX8_reads_X8_isIn rfl rfl rfl (by decide +kernel) ⟨Nat.le_of_ble_eq_true rfl, Nat.le_of_ble_eq_true rfl⟩) (roP_s (hP.sub (ws' := ([] : va_W)) [] rfl) hK hE) rfl rfl hl.1 rfl (lv_room (Nat.le_of_ble_eq_true rfl)) dX8_reads_14 ⟨Nat.le_refl _, Nat.le_refl _⟩) ?_
    refine bif_eq (tgt := 44) hx hb dX8_reads_17 (by decide) (fun c_17 => ?_) (fun c_17 => ?_)
    · have hz := hz.trans (ifB_f c_17)
      exact J44  _ _ ls hz  hP hD hS (lv_sub hl [0] rfl)
    · have hz := hz.trans (ifB_t c_17)
      have q := X8_letter_lt h0x hPl c_17
      refine lv_aload_n hx hb dX8_reads_20 rfl (lv_at hl 0 rfl) ?_
      refine lv_dup hx hb dX8_reads_21 rfl ?_
      refine va_get (D := D) (ci := 9) (v := .int (nI (mPla M))) (C := RX8) (T := TX8) (N := 20) hx hb hts hinX8 hown hK hP 0 rfl rfl 16 (by decide) (hts (.fieldLink RX8 207 "BridgeAuctionModel" "place" "I") (by decide +kernel)) (fun _ h9 => h9) rfl dX8_reads_22 ?_
      refine lv_iconst (v := 1) hx hb dX8_reads_25 (by decide) ?_
      refine topN (k := 1) (by decide +kernel) ?_
      refine addN hx hb dX8_reads_26 ?_
      refine va_put (D := D) (ci := 9) (v := .int (nI ((mPla M) + 1))) (ty := .int) (C := RX8) (T := TX8) (N := 20) hx hb hts hinX8 tyX8 tyX8_ok nmX8 hown hK hP hD hS 0 rfl rfl 16 (by decide) (hts (.fieldLink RX8 207 "BridgeAuctionModel" "place" "I") (by decide +kernel)) (fun _ h9 => h9) rfl (by decide +kernel) rfl rfl (Nat.le_of_ble_eq_true rfl) dX8_reads_27 (fun H locs hP hD hS => ?_)
      have hP : va_P D vwCl (mcells C b (mkM (mNow M) (mBef M) (mSav M) (mHis M) (mIsS M) (mRem M) (mErA M) (mFaA M) (mTxt M) (mTyp M) (mLin M) (mLnd M) (mThr M) (mFar M) (mGrp M) (mSiz M) ((mPla M) + 1) (mWro M) (mTol M) (mNum M))) H := hP
      have hD : va_D A (mcells C b (mkM (mNow M) (mBef M) (mSav M) (mHis M) (mIsS M) (mRem M) (mErA M) (mFaA M) (mTxt M) (mTyp M) (mLin M) (mLnd M) (mThr M) (mFar M) (mGrp M) (mSiz M) ((mPla M) + 1) (mWro M) (mTol M) (mNum M))) := hD
      refine lv_aload_n hx hb dX8_reads_30 rfl (lv_at hl 0 rfl) ?_
      refine va_get (D := D) (ci := 9) (v := .ref (b 5)) (C := RX8) (T := TX8) (N := 20) hx hb hts hinX8 hown hK hP 0 rfl rfl 8 (by decide) (hts (.fieldLink RX8 29 "BridgeAuctionModel" "text" "[I") (by decide +kernel)) (fun _ h9 => h9) rfl dX8_reads_31 ?_
      refine lv_aload_n hx hb dX8_reads_34 rfl (lv_at hl 0 rfl) ?_
      refine va_get (D := D) (ci := 9) (v := .int (nI ((mPla M) + 1))) (C := RX8) (T := TX8) (N := 20) hx hb hts hinX8 hown hK hP 0 rfl rfl 16 (by decide) (hts (.fieldLink RX8 207 "BridgeAuctionModel" "place" "I") (by decide +kernel)) (fun _ h9 => h9) rfl dX8_reads_35 ?_
      refine lv_iconst (v := 1) hx hb dX8_reads_38 (by decide) ?_
      refine lv_isub hx hb dX8_reads_39 ?_
      refine topN (k := (mPla M)) (show ((nI ((mPla M) + 1)) - 1) = (nI (mPla M)) from by exact nI_pred _) ?_
      refine ialdN (tys := tyA C) hx hb hK hP 5 0 rfl rfl (i := (mPla M)) (by omega) (by decide) dX8_reads_40 ?_
      refine lv_iload_n hx hb dX8_reads_41 rfl (lv_at hl 1 rfl) ?_
      refine lv_isub hx hb dX8_reads_42 ?_
      have hz : z = ((((mTxt M) (mPla M)) - x), ((mPla M) + 1), (mWro M)) := hz
      rw [hz]
      exact rw_ret hx hb hr hP hS rfl dX8_reads_43 hlocks

