def f_X8_ferries_j170  (v3_170 : Int32) (s0_170 : Bool) (s1_170 : Int32) (thr0_170 : Int32) : Sum (Int32 × (Nat → Int32) × Int32) (Int32 × Int32 × Int32) := (Sum.inr (v3_170, (s1_170 + (bI s0_170)), thr0_170))
def f_X8_ferries_l144b (nw : (Nat → Int32)) (x : Int32) (y : Int32) (k144 : Nat) (v3_144 : Int32) (v7_144 : Int32) (thr0_144 : Int32) : Sum (Int32 × (Nat → Int32) × Int32) (Int32 × Int32 × Int32) := (if (f_X8_of nw (y) ((5 + k144))) ≤ v3_144 then (f_X8_ferries_j170 (v3_144) (false) (v7_144) (thr0_144)) else (f_X8_ferries_j170 (v3_144) (true) (v7_144) (thr0_144)))
def f_X8_ferries_l144x (nw : (Nat → Int32)) (x : Int32) (y : Int32) (v3_144 : Int32) (v7_144 : Int32) (thr0_144 : Int32) : Int32 × (Nat → Int32) × Int32 := (v7_144, (upd (upd nw ((14 + 2 * x.toNatClampNeg) + 1) 1) ((22 + 13 * y.toNatClampNeg) + 4) x), thr0_144)
def f_X8_ferries_l144s (nw : (Nat → Int32)) (x : Int32) (y : Int32) (k144 : Nat) (q_ : Int32 × Int32 × Int32) : Sum (Int32 × (Nat → Int32) × Int32) (Int32 × Int32 × Int32) := f_X8_ferries_l144b nw x y k144 (q_.1) (q_.2.1) (q_.2.2)
def f_X8_ferries_l144e (nw : (Nat → Int32)) (x : Int32) (y : Int32) (q_ : Int32 × Int32 × Int32) : Int32 × (Nat → Int32) × Int32 := f_X8_ferries_l144x nw x y (q_.1) (q_.2.1) (q_.2.2)
def f_X8_ferries_l144 (nw : (Nat → Int32)) (x : Int32) (y : Int32) (n144 k144 : Nat) (v3_144 : Int32) (v7_144 : Int32) (thr0_144 : Int32) : Int32 × (Nat → Int32) × Int32 := lpF (f_X8_ferries_l144s nw x y) (f_X8_ferries_l144e nw x y) n144 k144 (v3_144, v7_144, thr0_144)
def f_X8_ferries_j126 (nw : (Nat → Int32)) (x : Int32) (y : Int32) (v3_126 : Int32) (v5_126 : Bool) (v6_126 : Bool) (s0_126 : Bool) (s1_126 : Bool) : Int32 × (Nat → Int32) × Int32 := (if (hOk s1_126 s0_126 v5_126 v6_126) = true then (f_X8_ferries_l144 nw x y (4) 0 (v3_126) (0) ((hThr s1_126 s0_126 v5_126 v6_126))) else (0, nw, (hThr s1_126 s0_126 v5_126 v6_126)))
def f_X8_ferries_j112 (nw : (Nat → Int32)) (x : Int32) (y : Int32) (v3_112 : Int32) (v4_112 : Bool) (v5_112 : Bool) (s0_112 : Bool) : Int32 × (Nat → Int32) × Int32 := (if v3_112 ≤ 0 then (f_X8_ferries_j126 nw x y (v3_112) (v5_112) (s0_112) (false) (v4_112)) else (f_X8_ferries_j126 nw x y (v3_112) (v5_112) (s0_112) (true) (v4_112)))
def f_X8_ferries_j111 (nw : (Nat → Int32)) (x : Int32) (y : Int32) (v3_111 : Int32) (v4_111 : Bool) (v5_111 : Bool) : Int32 × (Nat → Int32) × Int32 := (f_X8_ferries_j112 nw x y (v3_111) (v4_111) (v5_111) (false))
def f_X8_ferries_j107 (nw : (Nat → Int32)) (x : Int32) (y : Int32) (v3_107 : Int32) (v4_107 : Bool) (v5_107 : Bool) : Int32 × (Nat → Int32) × Int32 := (f_X8_ferries_j112 nw x y (v3_107) (v4_107) (v5_107) (true))
def f_X8_ferries_j64 (nw : (Nat → Int32)) (x : Int32) (y : Int32) (v3_64 : Int32) (v4_64 : Bool) (s0_64 : Bool) : Int32 × (Nat → Int32) × Int32 := (if v4_64 = true then (if (nw ((6 + (f_X8_of nw (y) (0)))).toNatClampNeg) = x then (f_X8_ferries_j107 nw x y (v3_64) (v4_64) (s0_64)) else (if (nw ((6 + (f_X8_of nw (y) (1)))).toNatClampNeg) = x then (f_X8_ferries_j107 nw x y (v3_64) (v4_64) (s0_64)) else (f_X8_ferries_j111 nw x y (v3_64) (v4_64) (s0_64)))) else (f_X8_ferries_j111 nw x y (v3_64) (v4_64) (s0_64)))
def f_X8_ferries_j63 (nw : (Nat → Int32)) (x : Int32) (y : Int32) (v3_63 : Int32) (v4_63 : Bool) : Int32 × (Nat → Int32) × Int32 := (f_X8_ferries_j64 nw x y (v3_63) (v4_63) (false))
def f_X8_ferries_j28 (nw : (Nat → Int32)) (x : Int32) (y : Int32) (v3_28 : Int32) (s0_28 : Bool) : Int32 × (Nat → Int32) × Int32 := (if s0_28 = true then (if (nw ((14 + 2 * x.toNatClampNeg) + 1)) = 0 then (if (f_X8_of nw (y) (4)) = (-1) then (f_X8_ferries_j64 nw x y (v3_28) (s0_28) (true)) else (f_X8_ferries_j63 nw x y (v3_28) (s0_28))) else (f_X8_ferries_j63 nw x y (v3_28) (s0_28))) else (f_X8_ferries_j63 nw x y (v3_28) (s0_28)))
def f_X8_ferries_j27 (nw : (Nat → Int32)) (x : Int32) (y : Int32) (v3_27 : Int32) : Int32 × (Nat → Int32) × Int32 := (f_X8_ferries_j28 nw x y (v3_27) (false))
def f_X8_ferries (nw : (Nat → Int32)) (x : Int32) (y : Int32) : Int32 × (Nat → Int32) × Int32 := (if (f_X8_isPlayer nw (x)) = true then (if (f_X8_isSite nw (y)) = true then (f_X8_ferries_j28 nw x y ((f_X8_amountOf nw (x) (y))) (true)) else (f_X8_ferries_j27 nw x y ((f_X8_amountOf nw (x) (y))))) else (f_X8_ferries_j27 nw x y ((f_X8_amountOf nw (x) (y)))))
set_option maxHeartbeats 4000000 in
set_option maxRecDepth 100000 in
theorem c_X8_ferries (l : Launch) (D : va_G) (C : Nat → ClassId) (b : Nat → Nat) (M : MS) (x : Int32) (y : Int32) (sz : Nat) (hM : MSafe M) : Met l yX8_ferries wsX8_ferries ({ frames := 4, cells := 0, slots := 0, locals := 87 } : Room) (rwP [.ref (b 0), .int x, .int y] D C (mcells C b M) sz) (rwO (some (.int ((f_X8_ferries (mNow M) x y).1))) D (mcells C b (mkM ((f_X8_ferries (mNow M) x y).2.1) (mBef M) (mSav M) (mHis M) (mIsS M) (mRem M) (mErA M) (mFaA M) (mTxt M) (mTyp M) (mLin M) (mLnd M) ((f_X8_ferries (mNow M) x y).2.2) (mFar M) (mGrp M) (mSiz M) (mPla M) (mWro M) (mTol M) (mNum M))) (va_A (mcells C b M) sz)) 0 0 (va_A (mcells C b M) sz) := by
  refine Met.ofW (cc := cX8_ferries) (maxL := 9) (ret := (some .int)) (by decide) rfl ?_
  intro p e s m args below meth c s₁ B hml hv
  obtain ⟨rfl, hsz, hP, hK, hD0, hE⟩ := hv
  have hx := B.exec
  have hb := B.bytes
  have hr := B.returns
  have hts := atoms_spec (ws := wsX8_ferries) B.pre
  have hown : s.vm.findClass RX8 = some m.cls := findClass_of_methodNamed B.named
  have hlocks := B.notSynchronized
  subst hsz
  have hD := hD0.self (sz := s.heap.size)
  generalize hAe : va_A (mcells C b M) s.heap.size = A at hD ⊢
  have hA : ∀ q : Nat, s.heap.size ≤ q → A q := fun q h => by rw [← hAe]; exact Or.inr h
  have hS0 : va_S A s.heap s.heap [] := va_S.rf
  have hP : va_P D vwCl (mcells C b M) s.heap := hP
  have hS := hS0
  obtain ⟨⟨hS2, hS12⟩, ⟨hP2, hP4⟩, hLH, hFE⟩ := id hM
  have hinX8 : ∀ w ∈ u_ws RX8 TX8 20, w ∈ wsX8_ferries := by decide +kernel
  have hl := lv_entry ([.ref (b 0), .int x, .int y]) (n := 9) (Nat.le_of_ble_eq_true rfl)
  rw [lg_entry_eq]
  generalize (lg_sl ([.ref (b 0), .int x, .int y]) ++ List.replicate (9 - (lg_sl ([.ref (b 0), .int x, .int y])).length) Slot.unset).toArray = ls at hl ⊢
  have hl : lv_has ls 9 [(0, .ref (b 0)), (1, .int x), (2, .int y)] := hl
  obtain ⟨z, hz⟩ : ∃ z, z = f_X8_ferries (mNow M) x y := ⟨_, rfl⟩
  rw [← hz]
  have J144 : ∀ (n144 k144 : Nat) (v3_144 : Int32) (v7_144 : Int32) (thr0_144 : Int32) (H : Heap) (locs : List Loc) (ls : Array Slot), k144 + n144 = 4 → z = f_X8_ferries_l144 (mNow M) x y n144 k144 v3_144 v7_144 thr0_144 → (vp_in x 4) → (vp_in y 12) → va_P D vwCl (mcells C b (mkM (mNow M) (mBef M) (mSav M) (mHis M) (mIsS M) (mRem M) (mErA M) (mFaA M) (mTxt M) (mTyp M) (mLin M) (mLnd M) thr0_144 (mFar M) (mGrp M) (mSiz M) (mPla M) (mWro M) (mTol M) (mNum M))) H → va_D A (mcells C b (mkM (mNow M) (mBef M) (mSav M) (mHis M) (mIsS M) (mRem M) (mErA M) (mFaA M) (mTxt M) (mTyp M) (mLin M) (mLnd M) thr0_144 (mFar M) (mGrp M) (mSiz M) (mPla M) (mWro M) (mTol M) (mNum M))) → va_S A s.heap H locs → lv_has ls 9 [(0, .ref (b 0)), (1, .int x), (2, .int y), (3, .int v3_144), (7, .int v7_144), (8, .int (nI k144))] → W p l e ({ frames := 4, cells := 0, slots := 0, locals := 87 } : Room) s m ([.ref (b 0), .int x, .int y] : List Value).toArray below meth c H locs 0 0 (MQ below (rwO (some (.int z.1)) D (mcells C b (mkM z.2.1 (mBef M) (mSav M) (mHis M) (mIsS M) (mRem M) (mErA M) (mFaA M) (mTxt M) (mTyp M) (mLin M) (mLnd M) z.2.2 (mFar M) (mGrp M) (mSiz M) (mPla M) (mWro M) (mTol M) (mNum M))) A) ([.ref (b 0), .int x, .int y] : List Value).toArray s 0 0 A) (F0 m 144 ls []) := by
    intro n144
    induction n144 with
    | zero =>
      intro k144 v3_144 v7_144 thr0_144 H locs ls hk144 hz iv144_0 iv144_1 hP hD hS hl
      have ex := (nat_of iv144_0 (by decide)).1
      have lx := (nat_of iv144_0 (by decide)).2
      have ey := (nat_of iv144_1 (by decide)).1
      have ly := (nat_of iv144_1 (by decide)).2
      have hz : z = f_X8_ferries_l144x (mNow M) x y v3_144 v7_144 thr0_144 := hz
      refine lv_iload hx hb dX8_ferries_144 (lv_at hl 5 rfl) ?_
      refine lv_iconst (v := 4) hx hb dX8_ferries_146 (by decide) ?_
      refine lv_icmp_ge (tgt := 179) hx hb dX8_ferries_147 (by decide) (fun c_147 => ?_) (fun c_147 => absurd (by have e : (4 : Int32) = nI 4 := (by decide +kernel); rw [e]; exact nI_le (by omega) (by omega)) c_147)
      refine lv_aload_n hx hb dX8_ferries_179 rfl (lv_at hl 0 rfl) ?_
      refine va_get (D := D) (ci := 9) (v := .ref (b 1)) (C := RX8) (T := TX8) (N := 20) hx hb hts hinX8 hown hK hP 0 rfl rfl 0 (by decide) (hts (.fieldLink RX8 9 "BridgeAuctionModel" "now" "[I") (by decide +kernel)) (fun _ h9 => h9) rfl dX8_ferries_180 ?_
      refine lv_iload_n hx hb dX8_ferries_183 rfl (lv_at hl 1 rfl) ?_
      obtain ⟨ehn_1, lhn_1⟩ := nat_of (x := x) (n := 4) (by first | assumption) (by omega)
      refine topN ehn_1 ?_
      refine callRo (va_runS (As := [.int (nI x.toNatClampNeg)]) (rest := [.ref (b 1)]) ⟨hx, hb, hml, hown, hts⟩ (c_X8_playerAt l D C (x.toNatClampNeg) (by omega)) (va_cwS 1 hts gX8_ferries_X8_playerAt rfl rfl rfl (by decide +kernel) ⟨Nat.le_of_ble_eq_true rfl, Nat.le_of_ble_eq_true rfl⟩) (roP_s (hP.sub (ws' := ([] : va_W)) [] rfl) hK hE) rfl rfl hl.1 rfl (lv_room (Nat.le_of_ble_eq_true rfl)) dX8_ferries_184 ⟨Nat.le_refl _, Nat.le_refl _⟩) ?_
      refine topN (k := (14 + 2 * x.toNatClampNeg)) rfl ?_
      refine lv_iconst (v := 1) hx hb dX8_ferries_187 (by decide) ?_
      refine topN (k := 1) (by decide +kernel) ?_
      refine addN hx hb dX8_ferries_188 ?_
      refine lv_iconst (v := 1) hx hb dX8_ferries_189 (by decide) ?_
      refine iastN (tys := tyA C) hx hb hK hP hD hS 1 0 rfl rfl (i := ((14 + 2 * x.toNatClampNeg) + 1)) (by omega) (by decide) dX8_ferries_190 (fun H locs hP hD hS => ?_)
      have hP : va_P D vwCl (mcells C b (mkM (upd (mNow M) ((14 + 2 * x.toNatClampNeg) + 1) 1) (mBef M) (mSav M) (mHis M) (mIsS M) (mRem M) (mErA M) (mFaA M) (mTxt M) (mTyp M) (mLin M) (mLnd M) thr0_144 (mFar M) (mGrp M) (mSiz M) (mPla M) (mWro M) (mTol M) (mNum M))) H := hP
      have hD : va_D A (mcells C b (mkM (upd (mNow M) ((14 + 2 * x.toNatClampNeg) + 1) 1) (mBef M) (mSav M) (mHis M) (mIsS M) (mRem M) (mErA M) (mFaA M) (mTxt M) (mTyp M) (mLin M) (mLnd M) thr0_144 (mFar M) (mGrp M) (mSiz M) (mPla M) (mWro M) (mTol M) (mNum M))) := hD
      refine lv_aload_n hx hb dX8_ferries_191 rfl (lv_at hl 0 rfl) ?_
      refine va_get (D := D) (ci := 9) (v := .ref (b 1)) (C := RX8) (T := TX8) (N := 20) hx hb hts hinX8 hown hK hP 0 rfl rfl 0 (by decide) (hts (.fieldLink RX8 9 "BridgeAuctionModel" "now" "[I") (by decide +kernel)) (fun _ h9 => h9) rfl dX8_ferries_192 ?_
      refine lv_iload_n hx hb dX8_ferries_195 rfl (lv_at hl 2 rfl) ?_
      obtain ⟨ehn_2, lhn_2⟩ := nat_of (x := y) (n := 12) (by first | assumption) (by omega)
      refine topN ehn_2 ?_
      refine callRo (va_runS (As := [.int (nI y.toNatClampNeg)]) (rest := [.ref (b 1)]) ⟨hx, hb, hml, hown, hts⟩ (c_X8_siteAt l D C (y.toNatClampNeg) (by omega)) (va_cwS 1 hts gX8_ferries_X8_siteAt rfl rfl rfl (by decide +kernel) ⟨Nat.le_of_ble_eq_true rfl, Nat.le_of_ble_eq_true rfl⟩) (roP_s (hP.sub (ws' := ([] : va_W)) [] rfl) hK hE) rfl rfl hl.1 rfl (lv_room (Nat.le_of_ble_eq_true rfl)) dX8_ferries_196 ⟨Nat.le_refl _, Nat.le_refl _⟩) ?_
      refine topN (k := (22 + 13 * y.toNatClampNeg)) rfl ?_
      refine lv_iconst (v := 4) hx hb dX8_ferries_199 (by decide) ?_
      refine topN (k := 4) (by decide +kernel) ?_
      refine addN hx hb dX8_ferries_200 ?_
      refine lv_iload_n hx hb dX8_ferries_201 rfl (lv_at hl 1 rfl) ?_
      refine iastN (tys := tyA C) hx hb hK hP hD hS 1 0 rfl rfl (i := ((22 + 13 * y.toNatClampNeg) + 4)) (by omega) (by decide) dX8_ferries_202 (fun H locs hP hD hS => ?_)
      have hP : va_P D vwCl (mcells C b (mkM (upd (upd (mNow M) ((14 + 2 * x.toNatClampNeg) + 1) 1) ((22 + 13 * y.toNatClampNeg) + 4) x) (mBef M) (mSav M) (mHis M) (mIsS M) (mRem M) (mErA M) (mFaA M) (mTxt M) (mTyp M) (mLin M) (mLnd M) thr0_144 (mFar M) (mGrp M) (mSiz M) (mPla M) (mWro M) (mTol M) (mNum M))) H := hP
      have hD : va_D A (mcells C b (mkM (upd (upd (mNow M) ((14 + 2 * x.toNatClampNeg) + 1) 1) ((22 + 13 * y.toNatClampNeg) + 4) x) (mBef M) (mSav M) (mHis M) (mIsS M) (mRem M) (mErA M) (mFaA M) (mTxt M) (mTyp M) (mLin M) (mLnd M) thr0_144 (mFar M) (mGrp M) (mSiz M) (mPla M) (mWro M) (mTol M) (mNum M))) := hD
      refine lv_iload hx hb dX8_ferries_203 (lv_at hl 4 rfl) ?_
      have hz : z = (v7_144, (upd (upd (mNow M) ((14 + 2 * x.toNatClampNeg) + 1) 1) ((22 + 13 * y.toNatClampNeg) + 4) x), thr0_144) := hz
      rw [hz]
      exact rw_ret hx hb hr hP hS rfl dX8_ferries_205 hlocks
    | succ n144 ih144 =>
      intro k144 v3_144 v7_144 thr0_144 H locs ls hk144 hz144 iv144_0 iv144_1 hP hD hS hl
      have ex := (nat_of iv144_0 (by decide)).1
      have lx := (nat_of iv144_0 (by decide)).2
      have ey := (nat_of iv144_1 (by decide)).1
      have ly := (nat_of iv144_1 (by decide)).2
      obtain ⟨z144, hz⟩ : ∃ zz_, zz_ = f_X8_ferries_l144b (mNow M) x y k144 v3_144 v7_144 thr0_144 := ⟨_, rfl⟩
      have hq144 : z = sE id (fun q_ => lpF (f_X8_ferries_l144s (mNow M) x y) (f_X8_ferries_l144e (mNow M) x y) n144 (k144 + 1) q_) z144 := by rw [hz144, hz]; rfl
      have J170 : ∀ (v3_170 : Int32) (s0_170 : Bool) (s1_170 : Int32) (thr0_170 : Int32)  (H : Heap) (locs : List Loc) (ls : Array Slot), z144 = f_X8_ferries_j170 v3_170 s0_170 s1_170 thr0_170 → (vp_in x 4) → (vp_in y 12) → va_P D vwCl (mcells C b (mkM (mNow M) (mBef M) (mSav M) (mHis M) (mIsS M) (mRem M) (mErA M) (mFaA M) (mTxt M) (mTyp M) (mLin M) (mLnd M) thr0_170 (mFar M) (mGrp M) (mSiz M) (mPla M) (mWro M) (mTol M) (mNum M))) H → va_D A (mcells C b (mkM (mNow M) (mBef M) (mSav M) (mHis M) (mIsS M) (mRem M) (mErA M) (mFaA M) (mTxt M) (mTyp M) (mLin M) (mLnd M) thr0_170 (mFar M) (mGrp M) (mSiz M) (mPla M) (mWro M) (mTol M) (mNum M))) → va_S A s.heap H locs → lv_has ls 9 [(0, .ref (b 0)), (1, .int x), (2, .int y), (3, .int v3_170), (8, .int (nI k144))] → W p l e ({ frames := 4, cells := 0, slots := 0, locals := 87 } : Room) s m ([.ref (b 0), .int x, .int y] : List Value).toArray below meth c H locs 0 0 (MQ below (rwO (some (.int z.1)) D (mcells C b (mkM z.2.1 (mBef M) (mSav M) (mHis M) (mIsS M) (mRem M) (mErA M) (mFaA M) (mTxt M) (mTyp M) (mLin M) (mLnd M) z.2.2 (mFar M) (mGrp M) (mSiz M) (mPla M) (mWro M) (mTol M) (mNum M))) A) ([.ref (b 0), .int x, .int y] : List Value).toArray s 0 0 A) (F0 m 170 ls [.int (bI s0_170), .int s1_170]) := by
        intro v3_170 s0_170 s1_170 thr0_170 H locs ls hz iv170_0 iv170_1 hP hD hS hl
        refine lv_iadd hx hb dX8_ferries_170 ?_
        refine lv_istore (lv' := [(7, .int (s1_170 + (bI s0_170))), (0, .ref (b 0)), (1, .int x), (2, .int y), (3, .int v3_170), (8, .int (nI k144))]) hx hb dX8_ferries_171 hl (by decide) rfl (fun ls hl => ?_)
        refine lv_iinc (v := (nI (k144 + 1))) (lv' := [(8, .int (nI (k144 + 1))), (7, .int (s1_170 + (bI s0_170))), (0, .ref (b 0)), (1, .int x), (2, .int y), (3, .int v3_170)]) hx hb dX8_ferries_173 hl (k := 5) rfl (by exact nI_1 _) (by decide) rfl (fun ls hl => ?_)
        refine lv_goto (tgt := 144) hx hb dX8_ferries_176 (by decide) ?_
        exact ih144 (k144 + 1) (v3_170) ((s1_170 + (bI s0_170))) (thr0_170) _ _ ls (by omega) (by rw [hq144, hz]; rfl) (by assumption) (by assumption) hP hD hS (lv_sub hl [2, 3, 4, 5, 1, 0] rfl)
      refine lv_iload hx hb dX8_ferries_144 (lv_at hl 5 rfl) ?_
      refine lv_iconst (v := 4) hx hb dX8_ferries_146 (by decide) ?_
      refine lv_icmp_ge (tgt := 179) hx hb dX8_ferries_147 (by decide) (fun c_147 => absurd c_147 (by have e : (4 : Int32) = nI 4 := (by decide +kernel); rw [e]; exact nI_ge (by omega) (by omega))) (fun c_147 => ?_)
      refine lv_iload hx hb dX8_ferries_150 (lv_at hl 4 rfl) ?_
      refine lv_aload_n hx hb dX8_ferries_152 rfl (lv_at hl 0 rfl) ?_
      refine lv_iload_n hx hb dX8_ferries_153 rfl (lv_at hl 2 rfl) ?_
      refine lv_iconst (v := 5) hx hb dX8_ferries_154 (by decide) ?_
      refine lv_iload hx hb dX8_ferries_155 (lv_at hl 5 rfl) ?_
      refine topN2 (k := 5) (by decide +kernel) ?_
      refine addN hx hb dX8_ferries_157 ?_
      refine callRo (va_runV (As := [.int y, .int (nI (5 + k144))]) (rest := [.int v7_144]) ⟨hx, hb, hml, hown, hts⟩ (c_X8_of l D C b (mkM (mNow M) (mBef M) (mSav M) (mHis M) (mIsS M) (mRem M) (mErA M) (mFaA M) (mTxt M) (mTyp M) (mLin M) (mLnd M) thr0_144 (mFar M) (mGrp M) (mSiz M) (mPla M) (mWro M) (mTol M) (mNum M)) (y) ((5 + k144)) (MSafe_of hM rfl) (by omega)) (cwV 2 hts gX8_ferries_X8_of rfl rfl rfl (by decide +kernel) ⟨Nat.le_of_ble_eq_true rfl, Nat.le_of_ble_eq_true rfl⟩) (roP_v hP hK hE (va_recv hK hP (ci := 9) (q0 := 0) rfl rfl)) rfl rfl hl.1 rfl (lv_room (Nat.le_of_ble_eq_true rfl)) dX8_ferries_158 ⟨Nat.le_refl _, Nat.le_refl _⟩) ?_
      refine topI (y := (f_X8_of (mNow M) (y) ((5 + k144)))) rfl ?_
      refine lv_iload_n hx hb dX8_ferries_161 rfl (lv_at hl 3 rfl) ?_
      refine lv_icmp_le (tgt := 169) hx hb dX8_ferries_162 (by decide) (fun c_162 => ?_) (fun c_162 => ?_)
      · have hz := hz.trans (if_pos c_162)
        refine lv_iconst (v := 0) hx hb dX8_ferries_169 (by decide) ?_
        exact J170 (v3_144) (false) (v7_144) (thr0_144) _ _ ls hz (by assumption) (by assumption) hP hD hS (lv_sub hl [0, 1, 2, 3, 5] rfl)
      · have hz := hz.trans (if_neg c_162)
        refine lv_iconst (v := 1) hx hb dX8_ferries_165 (by decide) ?_
        refine lv_goto (tgt := 170) hx hb dX8_ferries_166 (by decide) ?_
        exact J170 (v3_144) (true) (v7_144) (thr0_144) _ _ ls hz (by assumption) (by assumption) hP hD hS (lv_sub hl [0, 1, 2, 3, 5] rfl)
  have J126 : ∀ (v3_126 : Int32) (v5_126 : Bool) (v6_126 : Bool) (s0_126 : Bool) (s1_126 : Bool)  (H : Heap) (locs : List Loc) (ls : Array Slot), z = f_X8_ferries_j126 (mNow M) x y v3_126 v5_126 v6_126 s0_126 s1_126 → (s1_126 = true → vp_in x (mP (mNow M)) ∧ vp_in y (mS (mNow M))) → va_P D vwCl (mcells C b M) H → va_D A (mcells C b M) → va_S A s.heap H locs → lv_has ls 9 [(0, .ref (b 0)), (1, .int x), (2, .int y), (3, .int v3_126), (5, .int (bI v5_126)), (6, .int (bI v6_126))] → W p l e ({ frames := 4, cells := 0, slots := 0, locals := 87 } : Room) s m ([.ref (b 0), .int x, .int y] : List Value).toArray below meth c H locs 0 0 (MQ below (rwO (some (.int z.1)) D (mcells C b (mkM z.2.1 (mBef M) (mSav M) (mHis M) (mIsS M) (mRem M) (mErA M) (mFaA M) (mTxt M) (mTyp M) (mLin M) (mLnd M) z.2.2 (mFar M) (mGrp M) (mSiz M) (mPla M) (mWro M) (mTol M) (mNum M))) A) ([.ref (b 0), .int x, .int y] : List Value).toArray s 0 0 A) (F0 m 126 ls [.int (bI s0_126), .int (bI s1_126), .ref (b 0)]) := by
    intro v3_126 v5_126 v6_126 s0_126 s1_126 H locs ls hz iv126_0 hP hD hS hl
    refine lv_iload hx hb dX8_ferries_126 (lv_at hl 4 rfl) ?_
    refine lv_iload hx hb dX8_ferries_128 (lv_at hl 5 rfl) ?_
    have hFc := va_free (wc := (mcells C b M)) hD hS hA [0, 1, 2, 3, 4, 5, 6, 7, 8, 9] rfl
    refine callRw (va_runV (As := [.int (bI s1_126), .int (bI s0_126), .int (bI v5_126), .int (bI v6_126)]) (rest := []) ⟨hx, hb, hml, hown, hts⟩ (c_X8_holds_ l D C b M (s1_126) (s0_126) (v5_126) (v6_126) _) (cwV 4 hts gX8_ferries_X8_holds rfl rfl rfl (by decide +kernel) ⟨Nat.le_of_ble_eq_true rfl, Nat.le_of_ble_eq_true rfl⟩) (rwP_v hP hK hE hD (va_recv hK hP (ci := 9) (q0 := 0) rfl rfl)) rfl rfl hl.1 rfl (lv_room (Nat.le_of_ble_eq_true rfl)) dX8_ferries_130 ⟨Nat.le_refl _, Nat.le_refl _⟩) hS hFc (fun H1 locs hPn hk hS => ?_)
    have hP : va_P D vwCl (mcells C b (mkM (mNow M) (mBef M) (mSav M) (mHis M) (mIsS M) (mRem M) (mErA M) (mFaA M) (mTxt M) (mTyp M) (mLin M) (mLnd M) (hThr s1_126 s0_126 v5_126 v6_126) (mFar M) (mGrp M) (mSiz M) (mPla M) (mWro M) (mTol M) (mNum M))) H1 := hPn
    have hD : va_D A (mcells C b (mkM (mNow M) (mBef M) (mSav M) (mHis M) (mIsS M) (mRem M) (mErA M) (mFaA M) (mTxt M) (mTyp M) (mLin M) (mLnd M) (hThr s1_126 s0_126 v5_126 v6_126) (mFar M) (mGrp M) (mSiz M) (mPla M) (mWro M) (mTol M) (mNum M))) := adr_D hD rfl
    generalize H1 = H at hP hS ⊢
    refine topI (y := (bI (hOk s1_126 s0_126 v5_126 v6_126))) rfl ?_
    refine bif_ne (tgt := 138) hx hb dX8_ferries_133 (by decide) (fun c_133 => ?_) (fun c_133 => ?_)
    · have hz := hz.trans (ifB_t c_133)
      have q := iv126_0 (hOk_1 c_133).1
      have hp := vp_mono q.1 hP4
      have hs := vp_mono q.2 hS12
      have ex := (nat_of hp (by decide)).1
      have lx := (nat_of hp (by decide)).2
      have ey := (nat_of hs (by decide)).1
      have ly := (nat_of hs (by decide)).2
      refine lv_iconst (v := 0) hx hb dX8_ferries_138 (by decide) ?_
      refine lv_istore (lv' := [(7, .int 0), (0, .ref (b 0)), (1, .int x), (2, .int y), (3, .int v3_126), (5, .int (bI v5_126)), (6, .int (bI v6_126))]) hx hb dX8_ferries_139 hl (by decide) rfl (fun ls hl => ?_)
      refine lv_iconst (v := 0) hx hb dX8_ferries_141 (by decide) ?_
      refine lv_istore (lv' := [(8, .int 0), (7, .int 0), (0, .ref (b 0)), (1, .int x), (2, .int y), (3, .int v3_126), (5, .int (bI v5_126)), (6, .int (bI v6_126))]) hx hb dX8_ferries_142 hl (by decide) rfl (fun ls hl => ?_)
      exact J144 (4) 0 (v3_126) (0) ((hThr s1_126 s0_126 v5_126 v6_126)) _ _ ls (by omega) hz (by assumption) (by assumption) hP hD hS (lv_sub hl [2, 3, 4, 5, 1, 0] rfl)
    · have hz := hz.trans (ifB_f c_133)
      refine lv_iconst (v := 0) hx hb dX8_ferries_136 (by decide) ?_
      have hz : z = (0, (mNow M), (hThr s1_126 s0_126 v5_126 v6_126)) := hz
      rw [hz]
      exact rw_ret hx hb hr hP hS rfl dX8_ferries_137 hlocks
  have J112 : ∀ (v3_112 : Int32) (v4_112 : Bool) (v5_112 : Bool) (s0_112 : Bool)  (H : Heap) (locs : List Loc) (ls : Array Slot), z = f_X8_ferries_j112 (mNow M) x y v3_112 v4_112 v5_112 s0_112 → (v4_112 = true → vp_in x (mP (mNow M)) ∧ vp_in y (mS (mNow M))) → va_P D vwCl (mcells C b M) H → va_D A (mcells C b M) → va_S A s.heap H locs → lv_has ls 9 [(0, .ref (b 0)), (1, .int x), (2, .int y), (3, .int v3_112), (4, .int (bI v4_112)), (5, .int (bI v5_112))] → W p l e ({ frames := 4, cells := 0, slots := 0, locals := 87 } : Room) s m ([.ref (b 0), .int x, .int y] : List Value).toArray below meth c H locs 0 0 (MQ below (rwO (some (.int z.1)) D (mcells C b (mkM z.2.1 (mBef M) (mSav M) (mHis M) (mIsS M) (mRem M) (mErA M) (mFaA M) (mTxt M) (mTyp M) (mLin M) (mLnd M) z.2.2 (mFar M) (mGrp M) (mSiz M) (mPla M) (mWro M) (mTol M) (mNum M))) A) ([.ref (b 0), .int x, .int y] : List Value).toArray s 0 0 A) (F0 m 112 ls [.int (bI s0_112)]) := by
    intro v3_112 v4_112 v5_112 s0_112 H locs ls hz iv112_0 hP hD hS hl
    refine lv_istore (lv' := [(6, .int (bI s0_112)), (0, .ref (b 0)), (1, .int x), (2, .int y), (3, .int v3_112), (4, .int (bI v4_112)), (5, .int (bI v5_112))]) hx hb dX8_ferries_112 hl (by decide) rfl (fun ls hl => ?_)
    refine lv_aload_n hx hb dX8_ferries_114 rfl (lv_at hl 1 rfl) ?_
    refine lv_iload hx hb dX8_ferries_115 (lv_at hl 5 rfl) ?_
    refine lv_iload_n hx hb dX8_ferries_117 rfl (lv_at hl 4 rfl) ?_
    refine lv_if_le (tgt := 125) hx hb dX8_ferries_118 (by decide) (fun c_118 => ?_) (fun c_118 => ?_)
    · have hz := hz.trans (if_pos c_118)
      refine lv_iconst (v := 0) hx hb dX8_ferries_125 (by decide) ?_
      exact J126 (v3_112) (v5_112) (s0_112) (false) (v4_112) _ _ ls hz (by assumption) hP hD hS (lv_sub hl [1, 2, 3, 4, 6, 0] rfl)
    · have hz := hz.trans (if_neg c_118)
      refine lv_iconst (v := 1) hx hb dX8_ferries_121 (by decide) ?_
      refine lv_goto (tgt := 126) hx hb dX8_ferries_122 (by decide) ?_
      exact J126 (v3_112) (v5_112) (s0_112) (true) (v4_112) _ _ ls hz (by assumption) hP hD hS (lv_sub hl [1, 2, 3, 4, 6, 0] rfl)
  have J111 : ∀ (v3_111 : Int32) (v4_111 : Bool) (v5_111 : Bool)  (H : Heap) (locs : List Loc) (ls : Array Slot), z = f_X8_ferries_j111 (mNow M) x y v3_111 v4_111 v5_111 → (v4_111 = true → vp_in x (mP (mNow M)) ∧ vp_in y (mS (mNow M))) → va_P D vwCl (mcells C b M) H → va_D A (mcells C b M) → va_S A s.heap H locs → lv_has ls 9 [(0, .ref (b 0)), (1, .int x), (2, .int y), (3, .int v3_111), (4, .int (bI v4_111)), (5, .int (bI v5_111))] → W p l e ({ frames := 4, cells := 0, slots := 0, locals := 87 } : Room) s m ([.ref (b 0), .int x, .int y] : List Value).toArray below meth c H locs 0 0 (MQ below (rwO (some (.int z.1)) D (mcells C b (mkM z.2.1 (mBef M) (mSav M) (mHis M) (mIsS M) (mRem M) (mErA M) (mFaA M) (mTxt M) (mTyp M) (mLin M) (mLnd M) z.2.2 (mFar M) (mGrp M) (mSiz M) (mPla M) (mWro M) (mTol M) (mNum M))) A) ([.ref (b 0), .int x, .int y] : List Value).toArray s 0 0 A) (F0 m 111 ls []) := by
    intro v3_111 v4_111 v5_111 H locs ls hz iv111_0 hP hD hS hl
    refine lv_iconst (v := 0) hx hb dX8_ferries_111 (by decide) ?_
    exact J112 (v3_111) (v4_111) (v5_111) (false) _ _ ls hz (by assumption) hP hD hS (lv_sub hl [0, 1, 2, 3, 4, 5] rfl)
  have J107 : ∀ (v3_107 : Int32) (v4_107 : Bool) (v5_107 : Bool)  (H : Heap) (locs : List Loc) (ls : Array Slot), z = f_X8_ferries_j107 (mNow M) x y v3_107 v4_107 v5_107 → (v4_107 = true → vp_in x (mP (mNow M)) ∧ vp_in y (mS (mNow M))) → va_P D vwCl (mcells C b M) H → va_D A (mcells C b M) → va_S A s.heap H locs → lv_has ls 9 [(0, .ref (b 0)), (1, .int x), (2, .int y), (3, .int v3_107), (4, .int (bI v4_107)), (5, .int (bI v5_107))] → W p l e ({ frames := 4, cells := 0, slots := 0, locals := 87 } : Room) s m ([.ref (b 0), .int x, .int y] : List Value).toArray below meth c H locs 0 0 (MQ below (rwO (some (.int z.1)) D (mcells C b (mkM z.2.1 (mBef M) (mSav M) (mHis M) (mIsS M) (mRem M) (mErA M) (mFaA M) (mTxt M) (mTyp M) (mLin M) (mLnd M) z.2.2 (mFar M) (mGrp M) (mSiz M) (mPla M) (mWro M) (mTol M) (mNum M))) A) ([.ref (b 0), .int x, .int y] : List Value).toArray s 0 0 A) (F0 m 107 ls []) := by
    intro v3_107 v4_107 v5_107 H locs ls hz iv107_0 hP hD hS hl
    refine lv_iconst (v := 1) hx hb dX8_ferries_107 (by decide) ?_
    refine lv_goto (tgt := 112) hx hb dX8_ferries_108 (by decide) ?_
    exact J112 (v3_107) (v4_107) (v5_107) (true) _ _ ls hz (by assumption) hP hD hS (lv_sub hl [0, 1, 2, 3, 4, 5] rfl)
  have J64 : ∀ (v3_64 : Int32) (v4_64 : Bool) (s0_64 : Bool)  (H : Heap) (locs : List Loc) (ls : Array Slot), z = f_X8_ferries_j64 (mNow M) x y v3_64 v4_64 s0_64 → (v4_64 = true → vp_in x (mP (mNow M)) ∧ vp_in y (mS (mNow M))) → va_P D vwCl (mcells C b M) H → va_D A (mcells C b M) → va_S A s.heap H locs → lv_has ls 9 [(0, .ref (b 0)), (1, .int x), (2, .int y), (3, .int v3_64), (4, .int (bI v4_64))] → W p l e ({ frames := 4, cells := 0, slots := 0, locals := 87 } : Room) s m ([.ref (b 0), .int x, .int y] : List Value).toArray below meth c H locs 0 0 (MQ below (rwO (some (.int z.1)) D (mcells C b (mkM z.2.1 (mBef M) (mSav M) (mHis M) (mIsS M) (mRem M) (mErA M) (mFaA M) (mTxt M) (mTyp M) (mLin M) (mLnd M) z.2.2 (mFar M) (mGrp M) (mSiz M) (mPla M) (mWro M) (mTol M) (mNum M))) A) ([.ref (b 0), .int x, .int y] : List Value).toArray s 0 0 A) (F0 m 64 ls [.int (bI s0_64)]) := by
    intro v3_64 v4_64 s0_64 H locs ls hz iv64_0 hP hD hS hl
    refine lv_istore (lv' := [(5, .int (bI s0_64)), (0, .ref (b 0)), (1, .int x), (2, .int y), (3, .int v3_64), (4, .int (bI v4_64))]) hx hb dX8_ferries_64 hl (by decide) rfl (fun ls hl => ?_)
    refine lv_iload hx hb dX8_ferries_66 (lv_at hl 5 rfl) ?_
    refine bif_eq (tgt := 111) hx hb dX8_ferries_68 (by decide) (fun c_68 => ?_) (fun c_68 => ?_)
    · have hz := hz.trans (ifB_f c_68)
      exact J111 (v3_64) (v4_64) (s0_64) _ _ ls hz (by assumption) hP hD hS (lv_sub hl [1, 2, 3, 4, 5, 0] rfl)
    · have hz := hz.trans (ifB_t c_68)
      have q := iv64_0 c_68
      have hp := vp_mono q.1 hP4
      have hs := vp_mono q.2 hS12
      have ex := (nat_of hp (by decide)).1
      have lx := (nat_of hp (by decide)).2
      have ey := (nat_of hs (by decide)).1
      have ly := (nat_of hs (by decide)).2
      refine lv_aload_n hx hb dX8_ferries_71 rfl (lv_at hl 1 rfl) ?_
      refine va_get (D := D) (ci := 9) (v := .ref (b 1)) (C := RX8) (T := TX8) (N := 20) hx hb hts hinX8 hown hK hP 0 rfl rfl 0 (by decide) (hts (.fieldLink RX8 9 "BridgeAuctionModel" "now" "[I") (by decide +kernel)) (fun _ h9 => h9) rfl dX8_ferries_72 ?_
      refine lv_bipush (v := 6) hx hb dX8_ferries_75 (by decide +kernel) ?_
      refine lv_aload_n hx hb dX8_ferries_77 rfl (lv_at hl 1 rfl) ?_
      refine lv_iload_n hx hb dX8_ferries_78 rfl (lv_at hl 3 rfl) ?_
      refine lv_iconst (v := 0) hx hb dX8_ferries_79 (by decide) ?_
      refine topN (k := 0) (by decide +kernel) ?_
      refine callRo (va_runV (As := [.int y, .int (nI 0)]) (rest := [.int 6, .ref (b 1)]) ⟨hx, hb, hml, hown, hts⟩ (c_X8_of l D C b M (y) (0) hM (by omega)) (cwV 2 hts gX8_ferries_X8_of rfl rfl rfl (by decide +kernel) ⟨Nat.le_of_ble_eq_true rfl, Nat.le_of_ble_eq_true rfl⟩) (roP_v hP hK hE (va_recv hK hP (ci := 9) (q0 := 0) rfl rfl)) rfl rfl hl.1 rfl (lv_room (Nat.le_of_ble_eq_true rfl)) dX8_ferries_80 ⟨Nat.le_refl _, Nat.le_refl _⟩) ?_
      refine lv_iadd hx hb dX8_ferries_83 ?_
      obtain ⟨ehn_3, lhn_3⟩ := nat_of (x := (6 + (f_X8_of (mNow M) (y) (0)))) (n := 178) (by exact vp_add 6 (X8_lo_in2 hM q.2) rfl (by decide) (by decide)) (by omega)
      refine topN ehn_3 ?_
      refine ialdN (tys := tyA C) hx hb hK hP 1 0 rfl rfl (i := ((6 + (f_X8_of (mNow M) (y) (0)))).toNatClampNeg) (by omega) (by decide) dX8_ferries_84 ?_
      refine lv_iload_n hx hb dX8_ferries_85 rfl (lv_at hl 2 rfl) ?_
      refine lv_icmp_eq (tgt := 107) hx hb dX8_ferries_86 (by decide) (fun c_86 => ?_) (fun c_86 => ?_)
      · have hz := hz.trans (if_pos c_86)
        exact J107 (v3_64) (v4_64) (s0_64) _ _ ls hz (by assumption) hP hD hS (lv_sub hl [1, 2, 3, 4, 5, 0] rfl)
      · have hz := hz.trans (if_neg c_86)
        refine lv_aload_n hx hb dX8_ferries_89 rfl (lv_at hl 1 rfl) ?_
        refine va_get (D := D) (ci := 9) (v := .ref (b 1)) (C := RX8) (T := TX8) (N := 20) hx hb hts hinX8 hown hK hP 0 rfl rfl 0 (by decide) (hts (.fieldLink RX8 9 "BridgeAuctionModel" "now" "[I") (by decide +kernel)) (fun _ h9 => h9) rfl dX8_ferries_90 ?_
        refine lv_bipush (v := 6) hx hb dX8_ferries_93 (by decide +kernel) ?_
        refine lv_aload_n hx hb dX8_ferries_95 rfl (lv_at hl 1 rfl) ?_
        refine lv_iload_n hx hb dX8_ferries_96 rfl (lv_at hl 3 rfl) ?_
        refine lv_iconst (v := 1) hx hb dX8_ferries_97 (by decide) ?_
        refine topN (k := 1) (by decide +kernel) ?_
        refine callRo (va_runV (As := [.int y, .int (nI 1)]) (rest := [.int 6, .ref (b 1)]) ⟨hx, hb, hml, hown, hts⟩ (c_X8_of l D C b M (y) (1) hM (by omega)) (cwV 2 hts gX8_ferries_X8_of rfl rfl rfl (by decide +kernel) ⟨Nat.le_of_ble_eq_true rfl, Nat.le_of_ble_eq_true rfl⟩) (roP_v hP hK hE (va_recv hK hP (ci := 9) (q0 := 0) rfl rfl)) rfl rfl hl.1 rfl (lv_room (Nat.le_of_ble_eq_true rfl)) dX8_ferries_98 ⟨Nat.le_refl _, Nat.le_refl _⟩) ?_
        refine lv_iadd hx hb dX8_ferries_101 ?_
        obtain ⟨ehn_4, lhn_4⟩ := nat_of (x := (6 + (f_X8_of (mNow M) (y) (1)))) (n := 178) (by exact vp_add 6 (X8_hi_in2 hM q.2) rfl (by decide) (by decide)) (by omega)
        refine topN ehn_4 ?_
        refine ialdN (tys := tyA C) hx hb hK hP 1 0 rfl rfl (i := ((6 + (f_X8_of (mNow M) (y) (1)))).toNatClampNeg) (by omega) (by decide) dX8_ferries_102 ?_
        refine lv_iload_n hx hb dX8_ferries_103 rfl (lv_at hl 2 rfl) ?_
        refine lv_icmp_ne (tgt := 111) hx hb dX8_ferries_104 (by decide) (fun c_104 => ?_) (fun c_104 => ?_)
        · have hz := hz.trans (if_neg c_104)
          exact J111 (v3_64) (v4_64) (s0_64) _ _ ls hz (by assumption) hP hD hS (lv_sub hl [1, 2, 3, 4, 5, 0] rfl)
        · have hz := hz.trans (if_pos c_104)
          exact J107 (v3_64) (v4_64) (s0_64) _ _ ls hz (by assumption) hP hD hS (lv_sub hl [1, 2, 3, 4, 5, 0] rfl)
  have J63 : ∀ (v3_63 : Int32) (v4_63 : Bool)  (H : Heap) (locs : List Loc) (ls : Array Slot), z = f_X8_ferries_j63 (mNow M) x y v3_63 v4_63 → (v4_63 = true → vp_in x (mP (mNow M)) ∧ vp_in y (mS (mNow M))) → va_P D vwCl (mcells C b M) H → va_D A (mcells C b M) → va_S A s.heap H locs → lv_has ls 9 [(0, .ref (b 0)), (1, .int x), (2, .int y), (3, .int v3_63), (4, .int (bI v4_63))] → W p l e ({ frames := 4, cells := 0, slots := 0, locals := 87 } : Room) s m ([.ref (b 0), .int x, .int y] : List Value).toArray below meth c H locs 0 0 (MQ below (rwO (some (.int z.1)) D (mcells C b (mkM z.2.1 (mBef M) (mSav M) (mHis M) (mIsS M) (mRem M) (mErA M) (mFaA M) (mTxt M) (mTyp M) (mLin M) (mLnd M) z.2.2 (mFar M) (mGrp M) (mSiz M) (mPla M) (mWro M) (mTol M) (mNum M))) A) ([.ref (b 0), .int x, .int y] : List Value).toArray s 0 0 A) (F0 m 63 ls []) := by
    intro v3_63 v4_63 H locs ls hz iv63_0 hP hD hS hl
    refine lv_iconst (v := 0) hx hb dX8_ferries_63 (by decide) ?_
    exact J64 (v3_63) (v4_63) (false) _ _ ls hz (by assumption) hP hD hS (lv_sub hl [0, 1, 2, 3, 4] rfl)
  have J28 : ∀ (v3_28 : Int32) (s0_28 : Bool)  (H : Heap) (locs : List Loc) (ls : Array Slot), z = f_X8_ferries_j28 (mNow M) x y v3_28 s0_28 → (s0_28 = true → vp_in x (mP (mNow M)) ∧ vp_in y (mS (mNow M))) → va_P D vwCl (mcells C b M) H → va_D A (mcells C b M) → va_S A s.heap H locs → lv_has ls 9 [(0, .ref (b 0)), (1, .int x), (2, .int y), (3, .int v3_28)] → W p l e ({ frames := 4, cells := 0, slots := 0, locals := 87 } : Room) s m ([.ref (b 0), .int x, .int y] : List Value).toArray below meth c H locs 0 0 (MQ below (rwO (some (.int z.1)) D (mcells C b (mkM z.2.1 (mBef M) (mSav M) (mHis M) (mIsS M) (mRem M) (mErA M) (mFaA M) (mTxt M) (mTyp M) (mLin M) (mLnd M) z.2.2 (mFar M) (mGrp M) (mSiz M) (mPla M) (mWro M) (mTol M) (mNum M))) A) ([.ref (b 0), .int x, .int y] : List Value).toArray s 0 0 A) (F0 m 28 ls [.int (bI s0_28)]) := by
    intro v3_28 s0_28 H locs ls hz iv28_0 hP hD hS hl
    refine lv_istore (lv' := [(4, .int (bI s0_28)), (0, .ref (b 0)), (1, .int x), (2, .int y), (3, .int v3_28)]) hx hb dX8_ferries_28 hl (by decide) rfl (fun ls hl => ?_)
    refine lv_iload hx hb dX8_ferries_30 (lv_at hl 0 rfl) ?_
    refine bif_eq (tgt := 63) hx hb dX8_ferries_32 (by decide) (fun c_32 => ?_) (fun c_32 => ?_)
    · have hz := hz.trans (ifB_f c_32)
      exact J63 (v3_28) (s0_28) _ _ ls hz (by assumption) hP hD hS (lv_sub hl [1, 2, 3, 4, 0] rfl)
    · have hz := hz.trans (ifB_t c_32)
      have q := iv28_0 c_32
      have hp := vp_mono q.1 hP4
      have hs := vp_mono q.2 hS12
      have ex := (nat_of hp (by decide)).1
      have lx := (nat_of hp (by decide)).2
      have ey := (nat_of hs (by decide)).1
      have ly := (nat_of hs (by decide)).2
      refine lv_aload_n hx hb dX8_ferries_35 rfl (lv_at hl 1 rfl) ?_
      refine va_get (D := D) (ci := 9) (v := .ref (b 1)) (C := RX8) (T := TX8) (N := 20) hx hb hts hinX8 hown hK hP 0 rfl rfl 0 (by decide) (hts (.fieldLink RX8 9 "BridgeAuctionModel" "now" "[I") (by decide +kernel)) (fun _ h9 => h9) rfl dX8_ferries_36 ?_
      refine lv_iload_n hx hb dX8_ferries_39 rfl (lv_at hl 2 rfl) ?_
      obtain ⟨ehn_5, lhn_5⟩ := nat_of (x := x) (n := 4) (by first | assumption) (by omega)
      refine topN ehn_5 ?_
      refine callRo (va_runS (As := [.int (nI x.toNatClampNeg)]) (rest := [.ref (b 1)]) ⟨hx, hb, hml, hown, hts⟩ (c_X8_playerAt l D C (x.toNatClampNeg) (by omega)) (va_cwS 1 hts gX8_ferries_X8_playerAt rfl rfl rfl (by decide +kernel) ⟨Nat.le_of_ble_eq_true rfl, Nat.le_of_ble_eq_true rfl⟩) (roP_s (hP.sub (ws' := ([] : va_W)) [] rfl) hK hE) rfl rfl hl.1 rfl (lv_room (Nat.le_of_ble_eq_true rfl)) dX8_ferries_40 ⟨Nat.le_refl _, Nat.le_refl _⟩) ?_
      refine topN (k := (14 + 2 * x.toNatClampNeg)) rfl ?_
      refine lv_iconst (v := 1) hx hb dX8_ferries_43 (by decide) ?_
      refine topN (k := 1) (by decide +kernel) ?_
      refine addN hx hb dX8_ferries_44 ?_
      refine ialdN (tys := tyA C) hx hb hK hP 1 0 rfl rfl (i := ((14 + 2 * x.toNatClampNeg) + 1)) (by omega) (by decide) dX8_ferries_45 ?_
      refine lv_if_ne (tgt := 63) hx hb dX8_ferries_46 (by decide) (fun c_46 => ?_) (fun c_46 => ?_)
      · have hz := hz.trans (if_neg c_46)
        exact J63 (v3_28) (s0_28) _ _ ls hz (by assumption) hP hD hS (lv_sub hl [1, 2, 3, 4, 0] rfl)
      · have hz := hz.trans (if_pos c_46)
        refine lv_aload_n hx hb dX8_ferries_49 rfl (lv_at hl 1 rfl) ?_
        refine lv_iload_n hx hb dX8_ferries_50 rfl (lv_at hl 3 rfl) ?_
        refine lv_iconst (v := 4) hx hb dX8_ferries_51 (by decide) ?_
        refine topN (k := 4) (by decide +kernel) ?_
        refine callRo (va_runV (As := [.int y, .int (nI 4)]) (rest := []) ⟨hx, hb, hml, hown, hts⟩ (c_X8_of l D C b M (y) (4) hM (by omega)) (cwV 2 hts gX8_ferries_X8_of rfl rfl rfl (by decide +kernel) ⟨Nat.le_of_ble_eq_true rfl, Nat.le_of_ble_eq_true rfl⟩) (roP_v hP hK hE (va_recv hK hP (ci := 9) (q0 := 0) rfl rfl)) rfl rfl hl.1 rfl (lv_room (Nat.le_of_ble_eq_true rfl)) dX8_ferries_52 ⟨Nat.le_refl _, Nat.le_refl _⟩) ?_
        refine lv_iconst (v := (-1)) hx hb dX8_ferries_55 (by decide) ?_
        refine lv_icmp_ne (tgt := 63) hx hb dX8_ferries_56 (by decide) (fun c_56 => ?_) (fun c_56 => ?_)
        · have hz := hz.trans (if_neg c_56)
          exact J63 (v3_28) (s0_28) _ _ ls hz (by assumption) hP hD hS (lv_sub hl [1, 2, 3, 4, 0] rfl)
        · have hz := hz.trans (if_pos c_56)
          refine lv_iconst (v := 1) hx hb dX8_ferries_59 (by decide) ?_
          refine lv_goto (tgt := 64) hx hb dX8_ferries_60 (by decide) ?_
          exact J64 (v3_28) (s0_28) (true) _ _ ls hz (by assumption) hP hD hS (lv_sub hl [1, 2, 3, 4, 0] rfl)
  have J27 : ∀ (v3_27 : Int32)  (H : Heap) (locs : List Loc) (ls : Array Slot), z = f_X8_ferries_j27 (mNow M) x y v3_27 → va_P D vwCl (mcells C b M) H → va_D A (mcells C b M) → va_S A s.heap H locs → lv_has ls 9 [(0, .ref (b 0)), (1, .int x), (2, .int y), (3, .int v3_27)] → W p l e ({ frames := 4, cells := 0, slots := 0, locals := 87 } : Room) s m ([.ref (b 0), .int x, .int y] : List Value).toArray below meth c H locs 0 0 (MQ below (rwO (some (.int z.1)) D (mcells C b (mkM z.2.1 (mBef M) (mSav M) (mHis M) (mIsS M) (mRem M) (mErA M) (mFaA M) (mTxt M) (mTyp M) (mLin M) (mLnd M) z.2.2 (mFar M) (mGrp M) (mSiz M) (mPla M) (mWro M) (mTol M) (mNum M))) A) ([.ref (b 0), .int x, .int y] : List Value).toArray s 0 0 A) (F0 m 27 ls []) := by
    intro v3_27 H locs ls hz  hP hD hS hl
    refine lv_iconst (v := 0) hx hb dX8_ferries_27 (by decide) ?_
    exact J28 (v3_27) (false) _ _ ls hz (by first | (intro h; cases h; done) | exact fun _ => ⟨X8_isPlayer_in hM c_12, X8_isSite_in hM c_20⟩) hP hD hS (lv_sub hl [0, 1, 2, 3] rfl)
  refine lv_aload_n hx hb dX8_ferries_0 rfl (lv_at hl 0 rfl) ?_
  refine lv_iload_n hx hb dX8_ferries_1 rfl (lv_at hl 1 rfl) ?_
  refine lv_iload_n hx hb dX8_ferries_2 rfl (lv_at hl 2 rfl) ?_
  refine callRo (va_runV (As := [.int x, .int y]) (rest := []) ⟨hx, hb, hml, hown, hts⟩ (c_X8_amountOf l D C b M (x) (y) hM) (cwV 2 hts gX8_ferries_X8_amountOf rfl rfl rfl (by decide +kernel) ⟨Nat.le_of_ble_eq_true rfl, Nat.le_of_ble_eq_true rfl⟩) (roP_v hP hK hE (va_recv hK hP (ci := 9) (q0 := 0) rfl rfl)) rfl rfl hl.1 rfl (lv_room (Nat.le_of_ble_eq_true rfl)) dX8_ferries_3 ⟨Nat.le_refl _, Nat.le_refl _⟩) ?_
  refine lv_istore_n (lv' := [(3, .int (f_X8_amountOf (mNow M) (x) (y))), (0, .ref (b 0)), (1, .int x), (2, .int y)]) hx hb dX8_ferries_6 rfl hl (by decide) rfl (fun ls hl => ?_)
  refine lv_aload_n hx hb dX8_ferries_7 rfl (lv_at hl 1 rfl) ?_
  refine lv_iload_n hx hb dX8_ferries_8 rfl (lv_at hl 2 rfl) ?_
  refine callRo (va_runV (As := [.int x]) (rest := []) ⟨hx, hb, hml, hown, hts⟩ (c_X8_isPlayer l D C b M (x) hM) (cwV 1 hts gX8_ferries_X8_isPlayer rfl rfl rfl (by decide +kernel) ⟨Nat.le_of_ble_eq_true rfl, Nat.le_of_ble_eq_true rfl⟩) (roP_v hP hK hE (va_recv hK hP (ci := 9) (q0 := 0) rfl rfl)) rfl rfl hl.1 rfl (lv_room (Nat.le_of_ble_eq_true rfl)) dX8_ferries_9 ⟨Nat.le_refl _, Nat.le_refl _⟩) ?_
  refine bif_eq (tgt := 27) hx hb dX8_ferries_12 (by decide) (fun c_12 => ?_) (fun c_12 => ?_)
  · have hz := hz.trans (ifB_f c_12)
    exact J27 ((f_X8_amountOf (mNow M) (x) (y))) _ _ ls hz  hP hD hS (lv_sub hl [1, 2, 3, 0] rfl)
  · have hz := hz.trans (ifB_t c_12)
    refine lv_aload_n hx hb dX8_ferries_15 rfl (lv_at hl 1 rfl) ?_
    refine lv_iload_n hx hb dX8_ferries_16 rfl (lv_at hl 3 rfl) ?_
    refine callRo (va_runV (As := [.int y]) (rest := []) ⟨hx, hb, hml, hown, hts⟩ (c_X8_isSite l D C b M (y) hM) (cwV 1 hts gX8_ferries_X8_isSite rfl rfl rfl (by decide +kernel) ⟨Nat.le_of_ble_eq_true rfl, Nat.le_of_ble_eq_true rfl⟩) (roP_v hP hK hE (va_recv hK hP (ci := 9) (q0 := 0) rfl rfl)) rfl rfl hl.1 rfl (lv_room (Nat.le_of_ble_eq_true rfl)) dX8_ferries_17 ⟨Nat.le_refl _, Nat.le_refl _⟩) ?_
    refine bif_eq (tgt := 27) hx hb dX8_ferries_20 (by decide) (fun c_20 => ?_) (fun c_20 => ?_)
    · have hz := hz.trans (ifB_f c_20)
      exact J27 ((f_X8_amountOf (mNow M) (x) (y))) _ _ ls hz  hP hD hS (lv_sub hl [1, 2, 3, 0] rfl)
    · have hz := hz.trans (ifB_t c_20)
      refine lv_iconst (v := 1) hx hb dX8_ferries_23 (by decide) ?_
      refine lv_goto (tgt := 28) hx hb dX8_ferries_24 (by decide) ?_
      exact J28 ((f_X8_amountOf (mNow M) (x) (y))) (true) _ _ ls hz (by first | (intro h; cases h; done) | exact fun _ => ⟨X8_isPlayer_in hM c_12, X8_isSite_in hM c_20⟩) hP hD hS (lv_sub hl [1, 2, 3, 0] rfl)

