theorem X8_readsCommand_pl (tx : Nat → Int32) (si pl : Nat) (wr : Int32) (tl : Nat) (nm : Nat → Int32) (hp : pl ≤ si) (hs : si ≤ 60) : (f_X8_readsCommand tx si pl wr tl nm).1 ≤ si ∧ pl ≤ (f_X8_readsCommand tx si pl wr tl nm).1 ∧ ((f_X8_readsCommand tx si pl wr tl nm).2.1 = -1 → pl + 4 ≤ (f_X8_readsCommand tx si pl wr tl nm).1) ∧ (f_X8_readsCommand tx si pl wr tl nm).2.2.1 = tl + 1 := by
  have h1 := X8_kindHere_pl tx si pl wr hp hs
  simp only [f_X8_readsCommand, f_X8_readsCommand_j43, lt_]
  generalize f_X8_kindHere tx si pl wr = q at h1 ⊢
  split
  · rename_i c
    have h2 := X8_readsRest_pl tx si q.2.1 q.2.2 (upd nm (4 * tl) q.1) (4 * tl) q.1 h1.1
    have h3 := h1.2.2 c
    exact ⟨h2.1, by omega, fun _ => by omega, rfl⟩
  · rename_i c
    exact ⟨h1.1, h1.2.1, fun h => absurd h c, rfl⟩
theorem X8_readsCommand_q {y : Nat × Int32 × Nat × (Nat → Int32)} {tx : Nat → Int32} {si pl : Nat} {wr : Int32} {tl : Nat} {nm : Nat → Int32} (hy : y = f_X8_readsCommand tx si pl wr tl nm) (hp : pl ≤ si) (hs : si ≤ 60) : y.1 ≤ si ∧ pl ≤ y.1 ∧ (y.2.1 = -1 → pl + 4 ≤ y.1) ∧ y.2.2.1 = tl + 1 := by
  subst hy
  exact X8_readsCommand_pl _ _ _ _ _ _ hp hs
def f_X8_readsAll_j75  (typ0_75 : Nat) (siz0_75 : Nat) (pla0_75 : Nat) (wro0_75 : Int32) (tol0_75 : Nat) (num0_75 : (Nat → Int32)) : Nat × Nat × Nat × Int32 × Nat × (Nat → Int32) := (typ0_75, siz0_75, pla0_75, wro0_75, tol0_75, num0_75)
def f_X8_readsAll_j72  (typ0_72 : Nat) (siz0_72 : Nat) (pla0_72 : Nat) (wro0_72 : Int32) (tol0_72 : Nat) (num0_72 : (Nat → Int32)) : Sum (Nat × Nat × Nat × Int32 × Nat × (Nat → Int32)) (Nat × Nat × Nat × Int32 × Nat × (Nat → Int32)) := (Sum.inr (typ0_72, siz0_72, pla0_72, wro0_72, tol0_72, num0_72))
def f_X8_readsAll_l32b (tx : (Nat → Int32)) (typ0_32 : Nat) (siz0_32 : Nat) (pla0_32 : Nat) (wro0_32 : Int32) (tol0_32 : Nat) (num0_32 : (Nat → Int32)) : Sum (Nat × Nat × Nat × Int32 × Nat × (Nat → Int32)) (Nat × Nat × Nat × Int32 × Nat × (Nat → Int32)) := (if wro0_32 = (-1) then (if (nI siz0_32) ≤ (nI pla0_32) then (Sum.inl (f_X8_readsAll_j75 (typ0_32) (siz0_32) (pla0_32) (wro0_32) (tol0_32) (num0_32))) else (lt_ (f_X8_reads tx siz0_32 pla0_32 wro0_32 (59) (59)) (fun y56 => (if y56.2.2 = (-1) then (lt_ (f_X8_readsCommand tx siz0_32 y56.2.1 y56.2.2 tol0_32 num0_32) (fun y69 => (f_X8_readsAll_j72 (typ0_32) (siz0_32) (y69.1) (y69.2.1) (y69.2.2.1) (y69.2.2.2)))) else (f_X8_readsAll_j72 (typ0_32) (siz0_32) (y56.2.1) (y56.2.2) (tol0_32) (num0_32)))))) else (Sum.inl (f_X8_readsAll_j75 (typ0_32) (siz0_32) (pla0_32) (wro0_32) (tol0_32) (num0_32))))
def f_X8_readsAll_l32s (tx : (Nat → Int32)) (q_ : Nat × Nat × Nat × Int32 × Nat × (Nat → Int32)) : Sum (Nat × Nat × Nat × Int32 × Nat × (Nat → Int32)) (Nat × Nat × Nat × Int32 × Nat × (Nat → Int32)) := f_X8_readsAll_l32b tx (q_.1) (q_.2.1) (q_.2.2.1) (q_.2.2.2.1) (q_.2.2.2.2.1) (q_.2.2.2.2.2)
def f_X8_readsAll_l32 (tx : (Nat → Int32)) (n32 : Nat) (typ0_32 : Nat) (siz0_32 : Nat) (pla0_32 : Nat) (wro0_32 : Int32) (tol0_32 : Nat) (num0_32 : (Nat → Int32)) : Nat × Nat × Nat × Int32 × Nat × (Nat → Int32) := lpW (default : Nat × Nat × Nat × Int32 × Nat × (Nat → Int32)) (f_X8_readsAll_l32s tx) n32 (typ0_32, siz0_32, pla0_32, wro0_32, tol0_32, num0_32)
def f_X8_readsAll (tx : (Nat → Int32)) (ty : Nat) (nm : (Nat → Int32)) : Nat × Nat × Nat × Int32 × Nat × (Nat → Int32) := (lt_ (f_X8_readsCommand tx ty 0 (-1) 0 nm) (fun y29 => (f_X8_readsAll_l32 tx (62) (0) (ty) (y29.1) (y29.2.1) (y29.2.2.1) (y29.2.2.2))))
set_option maxHeartbeats 4000000 in
set_option maxRecDepth 100000 in
theorem c_X8_readsAll (l : Launch) (D : va_G) (C : Nat → ClassId) (ev : Nat → Nat) (b : Nat → Nat) (M : MS) (sz : Nat) (hTy : mTyp M ≤ 60) : Met l yX8_readsAll wsX8_readsAll ({ frames := 6, cells := 0, slots := 0, locals := 132 } : Room) (rwPE [.ref (b 0)] D C ev (mcells C b M) sz) (rwO none D (mcells C b (mkM (mNow M) (mBef M) (mSav M) (mHis M) (mIsS M) (mRem M) (mErA M) (mFaA M) (mTxt M) ((f_X8_readsAll (mTxt M) (mTyp M) (mNum M)).1) (mLin M) (mLnd M) (mThr M) (mFar M) (mGrp M) ((f_X8_readsAll (mTxt M) (mTyp M) (mNum M)).2.1) ((f_X8_readsAll (mTxt M) (mTyp M) (mNum M)).2.2.1) ((f_X8_readsAll (mTxt M) (mTyp M) (mNum M)).2.2.2.1) ((f_X8_readsAll (mTxt M) (mTyp M) (mNum M)).2.2.2.2.1) ((f_X8_readsAll (mTxt M) (mTyp M) (mNum M)).2.2.2.2.2))) (va_A (mcells C b M) sz)) 0 0 (va_A (mcells C b M) sz) := by
  refine Met.ofW (cc := cX8_readsAll) (maxL := 2) (ret := none) (by decide) rfl ?_
  intro p e s m args below meth c s₁ B hml hv
  obtain ⟨rfl, hsz, hP, hK, hD0, hE, hR, hX⟩ := hv
  have hx := B.exec
  have hb := B.bytes
  have hr := B.returns
  have hts := atoms_spec (ws := wsX8_readsAll) B.pre
  have hown : s.vm.findClass RX8 = some m.cls := findClass_of_methodNamed B.named
  have hlocks := B.notSynchronized
  subst hsz
  have hD := hD0.self (sz := s.heap.size)
  generalize hAe : va_A (mcells C b M) s.heap.size = A at hD hX ⊢
  have hA : ∀ q : Nat, s.heap.size ≤ q → A q := fun q h => by rw [← hAe]; exact Or.inr h
  have hS0 : va_S A s.heap s.heap [] := va_S.rf
  have hP : va_P D vwCl (mcells C b M) s.heap := hP
  have hS := hS0
  obtain ⟨⟨hV, hB, hMV, hMB, hAL, hEk, hEa, hTX, hXZ⟩, hCS, hSF⟩ := id hX
  have hinX8 : ∀ w ∈ u_ws RX8 TX8 20, w ∈ wsX8_readsAll := by decide +kernel
  have hl := lv_entry ([.ref (b 0)]) (n := 2) (Nat.le_of_ble_eq_true rfl)
  rw [lg_entry_eq]
  generalize (lg_sl ([.ref (b 0)]) ++ List.replicate (2 - (lg_sl ([.ref (b 0)])).length) Slot.unset).toArray = ls at hl ⊢
  have hl : lv_has ls 2 [(0, .ref (b 0))] := hl
  obtain ⟨z, hz⟩ : ∃ z, z = f_X8_readsAll (mTxt M) (mTyp M) (mNum M) := ⟨_, rfl⟩
  rw [← hz]
  have J75 : ∀ (typ0_75 : Nat) (siz0_75 : Nat) (pla0_75 : Nat) (wro0_75 : Int32) (tol0_75 : Nat) (num0_75 : (Nat → Int32))  (H : Heap) (locs : List Loc) (ls : Array Slot), z = f_X8_readsAll_j75 typ0_75 siz0_75 pla0_75 wro0_75 tol0_75 num0_75 → va_P D vwCl (mcells C b (mkM (mNow M) (mBef M) (mSav M) (mHis M) (mIsS M) (mRem M) (mErA M) (mFaA M) (mTxt M) typ0_75 (mLin M) (mLnd M) (mThr M) (mFar M) (mGrp M) siz0_75 pla0_75 wro0_75 tol0_75 num0_75)) H → va_D A (mcells C b (mkM (mNow M) (mBef M) (mSav M) (mHis M) (mIsS M) (mRem M) (mErA M) (mFaA M) (mTxt M) typ0_75 (mLin M) (mLnd M) (mThr M) (mFar M) (mGrp M) siz0_75 pla0_75 wro0_75 tol0_75 num0_75)) → va_S A s.heap H locs → lv_has ls 2 [] → W p l e ({ frames := 6, cells := 0, slots := 0, locals := 132 } : Room) s m ([.ref (b 0)] : List Value).toArray below meth c H locs 0 0 (MQ below (rwO none D (mcells C b (mkM (mNow M) (mBef M) (mSav M) (mHis M) (mIsS M) (mRem M) (mErA M) (mFaA M) (mTxt M) z.1 (mLin M) (mLnd M) (mThr M) (mFar M) (mGrp M) z.2.1 z.2.2.1 z.2.2.2.1 z.2.2.2.2.1 z.2.2.2.2.2)) A) ([.ref (b 0)] : List Value).toArray s 0 0 A) (F0 m 75 ls []) := by
    intro typ0_75 siz0_75 pla0_75 wro0_75 tol0_75 num0_75 H locs ls hz  hP hD hS hl
    have hz : z = (typ0_75, siz0_75, pla0_75, wro0_75, tol0_75, num0_75) := hz
    rw [hz]
    exact rw_retV hx hb hr hP hS dX8_readsAll_75 hlocks
  have J32 : ∀ (n32 : Nat) (typ0_32 : Nat) (siz0_32 : Nat) (pla0_32 : Nat) (wro0_32 : Int32) (tol0_32 : Nat) (num0_32 : (Nat → Int32)) (H : Heap) (locs : List Loc) (ls : Array Slot), (if wro0_32 = -1 then siz0_32 - pla0_32 + 1 else 0) < n32 → z = f_X8_readsAll_l32 (mTxt M) n32 typ0_32 siz0_32 pla0_32 wro0_32 tol0_32 num0_32 → (siz0_32 ≤ 60) → (pla0_32 ≤ siz0_32) → (wro0_32 = -1 → 4 * tol0_32 ≤ pla0_32) → (tol0_32 ≤ 16) → va_P D vwCl (mcells C b (mkM (mNow M) (mBef M) (mSav M) (mHis M) (mIsS M) (mRem M) (mErA M) (mFaA M) (mTxt M) typ0_32 (mLin M) (mLnd M) (mThr M) (mFar M) (mGrp M) siz0_32 pla0_32 wro0_32 tol0_32 num0_32)) H → va_D A (mcells C b (mkM (mNow M) (mBef M) (mSav M) (mHis M) (mIsS M) (mRem M) (mErA M) (mFaA M) (mTxt M) typ0_32 (mLin M) (mLnd M) (mThr M) (mFar M) (mGrp M) siz0_32 pla0_32 wro0_32 tol0_32 num0_32)) → va_S A s.heap H locs → lv_has ls 2 [(0, .ref (b 0))] → W p l e ({ frames := 6, cells := 0, slots := 0, locals := 132 } : Room) s m ([.ref (b 0)] : List Value).toArray below meth c H locs 0 0 (MQ below (rwO none D (mcells C b (mkM (mNow M) (mBef M) (mSav M) (mHis M) (mIsS M) (mRem M) (mErA M) (mFaA M) (mTxt M) z.1 (mLin M) (mLnd M) (mThr M) (mFar M) (mGrp M) z.2.1 z.2.2.1 z.2.2.2.1 z.2.2.2.2.1 z.2.2.2.2.2)) A) ([.ref (b 0)] : List Value).toArray s 0 0 A) (F0 m 32 ls []) := by
    intro n32
    induction n32 with
    | zero =>
      intro typ0_32 siz0_32 pla0_32 wro0_32 tol0_32 num0_32 H locs ls hk32
      exact absurd hk32 (Nat.not_lt_zero _)
    | succ n32 ih32 =>
      intro typ0_32 siz0_32 pla0_32 wro0_32 tol0_32 num0_32 H locs ls hk32 hz32 iv32_0 iv32_1 iv32_2 iv32_3 hP hD hS hl
      obtain ⟨z32, hz⟩ : ∃ zz_, zz_ = f_X8_readsAll_l32b (mTxt M) typ0_32 siz0_32 pla0_32 wro0_32 tol0_32 num0_32 := ⟨_, rfl⟩
      have hq32 : z = sE id (fun q_ => lpW (default : Nat × Nat × Nat × Int32 × Nat × (Nat → Int32)) (f_X8_readsAll_l32s (mTxt M)) n32 q_) z32 := by rw [hz32, hz]; rfl
      have J72 : ∀ (typ0_72 : Nat) (siz0_72 : Nat) (pla0_72 : Nat) (wro0_72 : Int32) (tol0_72 : Nat) (num0_72 : (Nat → Int32))  (H : Heap) (locs : List Loc) (ls : Array Slot), z32 = f_X8_readsAll_j72 typ0_72 siz0_72 pla0_72 wro0_72 tol0_72 num0_72 → (siz0_72 ≤ 60) → (pla0_72 ≤ siz0_72) → (wro0_72 = -1 → 4 * tol0_72 ≤ pla0_72) → (tol0_72 ≤ 16) → ((if wro0_72 = -1 then siz0_72 - pla0_72 + 1 else 0) < n32) → va_P D vwCl (mcells C b (mkM (mNow M) (mBef M) (mSav M) (mHis M) (mIsS M) (mRem M) (mErA M) (mFaA M) (mTxt M) typ0_72 (mLin M) (mLnd M) (mThr M) (mFar M) (mGrp M) siz0_72 pla0_72 wro0_72 tol0_72 num0_72)) H → va_D A (mcells C b (mkM (mNow M) (mBef M) (mSav M) (mHis M) (mIsS M) (mRem M) (mErA M) (mFaA M) (mTxt M) typ0_72 (mLin M) (mLnd M) (mThr M) (mFar M) (mGrp M) siz0_72 pla0_72 wro0_72 tol0_72 num0_72)) → va_S A s.heap H locs → lv_has ls 2 [(0, .ref (b 0))] → W p l e ({ frames := 6, cells := 0, slots := 0, locals := 132 } : Room) s m ([.ref (b 0)] : List Value).toArray below meth c H locs 0 0 (MQ below (rwO none D (mcells C b (mkM (mNow M) (mBef M) (mSav M) (mHis M) (mIsS M) (mRem M) (mErA M) (mFaA M) (mTxt M) z.1 (mLin M) (mLnd M) (mThr M) (mFar M) (mGrp M) z.2.1 z.2.2.1 z.2.2.2.1 z.2.2.2.2.1 z.2.2.2.2.2)) A) ([.ref (b 0)] : List Value).toArray s 0 0 A) (F0 m 72 ls []) := by
        intro typ0_72 siz0_72 pla0_72 wro0_72 tol0_72 num0_72 H locs ls hz iv72_0 iv72_1 iv72_2 iv72_3 iv72_4 hP hD hS hl
        refine lv_goto (tgt := 32) hx hb dX8_readsAll_72 (by decide) ?_
        exact ih32 (typ0_72) (siz0_72) (pla0_72) (wro0_72) (tol0_72) (num0_72) _ _ ls (by assumption) (by rw [hq32, hz]; rfl) (by first | assumption | omega) (by first | assumption | omega) (by intro h9; first | exact iv72_2 h9 | (have := r29 h9; omega)) (by first | assumption | omega) hP hD hS (lv_sub hl [0] rfl)
      refine lv_aload_n hx hb dX8_readsAll_32 rfl (lv_at hl 0 rfl) ?_
      refine va_get (D := D) (ci := 9) (v := .int wro0_32) (C := RX8) (T := TX8) (N := 20) hx hb hts hinX8 hown hK hP 0 rfl rfl 17 (by decide) (hts (.fieldLink RX8 213 "BridgeAuctionModel" "wrong" "I") (by decide +kernel)) (fun _ h9 => h9) rfl dX8_readsAll_33 ?_
      refine lv_iconst (v := (-1)) hx hb dX8_readsAll_36 (by decide) ?_
      refine lv_icmp_ne (tgt := 75) hx hb dX8_readsAll_37 (by decide) (fun c_37 => ?_) (fun c_37 => ?_)
      · have hz := hz.trans (if_neg c_37)
        have hz := up1 hq32 hz
        exact J75 (typ0_32) (siz0_32) (pla0_32) (wro0_32) (tol0_32) (num0_32) _ _ ls hz  hP hD hS (lv_sub hl [] rfl)
      · have hz := hz.trans (if_pos c_37)
        refine lv_aload_n hx hb dX8_readsAll_40 rfl (lv_at hl 0 rfl) ?_
        refine va_get (D := D) (ci := 9) (v := .int (nI pla0_32)) (C := RX8) (T := TX8) (N := 20) hx hb hts hinX8 hown hK hP 0 rfl rfl 16 (by decide) (hts (.fieldLink RX8 207 "BridgeAuctionModel" "place" "I") (by decide +kernel)) (fun _ h9 => h9) rfl dX8_readsAll_41 ?_
        refine lv_aload_n hx hb dX8_readsAll_44 rfl (lv_at hl 0 rfl) ?_
        refine va_get (D := D) (ci := 9) (v := .int (nI siz0_32)) (C := RX8) (T := TX8) (N := 20) hx hb hts hinX8 hown hK hP 0 rfl rfl 15 (by decide) (hts (.fieldLink RX8 210 "BridgeAuctionModel" "size" "I") (by decide +kernel)) (fun _ h9 => h9) rfl dX8_readsAll_45 ?_
        refine lv_icmp_ge (tgt := 75) hx hb dX8_readsAll_48 (by decide) (fun c_48 => ?_) (fun c_48 => ?_)
        · have hz := hz.trans (if_pos c_48)
          have hz := up1 hq32 hz
          exact J75 (typ0_32) (siz0_32) (pla0_32) (wro0_32) (tol0_32) (num0_32) _ _ ls hz  hP hD hS (lv_sub hl [] rfl)
        · have hz := hz.trans (if_neg c_48)
          have q48 := ltN' (by omega) c_48
          have q32 := iv32_2 c_37
          rw [if_pos c_37] at hk32
          refine lv_aload_n hx hb dX8_readsAll_51 rfl (lv_at hl 0 rfl) ?_
          refine lv_bipush (v := 59) hx hb dX8_readsAll_52 (by decide +kernel) ?_
          refine lv_bipush (v := 59) hx hb dX8_readsAll_54 (by decide +kernel) ?_
          have hFc := va_free (wc := (mcells C b (mkM (mNow M) (mBef M) (mSav M) (mHis M) (mIsS M) (mRem M) (mErA M) (mFaA M) (mTxt M) typ0_32 (mLin M) (mLnd M) (mThr M) (mFar M) (mGrp M) siz0_32 pla0_32 wro0_32 tol0_32 num0_32))) hD hS hA [0, 1, 2, 3, 4, 5, 6, 7, 8, 9] rfl
          refine callRw (va_runV (As := [.int 59, .int 59]) (rest := []) ⟨hx, hb, hml, hown, hts⟩ (c_X8_reads l D C b (mkM (mNow M) (mBef M) (mSav M) (mHis M) (mIsS M) (mRem M) (mErA M) (mFaA M) (mTxt M) typ0_32 (mLin M) (mLnd M) (mThr M) (mFar M) (mGrp M) siz0_32 pla0_32 wro0_32 tol0_32 num0_32) (59) (59) _ (by show siz0_32 ≤ 60; first | assumption | omega) (by show pla0_32 ≤ siz0_32; first | assumption | omega) (by decide +kernel)) (cwV 2 hts gX8_readsAll_X8_reads rfl rfl rfl (by decide +kernel) ⟨Nat.le_of_ble_eq_true rfl, Nat.le_of_ble_eq_true rfl⟩) (rwP_v hP hK hE hD (va_recv hK hP (ci := 9) (q0 := 0) rfl rfl)) rfl rfl hl.1 rfl (lv_room (Nat.le_of_ble_eq_true rfl)) dX8_readsAll_56 ⟨Nat.le_refl _, Nat.le_refl _⟩) hS hFc (fun H1 locs hPn hk hS => ?_)
          obtain ⟨y56, hy56⟩ : ∃ y_, y_ = (f_X8_reads (mTxt M) siz0_32 pla0_32 wro0_32 (59) (59)) := ⟨_, rfl⟩
          have hPn : va_P D vwCl (mcells C b (mkM (mNow M) (mBef M) (mSav M) (mHis M) (mIsS M) (mRem M) (mErA M) (mFaA M) (mTxt M) typ0_32 (mLin M) (mLnd M) (mThr M) (mFar M) (mGrp M) siz0_32 y56.2.1 y56.2.2 tol0_32 num0_32)) H1 := by rw [hy56]; exact hPn
          refine topI (y := y56.1) (congrArg Prod.fst hy56).symm ?_
          have hz := lt_eq hz hy56
          have hP : va_P D vwCl (mcells C b (mkM (mNow M) (mBef M) (mSav M) (mHis M) (mIsS M) (mRem M) (mErA M) (mFaA M) (mTxt M) typ0_32 (mLin M) (mLnd M) (mThr M) (mFar M) (mGrp M) siz0_32 y56.2.1 y56.2.2 tol0_32 num0_32)) H1 := hPn
          have hD : va_D A (mcells C b (mkM (mNow M) (mBef M) (mSav M) (mHis M) (mIsS M) (mRem M) (mErA M) (mFaA M) (mTxt M) typ0_32 (mLin M) (mLnd M) (mThr M) (mFar M) (mGrp M) siz0_32 y56.2.1 y56.2.2 tol0_32 num0_32)) := adr_D hD rfl
          generalize H1 = H at hP hS ⊢
          obtain ⟨p56, q56⟩ := X8_reads_q hy56 (by decide +kernel) (by omega)
          refine lv_istore_n (lv' := [(1, .int y56.1), (0, .ref (b 0))]) hx hb dX8_readsAll_59 rfl hl (by decide) rfl (fun ls hl => ?_)
          refine lv_aload_n hx hb dX8_readsAll_60 rfl (lv_at hl 1 rfl) ?_
          refine va_get (D := D) (ci := 9) (v := .int y56.2.2) (C := RX8) (T := TX8) (N := 20) hx hb hts hinX8 hown hK hP 0 rfl rfl 17 (by decide) (hts (.fieldLink RX8 213 "BridgeAuctionModel" "wrong" "I") (by decide +kernel)) (fun _ h9 => h9) rfl dX8_readsAll_61 ?_
          refine lv_iconst (v := (-1)) hx hb dX8_readsAll_64 (by decide) ?_
          refine lv_icmp_ne (tgt := 72) hx hb dX8_readsAll_65 (by decide) (fun c_65 => ?_) (fun c_65 => ?_)
          · have hz := hz.trans (if_neg c_65)
            exact J72 (typ0_32) (siz0_32) (y56.2.1) (y56.2.2) (tol0_32) (num0_32) _ _ ls hz (by first | assumption | omega) (by first | assumption | omega) (by intro h9; first | (have := r69 h9; omega) | exact absurd h9 c_65) (by first | assumption | omega) (by split <;> first | exact absurd (by assumption) c_65 | (have := r69 (by assumption); omega) | omega) hP hD hS (lv_sub hl [1] rfl)
          · have hz := hz.trans (if_pos c_65)
            refine lv_aload_n hx hb dX8_readsAll_68 rfl (lv_at hl 1 rfl) ?_
            have hFc := va_free (wc := (mcells C b (mkM (mNow M) (mBef M) (mSav M) (mHis M) (mIsS M) (mRem M) (mErA M) (mFaA M) (mTxt M) typ0_32 (mLin M) (mLnd M) (mThr M) (mFar M) (mGrp M) siz0_32 y56.2.1 y56.2.2 tol0_32 num0_32))) hD hS hA [0, 1, 2, 3, 4, 5, 6, 7, 8, 9] rfl
            refine callRw (va_runV (As := []) (rest := []) ⟨hx, hb, hml, hown, hts⟩ (c_X8_readsCommand l D C ev b (mkM (mNow M) (mBef M) (mSav M) (mHis M) (mIsS M) (mRem M) (mErA M) (mFaA M) (mTxt M) typ0_32 (mLin M) (mLnd M) (mThr M) (mFar M) (mGrp M) siz0_32 y56.2.1 y56.2.2 tol0_32 num0_32) _ (by show siz0_32 ≤ 60; first | assumption | omega) (by show y56.2.1 ≤ siz0_32; first | assumption | omega) (by show tol0_32 ≤ 29; first | assumption | omega)) (cwV 0 hts gX8_readsAll_X8_readsCommand rfl rfl rfl (by decide +kernel) ⟨Nat.le_of_ble_eq_true rfl, Nat.le_of_ble_eq_true rfl⟩) (rwPE_v hP hK hE hD hR hX hS hFc (va_recv hK hP (ci := 9) (q0 := 0) rfl rfl)) rfl rfl hl.1 rfl (lv_room (Nat.le_of_ble_eq_true rfl)) dX8_readsAll_69 ⟨Nat.le_refl _, Nat.le_refl _⟩) hS hFc (fun H1 locs hPn hk hS => ?_)
            obtain ⟨y69, hy69⟩ : ∃ y_, y_ = (f_X8_readsCommand (mTxt M) siz0_32 y56.2.1 y56.2.2 tol0_32 num0_32) := ⟨_, rfl⟩
            have hPn : va_P D vwCl (mcells C b (mkM (mNow M) (mBef M) (mSav M) (mHis M) (mIsS M) (mRem M) (mErA M) (mFaA M) (mTxt M) typ0_32 (mLin M) (mLnd M) (mThr M) (mFar M) (mGrp M) siz0_32 y69.1 y69.2.1 y69.2.2.1 y69.2.2.2)) H1 := by rw [hy69]; exact hPn
            have hz := lt_eq hz hy69
            have hP : va_P D vwCl (mcells C b (mkM (mNow M) (mBef M) (mSav M) (mHis M) (mIsS M) (mRem M) (mErA M) (mFaA M) (mTxt M) typ0_32 (mLin M) (mLnd M) (mThr M) (mFar M) (mGrp M) siz0_32 y69.1 y69.2.1 y69.2.2.1 y69.2.2.2)) H1 := hPn
            have hD : va_D A (mcells C b (mkM (mNow M) (mBef M) (mSav M) (mHis M) (mIsS M) (mRem M) (mErA M) (mFaA M) (mTxt M) typ0_32 (mLin M) (mLnd M) (mThr M) (mFar M) (mGrp M) siz0_32 y69.1 y69.2.1 y69.2.2.1 y69.2.2.2)) := adr_D hD rfl
            generalize H1 = H at hP hS ⊢
            obtain ⟨p69, q69, r69, t69⟩ := X8_readsCommand_q hy69 (by omega) (by omega)
            exact J72 (typ0_32) (siz0_32) (y69.1) (y69.2.1) (y69.2.2.1) (y69.2.2.2) _ _ ls hz (by first | assumption | omega) (by first | assumption | omega) (by intro h9; first | (have := r69 h9; omega) | exact absurd h9 c_65) (by first | assumption | omega) (by split <;> first | exact absurd (by assumption) c_65 | (have := r69 (by assumption); omega) | omega) hP hD hS (lv_sub hl [1] rfl)
  refine lv_aload_n hx hb dX8_readsAll_0 rfl (lv_at hl 0 rfl) ?_
  refine lv_aload_n hx hb dX8_readsAll_1 rfl (lv_at hl 0 rfl) ?_
  refine va_get (D := D) (ci := 9) (v := .int (nI (mTyp M))) (C := RX8) (T := TX8) (N := 20) hx hb hts hinX8 hown hK hP 0 rfl rfl 9 (by decide) (hts (.fieldLink RX8 204 "BridgeAuctionModel" "typed" "I") (by decide +kernel)) (fun _ h9 => h9) rfl dX8_readsAll_2 ?_
  refine va_put (D := D) (ci := 9) (v := .int (nI (mTyp M))) (ty := .int) (C := RX8) (T := TX8) (N := 20) hx hb hts hinX8 tyX8 tyX8_ok nmX8 hown hK hP hD hS 0 rfl rfl 15 (by decide) (hts (.fieldLink RX8 210 "BridgeAuctionModel" "size" "I") (by decide +kernel)) (fun _ h9 => h9) rfl (by decide +kernel) rfl rfl (Nat.le_of_ble_eq_true rfl) dX8_readsAll_5 (fun H locs hP hD hS => ?_)
  have hP : va_P D vwCl (mcells C b (mkM (mNow M) (mBef M) (mSav M) (mHis M) (mIsS M) (mRem M) (mErA M) (mFaA M) (mTxt M) (mTyp M) (mLin M) (mLnd M) (mThr M) (mFar M) (mGrp M) (mTyp M) (mPla M) (mWro M) (mTol M) (mNum M))) H := hP
  have hD : va_D A (mcells C b (mkM (mNow M) (mBef M) (mSav M) (mHis M) (mIsS M) (mRem M) (mErA M) (mFaA M) (mTxt M) (mTyp M) (mLin M) (mLnd M) (mThr M) (mFar M) (mGrp M) (mTyp M) (mPla M) (mWro M) (mTol M) (mNum M))) := hD
  refine lv_aload_n hx hb dX8_readsAll_8 rfl (lv_at hl 0 rfl) ?_
  refine lv_iconst (v := 0) hx hb dX8_readsAll_9 (by decide) ?_
  refine topN (k := 0) (by decide +kernel) ?_
  have hP := mX_P hP
  have hD := mX_D hD
  refine va_put (D := D) (ci := 9) (v := .int (nI 0)) (ty := .int) (C := RX8) (T := TX8) (N := 20) hx hb hts hinX8 tyX8 tyX8_ok nmX8 hown hK hP hD hS 0 rfl rfl 9 (by decide) (hts (.fieldLink RX8 204 "BridgeAuctionModel" "typed" "I") (by decide +kernel)) (fun _ h9 => h9) rfl (by decide +kernel) rfl rfl (Nat.le_of_ble_eq_true rfl) dX8_readsAll_10 (fun H locs hP hD hS => ?_)
  have hP : va_P D vwCl (mcells C b (mkM (mNow M) (mBef M) (mSav M) (mHis M) (mIsS M) (mRem M) (mErA M) (mFaA M) (mTxt M) 0 (mLin M) (mLnd M) (mThr M) (mFar M) (mGrp M) (mTyp M) (mPla M) (mWro M) (mTol M) (mNum M))) H := mX_Q (show va_P D vwCl (mX C b (mNow M) (mBef M) (mSav M) (mHis M) (mIsS M) (mRem M) (mErA M) (mFaA M) (mTxt M) 0 (mLin M) (mLnd M) (mThr M) (mFar M) (mGrp M) (mTyp M) (mPla M) (mWro M) (mTol M) (mNum M)) H from hP)
  have hD : va_D A (mcells C b (mkM (mNow M) (mBef M) (mSav M) (mHis M) (mIsS M) (mRem M) (mErA M) (mFaA M) (mTxt M) 0 (mLin M) (mLnd M) (mThr M) (mFar M) (mGrp M) (mTyp M) (mPla M) (mWro M) (mTol M) (mNum M))) := mX_R (show va_D A (mX C b (mNow M) (mBef M) (mSav M) (mHis M) (mIsS M) (mRem M) (mErA M) (mFaA M) (mTxt M) 0 (mLin M) (mLnd M) (mThr M) (mFar M) (mGrp M) (mTyp M) (mPla M) (mWro M) (mTol M) (mNum M)) from hD)
  refine lv_aload_n hx hb dX8_readsAll_13 rfl (lv_at hl 0 rfl) ?_
  refine lv_iconst (v := 0) hx hb dX8_readsAll_14 (by decide) ?_
  refine topN (k := 0) (by decide +kernel) ?_
  have hP := mX_P hP
  have hD := mX_D hD
  refine va_put (D := D) (ci := 9) (v := .int (nI 0)) (ty := .int) (C := RX8) (T := TX8) (N := 20) hx hb hts hinX8 tyX8 tyX8_ok nmX8 hown hK hP hD hS 0 rfl rfl 16 (by decide) (hts (.fieldLink RX8 207 "BridgeAuctionModel" "place" "I") (by decide +kernel)) (fun _ h9 => h9) rfl (by decide +kernel) rfl rfl (Nat.le_of_ble_eq_true rfl) dX8_readsAll_15 (fun H locs hP hD hS => ?_)
  have hP : va_P D vwCl (mcells C b (mkM (mNow M) (mBef M) (mSav M) (mHis M) (mIsS M) (mRem M) (mErA M) (mFaA M) (mTxt M) 0 (mLin M) (mLnd M) (mThr M) (mFar M) (mGrp M) (mTyp M) 0 (mWro M) (mTol M) (mNum M))) H := mX_Q (show va_P D vwCl (mX C b (mNow M) (mBef M) (mSav M) (mHis M) (mIsS M) (mRem M) (mErA M) (mFaA M) (mTxt M) 0 (mLin M) (mLnd M) (mThr M) (mFar M) (mGrp M) (mTyp M) 0 (mWro M) (mTol M) (mNum M)) H from hP)
  have hD : va_D A (mcells C b (mkM (mNow M) (mBef M) (mSav M) (mHis M) (mIsS M) (mRem M) (mErA M) (mFaA M) (mTxt M) 0 (mLin M) (mLnd M) (mThr M) (mFar M) (mGrp M) (mTyp M) 0 (mWro M) (mTol M) (mNum M))) := mX_R (show va_D A (mX C b (mNow M) (mBef M) (mSav M) (mHis M) (mIsS M) (mRem M) (mErA M) (mFaA M) (mTxt M) 0 (mLin M) (mLnd M) (mThr M) (mFar M) (mGrp M) (mTyp M) 0 (mWro M) (mTol M) (mNum M)) from hD)
  refine lv_aload_n hx hb dX8_readsAll_18 rfl (lv_at hl 0 rfl) ?_
  refine lv_iconst (v := (-1)) hx hb dX8_readsAll_19 (by decide) ?_
  have hP := mX_P hP
  have hD := mX_D hD
  refine va_put (D := D) (ci := 9) (v := .int (-1)) (ty := .int) (C := RX8) (T := TX8) (N := 20) hx hb hts hinX8 tyX8 tyX8_ok nmX8 hown hK hP hD hS 0 rfl rfl 17 (by decide) (hts (.fieldLink RX8 213 "BridgeAuctionModel" "wrong" "I") (by decide +kernel)) (fun _ h9 => h9) rfl (by decide +kernel) rfl rfl (Nat.le_of_ble_eq_true rfl) dX8_readsAll_20 (fun H locs hP hD hS => ?_)
  have hP : va_P D vwCl (mcells C b (mkM (mNow M) (mBef M) (mSav M) (mHis M) (mIsS M) (mRem M) (mErA M) (mFaA M) (mTxt M) 0 (mLin M) (mLnd M) (mThr M) (mFar M) (mGrp M) (mTyp M) 0 (-1) (mTol M) (mNum M))) H := mX_Q (show va_P D vwCl (mX C b (mNow M) (mBef M) (mSav M) (mHis M) (mIsS M) (mRem M) (mErA M) (mFaA M) (mTxt M) 0 (mLin M) (mLnd M) (mThr M) (mFar M) (mGrp M) (mTyp M) 0 (-1) (mTol M) (mNum M)) H from hP)
  have hD : va_D A (mcells C b (mkM (mNow M) (mBef M) (mSav M) (mHis M) (mIsS M) (mRem M) (mErA M) (mFaA M) (mTxt M) 0 (mLin M) (mLnd M) (mThr M) (mFar M) (mGrp M) (mTyp M) 0 (-1) (mTol M) (mNum M))) := mX_R (show va_D A (mX C b (mNow M) (mBef M) (mSav M) (mHis M) (mIsS M) (mRem M) (mErA M) (mFaA M) (mTxt M) 0 (mLin M) (mLnd M) (mThr M) (mFar M) (mGrp M) (mTyp M) 0 (-1) (mTol M) (mNum M)) from hD)
  refine lv_aload_n hx hb dX8_readsAll_23 rfl (lv_at hl 0 rfl) ?_
  refine lv_iconst (v := 0) hx hb dX8_readsAll_24 (by decide) ?_
  refine topN (k := 0) (by decide +kernel) ?_
  have hP := mX_P hP
  have hD := mX_D hD
  refine va_put (D := D) (ci := 9) (v := .int (nI 0)) (ty := .int) (C := RX8) (T := TX8) (N := 20) hx hb hts hinX8 tyX8 tyX8_ok nmX8 hown hK hP hD hS 0 rfl rfl 18 (by decide) (hts (.fieldLink RX8 242 "BridgeAuctionModel" "told" "I") (by decide +kernel)) (fun _ h9 => h9) rfl (by decide +kernel) rfl rfl (Nat.le_of_ble_eq_true rfl) dX8_readsAll_25 (fun H locs hP hD hS => ?_)
  have hP : va_P D vwCl (mcells C b (mkM (mNow M) (mBef M) (mSav M) (mHis M) (mIsS M) (mRem M) (mErA M) (mFaA M) (mTxt M) 0 (mLin M) (mLnd M) (mThr M) (mFar M) (mGrp M) (mTyp M) 0 (-1) 0 (mNum M))) H := mX_Q (show va_P D vwCl (mX C b (mNow M) (mBef M) (mSav M) (mHis M) (mIsS M) (mRem M) (mErA M) (mFaA M) (mTxt M) 0 (mLin M) (mLnd M) (mThr M) (mFar M) (mGrp M) (mTyp M) 0 (-1) 0 (mNum M)) H from hP)
  have hD : va_D A (mcells C b (mkM (mNow M) (mBef M) (mSav M) (mHis M) (mIsS M) (mRem M) (mErA M) (mFaA M) (mTxt M) 0 (mLin M) (mLnd M) (mThr M) (mFar M) (mGrp M) (mTyp M) 0 (-1) 0 (mNum M))) := mX_R (show va_D A (mX C b (mNow M) (mBef M) (mSav M) (mHis M) (mIsS M) (mRem M) (mErA M) (mFaA M) (mTxt M) 0 (mLin M) (mLnd M) (mThr M) (mFar M) (mGrp M) (mTyp M) 0 (-1) 0 (mNum M)) from hD)
  refine lv_aload_n hx hb dX8_readsAll_28 rfl (lv_at hl 0 rfl) ?_
  have hFc := va_free (wc := (mcells C b (mkM (mNow M) (mBef M) (mSav M) (mHis M) (mIsS M) (mRem M) (mErA M) (mFaA M) (mTxt M) 0 (mLin M) (mLnd M) (mThr M) (mFar M) (mGrp M) (mTyp M) 0 (-1) 0 (mNum M)))) hD hS hA [0, 1, 2, 3, 4, 5, 6, 7, 8, 9] rfl
  refine callRw (va_runV (As := []) (rest := []) ⟨hx, hb, hml, hown, hts⟩ (c_X8_readsCommand l D C ev b (mkM (mNow M) (mBef M) (mSav M) (mHis M) (mIsS M) (mRem M) (mErA M) (mFaA M) (mTxt M) 0 (mLin M) (mLnd M) (mThr M) (mFar M) (mGrp M) (mTyp M) 0 (-1) 0 (mNum M)) _ (by show (mTyp M) ≤ 60; first | assumption | omega) (by show 0 ≤ (mTyp M); first | assumption | omega) (by show 0 ≤ 29; first | assumption | omega)) (cwV 0 hts gX8_readsAll_X8_readsCommand rfl rfl rfl (by decide +kernel) ⟨Nat.le_of_ble_eq_true rfl, Nat.le_of_ble_eq_true rfl⟩) (rwPE_v hP hK hE hD hR hX hS hFc (va_recv hK hP (ci := 9) (q0 := 0) rfl rfl)) rfl rfl hl.1 rfl (lv_room (Nat.le_of_ble_eq_true rfl)) dX8_readsAll_29 ⟨Nat.le_refl _, Nat.le_refl _⟩) hS hFc (fun H1 locs hPn hk hS => ?_)
  obtain ⟨y29, hy29⟩ : ∃ y_, y_ = (f_X8_readsCommand (mTxt M) (mTyp M) 0 (-1) 0 (mNum M)) := ⟨_, rfl⟩
  have hPn : va_P D vwCl (mcells C b (mkM (mNow M) (mBef M) (mSav M) (mHis M) (mIsS M) (mRem M) (mErA M) (mFaA M) (mTxt M) 0 (mLin M) (mLnd M) (mThr M) (mFar M) (mGrp M) (mTyp M) y29.1 y29.2.1 y29.2.2.1 y29.2.2.2)) H1 := by rw [hy29]; exact hPn
  have hz := lt_eq hz hy29
  have hP : va_P D vwCl (mcells C b (mkM (mNow M) (mBef M) (mSav M) (mHis M) (mIsS M) (mRem M) (mErA M) (mFaA M) (mTxt M) 0 (mLin M) (mLnd M) (mThr M) (mFar M) (mGrp M) (mTyp M) y29.1 y29.2.1 y29.2.2.1 y29.2.2.2)) H1 := hPn
  have hD : va_D A (mcells C b (mkM (mNow M) (mBef M) (mSav M) (mHis M) (mIsS M) (mRem M) (mErA M) (mFaA M) (mTxt M) 0 (mLin M) (mLnd M) (mThr M) (mFar M) (mGrp M) (mTyp M) y29.1 y29.2.1 y29.2.2.1 y29.2.2.2)) := adr_D hD rfl
  generalize H1 = H at hP hS ⊢
  obtain ⟨p29, q29, r29, t29⟩ := X8_readsCommand_q hy29 (by omega) (by omega)
  exact J32 (62) (0) ((mTyp M)) (y29.1) (y29.2.1) (y29.2.2.1) (y29.2.2.2) _ _ ls (by split <;> omega) hz (by first | assumption | omega) (by first | assumption | omega) (by intro h9; first | exact iv72_2 h9 | (have := r29 h9; omega)) (by first | assumption | omega) hP hD hS (lv_sub hl [0] rfl)

