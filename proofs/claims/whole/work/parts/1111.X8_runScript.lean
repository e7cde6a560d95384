def f_X8_runScript_l38b (hs : (Nat → Int32)) (rm : Nat) (eA : Int32) (fA : Int32) (k38 : Nat) (now0_38 : (Nat → Int32)) (bef0_38 : (Nat → Int32)) (typ0_38 : Nat) (thr0_38 : Int32) (siz0_38 : Nat) (pla0_38 : Nat) (wro0_38 : Int32) (tol0_38 : Nat) (num0_38 : (Nat → Int32)) : Sum (Int32 × (Nat → Int32) × (Nat → Int32) × (Nat → Int32) × Nat × Int32 × Int32 × Nat × Int32 × Nat × Nat × Int32 × Nat × (Nat → Int32)) ((Nat → Int32) × (Nat → Int32) × Nat × Int32 × Nat × Nat × Int32 × Nat × (Nat → Int32)) := (lt_ (f_X8_does now0_38 num0_38 ((4 * k38))) (fun y50 => (if y50.2.2 = 0 then (Sum.inr (y50.2.1, bef0_38, typ0_38, y50.2.2, siz0_38, pla0_38, wro0_38, tol0_38, num0_38)) else (lt_ (f_X8_copies bef0_38 y50.2.1 (0) (0)) (fun y81 => (Sum.inl (0, y81, bef0_38, hs, rm, eA, (nI k38), typ0_38, 2, siz0_38, pla0_38, wro0_38, tol0_38, num0_38)))))))
def f_X8_runScript_l38x (hs : (Nat → Int32)) (rm : Nat) (eA : Int32) (fA : Int32) (now0_38 : (Nat → Int32)) (bef0_38 : (Nat → Int32)) (typ0_38 : Nat) (thr0_38 : Int32) (siz0_38 : Nat) (pla0_38 : Nat) (wro0_38 : Int32) (tol0_38 : Nat) (num0_38 : (Nat → Int32)) : Int32 × (Nat → Int32) × (Nat → Int32) × (Nat → Int32) × Nat × Int32 × Int32 × Nat × Int32 × Nat × Nat × Int32 × Nat × (Nat → Int32) := (lt_ (f_X8_ends now0_38 bef0_38 hs rm thr0_38 ((nI tol0_38))) (fun y97 => (y97.1, y97.2.1, bef0_38, y97.2.2.1, y97.2.2.2, eA, fA, typ0_38, thr0_38, siz0_38, pla0_38, wro0_38, tol0_38, num0_38)))
def f_X8_runScript_l38s (hs : (Nat → Int32)) (rm : Nat) (eA : Int32) (fA : Int32) (k38 : Nat) (q_ : (Nat → Int32) × (Nat → Int32) × Nat × Int32 × Nat × Nat × Int32 × Nat × (Nat → Int32)) : Sum (Int32 × (Nat → Int32) × (Nat → Int32) × (Nat → Int32) × Nat × Int32 × Int32 × Nat × Int32 × Nat × Nat × Int32 × Nat × (Nat → Int32)) ((Nat → Int32) × (Nat → Int32) × Nat × Int32 × Nat × Nat × Int32 × Nat × (Nat → Int32)) := f_X8_runScript_l38b hs rm eA fA k38 (q_.1) (q_.2.1) (q_.2.2.1) (q_.2.2.2.1) (q_.2.2.2.2.1) (q_.2.2.2.2.2.1) (q_.2.2.2.2.2.2.1) (q_.2.2.2.2.2.2.2.1) (q_.2.2.2.2.2.2.2.2)
def f_X8_runScript_l38e (hs : (Nat → Int32)) (rm : Nat) (eA : Int32) (fA : Int32) (q_ : (Nat → Int32) × (Nat → Int32) × Nat × Int32 × Nat × Nat × Int32 × Nat × (Nat → Int32)) : Int32 × (Nat → Int32) × (Nat → Int32) × (Nat → Int32) × Nat × Int32 × Int32 × Nat × Int32 × Nat × Nat × Int32 × Nat × (Nat → Int32) := f_X8_runScript_l38x hs rm eA fA (q_.1) (q_.2.1) (q_.2.2.1) (q_.2.2.2.1) (q_.2.2.2.2.1) (q_.2.2.2.2.2.1) (q_.2.2.2.2.2.2.1) (q_.2.2.2.2.2.2.2.1) (q_.2.2.2.2.2.2.2.2)
def f_X8_runScript_l38 (hs : (Nat → Int32)) (rm : Nat) (eA : Int32) (fA : Int32) (n38 k38 : Nat) (now0_38 : (Nat → Int32)) (bef0_38 : (Nat → Int32)) (typ0_38 : Nat) (thr0_38 : Int32) (siz0_38 : Nat) (pla0_38 : Nat) (wro0_38 : Int32) (tol0_38 : Nat) (num0_38 : (Nat → Int32)) : Int32 × (Nat → Int32) × (Nat → Int32) × (Nat → Int32) × Nat × Int32 × Int32 × Nat × Int32 × Nat × Nat × Int32 × Nat × (Nat → Int32) := lpF (f_X8_runScript_l38s hs rm eA fA) (f_X8_runScript_l38e hs rm eA fA) n38 k38 (now0_38, bef0_38, typ0_38, thr0_38, siz0_38, pla0_38, wro0_38, tol0_38, num0_38)
def f_X8_runScript (nw : (Nat → Int32)) (bf : (Nat → Int32)) (hs : (Nat → Int32)) (rm : Nat) (eA : Int32) (fA : Int32) (tx : (Nat → Int32)) (ty : Nat) (nm : (Nat → Int32)) : Int32 × (Nat → Int32) × (Nat → Int32) × (Nat → Int32) × Nat × Int32 × Int32 × Nat × Int32 × Nat × Nat × Int32 × Nat × (Nat → Int32) := (lt_ (f_X8_readsAll tx ty nm) (fun y1 => (if y1.2.2.2.1 = (-1) then (f_X8_runScript_l38 hs rm eA fA (y1.2.2.2.2.1) 0 (nw) ((f_X8_copies nw bf 0 0)) (y1.1) (0) (y1.2.1) (y1.2.2.1) (y1.2.2.2.1) (y1.2.2.2.2.1) (y1.2.2.2.2.2)) else (0, nw, bf, hs, rm, y1.2.2.2.1, fA, y1.1, 1, y1.2.1, y1.2.2.1, y1.2.2.2.1, y1.2.2.2.2.1, y1.2.2.2.2.2))))
set_option maxHeartbeats 4000000 in
set_option maxRecDepth 100000 in
theorem c_X8_runScript (l : Launch) (D : va_G) (C : Nat → ClassId) (ev : Nat → Nat) (b : Nat → Nat) (M : MS) (sz : Nat) (hM : MSafe M) (hTy : mTyp M ≤ 60) (hRem : mRem M ≤ 8) : Met l yX8_runScript wsX8_runScript ({ frames := 7, cells := 0, slots := 0, locals := 160 } : Room) (rwPE [.ref (b 0)] D C ev (mcells C b M) sz) (rwO (some (.int ((f_X8_runScript (mNow M) (mBef M) (mHis M) (mRem M) (mErA M) (mFaA M) (mTxt M) (mTyp M) (mNum M)).1))) D (mcells C b (mkM ((f_X8_runScript (mNow M) (mBef M) (mHis M) (mRem M) (mErA M) (mFaA M) (mTxt M) (mTyp M) (mNum M)).2.1) ((f_X8_runScript (mNow M) (mBef M) (mHis M) (mRem M) (mErA M) (mFaA M) (mTxt M) (mTyp M) (mNum M)).2.2.1) (mSav M) ((f_X8_runScript (mNow M) (mBef M) (mHis M) (mRem M) (mErA M) (mFaA M) (mTxt M) (mTyp M) (mNum M)).2.2.2.1) (mIsS M) ((f_X8_runScript (mNow M) (mBef M) (mHis M) (mRem M) (mErA M) (mFaA M) (mTxt M) (mTyp M) (mNum M)).2.2.2.2.1) ((f_X8_runScript (mNow M) (mBef M) (mHis M) (mRem M) (mErA M) (mFaA M) (mTxt M) (mTyp M) (mNum M)).2.2.2.2.2.1) ((f_X8_runScript (mNow M) (mBef M) (mHis M) (mRem M) (mErA M) (mFaA M) (mTxt M) (mTyp M) (mNum M)).2.2.2.2.2.2.1) (mTxt M) ((f_X8_runScript (mNow M) (mBef M) (mHis M) (mRem M) (mErA M) (mFaA M) (mTxt M) (mTyp M) (mNum M)).2.2.2.2.2.2.2.1) (mLin M) (mLnd M) ((f_X8_runScript (mNow M) (mBef M) (mHis M) (mRem M) (mErA M) (mFaA M) (mTxt M) (mTyp M) (mNum M)).2.2.2.2.2.2.2.2.1) (mFar M) (mGrp M) ((f_X8_runScript (mNow M) (mBef M) (mHis M) (mRem M) (mErA M) (mFaA M) (mTxt M) (mTyp M) (mNum M)).2.2.2.2.2.2.2.2.2.1) ((f_X8_runScript (mNow M) (mBef M) (mHis M) (mRem M) (mErA M) (mFaA M) (mTxt M) (mTyp M) (mNum M)).2.2.2.2.2.2.2.2.2.2.1) ((f_X8_runScript (mNow M) (mBef M) (mHis M) (mRem M) (mErA M) (mFaA M) (mTxt M) (mTyp M) (mNum M)).2.2.2.2.2.2.2.2.2.2.2.1) ((f_X8_runScript (mNow M) (mBef M) (mHis M) (mRem M) (mErA M) (mFaA M) (mTxt M) (mTyp M) (mNum M)).2.2.2.2.2.2.2.2.2.2.2.2.1) ((f_X8_runScript (mNow M) (mBef M) (mHis M) (mRem M) (mErA M) (mFaA M) (mTxt M) (mTyp M) (mNum M)).2.2.2.2.2.2.2.2.2.2.2.2.2))) (va_A (mcells C b M) sz)) 0 0 (va_A (mcells C b M) sz) := by
  refine Met.ofW (cc := cX8_runScript) (maxL := 3) (ret := (some .int)) (by decide) rfl ?_
  intro p e s m args below meth c s₁ B hml hv
  obtain ⟨rfl, hsz, hP, hK, hD0, hE, hR, hX⟩ := hv
  have hx := B.exec
  have hb := B.bytes
  have hr := B.returns
  have hts := atoms_spec (ws := wsX8_runScript) B.pre
  have hown : s.vm.findClass RX8 = some m.cls := findClass_of_methodNamed B.named
  have hlocks := B.notSynchronized
  subst hsz
  have hD := hD0.self (sz := s.heap.size)
  generalize hAe : va_A (mcells C b M) s.heap.size = A at hD hX ⊢
  have hA : ∀ q : Nat, s.heap.size ≤ q → A q := fun q h => by rw [← hAe]; exact Or.inr h
  have hS0 : va_S A s.heap s.heap [] := va_S.rf
  have hP : va_P D vwCl (mcells C b M) s.heap := hP
  have hS := hS0
  obtain ⟨⟨hV, hB, hMV, hMB, hAL, hEk, hEa, hTX, hXZ⟩, hCS, hSF⟩ := id hX
  obtain ⟨⟨hS2, hS12⟩, ⟨hP2, hP4⟩, hLH, hFE⟩ := id hM
  have hinX8 : ∀ w ∈ u_ws RX8 TX8 20, w ∈ wsX8_runScript := by decide +kernel
  have hl := lv_entry ([.ref (b 0)]) (n := 3) (Nat.le_of_ble_eq_true rfl)
  rw [lg_entry_eq]
  generalize (lg_sl ([.ref (b 0)]) ++ List.replicate (3 - (lg_sl ([.ref (b 0)])).length) Slot.unset).toArray = ls at hl ⊢
  have hl : lv_has ls 3 [(0, .ref (b 0))] := hl
  obtain ⟨z, hz⟩ : ∃ z, z = f_X8_runScript (mNow M) (mBef M) (mHis M) (mRem M) (mErA M) (mFaA M) (mTxt M) (mTyp M) (mNum M) := ⟨_, rfl⟩
  rw [← hz]
  have J38 : ∀ (n38 k38 : Nat) (now0_38 : (Nat → Int32)) (bef0_38 : (Nat → Int32)) (typ0_38 : Nat) (thr0_38 : Int32) (siz0_38 : Nat) (pla0_38 : Nat) (wro0_38 : Int32) (tol0_38 : Nat) (num0_38 : (Nat → Int32)) (H : Heap) (locs : List Loc) (ls : Array Slot), k38 + n38 = tol0_38 → z = f_X8_runScript_l38 (mHis M) (mRem M) (mErA M) (mFaA M) n38 k38 now0_38 bef0_38 typ0_38 thr0_38 siz0_38 pla0_38 wro0_38 tol0_38 num0_38 → (tol0_38 ≤ 16) → (NowOK now0_38) → va_P D vwCl (mcells C b (mkM now0_38 bef0_38 (mSav M) (mHis M) (mIsS M) (mRem M) (mErA M) (mFaA M) (mTxt M) typ0_38 (mLin M) (mLnd M) thr0_38 (mFar M) (mGrp M) siz0_38 pla0_38 wro0_38 tol0_38 num0_38)) H → va_D A (mcells C b (mkM now0_38 bef0_38 (mSav M) (mHis M) (mIsS M) (mRem M) (mErA M) (mFaA M) (mTxt M) typ0_38 (mLin M) (mLnd M) thr0_38 (mFar M) (mGrp M) siz0_38 pla0_38 wro0_38 tol0_38 num0_38)) → va_S A s.heap H locs → lv_has ls 3 [(0, .ref (b 0)), (1, .int (nI k38))] → W p l e ({ frames := 7, cells := 0, slots := 0, locals := 160 } : Room) s m ([.ref (b 0)] : List Value).toArray below meth c H locs 0 0 (MQ below (rwO (some (.int z.1)) D (mcells C b (mkM z.2.1 z.2.2.1 (mSav M) z.2.2.2.1 (mIsS M) z.2.2.2.2.1 z.2.2.2.2.2.1 z.2.2.2.2.2.2.1 (mTxt M) z.2.2.2.2.2.2.2.1 (mLin M) (mLnd M) z.2.2.2.2.2.2.2.2.1 (mFar M) (mGrp M) z.2.2.2.2.2.2.2.2.2.1 z.2.2.2.2.2.2.2.2.2.2.1 z.2.2.2.2.2.2.2.2.2.2.2.1 z.2.2.2.2.2.2.2.2.2.2.2.2.1 z.2.2.2.2.2.2.2.2.2.2.2.2.2)) A) ([.ref (b 0)] : List Value).toArray s 0 0 A) (F0 m 38 ls []) := by
    intro n38
    induction n38 with
    | zero =>
      intro k38 now0_38 bef0_38 typ0_38 thr0_38 siz0_38 pla0_38 wro0_38 tol0_38 num0_38 H locs ls hk38 hz iv38_0 iv38_1 hP hD hS hl
      have hz : z = f_X8_runScript_l38x (mHis M) (mRem M) (mErA M) (mFaA M) now0_38 bef0_38 typ0_38 thr0_38 siz0_38 pla0_38 wro0_38 tol0_38 num0_38 := hz
      refine lv_iload_n hx hb dX8_runScript_38 rfl (lv_at hl 1 rfl) ?_
      refine lv_aload_n hx hb dX8_runScript_39 rfl (lv_at hl 0 rfl) ?_
      refine va_get (D := D) (ci := 9) (v := .int (nI tol0_38)) (C := RX8) (T := TX8) (N := 20) hx hb hts hinX8 hown hK hP 0 rfl rfl 18 (by decide) (hts (.fieldLink RX8 242 "BridgeAuctionModel" "told" "I") (by decide +kernel)) (fun _ h9 => h9) rfl dX8_runScript_40 ?_
      refine lv_icmp_ge (tgt := 92) hx hb dX8_runScript_43 (by decide) (fun c_43 => ?_) (fun c_43 => absurd (nI_le (by omega) (by omega)) c_43)
      refine lv_aload_n hx hb dX8_runScript_92 rfl (lv_at hl 0 rfl) ?_
      refine lv_aload_n hx hb dX8_runScript_93 rfl (lv_at hl 0 rfl) ?_
      refine va_get (D := D) (ci := 9) (v := .int (nI tol0_38)) (C := RX8) (T := TX8) (N := 20) hx hb hts hinX8 hown hK hP 0 rfl rfl 18 (by decide) (hts (.fieldLink RX8 242 "BridgeAuctionModel" "told" "I") (by decide +kernel)) (fun _ h9 => h9) rfl dX8_runScript_94 ?_
      have hFc := va_free (wc := (mcells C b (mkM now0_38 bef0_38 (mSav M) (mHis M) (mIsS M) (mRem M) (mErA M) (mFaA M) (mTxt M) typ0_38 (mLin M) (mLnd M) thr0_38 (mFar M) (mGrp M) siz0_38 pla0_38 wro0_38 tol0_38 num0_38))) hD hS hA [0, 1, 2, 3, 4, 5, 6, 7, 8, 9] rfl
      refine callRw (va_runV (As := [.int (nI tol0_38)]) (rest := []) ⟨hx, hb, hml, hown, hts⟩ (c_X8_ends l D C b (mkM now0_38 bef0_38 (mSav M) (mHis M) (mIsS M) (mRem M) (mErA M) (mFaA M) (mTxt M) typ0_38 (mLin M) (mLnd M) thr0_38 (mFar M) (mGrp M) siz0_38 pla0_38 wro0_38 tol0_38 num0_38) ((nI tol0_38)) _ (by show (mRem M) ≤ 8; first | assumption | omega)) (cwV 1 hts gX8_runScript_X8_ends rfl rfl rfl (by decide +kernel) ⟨Nat.le_of_ble_eq_true rfl, Nat.le_of_ble_eq_true rfl⟩) (rwP_v hP hK hE hD (va_recv hK hP (ci := 9) (q0 := 0) rfl rfl)) rfl rfl hl.1 rfl (lv_room (Nat.le_of_ble_eq_true rfl)) dX8_runScript_97 ⟨Nat.le_refl _, Nat.le_refl _⟩) hS hFc (fun H1 locs hPn hk hS => ?_)
      obtain ⟨y97, hy97⟩ : ∃ y_, y_ = (f_X8_ends now0_38 bef0_38 (mHis M) (mRem M) thr0_38 ((nI tol0_38))) := ⟨_, rfl⟩
      have hPn : va_P D vwCl (mcells C b (mkM y97.2.1 bef0_38 (mSav M) y97.2.2.1 (mIsS M) y97.2.2.2 (mErA M) (mFaA M) (mTxt M) typ0_38 (mLin M) (mLnd M) thr0_38 (mFar M) (mGrp M) siz0_38 pla0_38 wro0_38 tol0_38 num0_38)) H1 := by rw [hy97]; exact hPn
      refine topI (y := y97.1) (congrArg Prod.fst hy97).symm ?_
      have hz := lt_eq hz hy97
      have hP : va_P D vwCl (mcells C b (mkM y97.2.1 bef0_38 (mSav M) y97.2.2.1 (mIsS M) y97.2.2.2 (mErA M) (mFaA M) (mTxt M) typ0_38 (mLin M) (mLnd M) thr0_38 (mFar M) (mGrp M) siz0_38 pla0_38 wro0_38 tol0_38 num0_38)) H1 := hPn
      have hD : va_D A (mcells C b (mkM y97.2.1 bef0_38 (mSav M) y97.2.2.1 (mIsS M) y97.2.2.2 (mErA M) (mFaA M) (mTxt M) typ0_38 (mLin M) (mLnd M) thr0_38 (mFar M) (mGrp M) siz0_38 pla0_38 wro0_38 tol0_38 num0_38)) := adr_D hD rfl
      generalize H1 = H at hP hS ⊢
      have hz : z = (y97.1, y97.2.1, bef0_38, y97.2.2.1, y97.2.2.2, (mErA M), (mFaA M), typ0_38, thr0_38, siz0_38, pla0_38, wro0_38, tol0_38, num0_38) := hz
      rw [hz]
      exact rw_ret hx hb hr hP hS rfl dX8_runScript_100 hlocks
    | succ n38 ih38 =>
      intro k38 now0_38 bef0_38 typ0_38 thr0_38 siz0_38 pla0_38 wro0_38 tol0_38 num0_38 H locs ls hk38 hz38 iv38_0 iv38_1 hP hD hS hl
      obtain ⟨z38, hz⟩ : ∃ zz_, zz_ = f_X8_runScript_l38b (mHis M) (mRem M) (mErA M) (mFaA M) k38 now0_38 bef0_38 typ0_38 thr0_38 siz0_38 pla0_38 wro0_38 tol0_38 num0_38 := ⟨_, rfl⟩
      have hq38 : z = sE id (fun q_ => lpF (f_X8_runScript_l38s (mHis M) (mRem M) (mErA M) (mFaA M)) (f_X8_runScript_l38e (mHis M) (mRem M) (mErA M) (mFaA M)) n38 (k38 + 1) q_) z38 := by rw [hz38, hz]; rfl
      refine lv_iload_n hx hb dX8_runScript_38 rfl (lv_at hl 1 rfl) ?_
      refine lv_aload_n hx hb dX8_runScript_39 rfl (lv_at hl 0 rfl) ?_
      refine va_get (D := D) (ci := 9) (v := .int (nI tol0_38)) (C := RX8) (T := TX8) (N := 20) hx hb hts hinX8 hown hK hP 0 rfl rfl 18 (by decide) (hts (.fieldLink RX8 242 "BridgeAuctionModel" "told" "I") (by decide +kernel)) (fun _ h9 => h9) rfl dX8_runScript_40 ?_
      refine lv_icmp_ge (tgt := 92) hx hb dX8_runScript_43 (by decide) (fun c_43 => absurd c_43 (nI_ge (by omega) (by omega))) (fun c_43 => ?_)
      refine lv_aload_n hx hb dX8_runScript_46 rfl (lv_at hl 0 rfl) ?_
      refine lv_iconst (v := 4) hx hb dX8_runScript_47 (by decide) ?_
      refine lv_iload_n hx hb dX8_runScript_48 rfl (lv_at hl 1 rfl) ?_
      refine topN2 (k := 4) (by decide +kernel) ?_
      refine mulN hx hb dX8_runScript_49 ?_
      have hFc := va_free (wc := (mcells C b (mkM now0_38 bef0_38 (mSav M) (mHis M) (mIsS M) (mRem M) (mErA M) (mFaA M) (mTxt M) typ0_38 (mLin M) (mLnd M) thr0_38 (mFar M) (mGrp M) siz0_38 pla0_38 wro0_38 tol0_38 num0_38))) hD hS hA [0, 1, 2, 3, 4, 5, 6, 7, 8, 9] rfl
      refine callRw (va_runV (As := [.int (nI (4 * k38))]) (rest := []) ⟨hx, hb, hml, hown, hts⟩ (c_X8_does l D C b (mkM now0_38 bef0_38 (mSav M) (mHis M) (mIsS M) (mRem M) (mErA M) (mFaA M) (mTxt M) typ0_38 (mLin M) (mLnd M) thr0_38 (mFar M) (mGrp M) siz0_38 pla0_38 wro0_38 tol0_38 num0_38) ((4 * k38)) _ (iv38_1) (by omega)) (cwV 1 hts gX8_runScript_X8_does rfl rfl rfl (by decide +kernel) ⟨Nat.le_of_ble_eq_true rfl, Nat.le_of_ble_eq_true rfl⟩) (rwP_v hP hK hE hD (va_recv hK hP (ci := 9) (q0 := 0) rfl rfl)) rfl rfl hl.1 rfl (lv_room (Nat.le_of_ble_eq_true rfl)) dX8_runScript_50 ⟨Nat.le_refl _, Nat.le_refl _⟩) hS hFc (fun H1 locs hPn hk hS => ?_)
      obtain ⟨y50, hy50⟩ : ∃ y_, y_ = (f_X8_does now0_38 num0_38 ((4 * k38))) := ⟨_, rfl⟩
      have hPn : va_P D vwCl (mcells C b (mkM y50.2.1 bef0_38 (mSav M) (mHis M) (mIsS M) (mRem M) (mErA M) (mFaA M) (mTxt M) typ0_38 (mLin M) (mLnd M) y50.2.2 (mFar M) (mGrp M) siz0_38 pla0_38 wro0_38 tol0_38 num0_38)) H1 := by rw [hy50]; exact hPn
      refine topI (y := y50.1) (congrArg Prod.fst hy50).symm ?_
      have hz := lt_eq hz hy50
      have hP : va_P D vwCl (mcells C b (mkM y50.2.1 bef0_38 (mSav M) (mHis M) (mIsS M) (mRem M) (mErA M) (mFaA M) (mTxt M) typ0_38 (mLin M) (mLnd M) y50.2.2 (mFar M) (mGrp M) siz0_38 pla0_38 wro0_38 tol0_38 num0_38)) H1 := hPn
      have hD : va_D A (mcells C b (mkM y50.2.1 bef0_38 (mSav M) (mHis M) (mIsS M) (mRem M) (mErA M) (mFaA M) (mTxt M) typ0_38 (mLin M) (mLnd M) y50.2.2 (mFar M) (mGrp M) siz0_38 pla0_38 wro0_38 tol0_38 num0_38)) := adr_D hD rfl
      generalize H1 = H at hP hS ⊢
      have hok : NowOK y50.2.1 := by rw [hy50]; exact X8_does_ok iv38_1 _ _
      refine lv_istore_n (lv' := [(2, .int y50.1), (0, .ref (b 0)), (1, .int (nI k38))]) hx hb dX8_runScript_53 rfl hl (by decide) rfl (fun ls hl => ?_)
      refine lv_aload_n hx hb dX8_runScript_54 rfl (lv_at hl 1 rfl) ?_
      refine va_get (D := D) (ci := 9) (v := .int y50.2.2) (C := RX8) (T := TX8) (N := 20) hx hb hts hinX8 hown hK hP 0 rfl rfl 12 (by decide) (hts (.fieldLink RX8 44 "BridgeAuctionModel" "thrown" "I") (by decide +kernel)) (fun _ h9 => h9) rfl dX8_runScript_55 ?_
      refine lv_if_eq (tgt := 86) hx hb dX8_runScript_58 (by decide) (fun c_58 => ?_) (fun c_58 => ?_)
      · have hz := hz.trans (if_pos c_58)
        refine lv_iinc (v := (nI (k38 + 1))) (lv' := [(1, .int (nI (k38 + 1))), (2, .int y50.1), (0, .ref (b 0))]) hx hb dX8_runScript_86 hl (k := 2) rfl (by exact nI_1 _) (by decide) rfl (fun ls hl => ?_)
        refine lv_goto (tgt := 38) hx hb dX8_runScript_89 (by decide) ?_
        exact ih38 (k38 + 1) (y50.2.1) (bef0_38) (typ0_38) (y50.2.2) (siz0_38) (pla0_38) (wro0_38) (tol0_38) (num0_38) _ _ ls (by omega) (by rw [hq38, hz]; rfl) (by first | assumption | omega) (by first | exact hM | exact hok) hP hD hS (lv_sub hl [2, 0] rfl)
      · have hz := hz.trans (if_neg c_58)
        refine lv_aload_n hx hb dX8_runScript_61 rfl (lv_at hl 1 rfl) ?_
        refine lv_iload_n hx hb dX8_runScript_62 rfl (lv_at hl 2 rfl) ?_
        have hP := mX_P hP
        have hD := mX_D hD
        refine va_put (D := D) (ci := 9) (v := .int (nI k38)) (ty := .int) (C := RX8) (T := TX8) (N := 20) hx hb hts hinX8 tyX8 tyX8_ok nmX8 hown hK hP hD hS 0 rfl rfl 7 (by decide) (hts (.fieldLink RX8 26 "BridgeAuctionModel" "failedAt" "I") (by decide +kernel)) (fun _ h9 => h9) rfl (by decide +kernel) rfl rfl (Nat.le_of_ble_eq_true rfl) dX8_runScript_63 (fun H locs hP hD hS => ?_)
        have hP : va_P D vwCl (mcells C b (mkM y50.2.1 bef0_38 (mSav M) (mHis M) (mIsS M) (mRem M) (mErA M) (nI k38) (mTxt M) typ0_38 (mLin M) (mLnd M) y50.2.2 (mFar M) (mGrp M) siz0_38 pla0_38 wro0_38 tol0_38 num0_38)) H := mX_Q (show va_P D vwCl (mX C b y50.2.1 bef0_38 (mSav M) (mHis M) (mIsS M) (mRem M) (mErA M) (nI k38) (mTxt M) typ0_38 (mLin M) (mLnd M) y50.2.2 (mFar M) (mGrp M) siz0_38 pla0_38 wro0_38 tol0_38 num0_38) H from hP)
        have hD : va_D A (mcells C b (mkM y50.2.1 bef0_38 (mSav M) (mHis M) (mIsS M) (mRem M) (mErA M) (nI k38) (mTxt M) typ0_38 (mLin M) (mLnd M) y50.2.2 (mFar M) (mGrp M) siz0_38 pla0_38 wro0_38 tol0_38 num0_38)) := mX_R (show va_D A (mX C b y50.2.1 bef0_38 (mSav M) (mHis M) (mIsS M) (mRem M) (mErA M) (nI k38) (mTxt M) typ0_38 (mLin M) (mLnd M) y50.2.2 (mFar M) (mGrp M) siz0_38 pla0_38 wro0_38 tol0_38 num0_38) from hD)
        refine lv_aload_n hx hb dX8_runScript_66 rfl (lv_at hl 1 rfl) ?_
        refine lv_iconst (v := 2) hx hb dX8_runScript_67 (by decide) ?_
        have hP := mX_P hP
        have hD := mX_D hD
        refine va_put (D := D) (ci := 9) (v := .int 2) (ty := .int) (C := RX8) (T := TX8) (N := 20) hx hb hts hinX8 tyX8 tyX8_ok nmX8 hown hK hP hD hS 0 rfl rfl 12 (by decide) (hts (.fieldLink RX8 44 "BridgeAuctionModel" "thrown" "I") (by decide +kernel)) (fun _ h9 => h9) rfl (by decide +kernel) rfl rfl (Nat.le_of_ble_eq_true rfl) dX8_runScript_68 (fun H locs hP hD hS => ?_)
        have hP : va_P D vwCl (mcells C b (mkM y50.2.1 bef0_38 (mSav M) (mHis M) (mIsS M) (mRem M) (mErA M) (nI k38) (mTxt M) typ0_38 (mLin M) (mLnd M) 2 (mFar M) (mGrp M) siz0_38 pla0_38 wro0_38 tol0_38 num0_38)) H := mX_Q (show va_P D vwCl (mX C b y50.2.1 bef0_38 (mSav M) (mHis M) (mIsS M) (mRem M) (mErA M) (nI k38) (mTxt M) typ0_38 (mLin M) (mLnd M) 2 (mFar M) (mGrp M) siz0_38 pla0_38 wro0_38 tol0_38 num0_38) H from hP)
        have hD : va_D A (mcells C b (mkM y50.2.1 bef0_38 (mSav M) (mHis M) (mIsS M) (mRem M) (mErA M) (nI k38) (mTxt M) typ0_38 (mLin M) (mLnd M) 2 (mFar M) (mGrp M) siz0_38 pla0_38 wro0_38 tol0_38 num0_38)) := mX_R (show va_D A (mX C b y50.2.1 bef0_38 (mSav M) (mHis M) (mIsS M) (mRem M) (mErA M) (nI k38) (mTxt M) typ0_38 (mLin M) (mLnd M) 2 (mFar M) (mGrp M) siz0_38 pla0_38 wro0_38 tol0_38 num0_38) from hD)
        refine lv_aload_n hx hb dX8_runScript_71 rfl (lv_at hl 1 rfl) ?_
        refine va_get (D := D) (ci := 9) (v := .ref (b 2)) (C := RX8) (T := TX8) (N := 20) hx hb hts hinX8 hown hK hP 0 rfl rfl 1 (by decide) (hts (.fieldLink RX8 13 "BridgeAuctionModel" "before" "[I") (by decide +kernel)) (fun _ h9 => h9) rfl dX8_runScript_72 ?_
        refine lv_iconst (v := 0) hx hb dX8_runScript_75 (by decide) ?_
        refine lv_aload_n hx hb dX8_runScript_76 rfl (lv_at hl 1 rfl) ?_
        refine va_get (D := D) (ci := 9) (v := .ref (b 1)) (C := RX8) (T := TX8) (N := 20) hx hb hts hinX8 hown hK hP 0 rfl rfl 0 (by decide) (hts (.fieldLink RX8 9 "BridgeAuctionModel" "now" "[I") (by decide +kernel)) (fun _ h9 => h9) rfl dX8_runScript_77 ?_
        refine lv_iconst (v := 0) hx hb dX8_runScript_80 (by decide) ?_
        refine topN3 (k := 0) (by decide +kernel) ?_
        refine topN (k := 0) (by decide +kernel) ?_
        have hPc := hP.sub (ws' := ([((b 2), .inl (C 0, 178, .inl bef0_38))] ++ [((b 1), .inl (C 0, 178, .inl y50.2.1))])) [2, 1] rfl
        have hDc := hD.sub (ws' := ([((b 2), .inl (C 0, 178, .inl bef0_38))] ++ [((b 1), .inl (C 0, 178, .inl y50.2.1))])) [2, 1] (by decide) rfl
        have hFc := va_free (wc := ([((b 2), .inl (C 0, 178, .inl bef0_38))] ++ [((b 1), .inl (C 0, 178, .inl y50.2.1))])) hD hS hA [2, 1] rfl
        refine callRw (va_runS (As := [.ref (b 2), .int (nI 0), .ref (b 1), .int (nI 0)]) (rest := []) ⟨hx, hb, hml, hown, hts⟩ (c_X8_copies l D C 178 178 (b 2) bef0_38 (b 1) y50.2.1 (0) (0) _ (by first | omega | decide) (by first | omega | decide) (by first | omega | decide) (by first | omega | decide)) (va_cwS 4 hts gX8_runScript_X8_copies rfl rfl rfl (by decide +kernel) ⟨Nat.le_of_ble_eq_true rfl, Nat.le_of_ble_eq_true rfl⟩) (rwP_s hPc hK hE hDc) rfl rfl hl.1 rfl (lv_room (Nat.le_of_ble_eq_true rfl)) dX8_runScript_81 ⟨Nat.le_refl _, Nat.le_refl _⟩) hS hFc (fun H1 locs hPn hk hS => ?_)
        obtain ⟨y81, hy81⟩ : ∃ y_, y_ = (f_X8_copies bef0_38 y50.2.1 (0) (0)) := ⟨_, rfl⟩
        have hPn : va_P D vwCl ([((b 2), .inl (C 0, 178, .inl bef0_38))] ++ [((b 1), .inl (C 0, 178, .inl y81))]) H1 := by rw [hy81]; exact hPn
        have hz := lt_eq hz hy81
        have hP : va_P D vwCl (mcells C b (mkM y81 bef0_38 (mSav M) (mHis M) (mIsS M) (mRem M) (mErA M) (nI k38) (mTxt M) typ0_38 (mLin M) (mLnd M) 2 (mFar M) (mGrp M) siz0_38 pla0_38 wro0_38 tol0_38 num0_38)) H1 := rwJoin (wr := ([(b 0, .inr (9, [.ref (b 1), .ref (b 2), .ref (b 3), .ref (b 4), .int (bI (mIsS M)), .int (nI (mRem M)), .int (mErA M), .int (nI k38), .ref (b 5), .int (nI typ0_38), .ref (b 6), .int (nI (mLnd M)), .int 2, .ref (b 7), .ref (b 8), .int (nI siz0_38), .int (nI pla0_38), .int wro0_38, .int (nI tol0_38), .ref (b 9)])), (b 3, .inl (C 0, 178, .inl (mSav M))), (b 4, .inl (C 0, 1424, .inl (mHis M))), (b 5, .inl (C 0, 60, .inl (mTxt M))), (b 6, .inl (C 0, 60, .inl (mLin M))), (b 7, .inl (C 0, 8, .inl (mFar M))), (b 8, .inl (C 0, 8, .inl (mGrp M))), (b 9, .inl (C 0, 120, .inl num0_38))])) (ws' := (mcells C b (mkM y81 bef0_38 (mSav M) (mHis M) (mIsS M) (mRem M) (mErA M) (nI k38) (mTxt M) typ0_38 (mLin M) (mLnd M) 2 (mFar M) (mGrp M) siz0_38 pla0_38 wro0_38 tol0_38 num0_38))) hP hD [2, 1] [0, 3, 4, 5, 6, 7, 8, 9] rfl rfl (by decide) (by decide) (by decide) hk hFc hPn rfl [0, 9, 8, 1, 2, 3, 4, 5, 6, 7] rfl
        have hD : va_D A (mcells C b (mkM y81 bef0_38 (mSav M) (mHis M) (mIsS M) (mRem M) (mErA M) (nI k38) (mTxt M) typ0_38 (mLin M) (mLnd M) 2 (mFar M) (mGrp M) siz0_38 pla0_38 wro0_38 tol0_38 num0_38)) := adr_D hD rfl
        generalize H1 = H at hP hS ⊢
        refine lv_iconst (v := 0) hx hb dX8_runScript_84 (by decide) ?_
        have hz := up1 hq38 hz
        have hz : z = (0, y81, bef0_38, (mHis M), (mRem M), (mErA M), (nI k38), typ0_38, 2, siz0_38, pla0_38, wro0_38, tol0_38, num0_38) := hz
        rw [hz]
        exact rw_ret hx hb hr hP hS rfl dX8_runScript_85 hlocks
  refine lv_aload_n hx hb dX8_runScript_0 rfl (lv_at hl 0 rfl) ?_
  have hFc := va_free (wc := (mcells C b M)) hD hS hA [0, 1, 2, 3, 4, 5, 6, 7, 8, 9] rfl
  refine callRw (va_runV (As := []) (rest := []) ⟨hx, hb, hml, hown, hts⟩ (c_X8_readsAll l D C ev b M _ (by show (mTyp M) ≤ 60; first | assumption | omega)) (cwV 0 hts gX8_runScript_X8_readsAll rfl rfl rfl (by decide +kernel) ⟨Nat.le_of_ble_eq_true rfl, Nat.le_of_ble_eq_true rfl⟩) (rwPE_v hP hK hE hD hR hX hS hFc (va_recv hK hP (ci := 9) (q0 := 0) rfl rfl)) rfl rfl hl.1 rfl (lv_room (Nat.le_of_ble_eq_true rfl)) dX8_runScript_1 ⟨Nat.le_refl _, Nat.le_refl _⟩) hS hFc (fun H1 locs hPn hk hS => ?_)
  obtain ⟨y1, hy1⟩ : ∃ y_, y_ = (f_X8_readsAll (mTxt M) (mTyp M) (mNum M)) := ⟨_, rfl⟩
  have hPn : va_P D vwCl (mcells C b (mkM (mNow M) (mBef M) (mSav M) (mHis M) (mIsS M) (mRem M) (mErA M) (mFaA M) (mTxt M) y1.1 (mLin M) (mLnd M) (mThr M) (mFar M) (mGrp M) y1.2.1 y1.2.2.1 y1.2.2.2.1 y1.2.2.2.2.1 y1.2.2.2.2.2)) H1 := by rw [hy1]; exact hPn
  have hz := lt_eq hz hy1
  have hP : va_P D vwCl (mcells C b (mkM (mNow M) (mBef M) (mSav M) (mHis M) (mIsS M) (mRem M) (mErA M) (mFaA M) (mTxt M) y1.1 (mLin M) (mLnd M) (mThr M) (mFar M) (mGrp M) y1.2.1 y1.2.2.1 y1.2.2.2.1 y1.2.2.2.2.1 y1.2.2.2.2.2)) H1 := hPn
  have hD : va_D A (mcells C b (mkM (mNow M) (mBef M) (mSav M) (mHis M) (mIsS M) (mRem M) (mErA M) (mFaA M) (mTxt M) y1.1 (mLin M) (mLnd M) (mThr M) (mFar M) (mGrp M) y1.2.1 y1.2.2.1 y1.2.2.2.1 y1.2.2.2.2.1 y1.2.2.2.2.2)) := adr_D hD rfl
  generalize H1 = H at hP hS ⊢
  have t1 : y1.2.2.2.2.1 ≤ 16 := by rw [hy1]; exact X8_readsAll_tl _ _ _ hTy
  refine lv_aload_n hx hb dX8_runScript_4 rfl (lv_at hl 0 rfl) ?_
  refine va_get (D := D) (ci := 9) (v := .int y1.2.2.2.1) (C := RX8) (T := TX8) (N := 20) hx hb hts hinX8 hown hK hP 0 rfl rfl 17 (by decide) (hts (.fieldLink RX8 213 "BridgeAuctionModel" "wrong" "I") (by decide +kernel)) (fun _ h9 => h9) rfl dX8_runScript_5 ?_
  refine lv_iconst (v := (-1)) hx hb dX8_runScript_8 (by decide) ?_
  refine lv_icmp_eq (tgt := 27) hx hb dX8_runScript_9 (by decide) (fun c_9 => ?_) (fun c_9 => ?_)
  · have hz := hz.trans (if_pos c_9)
    refine lv_aload_n hx hb dX8_runScript_27 rfl (lv_at hl 0 rfl) ?_
    have hFc := va_free (wc := (mcells C b (mkM (mNow M) (mBef M) (mSav M) (mHis M) (mIsS M) (mRem M) (mErA M) (mFaA M) (mTxt M) y1.1 (mLin M) (mLnd M) (mThr M) (mFar M) (mGrp M) y1.2.1 y1.2.2.1 y1.2.2.2.1 y1.2.2.2.2.1 y1.2.2.2.2.2))) hD hS hA [0, 1, 2, 3, 4, 5, 6, 7, 8, 9] rfl
    refine callRw (va_runV (As := []) (rest := []) ⟨hx, hb, hml, hown, hts⟩ (c_X8_begins_ l D C b (mkM (mNow M) (mBef M) (mSav M) (mHis M) (mIsS M) (mRem M) (mErA M) (mFaA M) (mTxt M) y1.1 (mLin M) (mLnd M) (mThr M) (mFar M) (mGrp M) y1.2.1 y1.2.2.1 y1.2.2.2.1 y1.2.2.2.2.1 y1.2.2.2.2.2) _) (cwV 0 hts gX8_runScript_X8_begins rfl rfl rfl (by decide +kernel) ⟨Nat.le_of_ble_eq_true rfl, Nat.le_of_ble_eq_true rfl⟩) (rwP_v hP hK hE hD (va_recv hK hP (ci := 9) (q0 := 0) rfl rfl)) rfl rfl hl.1 rfl (lv_room (Nat.le_of_ble_eq_true rfl)) dX8_runScript_28 ⟨Nat.le_refl _, Nat.le_refl _⟩) hS hFc (fun H1 locs hPn hk hS => ?_)
    have hP : va_P D vwCl (mcells C b (mkM (mNow M) (f_X8_copies (mNow M) (mBef M) 0 0) (mSav M) (mHis M) (mIsS M) (mRem M) (mErA M) (mFaA M) (mTxt M) y1.1 (mLin M) (mLnd M) (mThr M) (mFar M) (mGrp M) y1.2.1 y1.2.2.1 y1.2.2.2.1 y1.2.2.2.2.1 y1.2.2.2.2.2)) H1 := hPn
    have hD : va_D A (mcells C b (mkM (mNow M) (f_X8_copies (mNow M) (mBef M) 0 0) (mSav M) (mHis M) (mIsS M) (mRem M) (mErA M) (mFaA M) (mTxt M) y1.1 (mLin M) (mLnd M) (mThr M) (mFar M) (mGrp M) y1.2.1 y1.2.2.1 y1.2.2.2.1 y1.2.2.2.2.1 y1.2.2.2.2.2)) := adr_D hD rfl
    generalize H1 = H at hP hS ⊢
    refine lv_aload_n hx hb dX8_runScript_31 rfl (lv_at hl 0 rfl) ?_
    refine lv_iconst (v := 0) hx hb dX8_runScript_32 (by decide) ?_
    have hP := mX_P hP
    have hD := mX_D hD
    refine va_put (D := D) (ci := 9) (v := .int 0) (ty := .int) (C := RX8) (T := TX8) (N := 20) hx hb hts hinX8 tyX8 tyX8_ok nmX8 hown hK hP hD hS 0 rfl rfl 12 (by decide) (hts (.fieldLink RX8 44 "BridgeAuctionModel" "thrown" "I") (by decide +kernel)) (fun _ h9 => h9) rfl (by decide +kernel) rfl rfl (Nat.le_of_ble_eq_true rfl) dX8_runScript_33 (fun H locs hP hD hS => ?_)
    have hP : va_P D vwCl (mcells C b (mkM (mNow M) (f_X8_copies (mNow M) (mBef M) 0 0) (mSav M) (mHis M) (mIsS M) (mRem M) (mErA M) (mFaA M) (mTxt M) y1.1 (mLin M) (mLnd M) 0 (mFar M) (mGrp M) y1.2.1 y1.2.2.1 y1.2.2.2.1 y1.2.2.2.2.1 y1.2.2.2.2.2)) H := mX_Q (show va_P D vwCl (mX C b (mNow M) (f_X8_copies (mNow M) (mBef M) 0 0) (mSav M) (mHis M) (mIsS M) (mRem M) (mErA M) (mFaA M) (mTxt M) y1.1 (mLin M) (mLnd M) 0 (mFar M) (mGrp M) y1.2.1 y1.2.2.1 y1.2.2.2.1 y1.2.2.2.2.1 y1.2.2.2.2.2) H from hP)
    have hD : va_D A (mcells C b (mkM (mNow M) (f_X8_copies (mNow M) (mBef M) 0 0) (mSav M) (mHis M) (mIsS M) (mRem M) (mErA M) (mFaA M) (mTxt M) y1.1 (mLin M) (mLnd M) 0 (mFar M) (mGrp M) y1.2.1 y1.2.2.1 y1.2.2.2.1 y1.2.2.2.2.1 y1.2.2.2.2.2)) := mX_R (show va_D A (mX C b (mNow M) (f_X8_copies (mNow M) (mBef M) 0 0) (mSav M) (mHis M) (mIsS M) (mRem M) (mErA M) (mFaA M) (mTxt M) y1.1 (mLin M) (mLnd M) 0 (mFar M) (mGrp M) y1.2.1 y1.2.2.1 y1.2.2.2.1 y1.2.2.2.2.1 y1.2.2.2.2.2) from hD)
    refine lv_iconst (v := 0) hx hb dX8_runScript_36 (by decide) ?_
    refine lv_istore_n (lv' := [(1, .int 0), (0, .ref (b 0))]) hx hb dX8_runScript_37 rfl hl (by decide) rfl (fun ls hl => ?_)
    exact J38 (y1.2.2.2.2.1) 0 ((mNow M)) ((f_X8_copies (mNow M) (mBef M) 0 0)) (y1.1) (0) (y1.2.1) (y1.2.2.1) (y1.2.2.2.1) (y1.2.2.2.2.1) (y1.2.2.2.2.2) _ _ ls (by omega) hz (by first | assumption | omega) (by first | exact hM | exact hok) hP hD hS (lv_sub hl [1, 0] rfl)
  · have hz := hz.trans (if_neg c_9)
    refine lv_aload_n hx hb dX8_runScript_12 rfl (lv_at hl 0 rfl) ?_
    refine lv_aload_n hx hb dX8_runScript_13 rfl (lv_at hl 0 rfl) ?_
    refine va_get (D := D) (ci := 9) (v := .int y1.2.2.2.1) (C := RX8) (T := TX8) (N := 20) hx hb hts hinX8 hown hK hP 0 rfl rfl 17 (by decide) (hts (.fieldLink RX8 213 "BridgeAuctionModel" "wrong" "I") (by decide +kernel)) (fun _ h9 => h9) rfl dX8_runScript_14 ?_
    have hP := mX_P hP
    have hD := mX_D hD
    refine va_put (D := D) (ci := 9) (v := .int y1.2.2.2.1) (ty := .int) (C := RX8) (T := TX8) (N := 20) hx hb hts hinX8 tyX8 tyX8_ok nmX8 hown hK hP hD hS 0 rfl rfl 6 (by decide) (hts (.fieldLink RX8 22 "BridgeAuctionModel" "errorAt" "I") (by decide +kernel)) (fun _ h9 => h9) rfl (by decide +kernel) rfl rfl (Nat.le_of_ble_eq_true rfl) dX8_runScript_17 (fun H locs hP hD hS => ?_)
    have hP : va_P D vwCl (mcells C b (mkM (mNow M) (mBef M) (mSav M) (mHis M) (mIsS M) (mRem M) y1.2.2.2.1 (mFaA M) (mTxt M) y1.1 (mLin M) (mLnd M) (mThr M) (mFar M) (mGrp M) y1.2.1 y1.2.2.1 y1.2.2.2.1 y1.2.2.2.2.1 y1.2.2.2.2.2)) H := mX_Q (show va_P D vwCl (mX C b (mNow M) (mBef M) (mSav M) (mHis M) (mIsS M) (mRem M) y1.2.2.2.1 (mFaA M) (mTxt M) y1.1 (mLin M) (mLnd M) (mThr M) (mFar M) (mGrp M) y1.2.1 y1.2.2.1 y1.2.2.2.1 y1.2.2.2.2.1 y1.2.2.2.2.2) H from hP)
    have hD : va_D A (mcells C b (mkM (mNow M) (mBef M) (mSav M) (mHis M) (mIsS M) (mRem M) y1.2.2.2.1 (mFaA M) (mTxt M) y1.1 (mLin M) (mLnd M) (mThr M) (mFar M) (mGrp M) y1.2.1 y1.2.2.1 y1.2.2.2.1 y1.2.2.2.2.1 y1.2.2.2.2.2)) := mX_R (show va_D A (mX C b (mNow M) (mBef M) (mSav M) (mHis M) (mIsS M) (mRem M) y1.2.2.2.1 (mFaA M) (mTxt M) y1.1 (mLin M) (mLnd M) (mThr M) (mFar M) (mGrp M) y1.2.1 y1.2.2.1 y1.2.2.2.1 y1.2.2.2.2.1 y1.2.2.2.2.2) from hD)
    refine lv_aload_n hx hb dX8_runScript_20 rfl (lv_at hl 0 rfl) ?_
    refine lv_iconst (v := 1) hx hb dX8_runScript_21 (by decide) ?_
    have hP := mX_P hP
    have hD := mX_D hD
    refine va_put (D := D) (ci := 9) (v := .int 1) (ty := .int) (C := RX8) (T := TX8) (N := 20) hx hb hts hinX8 tyX8 tyX8_ok nmX8 hown hK hP hD hS 0 rfl rfl 12 (by decide) (hts (.fieldLink RX8 44 "BridgeAuctionModel" "thrown" "I") (by decide +kernel)) (fun _ h9 => h9) rfl (by decide +kernel) rfl rfl (Nat.le_of_ble_eq_true rfl) dX8_runScript_22 (fun H locs hP hD hS => ?_)
    have hP : va_P D vwCl (mcells C b (mkM (mNow M) (mBef M) (mSav M) (mHis M) (mIsS M) (mRem M) y1.2.2.2.1 (mFaA M) (mTxt M) y1.1 (mLin M) (mLnd M) 1 (mFar M) (mGrp M) y1.2.1 y1.2.2.1 y1.2.2.2.1 y1.2.2.2.2.1 y1.2.2.2.2.2)) H := mX_Q (show va_P D vwCl (mX C b (mNow M) (mBef M) (mSav M) (mHis M) (mIsS M) (mRem M) y1.2.2.2.1 (mFaA M) (mTxt M) y1.1 (mLin M) (mLnd M) 1 (mFar M) (mGrp M) y1.2.1 y1.2.2.1 y1.2.2.2.1 y1.2.2.2.2.1 y1.2.2.2.2.2) H from hP)
    have hD : va_D A (mcells C b (mkM (mNow M) (mBef M) (mSav M) (mHis M) (mIsS M) (mRem M) y1.2.2.2.1 (mFaA M) (mTxt M) y1.1 (mLin M) (mLnd M) 1 (mFar M) (mGrp M) y1.2.1 y1.2.2.1 y1.2.2.2.1 y1.2.2.2.2.1 y1.2.2.2.2.2)) := mX_R (show va_D A (mX C b (mNow M) (mBef M) (mSav M) (mHis M) (mIsS M) (mRem M) y1.2.2.2.1 (mFaA M) (mTxt M) y1.1 (mLin M) (mLnd M) 1 (mFar M) (mGrp M) y1.2.1 y1.2.2.1 y1.2.2.2.1 y1.2.2.2.2.1 y1.2.2.2.2.2) from hD)
    refine lv_iconst (v := 0) hx hb dX8_runScript_25 (by decide) ?_
    have hz : z = (0, (mNow M), (mBef M), (mHis M), (mRem M), y1.2.2.2.1, (mFaA M), y1.1, 1, y1.2.1, y1.2.2.1, y1.2.2.2.1, y1.2.2.2.2.1, y1.2.2.2.2.2) := hz
    rw [hz]
    exact rw_ret hx hb hr hP hS rfl dX8_runScript_26 hlocks

