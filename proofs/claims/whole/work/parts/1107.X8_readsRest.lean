theorem X8_kindHere_l36_at (tx : Nat → Int32) {si pl k9 : Nat} (v1 v2 : Int32) (hp : pl ≤ si) (hs : si ≤ 60) (h9 : k9 < 9) : ∃ m, m ≤ wlen k9 ∧ pl + m ≤ si ∧ f_X8_kindHere_l36 tx si pl k9 (wlen k9) 0 v1 v2 (wlen k9) = Sum.inr (imax v1 (nI (pl + m)), if m = wlen k9 then nI k9 else v2) := by
  have w9 := wst_le h9
  have hj : ∀ m, m ≤ wlen k9 → f_X8_kindHere_j90 pl k9 v1 v2 (wlen k9) m = Sum.inr (imax v1 (nI (pl + m)), if m = wlen k9 then nI k9 else v2) := by
    intro m hm
    simp only [f_X8_kindHere_j90, f_X8_kindHere_j114]
    by_cases e : m = wlen k9
    · rw [if_pos (by rw [e]), if_pos e]
    · rw [if_neg (fun h => e ((nI_eq (by omega) (by omega)).1 h)), if_neg e]
  refine lpF_invN (step := f_X8_kindHere_l36s tx si pl k9) (ex := f_X8_kindHere_l36e tx si pl k9) (wlen k9) (fun k s => s = (v1, v2, wlen k9) ∧ pl + k ≤ si) (fun r => ∃ m, m ≤ wlen k9 ∧ pl + m ≤ si ∧ r = Sum.inr (imax v1 (nI (pl + m)), if m = wlen k9 then nI k9 else v2)) ?_ ?_ ?_ (wlen k9) 0 _ (Nat.zero_add _) ⟨rfl, hp⟩
  · rintro k s r hk ⟨rfl, hi⟩ h
    simp only [f_X8_kindHere_l36s, f_X8_kindHere_l36b] at h
    split at h
    · cases h; exact ⟨k, by omega, hi, hj k (by omega)⟩
    · split at h
      · cases h
      · cases h; exact ⟨k, by omega, hi, hj k (by omega)⟩
  · rintro k s s' hk ⟨rfl, hi⟩ h
    simp only [f_X8_kindHere_l36s, f_X8_kindHere_l36b] at h
    split at h
    · cases h
    · rename_i c
      split at h
      · cases h; exact ⟨rfl, ltN' (k := pl + k) (by omega) c⟩
      · cases h
  · rintro s ⟨rfl, hi⟩
    exact ⟨wlen k9, Nat.le_refl _, hi, hj _ (Nat.le_refl _)⟩
def khI (si pl : Nat) (s : Int32 × Int32) : Prop := (∃ n, n ≤ 60 ∧ pl ≤ n ∧ s.1 = nI n) ∧ (s.2 = -1 ∨ ∃ w, w < 9 ∧ s.2 = nI w ∧ pl + wlen w ≤ si)
theorem nI_m1_ne {n : Nat} (h : n < 2 ^ 31) : ¬ nI n = -1 := fun e => by
  have := congrArg Int32.toInt e
  rw [nI_toInt h, show (-1 : Int32).toInt = -1 from by decide] at this
  omega
theorem X8_kindHere_end {si pl : Nat} {wr : Int32} {v1 v2 : Int32} (hp : pl ≤ si) (hs : si ≤ 60) (h : khI si pl (v1, v2)) : (f_X8_kindHere_j121 pl wr v1 v2).2.1 ≤ si ∧ pl ≤ (f_X8_kindHere_j121 pl wr v1 v2).2.1 ∧ ((f_X8_kindHere_j121 pl wr v1 v2).2.2 = -1 → pl + 4 ≤ (f_X8_kindHere_j121 pl wr v1 v2).2.1) := by
  obtain ⟨⟨n, hn, hpn, e1⟩, h2⟩ := h
  have e1 : v1 = nI n := e1
  subst e1
  simp only [f_X8_kindHere_j121, f_X8_kindHere_j135, f_X8_kindHere_j163, lt_]
  rcases h2 with e2 | ⟨w, hw, e2, hl⟩
  · have e2 : v2 = -1 := e2
    subst e2
    have e : (nI pl + 0).toNatClampNeg = pl := by rw [show (0 : Int32) = nI 0 from rfl, nI_add, Nat.add_zero, nI_clamp (by omega)]
    simp only [if_true, e]
    exact ⟨hp, Nat.le_refl _, fun h => absurd h (nI_m1_ne (by omega))⟩
  · have e2 : v2 = nI w := e2
    subst e2
    have w9 := wst_le hw
    have ne := nI_m1_ne (n := w) (by omega)
    have e : (nI pl + (f_X8_startOf (nI w + 1) - f_X8_startOf (nI w))).toNatClampNeg = pl + wlen w := by
      rw [nI_1, X8_startOf_at (by omega), X8_startOf_at (by omega), wlen_sub hw, nI_add, nI_clamp (by omega)]
    simp only [if_neg ne, e]
    exact ⟨hl, by omega, fun _ => by omega⟩
theorem khI_step {si pl k : Nat} {s : Int32 × Int32} (hp : pl ≤ si) (hs : si ≤ 60) (hk : k < 9) (h : khI si pl s) {m : Nat} (hm : m ≤ wlen k) (hl : pl + m ≤ si) : khI si pl (imax s.1 (nI (pl + m)), if m = wlen k then nI k else s.2) := by
  obtain ⟨⟨n, hn, hpn, e1⟩, h2⟩ := h
  refine ⟨?_, ?_⟩
  · show ∃ q, q ≤ 60 ∧ pl ≤ q ∧ imax s.1 (nI (pl + m)) = nI q
    rw [e1]
    unfold imax
    split
    · exact ⟨pl + m, by omega, by omega, rfl⟩
    · exact ⟨n, hn, hpn, rfl⟩
  · show (if m = wlen k then nI k else s.2) = -1 ∨ _
    split
    · rename_i e; exact Or.inr ⟨k, hk, rfl, by omega⟩
    · exact h2
theorem X8_kindHere_pl (tx : Nat → Int32) (si pl : Nat) (wr : Int32) (hp : pl ≤ si) (hs : si ≤ 60) : (f_X8_kindHere tx si pl wr).2.1 ≤ si ∧ pl ≤ (f_X8_kindHere tx si pl wr).2.1 ∧ ((f_X8_kindHere tx si pl wr).2.2 = -1 → pl + 4 ≤ (f_X8_kindHere tx si pl wr).2.1) := by
  refine lpF_invN (step := f_X8_kindHere_l9s tx si pl wr) (ex := f_X8_kindHere_l9e tx si pl wr) 9 (fun _ s => khI si pl s) (fun r => r.2.1 ≤ si ∧ pl ≤ r.2.1 ∧ (r.2.2 = -1 → pl + 4 ≤ r.2.1)) ?_ ?_ ?_ 9 0 _ rfl ⟨⟨pl, by omega, Nat.le_refl _, rfl⟩, Or.inl rfl⟩
  · intro k s r hk hI h
    simp only [f_X8_kindHere_l9s, f_X8_kindHere_l9b] at h
    split at h
    · obtain ⟨m, hm, hl, e⟩ := X8_kindHere_l36_at tx s.1 s.2 hp hs hk
      rw [e] at h
      cases h
    · cases h
      exact X8_kindHere_end hp hs hI
  · intro k s s' hk hI h
    simp only [f_X8_kindHere_l9s, f_X8_kindHere_l9b] at h
    split at h
    · obtain ⟨m, hm, hl, e⟩ := X8_kindHere_l36_at tx s.1 s.2 hp hs hk
      rw [e] at h
      cases h
      exact khI_step hp hs hk hI hm hl
    · cases h
  · intro s hI
    exact X8_kindHere_end hp hs hI
theorem X8_kindHere_q {y : Int32 × Nat × Int32} {tx : Nat → Int32} {si pl : Nat} {wr : Int32} (hy : y = f_X8_kindHere tx si pl wr) (hp : pl ≤ si) (hs : si ≤ 60) : y.2.1 ≤ si ∧ pl ≤ y.2.1 ∧ (y.2.2 = -1 → pl + 4 ≤ y.2.1) := by
  subst hy
  exact X8_kindHere_pl _ _ _ _ hp hs
def f_X8_readsRest_j121  (pla0_121 : Nat) (wro0_121 : Int32) (num0_121 : (Nat → Int32)) : Nat × Int32 × (Nat → Int32) := (pla0_121, wro0_121, num0_121)
def f_X8_readsRest_j120  (s0_120 : Int32) (s1_120 : Nat) (pla0_120 : Nat) (wro0_120 : Int32) (num0_120 : (Nat → Int32)) : Nat × Int32 × (Nat → Int32) := (f_X8_readsRest_j121 (pla0_120) (wro0_120) ((upd num0_120 s1_120 s0_120)))
def f_X8_readsRest_j93 (tx : (Nat → Int32)) (sz : Nat) (x : Nat) (y : Int32) (pla0_93 : Nat) (wro0_93 : Int32) (num0_93 : (Nat → Int32)) : Nat × Int32 × (Nat → Int32) := (lt_ (f_X8_blank tx sz pla0_93 wro0_93) (fun y94 => (if y = 1 then (lt_ (f_X8_digit tx sz y94.1 y94.2) (fun y110 => (f_X8_readsRest_j120 (y110.1) ((x + 3)) (y110.2.1) (y110.2.2) (num0_93)))) else (lt_ (f_X8_number tx sz y94.1 y94.2) (fun y117 => (f_X8_readsRest_j120 (y117.1) ((x + 3)) (y117.2.1) (y117.2.2) (num0_93)))))))
def f_X8_readsRest_j77 (tx : (Nat → Int32)) (sz : Nat) (x : Nat) (y : Int32) (s0_77 : Int32) (s1_77 : Nat) (pla0_77 : Nat) (wro0_77 : Int32) (num0_77 : (Nat → Int32)) : Nat × Int32 × (Nat → Int32) := (if y = 1 then (f_X8_readsRest_j93 tx sz x y (pla0_77) (wro0_77) ((upd num0_77 s1_77 s0_77))) else (if y = 4 then (f_X8_readsRest_j93 tx sz x y (pla0_77) (wro0_77) ((upd num0_77 s1_77 s0_77))) else (if y = 5 then (f_X8_readsRest_j93 tx sz x y (pla0_77) (wro0_77) ((upd num0_77 s1_77 s0_77))) else (f_X8_readsRest_j121 (pla0_77) (wro0_77) ((upd num0_77 s1_77 s0_77))))))
def f_X8_readsRest_j66 (tx : (Nat → Int32)) (sz : Nat) (x : Nat) (y : Int32) (s0_66 : Nat) (pla0_66 : Nat) (wro0_66 : Int32) (num0_66 : (Nat → Int32)) : Nat × Int32 × (Nat → Int32) := (lt_ (f_X8_digit tx sz pla0_66 wro0_66) (fun y67 => (f_X8_readsRest_j77 tx sz x y (y67.1) (s0_66) (y67.2.1) (y67.2.2) (num0_66))))
def f_X8_readsRest_j44  (pla0_44 : Nat) (wro0_44 : Int32) (num0_44 : (Nat → Int32)) : Nat × Int32 × (Nat → Int32) := (pla0_44, wro0_44, num0_44)
def f_X8_readsRest_j28 (tx : (Nat → Int32)) (sz : Nat) (nm : (Nat → Int32)) (x : Nat) (y : Int32) (s0_28 : Int32) (s1_28 : Nat) (pla0_28 : Nat) (wro0_28 : Int32) : Nat × Int32 × (Nat → Int32) := (if y = 0 then (f_X8_readsRest_j44 (pla0_28) (wro0_28) ((upd nm s1_28 s0_28))) else (if y = 3 then (f_X8_readsRest_j44 (pla0_28) (wro0_28) ((upd nm s1_28 s0_28))) else (if y = 8 then (f_X8_readsRest_j44 (pla0_28) (wro0_28) ((upd nm s1_28 s0_28))) else (lt_ (f_X8_blank tx sz pla0_28 wro0_28) (fun y46 => (if y = 1 then (f_X8_readsRest_j66 tx sz x y ((x + 2)) (y46.1) (y46.2) ((upd nm s1_28 s0_28))) else (if y = 2 then (f_X8_readsRest_j66 tx sz x y ((x + 2)) (y46.1) (y46.2) ((upd nm s1_28 s0_28))) else (lt_ (f_X8_number tx sz y46.1 y46.2) (fun y74 => (f_X8_readsRest_j77 tx sz x y (y74.1) ((x + 2)) (y74.2.1) (y74.2.2) ((upd nm s1_28 s0_28))))))))))))
def f_X8_readsRest_j17 (tx : (Nat → Int32)) (sz : Nat) (pl : Nat) (wr : Int32) (nm : (Nat → Int32)) (x : Nat) (y : Int32) (s0_17 : Nat) : Nat × Int32 × (Nat → Int32) := (lt_ (f_X8_number tx sz pl wr) (fun y18 => (f_X8_readsRest_j28 tx sz nm x y (y18.1) (s0_17) (y18.2.1) (y18.2.2))))
def f_X8_readsRest (tx : (Nat → Int32)) (sz : Nat) (pl : Nat) (wr : Int32) (nm : (Nat → Int32)) (x : Nat) (y : Int32) : Nat × Int32 × (Nat → Int32) := (if y = 0 then (f_X8_readsRest_j17 tx sz pl wr nm x y ((x + 1))) else (if y = 8 then (f_X8_readsRest_j17 tx sz pl wr nm x y ((x + 1))) else (lt_ (f_X8_digit tx sz pl wr) (fun y25 => (f_X8_readsRest_j28 tx sz nm x y (y25.1) ((x + 1)) (y25.2.1) (y25.2.2))))))
set_option maxHeartbeats 4000000 in
set_option maxRecDepth 100000 in
theorem c_X8_readsRest (l : Launch) (D : va_G) (C : Nat → ClassId) (b : Nat → Nat) (M : MS) (x : Nat) (y : Int32) (sz : Nat) (hSi : mSiz M ≤ 60) (hPl : mPla M ≤ mSiz M) (hb : x ≤ 116) : Met l yX8_readsRest wsX8_readsRest ({ frames := 4, cells := 0, slots := 0, locals := 85 } : Room) (rwP [.ref (b 0), .int (nI x), .int y] D C (mcells C b M) sz) (rwO none D (mcells C b (mkM (mNow M) (mBef M) (mSav M) (mHis M) (mIsS M) (mRem M) (mErA M) (mFaA M) (mTxt M) (mTyp M) (mLin M) (mLnd M) (mThr M) (mFar M) (mGrp M) (mSiz M) ((f_X8_readsRest (mTxt M) (mSiz M) (mPla M) (mWro M) (mNum M) x y).1) ((f_X8_readsRest (mTxt M) (mSiz M) (mPla M) (mWro M) (mNum M) x y).2.1) (mTol M) ((f_X8_readsRest (mTxt M) (mSiz M) (mPla M) (mWro M) (mNum M) x y).2.2))) (va_A (mcells C b M) sz)) 0 0 (va_A (mcells C b M) sz) := by
  refine Met.ofW (cc := cX8_readsRest) (maxL := 3) (ret := none) (by decide) rfl ?_
  intro p e s m args below meth c s₁ B hml hv
  obtain ⟨rfl, hsz, hP, hK, hD0, hE⟩ := hv
  have hx := B.exec
  have hb := B.bytes
  have hr := B.returns
  have hts := atoms_spec (ws := wsX8_readsRest) B.pre
  have hown : s.vm.findClass RX8 = some m.cls := findClass_of_methodNamed B.named
  have hlocks := B.notSynchronized
  subst hsz
  have hD := hD0.self (sz := s.heap.size)
  generalize hAe : va_A (mcells C b M) s.heap.size = A at hD ⊢
  have hA : ∀ q : Nat, s.heap.size ≤ q → A q := fun q h => by rw [← hAe]; exact Or.inr h
  have hS0 : va_S A s.heap s.heap [] := va_S.rf
  have hP : va_P D vwCl (mcells C b M) s.heap := hP
  have hS := hS0
  have hinX8 : ∀ w ∈ u_ws RX8 TX8 20, w ∈ wsX8_readsRest := by decide +kernel
  have hl := lv_entry ([.ref (b 0), .int (nI x), .int y]) (n := 3) (Nat.le_of_ble_eq_true rfl)
  rw [lg_entry_eq]
  generalize (lg_sl ([.ref (b 0), .int (nI x), .int y]) ++ List.replicate (3 - (lg_sl ([.ref (b 0), .int (nI x), .int y])).length) Slot.unset).toArray = ls at hl ⊢
  have hl : lv_has ls 3 [(0, .ref (b 0)), (1, .int (nI x)), (2, .int y)] := hl
  obtain ⟨z, hz⟩ : ∃ z, z = f_X8_readsRest (mTxt M) (mSiz M) (mPla M) (mWro M) (mNum M) x y := ⟨_, rfl⟩
  rw [← hz]
  have J121 : ∀ (pla0_121 : Nat) (wro0_121 : Int32) (num0_121 : (Nat → Int32))  (H : Heap) (locs : List Loc) (ls : Array Slot), z = f_X8_readsRest_j121 pla0_121 wro0_121 num0_121 → (pla0_121 ≤ mSiz M) → va_P D vwCl (mcells C b (mkM (mNow M) (mBef M) (mSav M) (mHis M) (mIsS M) (mRem M) (mErA M) (mFaA M) (mTxt M) (mTyp M) (mLin M) (mLnd M) (mThr M) (mFar M) (mGrp M) (mSiz M) pla0_121 wro0_121 (mTol M) num0_121)) H → va_D A (mcells C b (mkM (mNow M) (mBef M) (mSav M) (mHis M) (mIsS M) (mRem M) (mErA M) (mFaA M) (mTxt M) (mTyp M) (mLin M) (mLnd M) (mThr M) (mFar M) (mGrp M) (mSiz M) pla0_121 wro0_121 (mTol M) num0_121)) → va_S A s.heap H locs → lv_has ls 3 [] → W p l e ({ frames := 4, cells := 0, slots := 0, locals := 85 } : Room) s m ([.ref (b 0), .int (nI x), .int y] : List Value).toArray below meth c H locs 0 0 (MQ below (rwO none D (mcells C b (mkM (mNow M) (mBef M) (mSav M) (mHis M) (mIsS M) (mRem M) (mErA M) (mFaA M) (mTxt M) (mTyp M) (mLin M) (mLnd M) (mThr M) (mFar M) (mGrp M) (mSiz M) z.1 z.2.1 (mTol M) z.2.2)) A) ([.ref (b 0), .int (nI x), .int y] : List Value).toArray s 0 0 A) (F0 m 121 ls []) := by
    intro pla0_121 wro0_121 num0_121 H locs ls hz iv121_0 hP hD hS hl
    have hz : z = (pla0_121, wro0_121, num0_121) := hz
    rw [hz]
    exact rw_retV hx hb hr hP hS dX8_readsRest_121 hlocks
  have J120 : ∀ (s0_120 : Int32) (s1_120 : Nat) (pla0_120 : Nat) (wro0_120 : Int32) (num0_120 : (Nat → Int32))  (H : Heap) (locs : List Loc) (ls : Array Slot), z = f_X8_readsRest_j120 s0_120 s1_120 pla0_120 wro0_120 num0_120 → (pla0_120 ≤ mSiz M) → (s1_120 < 120) → va_P D vwCl (mcells C b (mkM (mNow M) (mBef M) (mSav M) (mHis M) (mIsS M) (mRem M) (mErA M) (mFaA M) (mTxt M) (mTyp M) (mLin M) (mLnd M) (mThr M) (mFar M) (mGrp M) (mSiz M) pla0_120 wro0_120 (mTol M) num0_120)) H → va_D A (mcells C b (mkM (mNow M) (mBef M) (mSav M) (mHis M) (mIsS M) (mRem M) (mErA M) (mFaA M) (mTxt M) (mTyp M) (mLin M) (mLnd M) (mThr M) (mFar M) (mGrp M) (mSiz M) pla0_120 wro0_120 (mTol M) num0_120)) → va_S A s.heap H locs → lv_has ls 3 [] → W p l e ({ frames := 4, cells := 0, slots := 0, locals := 85 } : Room) s m ([.ref (b 0), .int (nI x), .int y] : List Value).toArray below meth c H locs 0 0 (MQ below (rwO none D (mcells C b (mkM (mNow M) (mBef M) (mSav M) (mHis M) (mIsS M) (mRem M) (mErA M) (mFaA M) (mTxt M) (mTyp M) (mLin M) (mLnd M) (mThr M) (mFar M) (mGrp M) (mSiz M) z.1 z.2.1 (mTol M) z.2.2)) A) ([.ref (b 0), .int (nI x), .int y] : List Value).toArray s 0 0 A) (F0 m 120 ls [.int s0_120, .int (nI s1_120), .ref (b 9)]) := by
    intro s0_120 s1_120 pla0_120 wro0_120 num0_120 H locs ls hz iv120_0 iv120_1 hP hD hS hl
    have hP := mX_P hP
    have hD := mX_D hD
    refine iastN (tys := tyA C) hx hb hK hP hD hS 9 0 rfl rfl (i := s1_120) (by omega) (by decide) dX8_readsRest_120 (fun H locs hP hD hS => ?_)
    have hP : va_P D vwCl (mcells C b (mkM (mNow M) (mBef M) (mSav M) (mHis M) (mIsS M) (mRem M) (mErA M) (mFaA M) (mTxt M) (mTyp M) (mLin M) (mLnd M) (mThr M) (mFar M) (mGrp M) (mSiz M) pla0_120 wro0_120 (mTol M) (upd num0_120 s1_120 s0_120))) H := mX_Q (show va_P D vwCl (mX C b (mNow M) (mBef M) (mSav M) (mHis M) (mIsS M) (mRem M) (mErA M) (mFaA M) (mTxt M) (mTyp M) (mLin M) (mLnd M) (mThr M) (mFar M) (mGrp M) (mSiz M) pla0_120 wro0_120 (mTol M) (upd num0_120 s1_120 s0_120)) H from hP)
    have hD : va_D A (mcells C b (mkM (mNow M) (mBef M) (mSav M) (mHis M) (mIsS M) (mRem M) (mErA M) (mFaA M) (mTxt M) (mTyp M) (mLin M) (mLnd M) (mThr M) (mFar M) (mGrp M) (mSiz M) pla0_120 wro0_120 (mTol M) (upd num0_120 s1_120 s0_120))) := mX_R (show va_D A (mX C b (mNow M) (mBef M) (mSav M) (mHis M) (mIsS M) (mRem M) (mErA M) (mFaA M) (mTxt M) (mTyp M) (mLin M) (mLnd M) (mThr M) (mFar M) (mGrp M) (mSiz M) pla0_120 wro0_120 (mTol M) (upd num0_120 s1_120 s0_120)) from hD)
    exact J121 (pla0_120) (wro0_120) ((upd num0_120 s1_120 s0_120)) _ _ ls hz (by omega) hP hD hS (lv_sub hl [] rfl)
  have J93 : ∀ (pla0_93 : Nat) (wro0_93 : Int32) (num0_93 : (Nat → Int32))  (H : Heap) (locs : List Loc) (ls : Array Slot), z = f_X8_readsRest_j93 (mTxt M) (mSiz M) x y pla0_93 wro0_93 num0_93 → (pla0_93 ≤ mSiz M) → va_P D vwCl (mcells C b (mkM (mNow M) (mBef M) (mSav M) (mHis M) (mIsS M) (mRem M) (mErA M) (mFaA M) (mTxt M) (mTyp M) (mLin M) (mLnd M) (mThr M) (mFar M) (mGrp M) (mSiz M) pla0_93 wro0_93 (mTol M) num0_93)) H → va_D A (mcells C b (mkM (mNow M) (mBef M) (mSav M) (mHis M) (mIsS M) (mRem M) (mErA M) (mFaA M) (mTxt M) (mTyp M) (mLin M) (mLnd M) (mThr M) (mFar M) (mGrp M) (mSiz M) pla0_93 wro0_93 (mTol M) num0_93)) → va_S A s.heap H locs → lv_has ls 3 [(0, .ref (b 0)), (1, .int (nI x)), (2, .int y)] → W p l e ({ frames := 4, cells := 0, slots := 0, locals := 85 } : Room) s m ([.ref (b 0), .int (nI x), .int y] : List Value).toArray below meth c H locs 0 0 (MQ below (rwO none D (mcells C b (mkM (mNow M) (mBef M) (mSav M) (mHis M) (mIsS M) (mRem M) (mErA M) (mFaA M) (mTxt M) (mTyp M) (mLin M) (mLnd M) (mThr M) (mFar M) (mGrp M) (mSiz M) z.1 z.2.1 (mTol M) z.2.2)) A) ([.ref (b 0), .int (nI x), .int y] : List Value).toArray s 0 0 A) (F0 m 93 ls []) := by
    intro pla0_93 wro0_93 num0_93 H locs ls hz iv93_0 hP hD hS hl
    refine lv_aload_n hx hb dX8_readsRest_93 rfl (lv_at hl 0 rfl) ?_
    have hFc := va_free (wc := (mcells C b (mkM (mNow M) (mBef M) (mSav M) (mHis M) (mIsS M) (mRem M) (mErA M) (mFaA M) (mTxt M) (mTyp M) (mLin M) (mLnd M) (mThr M) (mFar M) (mGrp M) (mSiz M) pla0_93 wro0_93 (mTol M) num0_93))) hD hS hA [0, 1, 2, 3, 4, 5, 6, 7, 8, 9] rfl
    refine callRw (va_runV (As := []) (rest := []) ⟨hx, hb, hml, hown, hts⟩ (c_X8_blank l D C b (mkM (mNow M) (mBef M) (mSav M) (mHis M) (mIsS M) (mRem M) (mErA M) (mFaA M) (mTxt M) (mTyp M) (mLin M) (mLnd M) (mThr M) (mFar M) (mGrp M) (mSiz M) pla0_93 wro0_93 (mTol M) num0_93) _ (by show (mSiz M) ≤ 60; first | assumption | omega) (by show pla0_93 ≤ (mSiz M); first | assumption | omega)) (cwV 0 hts gX8_readsRest_X8_blank rfl rfl rfl (by decide +kernel) ⟨Nat.le_of_ble_eq_true rfl, Nat.le_of_ble_eq_true rfl⟩) (rwP_v hP hK hE hD (va_recv hK hP (ci := 9) (q0 := 0) rfl rfl)) rfl rfl hl.1 rfl (lv_room (Nat.le_of_ble_eq_true rfl)) dX8_readsRest_94 ⟨Nat.le_refl _, Nat.le_refl _⟩) hS hFc (fun H1 locs hPn hk hS => ?_)
    obtain ⟨y94, hy94⟩ : ∃ y_, y_ = (f_X8_blank (mTxt M) (mSiz M) pla0_93 wro0_93) := ⟨_, rfl⟩
    have hPn : va_P D vwCl (mcells C b (mkM (mNow M) (mBef M) (mSav M) (mHis M) (mIsS M) (mRem M) (mErA M) (mFaA M) (mTxt M) (mTyp M) (mLin M) (mLnd M) (mThr M) (mFar M) (mGrp M) (mSiz M) y94.1 y94.2 (mTol M) num0_93)) H1 := by rw [hy94]; exact hPn
    have hz := lt_eq hz hy94
    have hP : va_P D vwCl (mcells C b (mkM (mNow M) (mBef M) (mSav M) (mHis M) (mIsS M) (mRem M) (mErA M) (mFaA M) (mTxt M) (mTyp M) (mLin M) (mLnd M) (mThr M) (mFar M) (mGrp M) (mSiz M) y94.1 y94.2 (mTol M) num0_93)) H1 := hPn
    have hD : va_D A (mcells C b (mkM (mNow M) (mBef M) (mSav M) (mHis M) (mIsS M) (mRem M) (mErA M) (mFaA M) (mTxt M) (mTyp M) (mLin M) (mLnd M) (mThr M) (mFar M) (mGrp M) (mSiz M) y94.1 y94.2 (mTol M) num0_93)) := adr_D hD rfl
    generalize H1 = H at hP hS ⊢
    have b94 := X8_blank_q hy94 (by omega)
    refine lv_aload_n hx hb dX8_readsRest_97 rfl (lv_at hl 0 rfl) ?_
    refine va_get (D := D) (ci := 9) (v := .ref (b 9)) (C := RX8) (T := TX8) (N := 20) hx hb hts hinX8 hown hK hP 0 rfl rfl 19 (by decide) (hts (.fieldLink RX8 41 "BridgeAuctionModel" "numbers" "[I") (by decide +kernel)) (fun _ h9 => h9) rfl dX8_readsRest_98 ?_
    refine lv_iload_n hx hb dX8_readsRest_101 rfl (lv_at hl 1 rfl) ?_
    refine lv_iconst (v := 3) hx hb dX8_readsRest_102 (by decide) ?_
    refine topN (k := 3) (by decide +kernel) ?_
    refine addN hx hb dX8_readsRest_103 ?_
    refine lv_iload_n hx hb dX8_readsRest_104 rfl (lv_at hl 2 rfl) ?_
    refine lv_iconst (v := 1) hx hb dX8_readsRest_105 (by decide) ?_
    refine lv_icmp_ne (tgt := 116) hx hb dX8_readsRest_106 (by decide) (fun c_106 => ?_) (fun c_106 => ?_)
    · have hz := hz.trans (if_neg c_106)
      refine lv_aload_n hx hb dX8_readsRest_116 rfl (lv_at hl 0 rfl) ?_
      have hFc := va_free (wc := (mcells C b (mkM (mNow M) (mBef M) (mSav M) (mHis M) (mIsS M) (mRem M) (mErA M) (mFaA M) (mTxt M) (mTyp M) (mLin M) (mLnd M) (mThr M) (mFar M) (mGrp M) (mSiz M) y94.1 y94.2 (mTol M) num0_93))) hD hS hA [0, 1, 2, 3, 4, 5, 6, 7, 8, 9] rfl
      refine callRw (va_runV (As := []) (rest := [.int (nI (x + 3)), .ref (b 9)]) ⟨hx, hb, hml, hown, hts⟩ (c_X8_number l D C b (mkM (mNow M) (mBef M) (mSav M) (mHis M) (mIsS M) (mRem M) (mErA M) (mFaA M) (mTxt M) (mTyp M) (mLin M) (mLnd M) (mThr M) (mFar M) (mGrp M) (mSiz M) y94.1 y94.2 (mTol M) num0_93) _ (by show (mSiz M) ≤ 60; first | assumption | omega) (by show y94.1 ≤ (mSiz M); first | assumption | omega)) (cwV 0 hts gX8_readsRest_X8_number rfl rfl rfl (by decide +kernel) ⟨Nat.le_of_ble_eq_true rfl, Nat.le_of_ble_eq_true rfl⟩) (rwP_v hP hK hE hD (va_recv hK hP (ci := 9) (q0 := 0) rfl rfl)) rfl rfl hl.1 rfl (lv_room (Nat.le_of_ble_eq_true rfl)) dX8_readsRest_117 ⟨Nat.le_refl _, Nat.le_refl _⟩) hS hFc (fun H1 locs hPn hk hS => ?_)
      obtain ⟨y117, hy117⟩ : ∃ y_, y_ = (f_X8_number (mTxt M) (mSiz M) y94.1 y94.2) := ⟨_, rfl⟩
      have hPn : va_P D vwCl (mcells C b (mkM (mNow M) (mBef M) (mSav M) (mHis M) (mIsS M) (mRem M) (mErA M) (mFaA M) (mTxt M) (mTyp M) (mLin M) (mLnd M) (mThr M) (mFar M) (mGrp M) (mSiz M) y117.2.1 y117.2.2 (mTol M) num0_93)) H1 := by rw [hy117]; exact hPn
      refine topI (y := y117.1) (congrArg Prod.fst hy117).symm ?_
      have hz := lt_eq hz hy117
      have hP : va_P D vwCl (mcells C b (mkM (mNow M) (mBef M) (mSav M) (mHis M) (mIsS M) (mRem M) (mErA M) (mFaA M) (mTxt M) (mTyp M) (mLin M) (mLnd M) (mThr M) (mFar M) (mGrp M) (mSiz M) y117.2.1 y117.2.2 (mTol M) num0_93)) H1 := hPn
      have hD : va_D A (mcells C b (mkM (mNow M) (mBef M) (mSav M) (mHis M) (mIsS M) (mRem M) (mErA M) (mFaA M) (mTxt M) (mTyp M) (mLin M) (mLnd M) (mThr M) (mFar M) (mGrp M) (mSiz M) y117.2.1 y117.2.2 (mTol M) num0_93)) := adr_D hD rfl
      generalize H1 = H at hP hS ⊢
      have b117 := X8_number_q hy117 (by omega)
      exact J120 (y117.1) ((x + 3)) (y117.2.1) (y117.2.2) (num0_93) _ _ ls hz (by omega) (by omega) hP hD hS (lv_sub hl [] rfl)
    · have hz := hz.trans (if_pos c_106)
      refine lv_aload_n hx hb dX8_readsRest_109 rfl (lv_at hl 0 rfl) ?_
      have hFc := va_free (wc := (mcells C b (mkM (mNow M) (mBef M) (mSav M) (mHis M) (mIsS M) (mRem M) (mErA M) (mFaA M) (mTxt M) (mTyp M) (mLin M) (mLnd M) (mThr M) (mFar M) (mGrp M) (mSiz M) y94.1 y94.2 (mTol M) num0_93))) hD hS hA [0, 1, 2, 3, 4, 5, 6, 7, 8, 9] rfl
      refine callRw (va_runV (As := []) (rest := [.int (nI (x + 3)), .ref (b 9)]) ⟨hx, hb, hml, hown, hts⟩ (c_X8_digit l D C b (mkM (mNow M) (mBef M) (mSav M) (mHis M) (mIsS M) (mRem M) (mErA M) (mFaA M) (mTxt M) (mTyp M) (mLin M) (mLnd M) (mThr M) (mFar M) (mGrp M) (mSiz M) y94.1 y94.2 (mTol M) num0_93) _ (by show (mSiz M) ≤ 60; first | assumption | omega) (by show y94.1 ≤ (mSiz M); first | assumption | omega)) (cwV 0 hts gX8_readsRest_X8_digit rfl rfl rfl (by decide +kernel) ⟨Nat.le_of_ble_eq_true rfl, Nat.le_of_ble_eq_true rfl⟩) (rwP_v hP hK hE hD (va_recv hK hP (ci := 9) (q0 := 0) rfl rfl)) rfl rfl hl.1 rfl (lv_room (Nat.le_of_ble_eq_true rfl)) dX8_readsRest_110 ⟨Nat.le_refl _, Nat.le_refl _⟩) hS hFc (fun H1 locs hPn hk hS => ?_)
      obtain ⟨y110, hy110⟩ : ∃ y_, y_ = (f_X8_digit (mTxt M) (mSiz M) y94.1 y94.2) := ⟨_, rfl⟩
      have hPn : va_P D vwCl (mcells C b (mkM (mNow M) (mBef M) (mSav M) (mHis M) (mIsS M) (mRem M) (mErA M) (mFaA M) (mTxt M) (mTyp M) (mLin M) (mLnd M) (mThr M) (mFar M) (mGrp M) (mSiz M) y110.2.1 y110.2.2 (mTol M) num0_93)) H1 := by rw [hy110]; exact hPn
      refine topI (y := y110.1) (congrArg Prod.fst hy110).symm ?_
      have hz := lt_eq hz hy110
      have hP : va_P D vwCl (mcells C b (mkM (mNow M) (mBef M) (mSav M) (mHis M) (mIsS M) (mRem M) (mErA M) (mFaA M) (mTxt M) (mTyp M) (mLin M) (mLnd M) (mThr M) (mFar M) (mGrp M) (mSiz M) y110.2.1 y110.2.2 (mTol M) num0_93)) H1 := hPn
      have hD : va_D A (mcells C b (mkM (mNow M) (mBef M) (mSav M) (mHis M) (mIsS M) (mRem M) (mErA M) (mFaA M) (mTxt M) (mTyp M) (mLin M) (mLnd M) (mThr M) (mFar M) (mGrp M) (mSiz M) y110.2.1 y110.2.2 (mTol M) num0_93)) := adr_D hD rfl
      generalize H1 = H at hP hS ⊢
      have b110 := X8_digit_q hy110 (by omega)
      refine lv_goto (tgt := 120) hx hb dX8_readsRest_113 (by decide) ?_
      exact J120 (y110.1) ((x + 3)) (y110.2.1) (y110.2.2) (num0_93) _ _ ls hz (by omega) (by omega) hP hD hS (lv_sub hl [] rfl)
  have J77 : ∀ (s0_77 : Int32) (s1_77 : Nat) (pla0_77 : Nat) (wro0_77 : Int32) (num0_77 : (Nat → Int32))  (H : Heap) (locs : List Loc) (ls : Array Slot), z = f_X8_readsRest_j77 (mTxt M) (mSiz M) x y s0_77 s1_77 pla0_77 wro0_77 num0_77 → (pla0_77 ≤ mSiz M) → (s1_77 < 120) → va_P D vwCl (mcells C b (mkM (mNow M) (mBef M) (mSav M) (mHis M) (mIsS M) (mRem M) (mErA M) (mFaA M) (mTxt M) (mTyp M) (mLin M) (mLnd M) (mThr M) (mFar M) (mGrp M) (mSiz M) pla0_77 wro0_77 (mTol M) num0_77)) H → va_D A (mcells C b (mkM (mNow M) (mBef M) (mSav M) (mHis M) (mIsS M) (mRem M) (mErA M) (mFaA M) (mTxt M) (mTyp M) (mLin M) (mLnd M) (mThr M) (mFar M) (mGrp M) (mSiz M) pla0_77 wro0_77 (mTol M) num0_77)) → va_S A s.heap H locs → lv_has ls 3 [(0, .ref (b 0)), (1, .int (nI x)), (2, .int y)] → W p l e ({ frames := 4, cells := 0, slots := 0, locals := 85 } : Room) s m ([.ref (b 0), .int (nI x), .int y] : List Value).toArray below meth c H locs 0 0 (MQ below (rwO none D (mcells C b (mkM (mNow M) (mBef M) (mSav M) (mHis M) (mIsS M) (mRem M) (mErA M) (mFaA M) (mTxt M) (mTyp M) (mLin M) (mLnd M) (mThr M) (mFar M) (mGrp M) (mSiz M) z.1 z.2.1 (mTol M) z.2.2)) A) ([.ref (b 0), .int (nI x), .int y] : List Value).toArray s 0 0 A) (F0 m 77 ls [.int s0_77, .int (nI s1_77), .ref (b 9)]) := by
    intro s0_77 s1_77 pla0_77 wro0_77 num0_77 H locs ls hz iv77_0 iv77_1 hP hD hS hl
    have hP := mX_P hP
    have hD := mX_D hD
    refine iastN (tys := tyA C) hx hb hK hP hD hS 9 0 rfl rfl (i := s1_77) (by omega) (by decide) dX8_readsRest_77 (fun H locs hP hD hS => ?_)
    have hP : va_P D vwCl (mcells C b (mkM (mNow M) (mBef M) (mSav M) (mHis M) (mIsS M) (mRem M) (mErA M) (mFaA M) (mTxt M) (mTyp M) (mLin M) (mLnd M) (mThr M) (mFar M) (mGrp M) (mSiz M) pla0_77 wro0_77 (mTol M) (upd num0_77 s1_77 s0_77))) H := mX_Q (show va_P D vwCl (mX C b (mNow M) (mBef M) (mSav M) (mHis M) (mIsS M) (mRem M) (mErA M) (mFaA M) (mTxt M) (mTyp M) (mLin M) (mLnd M) (mThr M) (mFar M) (mGrp M) (mSiz M) pla0_77 wro0_77 (mTol M) (upd num0_77 s1_77 s0_77)) H from hP)
    have hD : va_D A (mcells C b (mkM (mNow M) (mBef M) (mSav M) (mHis M) (mIsS M) (mRem M) (mErA M) (mFaA M) (mTxt M) (mTyp M) (mLin M) (mLnd M) (mThr M) (mFar M) (mGrp M) (mSiz M) pla0_77 wro0_77 (mTol M) (upd num0_77 s1_77 s0_77))) := mX_R (show va_D A (mX C b (mNow M) (mBef M) (mSav M) (mHis M) (mIsS M) (mRem M) (mErA M) (mFaA M) (mTxt M) (mTyp M) (mLin M) (mLnd M) (mThr M) (mFar M) (mGrp M) (mSiz M) pla0_77 wro0_77 (mTol M) (upd num0_77 s1_77 s0_77)) from hD)
    refine lv_iload_n hx hb dX8_readsRest_78 rfl (lv_at hl 2 rfl) ?_
    refine lv_iconst (v := 1) hx hb dX8_readsRest_79 (by decide) ?_
    refine lv_icmp_eq (tgt := 93) hx hb dX8_readsRest_80 (by decide) (fun c_80 => ?_) (fun c_80 => ?_)
    · have hz := hz.trans (if_pos c_80)
      exact J93 (pla0_77) (wro0_77) ((upd num0_77 s1_77 s0_77)) _ _ ls hz (by omega) hP hD hS (lv_sub hl [0, 1, 2] rfl)
    · have hz := hz.trans (if_neg c_80)
      refine lv_iload_n hx hb dX8_readsRest_83 rfl (lv_at hl 2 rfl) ?_
      refine lv_iconst (v := 4) hx hb dX8_readsRest_84 (by decide) ?_
      refine lv_icmp_eq (tgt := 93) hx hb dX8_readsRest_85 (by decide) (fun c_85 => ?_) (fun c_85 => ?_)
      · have hz := hz.trans (if_pos c_85)
        exact J93 (pla0_77) (wro0_77) ((upd num0_77 s1_77 s0_77)) _ _ ls hz (by omega) hP hD hS (lv_sub hl [0, 1, 2] rfl)
      · have hz := hz.trans (if_neg c_85)
        refine lv_iload_n hx hb dX8_readsRest_88 rfl (lv_at hl 2 rfl) ?_
        refine lv_iconst (v := 5) hx hb dX8_readsRest_89 (by decide) ?_
        refine lv_icmp_ne (tgt := 121) hx hb dX8_readsRest_90 (by decide) (fun c_90 => ?_) (fun c_90 => ?_)
        · have hz := hz.trans (if_neg c_90)
          exact J121 (pla0_77) (wro0_77) ((upd num0_77 s1_77 s0_77)) _ _ ls hz (by omega) hP hD hS (lv_sub hl [] rfl)
        · have hz := hz.trans (if_pos c_90)
          exact J93 (pla0_77) (wro0_77) ((upd num0_77 s1_77 s0_77)) _ _ ls hz (by omega) hP hD hS (lv_sub hl [0, 1, 2] rfl)
  have J66 : ∀ (s0_66 : Nat) (pla0_66 : Nat) (wro0_66 : Int32) (num0_66 : (Nat → Int32))  (H : Heap) (locs : List Loc) (ls : Array Slot), z = f_X8_readsRest_j66 (mTxt M) (mSiz M) x y s0_66 pla0_66 wro0_66 num0_66 → (pla0_66 ≤ mSiz M) → (s0_66 < 120) → va_P D vwCl (mcells C b (mkM (mNow M) (mBef M) (mSav M) (mHis M) (mIsS M) (mRem M) (mErA M) (mFaA M) (mTxt M) (mTyp M) (mLin M) (mLnd M) (mThr M) (mFar M) (mGrp M) (mSiz M) pla0_66 wro0_66 (mTol M) num0_66)) H → va_D A (mcells C b (mkM (mNow M) (mBef M) (mSav M) (mHis M) (mIsS M) (mRem M) (mErA M) (mFaA M) (mTxt M) (mTyp M) (mLin M) (mLnd M) (mThr M) (mFar M) (mGrp M) (mSiz M) pla0_66 wro0_66 (mTol M) num0_66)) → va_S A s.heap H locs → lv_has ls 3 [(0, .ref (b 0)), (1, .int (nI x)), (2, .int y)] → W p l e ({ frames := 4, cells := 0, slots := 0, locals := 85 } : Room) s m ([.ref (b 0), .int (nI x), .int y] : List Value).toArray below meth c H locs 0 0 (MQ below (rwO none D (mcells C b (mkM (mNow M) (mBef M) (mSav M) (mHis M) (mIsS M) (mRem M) (mErA M) (mFaA M) (mTxt M) (mTyp M) (mLin M) (mLnd M) (mThr M) (mFar M) (mGrp M) (mSiz M) z.1 z.2.1 (mTol M) z.2.2)) A) ([.ref (b 0), .int (nI x), .int y] : List Value).toArray s 0 0 A) (F0 m 66 ls [.int (nI s0_66), .ref (b 9)]) := by
    intro s0_66 pla0_66 wro0_66 num0_66 H locs ls hz iv66_0 iv66_1 hP hD hS hl
    refine lv_aload_n hx hb dX8_readsRest_66 rfl (lv_at hl 0 rfl) ?_
    have hFc := va_free (wc := (mcells C b (mkM (mNow M) (mBef M) (mSav M) (mHis M) (mIsS M) (mRem M) (mErA M) (mFaA M) (mTxt M) (mTyp M) (mLin M) (mLnd M) (mThr M) (mFar M) (mGrp M) (mSiz M) pla0_66 wro0_66 (mTol M) num0_66))) hD hS hA [0, 1, 2, 3, 4, 5, 6, 7, 8, 9] rfl
    refine callRw (va_runV (As := []) (rest := [.int (nI s0_66), .ref (b 9)]) ⟨hx, hb, hml, hown, hts⟩ (c_X8_digit l D C b (mkM (mNow M) (mBef M) (mSav M) (mHis M) (mIsS M) (mRem M) (mErA M) (mFaA M) (mTxt M) (mTyp M) (mLin M) (mLnd M) (mThr M) (mFar M) (mGrp M) (mSiz M) pla0_66 wro0_66 (mTol M) num0_66) _ (by show (mSiz M) ≤ 60; first | assumption | omega) (by show pla0_66 ≤ (mSiz M); first | assumption | omega)) (cwV 0 hts gX8_readsRest_X8_digit rfl rfl rfl (by decide +kernel) ⟨Nat.le_of_ble_eq_true rfl, Nat.le_of_ble_eq_true rfl⟩) (rwP_v hP hK hE hD (va_recv hK hP (ci := 9) (q0 := 0) rfl rfl)) rfl rfl hl.1 rfl (lv_room (Nat.le_of_ble_eq_true rfl)) dX8_readsRest_67 ⟨Nat.le_refl _, Nat.le_refl _⟩) hS hFc (fun H1 locs hPn hk hS => ?_)
    obtain ⟨y67, hy67⟩ : ∃ y_, y_ = (f_X8_digit (mTxt M) (mSiz M) pla0_66 wro0_66) := ⟨_, rfl⟩
    have hPn : va_P D vwCl (mcells C b (mkM (mNow M) (mBef M) (mSav M) (mHis M) (mIsS M) (mRem M) (mErA M) (mFaA M) (mTxt M) (mTyp M) (mLin M) (mLnd M) (mThr M) (mFar M) (mGrp M) (mSiz M) y67.2.1 y67.2.2 (mTol M) num0_66)) H1 := by rw [hy67]; exact hPn
    refine topI (y := y67.1) (congrArg Prod.fst hy67).symm ?_
    have hz := lt_eq hz hy67
    have hP : va_P D vwCl (mcells C b (mkM (mNow M) (mBef M) (mSav M) (mHis M) (mIsS M) (mRem M) (mErA M) (mFaA M) (mTxt M) (mTyp M) (mLin M) (mLnd M) (mThr M) (mFar M) (mGrp M) (mSiz M) y67.2.1 y67.2.2 (mTol M) num0_66)) H1 := hPn
    have hD : va_D A (mcells C b (mkM (mNow M) (mBef M) (mSav M) (mHis M) (mIsS M) (mRem M) (mErA M) (mFaA M) (mTxt M) (mTyp M) (mLin M) (mLnd M) (mThr M) (mFar M) (mGrp M) (mSiz M) y67.2.1 y67.2.2 (mTol M) num0_66)) := adr_D hD rfl
    generalize H1 = H at hP hS ⊢
    have b67 := X8_digit_q hy67 (by omega)
    refine lv_goto (tgt := 77) hx hb dX8_readsRest_70 (by decide) ?_
    exact J77 (y67.1) (s0_66) (y67.2.1) (y67.2.2) (num0_66) _ _ ls hz (by omega) (by omega) hP hD hS (lv_sub hl [0, 1, 2] rfl)
  have J44 : ∀ (pla0_44 : Nat) (wro0_44 : Int32) (num0_44 : (Nat → Int32))  (H : Heap) (locs : List Loc) (ls : Array Slot), z = f_X8_readsRest_j44 pla0_44 wro0_44 num0_44 → (pla0_44 ≤ mSiz M) → va_P D vwCl (mcells C b (mkM (mNow M) (mBef M) (mSav M) (mHis M) (mIsS M) (mRem M) (mErA M) (mFaA M) (mTxt M) (mTyp M) (mLin M) (mLnd M) (mThr M) (mFar M) (mGrp M) (mSiz M) pla0_44 wro0_44 (mTol M) num0_44)) H → va_D A (mcells C b (mkM (mNow M) (mBef M) (mSav M) (mHis M) (mIsS M) (mRem M) (mErA M) (mFaA M) (mTxt M) (mTyp M) (mLin M) (mLnd M) (mThr M) (mFar M) (mGrp M) (mSiz M) pla0_44 wro0_44 (mTol M) num0_44)) → va_S A s.heap H locs → lv_has ls 3 [] → W p l e ({ frames := 4, cells := 0, slots := 0, locals := 85 } : Room) s m ([.ref (b 0), .int (nI x), .int y] : List Value).toArray below meth c H locs 0 0 (MQ below (rwO none D (mcells C b (mkM (mNow M) (mBef M) (mSav M) (mHis M) (mIsS M) (mRem M) (mErA M) (mFaA M) (mTxt M) (mTyp M) (mLin M) (mLnd M) (mThr M) (mFar M) (mGrp M) (mSiz M) z.1 z.2.1 (mTol M) z.2.2)) A) ([.ref (b 0), .int (nI x), .int y] : List Value).toArray s 0 0 A) (F0 m 44 ls []) := by
    intro pla0_44 wro0_44 num0_44 H locs ls hz iv44_0 hP hD hS hl
    have hz : z = (pla0_44, wro0_44, num0_44) := hz
    rw [hz]
    exact rw_retV hx hb hr hP hS dX8_readsRest_44 hlocks
  have J28 : ∀ (s0_28 : Int32) (s1_28 : Nat) (pla0_28 : Nat) (wro0_28 : Int32)  (H : Heap) (locs : List Loc) (ls : Array Slot), z = f_X8_readsRest_j28 (mTxt M) (mSiz M) (mNum M) x y s0_28 s1_28 pla0_28 wro0_28 → (pla0_28 ≤ mSiz M) → (s1_28 < 120) → va_P D vwCl (mcells C b (mkM (mNow M) (mBef M) (mSav M) (mHis M) (mIsS M) (mRem M) (mErA M) (mFaA M) (mTxt M) (mTyp M) (mLin M) (mLnd M) (mThr M) (mFar M) (mGrp M) (mSiz M) pla0_28 wro0_28 (mTol M) (mNum M))) H → va_D A (mcells C b (mkM (mNow M) (mBef M) (mSav M) (mHis M) (mIsS M) (mRem M) (mErA M) (mFaA M) (mTxt M) (mTyp M) (mLin M) (mLnd M) (mThr M) (mFar M) (mGrp M) (mSiz M) pla0_28 wro0_28 (mTol M) (mNum M))) → va_S A s.heap H locs → lv_has ls 3 [(0, .ref (b 0)), (1, .int (nI x)), (2, .int y)] → W p l e ({ frames := 4, cells := 0, slots := 0, locals := 85 } : Room) s m ([.ref (b 0), .int (nI x), .int y] : List Value).toArray below meth c H locs 0 0 (MQ below (rwO none D (mcells C b (mkM (mNow M) (mBef M) (mSav M) (mHis M) (mIsS M) (mRem M) (mErA M) (mFaA M) (mTxt M) (mTyp M) (mLin M) (mLnd M) (mThr M) (mFar M) (mGrp M) (mSiz M) z.1 z.2.1 (mTol M) z.2.2)) A) ([.ref (b 0), .int (nI x), .int y] : List Value).toArray s 0 0 A) (F0 m 28 ls [.int s0_28, .int (nI s1_28), .ref (b 9)]) := by
    intro s0_28 s1_28 pla0_28 wro0_28 H locs ls hz iv28_0 iv28_1 hP hD hS hl
    have hP := mX_P hP
    have hD := mX_D hD
    refine iastN (tys := tyA C) hx hb hK hP hD hS 9 0 rfl rfl (i := s1_28) (by omega) (by decide) dX8_readsRest_28 (fun H locs hP hD hS => ?_)
    have hP : va_P D vwCl (mcells C b (mkM (mNow M) (mBef M) (mSav M) (mHis M) (mIsS M) (mRem M) (mErA M) (mFaA M) (mTxt M) (mTyp M) (mLin M) (mLnd M) (mThr M) (mFar M) (mGrp M) (mSiz M) pla0_28 wro0_28 (mTol M) (upd (mNum M) s1_28 s0_28))) H := mX_Q (show va_P D vwCl (mX C b (mNow M) (mBef M) (mSav M) (mHis M) (mIsS M) (mRem M) (mErA M) (mFaA M) (mTxt M) (mTyp M) (mLin M) (mLnd M) (mThr M) (mFar M) (mGrp M) (mSiz M) pla0_28 wro0_28 (mTol M) (upd (mNum M) s1_28 s0_28)) H from hP)
    have hD : va_D A (mcells C b (mkM (mNow M) (mBef M) (mSav M) (mHis M) (mIsS M) (mRem M) (mErA M) (mFaA M) (mTxt M) (mTyp M) (mLin M) (mLnd M) (mThr M) (mFar M) (mGrp M) (mSiz M) pla0_28 wro0_28 (mTol M) (upd (mNum M) s1_28 s0_28))) := mX_R (show va_D A (mX C b (mNow M) (mBef M) (mSav M) (mHis M) (mIsS M) (mRem M) (mErA M) (mFaA M) (mTxt M) (mTyp M) (mLin M) (mLnd M) (mThr M) (mFar M) (mGrp M) (mSiz M) pla0_28 wro0_28 (mTol M) (upd (mNum M) s1_28 s0_28)) from hD)
    refine lv_iload_n hx hb dX8_readsRest_29 rfl (lv_at hl 2 rfl) ?_
    refine lv_if_eq (tgt := 44) hx hb dX8_readsRest_30 (by decide) (fun c_30 => ?_) (fun c_30 => ?_)
    · have hz := hz.trans (if_pos c_30)
      exact J44 (pla0_28) (wro0_28) ((upd (mNum M) s1_28 s0_28)) _ _ ls hz (by omega) hP hD hS (lv_sub hl [] rfl)
    · have hz := hz.trans (if_neg c_30)
      refine lv_iload_n hx hb dX8_readsRest_33 rfl (lv_at hl 2 rfl) ?_
      refine lv_iconst (v := 3) hx hb dX8_readsRest_34 (by decide) ?_
      refine lv_icmp_eq (tgt := 44) hx hb dX8_readsRest_35 (by decide) (fun c_35 => ?_) (fun c_35 => ?_)
      · have hz := hz.trans (if_pos c_35)
        exact J44 (pla0_28) (wro0_28) ((upd (mNum M) s1_28 s0_28)) _ _ ls hz (by omega) hP hD hS (lv_sub hl [] rfl)
      · have hz := hz.trans (if_neg c_35)
        refine lv_iload_n hx hb dX8_readsRest_38 rfl (lv_at hl 2 rfl) ?_
        refine lv_bipush (v := 8) hx hb dX8_readsRest_39 (by decide +kernel) ?_
        refine lv_icmp_ne (tgt := 45) hx hb dX8_readsRest_41 (by decide) (fun c_41 => ?_) (fun c_41 => ?_)
        · have hz := hz.trans (if_neg c_41)
          refine lv_aload_n hx hb dX8_readsRest_45 rfl (lv_at hl 0 rfl) ?_
          have hFc := va_free (wc := (mcells C b (mkM (mNow M) (mBef M) (mSav M) (mHis M) (mIsS M) (mRem M) (mErA M) (mFaA M) (mTxt M) (mTyp M) (mLin M) (mLnd M) (mThr M) (mFar M) (mGrp M) (mSiz M) pla0_28 wro0_28 (mTol M) (upd (mNum M) s1_28 s0_28)))) hD hS hA [0, 1, 2, 3, 4, 5, 6, 7, 8, 9] rfl
          refine callRw (va_runV (As := []) (rest := []) ⟨hx, hb, hml, hown, hts⟩ (c_X8_blank l D C b (mkM (mNow M) (mBef M) (mSav M) (mHis M) (mIsS M) (mRem M) (mErA M) (mFaA M) (mTxt M) (mTyp M) (mLin M) (mLnd M) (mThr M) (mFar M) (mGrp M) (mSiz M) pla0_28 wro0_28 (mTol M) (upd (mNum M) s1_28 s0_28)) _ (by show (mSiz M) ≤ 60; first | assumption | omega) (by show pla0_28 ≤ (mSiz M); first | assumption | omega)) (cwV 0 hts gX8_readsRest_X8_blank rfl rfl rfl (by decide +kernel) ⟨Nat.le_of_ble_eq_true rfl, Nat.le_of_ble_eq_true rfl⟩) (rwP_v hP hK hE hD (va_recv hK hP (ci := 9) (q0 := 0) rfl rfl)) rfl rfl hl.1 rfl (lv_room (Nat.le_of_ble_eq_true rfl)) dX8_readsRest_46 ⟨Nat.le_refl _, Nat.le_refl _⟩) hS hFc (fun H1 locs hPn hk hS => ?_)
          obtain ⟨y46, hy46⟩ : ∃ y_, y_ = (f_X8_blank (mTxt M) (mSiz M) pla0_28 wro0_28) := ⟨_, rfl⟩
          have hPn : va_P D vwCl (mcells C b (mkM (mNow M) (mBef M) (mSav M) (mHis M) (mIsS M) (mRem M) (mErA M) (mFaA M) (mTxt M) (mTyp M) (mLin M) (mLnd M) (mThr M) (mFar M) (mGrp M) (mSiz M) y46.1 y46.2 (mTol M) (upd (mNum M) s1_28 s0_28))) H1 := by rw [hy46]; exact hPn
          have hz := lt_eq hz hy46
          have hP : va_P D vwCl (mcells C b (mkM (mNow M) (mBef M) (mSav M) (mHis M) (mIsS M) (mRem M) (mErA M) (mFaA M) (mTxt M) (mTyp M) (mLin M) (mLnd M) (mThr M) (mFar M) (mGrp M) (mSiz M) y46.1 y46.2 (mTol M) (upd (mNum M) s1_28 s0_28))) H1 := hPn
          have hD : va_D A (mcells C b (mkM (mNow M) (mBef M) (mSav M) (mHis M) (mIsS M) (mRem M) (mErA M) (mFaA M) (mTxt M) (mTyp M) (mLin M) (mLnd M) (mThr M) (mFar M) (mGrp M) (mSiz M) y46.1 y46.2 (mTol M) (upd (mNum M) s1_28 s0_28))) := adr_D hD rfl
          generalize H1 = H at hP hS ⊢
          have b46 := X8_blank_q hy46 (by omega)
          refine lv_aload_n hx hb dX8_readsRest_49 rfl (lv_at hl 0 rfl) ?_
          refine va_get (D := D) (ci := 9) (v := .ref (b 9)) (C := RX8) (T := TX8) (N := 20) hx hb hts hinX8 hown hK hP 0 rfl rfl 19 (by decide) (hts (.fieldLink RX8 41 "BridgeAuctionModel" "numbers" "[I") (by decide +kernel)) (fun _ h9 => h9) rfl dX8_readsRest_50 ?_
          refine lv_iload_n hx hb dX8_readsRest_53 rfl (lv_at hl 1 rfl) ?_
          refine lv_iconst (v := 2) hx hb dX8_readsRest_54 (by decide) ?_
          refine topN (k := 2) (by decide +kernel) ?_
          refine addN hx hb dX8_readsRest_55 ?_
          refine lv_iload_n hx hb dX8_readsRest_56 rfl (lv_at hl 2 rfl) ?_
          refine lv_iconst (v := 1) hx hb dX8_readsRest_57 (by decide) ?_
          refine lv_icmp_eq (tgt := 66) hx hb dX8_readsRest_58 (by decide) (fun c_58 => ?_) (fun c_58 => ?_)
          · have hz := hz.trans (if_pos c_58)
            exact J66 ((x + 2)) (y46.1) (y46.2) ((upd (mNum M) s1_28 s0_28)) _ _ ls hz (by omega) (by omega) hP hD hS (lv_sub hl [0, 1, 2] rfl)
          · have hz := hz.trans (if_neg c_58)
            refine lv_iload_n hx hb dX8_readsRest_61 rfl (lv_at hl 2 rfl) ?_
            refine lv_iconst (v := 2) hx hb dX8_readsRest_62 (by decide) ?_
            refine lv_icmp_ne (tgt := 73) hx hb dX8_readsRest_63 (by decide) (fun c_63 => ?_) (fun c_63 => ?_)
            · have hz := hz.trans (if_neg c_63)
              refine lv_aload_n hx hb dX8_readsRest_73 rfl (lv_at hl 0 rfl) ?_
              have hFc := va_free (wc := (mcells C b (mkM (mNow M) (mBef M) (mSav M) (mHis M) (mIsS M) (mRem M) (mErA M) (mFaA M) (mTxt M) (mTyp M) (mLin M) (mLnd M) (mThr M) (mFar M) (mGrp M) (mSiz M) y46.1 y46.2 (mTol M) (upd (mNum M) s1_28 s0_28)))) hD hS hA [0, 1, 2, 3, 4, 5, 6, 7, 8, 9] rfl
              refine callRw (va_runV (As := []) (rest := [.int (nI (x + 2)), .ref (b 9)]) ⟨hx, hb, hml, hown, hts⟩ (c_X8_number l D C b (mkM (mNow M) (mBef M) (mSav M) (mHis M) (mIsS M) (mRem M) (mErA M) (mFaA M) (mTxt M) (mTyp M) (mLin M) (mLnd M) (mThr M) (mFar M) (mGrp M) (mSiz M) y46.1 y46.2 (mTol M) (upd (mNum M) s1_28 s0_28)) _ (by show (mSiz M) ≤ 60; first | assumption | omega) (by show y46.1 ≤ (mSiz M); first | assumption | omega)) (cwV 0 hts gX8_readsRest_X8_number rfl rfl rfl (by decide +kernel) ⟨Nat.le_of_ble_eq_true rfl, Nat.le_of_ble_eq_true rfl⟩) (rwP_v hP hK hE hD (va_recv hK hP (ci := 9) (q0 := 0) rfl rfl)) rfl rfl hl.1 rfl (lv_room (Nat.le_of_ble_eq_true rfl)) dX8_readsRest_74 ⟨Nat.le_refl _, Nat.le_refl _⟩) hS hFc (fun H1 locs hPn hk hS => ?_)
              obtain ⟨y74, hy74⟩ : ∃ y_, y_ = (f_X8_number (mTxt M) (mSiz M) y46.1 y46.2) := ⟨_, rfl⟩
              have hPn : va_P D vwCl (mcells C b (mkM (mNow M) (mBef M) (mSav M) (mHis M) (mIsS M) (mRem M) (mErA M) (mFaA M) (mTxt M) (mTyp M) (mLin M) (mLnd M) (mThr M) (mFar M) (mGrp M) (mSiz M) y74.2.1 y74.2.2 (mTol M) (upd (mNum M) s1_28 s0_28))) H1 := by rw [hy74]; exact hPn
              refine topI (y := y74.1) (congrArg Prod.fst hy74).symm ?_
              have hz := lt_eq hz hy74
              have hP : va_P D vwCl (mcells C b (mkM (mNow M) (mBef M) (mSav M) (mHis M) (mIsS M) (mRem M) (mErA M) (mFaA M) (mTxt M) (mTyp M) (mLin M) (mLnd M) (mThr M) (mFar M) (mGrp M) (mSiz M) y74.2.1 y74.2.2 (mTol M) (upd (mNum M) s1_28 s0_28))) H1 := hPn
              have hD : va_D A (mcells C b (mkM (mNow M) (mBef M) (mSav M) (mHis M) (mIsS M) (mRem M) (mErA M) (mFaA M) (mTxt M) (mTyp M) (mLin M) (mLnd M) (mThr M) (mFar M) (mGrp M) (mSiz M) y74.2.1 y74.2.2 (mTol M) (upd (mNum M) s1_28 s0_28))) := adr_D hD rfl
              generalize H1 = H at hP hS ⊢
              have b74 := X8_number_q hy74 (by omega)
              exact J77 (y74.1) ((x + 2)) (y74.2.1) (y74.2.2) ((upd (mNum M) s1_28 s0_28)) _ _ ls hz (by omega) (by omega) hP hD hS (lv_sub hl [0, 1, 2] rfl)
            · have hz := hz.trans (if_pos c_63)
              exact J66 ((x + 2)) (y46.1) (y46.2) ((upd (mNum M) s1_28 s0_28)) _ _ ls hz (by omega) (by omega) hP hD hS (lv_sub hl [0, 1, 2] rfl)
        · have hz := hz.trans (if_pos c_41)
          exact J44 (pla0_28) (wro0_28) ((upd (mNum M) s1_28 s0_28)) _ _ ls hz (by omega) hP hD hS (lv_sub hl [] rfl)
  have J17 : ∀ (s0_17 : Nat)  (H : Heap) (locs : List Loc) (ls : Array Slot), z = f_X8_readsRest_j17 (mTxt M) (mSiz M) (mPla M) (mWro M) (mNum M) x y s0_17 → (s0_17 < 120) → va_P D vwCl (mcells C b M) H → va_D A (mcells C b M) → va_S A s.heap H locs → lv_has ls 3 [(0, .ref (b 0)), (1, .int (nI x)), (2, .int y)] → W p l e ({ frames := 4, cells := 0, slots := 0, locals := 85 } : Room) s m ([.ref (b 0), .int (nI x), .int y] : List Value).toArray below meth c H locs 0 0 (MQ below (rwO none D (mcells C b (mkM (mNow M) (mBef M) (mSav M) (mHis M) (mIsS M) (mRem M) (mErA M) (mFaA M) (mTxt M) (mTyp M) (mLin M) (mLnd M) (mThr M) (mFar M) (mGrp M) (mSiz M) z.1 z.2.1 (mTol M) z.2.2)) A) ([.ref (b 0), .int (nI x), .int y] : List Value).toArray s 0 0 A) (F0 m 17 ls [.int (nI s0_17), .ref (b 9)]) := by
    intro s0_17 H locs ls hz iv17_0 hP hD hS hl
    refine lv_aload_n hx hb dX8_readsRest_17 rfl (lv_at hl 0 rfl) ?_
    have hFc := va_free (wc := (mcells C b M)) hD hS hA [0, 1, 2, 3, 4, 5, 6, 7, 8, 9] rfl
    refine callRw (va_runV (As := []) (rest := [.int (nI s0_17), .ref (b 9)]) ⟨hx, hb, hml, hown, hts⟩ (c_X8_number l D C b M _ (by show (mSiz M) ≤ 60; first | assumption | omega) (by show (mPla M) ≤ (mSiz M); first | assumption | omega)) (cwV 0 hts gX8_readsRest_X8_number rfl rfl rfl (by decide +kernel) ⟨Nat.le_of_ble_eq_true rfl, Nat.le_of_ble_eq_true rfl⟩) (rwP_v hP hK hE hD (va_recv hK hP (ci := 9) (q0 := 0) rfl rfl)) rfl rfl hl.1 rfl (lv_room (Nat.le_of_ble_eq_true rfl)) dX8_readsRest_18 ⟨Nat.le_refl _, Nat.le_refl _⟩) hS hFc (fun H1 locs hPn hk hS => ?_)
    obtain ⟨y18, hy18⟩ : ∃ y_, y_ = (f_X8_number (mTxt M) (mSiz M) (mPla M) (mWro M)) := ⟨_, rfl⟩
    have hPn : va_P D vwCl (mcells C b (mkM (mNow M) (mBef M) (mSav M) (mHis M) (mIsS M) (mRem M) (mErA M) (mFaA M) (mTxt M) (mTyp M) (mLin M) (mLnd M) (mThr M) (mFar M) (mGrp M) (mSiz M) y18.2.1 y18.2.2 (mTol M) (mNum M))) H1 := by rw [hy18]; exact hPn
    refine topI (y := y18.1) (congrArg Prod.fst hy18).symm ?_
    have hz := lt_eq hz hy18
    have hP : va_P D vwCl (mcells C b (mkM (mNow M) (mBef M) (mSav M) (mHis M) (mIsS M) (mRem M) (mErA M) (mFaA M) (mTxt M) (mTyp M) (mLin M) (mLnd M) (mThr M) (mFar M) (mGrp M) (mSiz M) y18.2.1 y18.2.2 (mTol M) (mNum M))) H1 := hPn
    have hD : va_D A (mcells C b (mkM (mNow M) (mBef M) (mSav M) (mHis M) (mIsS M) (mRem M) (mErA M) (mFaA M) (mTxt M) (mTyp M) (mLin M) (mLnd M) (mThr M) (mFar M) (mGrp M) (mSiz M) y18.2.1 y18.2.2 (mTol M) (mNum M))) := adr_D hD rfl
    generalize H1 = H at hP hS ⊢
    have b18 := X8_number_q hy18 (by omega)
    refine lv_goto (tgt := 28) hx hb dX8_readsRest_21 (by decide) ?_
    exact J28 (y18.1) (s0_17) (y18.2.1) (y18.2.2) _ _ ls hz (by omega) (by omega) hP hD hS (lv_sub hl [0, 1, 2] rfl)
  refine lv_aload_n hx hb dX8_readsRest_0 rfl (lv_at hl 0 rfl) ?_
  refine va_get (D := D) (ci := 9) (v := .ref (b 9)) (C := RX8) (T := TX8) (N := 20) hx hb hts hinX8 hown hK hP 0 rfl rfl 19 (by decide) (hts (.fieldLink RX8 41 "BridgeAuctionModel" "numbers" "[I") (by decide +kernel)) (fun _ h9 => h9) rfl dX8_readsRest_1 ?_
  refine lv_iload_n hx hb dX8_readsRest_4 rfl (lv_at hl 1 rfl) ?_
  refine lv_iconst (v := 1) hx hb dX8_readsRest_5 (by decide) ?_
  refine topN (k := 1) (by decide +kernel) ?_
  refine addN hx hb dX8_readsRest_6 ?_
  refine lv_iload_n hx hb dX8_readsRest_7 rfl (lv_at hl 2 rfl) ?_
  refine lv_if_eq (tgt := 17) hx hb dX8_readsRest_8 (by decide) (fun c_8 => ?_) (fun c_8 => ?_)
  · have hz := hz.trans (if_pos c_8)
    exact J17 ((x + 1)) _ _ ls hz (by omega) hP hD hS (lv_sub hl [0, 1, 2] rfl)
  · have hz := hz.trans (if_neg c_8)
    refine lv_iload_n hx hb dX8_readsRest_11 rfl (lv_at hl 2 rfl) ?_
    refine lv_bipush (v := 8) hx hb dX8_readsRest_12 (by decide +kernel) ?_
    refine lv_icmp_ne (tgt := 24) hx hb dX8_readsRest_14 (by decide) (fun c_14 => ?_) (fun c_14 => ?_)
    · have hz := hz.trans (if_neg c_14)
      refine lv_aload_n hx hb dX8_readsRest_24 rfl (lv_at hl 0 rfl) ?_
      have hFc := va_free (wc := (mcells C b M)) hD hS hA [0, 1, 2, 3, 4, 5, 6, 7, 8, 9] rfl
      refine callRw (va_runV (As := []) (rest := [.int (nI (x + 1)), .ref (b 9)]) ⟨hx, hb, hml, hown, hts⟩ (c_X8_digit l D C b M _ (by show (mSiz M) ≤ 60; first | assumption | omega) (by show (mPla M) ≤ (mSiz M); first | assumption | omega)) (cwV 0 hts gX8_readsRest_X8_digit rfl rfl rfl (by decide +kernel) ⟨Nat.le_of_ble_eq_true rfl, Nat.le_of_ble_eq_true rfl⟩) (rwP_v hP hK hE hD (va_recv hK hP (ci := 9) (q0 := 0) rfl rfl)) rfl rfl hl.1 rfl (lv_room (Nat.le_of_ble_eq_true rfl)) dX8_readsRest_25 ⟨Nat.le_refl _, Nat.le_refl _⟩) hS hFc (fun H1 locs hPn hk hS => ?_)
      obtain ⟨y25, hy25⟩ : ∃ y_, y_ = (f_X8_digit (mTxt M) (mSiz M) (mPla M) (mWro M)) := ⟨_, rfl⟩
      have hPn : va_P D vwCl (mcells C b (mkM (mNow M) (mBef M) (mSav M) (mHis M) (mIsS M) (mRem M) (mErA M) (mFaA M) (mTxt M) (mTyp M) (mLin M) (mLnd M) (mThr M) (mFar M) (mGrp M) (mSiz M) y25.2.1 y25.2.2 (mTol M) (mNum M))) H1 := by rw [hy25]; exact hPn
      refine topI (y := y25.1) (congrArg Prod.fst hy25).symm ?_
      have hz := lt_eq hz hy25
      have hP : va_P D vwCl (mcells C b (mkM (mNow M) (mBef M) (mSav M) (mHis M) (mIsS M) (mRem M) (mErA M) (mFaA M) (mTxt M) (mTyp M) (mLin M) (mLnd M) (mThr M) (mFar M) (mGrp M) (mSiz M) y25.2.1 y25.2.2 (mTol M) (mNum M))) H1 := hPn
      have hD : va_D A (mcells C b (mkM (mNow M) (mBef M) (mSav M) (mHis M) (mIsS M) (mRem M) (mErA M) (mFaA M) (mTxt M) (mTyp M) (mLin M) (mLnd M) (mThr M) (mFar M) (mGrp M) (mSiz M) y25.2.1 y25.2.2 (mTol M) (mNum M))) := adr_D hD rfl
      generalize H1 = H at hP hS ⊢
      have b25 := X8_digit_q hy25 (by omega)
      exact J28 (y25.1) ((x + 1)) (y25.2.1) (y25.2.2) _ _ ls hz (by omega) (by omega) hP hD hS (lv_sub hl [0, 1, 2] rfl)
    · have hz := hz.trans (if_pos c_14)
      exact J17 ((x + 1)) _ _ ls hz (by omega) hP hD hS (lv_sub hl [0, 1, 2] rfl)

