theorem mkM_eta (M : MS) : (mkM (mNow M) (mBef M) (mSav M) (mHis M) (mIsS M) (mRem M) (mErA M) (mFaA M) (mTxt M) (mTyp M) (mLin M) (mLnd M) (mThr M) (mFar M) (mGrp M) (mSiz M) (mPla M) (mWro M) (mTol M) (mNum M)) = M := rfl
/-! the reference's writes -/
def hOk (b c d e : Bool) : Bool := b && (c && (d && e))
def hThr (b c d e : Bool) : Int32 := if b = true then (if c = true then (if d = true then (if e = true then 0 else 4) else 3) else 2) else 1
def gThr (b : Bool) : Int32 := if b = true then 0 else 1
theorem hOk_1 {b c d e : Bool} (h : hOk b c d e = true) : b = true ∧ c = true ∧ d = true ∧ e = true := by
  cases b <;> cases c <;> cases d <;> cases e <;> first | exact ⟨rfl, rfl, rfl, rfl⟩ | exact absurd h (by decide)
theorem posN {k : Nat} (hk : k < 2 ^ 31) (h : ¬ nI k ≤ 0) : 0 < k := by
  rcases Nat.eq_zero_or_pos k with e | e
  · subst e; exact absurd (by decide) h
  · exact e
theorem neN {k n : Nat} {x : Int32} (e : x = nI n) (h : ¬ nI k = x) : k ≠ n := fun h1 => h (by rw [e, h1])
theorem eqN {k n : Nat} {x : Int32} (e : x = nI n) (hk : k < 2 ^ 31) (hn : n < 2 ^ 31) (h : nI k = x) : k = n := (nI_eq hk hn).1 (by rw [h, e])
theorem ltN {k n : Nat} {x : Int32} (e : x = nI n) (hk : k < 2 ^ 31) (h : ¬ x ≤ nI k) : k < n := by
  rcases Nat.lt_or_ge k n with a | a
  · exact a
  · exact absurd (by rw [e]; exact nI_le a hk) h
theorem nI_dec {r : Nat} (h : 0 < r) : nI r - 1 = nI (r - 1) := by
  obtain ⟨n, rfl⟩ : ∃ n, r = n + 1 := ⟨r - 1, by omega⟩
  rw [nI_pred, Nat.add_sub_cancel]
theorem upd_o {f : Nat → Int32} {k j : Nat} {x y : Int32} (h : j ≠ k) (e : f j = y) : upd f k x j = y := by
  unfold upd; rw [if_neg h]; exact e
theorem upd_s {f : Nat → Int32} {k : Nat} {x : Int32} : upd f k x k = x := by
  unfold upd; rw [if_pos rfl]
theorem upd_n {f : Nat → Int32} {k j : Nat} {x : Int32} (h : j ≠ k) : upd f k x j = f j := upd_o h rfl
theorem NowOK_ext {f g : Nat → Int32} (h : NowOK f) (e : ∀ j, j < 178 → (j = 1 ∨ j = 2 ∨ ∃ k, k < 12 ∧ (j = 22 + 13 * k + 0 ∨ j = 22 + 13 * k + 1 ∨ j = 22 + 13 * k + 4)) → g j = f j) : NowOK g := by
  unfold NowOK at h ⊢
  have e1 := e 1 (by decide) (Or.inl rfl)
  have e2 := e 2 (by decide) (Or.inr (Or.inl rfl))
  have s1 : mP g = mP f := by unfold mP; rw [e1]
  have s2 : mS g = mS f := by unfold mS; rw [e2]
  rw [s1, s2, e1, e2]
  refine ⟨h.1, h.2.1, fun k hk => ?_, fun k hk => ?_⟩
  · rw [e _ (by omega) (Or.inr (Or.inr ⟨k, hk, Or.inl rfl⟩)), e _ (by omega) (Or.inr (Or.inr ⟨k, hk, Or.inr (Or.inl rfl)⟩))]
    exact h.2.2.1 k hk
  · rw [e _ (by omega) (Or.inr (Or.inr ⟨k, hk, Or.inr (Or.inr rfl)⟩))]
    exact h.2.2.2 k hk
theorem NowOK_upd {f : Nat → Int32} {i : Nat} {x : Int32} (h : NowOK f) {k j : Nat} (hk : k < 12) (hj : (5 ≤ j ∧ j < 13) ∨ j = 2 ∨ j = 3) (hi : i = 22 + 13 * k + j) : NowOK (upd f i x) :=
  NowOK_ext h (fun q hq hc => upd_n (by rcases hc with r | r | ⟨k', hk', r | r | r⟩ <;> omega))
theorem NowOK_fer {f : Nat → Int32} {i : Nat} {x : Int32} (h : NowOK f) {k : Nat} (hk : k < 12) (hi : i = 22 + 13 * k + 4) (hx : x = -1 ∨ vp_in x 4) : NowOK (upd f i x) := by
  have e : ∀ j, j ≠ i → upd f i x j = f j := fun j hj => upd_n hj
  unfold NowOK at h ⊢
  have s1 : mP (upd f i x) = mP f := by unfold mP; rw [e 1 (by omega)]
  have s2 : mS (upd f i x) = mS f := by unfold mS; rw [e 2 (by omega)]
  rw [s1, s2, e 1 (by omega), e 2 (by omega)]
  refine ⟨h.1, h.2.1, fun q hq => ?_, fun q hq => ?_⟩
  · rw [e _ (by omega), e _ (by omega)]
    exact h.2.2.1 q hq
  · by_cases hqk : q = k
    · subst hqk; rw [← hi, upd_s]; exact hx
    · rw [e _ (by omega)]; exact h.2.2.2 q hq
theorem X8_isIsland_in {x : Int32} (h : f_X8_isIsland x = true) : vp_in x 8 :=
  X8_isIn_of (n := 8) (by decide) (by rw [show nI 8 - 1 = (7 : Int32) by decide +kernel]; exact h)
theorem X8_lo_in2 {nw : Nat → Int32} (hM : NowOK nw) {y : Int32} (h : vp_in y (mS nw)) : vp_in (f_X8_of nw y 0) 8 := by
  have h12 := hM.1.2
  obtain ⟨j, hj, rfl⟩ := vp_in_of h (by omega)
  exact X8_lo_in hM hj
theorem X8_hi_in2 {nw : Nat → Int32} (hM : NowOK nw) {y : Int32} (h : vp_in y (mS nw)) : vp_in (f_X8_of nw y 1) 8 := by
  have h12 := hM.1.2
  obtain ⟨j, hj, rfl⟩ := vp_in_of h (by omega)
  exact X8_hi_in hM hj
theorem X8_of_in {nw : Nat → Int32} {y : Int32} {n : Nat} : f_X8_of nw y n = f_X8_of nw y n := rfl
def f_X8_holds_j50  (s0_50 : Bool) (thr0_50 : Int32) : Bool × Int32 := (s0_50, thr0_50)
def f_X8_holds_j35  (s0_35 : Int32) : Bool × Int32 := (if s0_35 = 0 then (f_X8_holds_j50 (true) (s0_35)) else (f_X8_holds_j50 (false) (s0_35)))
def f_X8_holds (c1 : Bool) (c2 : Bool) (c3 : Bool) (c4 : Bool) : Bool × Int32 := (if c1 = true then (if c2 = true then (if c3 = true then (if c4 = true then (f_X8_holds_j35 (0)) else (f_X8_holds_j35 (4))) else (f_X8_holds_j35 (3))) else (f_X8_holds_j35 (2))) else (f_X8_holds_j35 (1)))
theorem X8_holds_eq (c1 c2 c3 c4 : Bool) : f_X8_holds c1 c2 c3 c4 = (hOk c1 c2 c3 c4, hThr c1 c2 c3 c4) := by
  cases c1 <;> cases c2 <;> cases c3 <;> cases c4 <;> rfl

def f_X8_goes (c1 : Bool) : Bool × Int32 := ((hOk c1 true true true), (hThr c1 true true true))
theorem X8_goes_eq (c1 : Bool) : f_X8_goes c1 = (c1, gThr c1) := by cases c1 <;> rfl

def f_X8_copies_l3b (F1 : (Nat → Int32)) (x1 : Nat) (x2 : Nat) (k3 : Nat) (arb1_3 : (Nat → Int32)) : Sum ((Nat → Int32)) ((Nat → Int32)) := (Sum.inr (upd arb1_3 (x2 + k3) (F1 (x1 + k3))))
def f_X8_copies_l3x (F1 : (Nat → Int32)) (x1 : Nat) (x2 : Nat) (arb1_3 : (Nat → Int32)) : (Nat → Int32) := arb1_3
def f_X8_copies_l3s (F1 : (Nat → Int32)) (x1 : Nat) (x2 : Nat) (k3 : Nat) (q_ : (Nat → Int32)) : Sum ((Nat → Int32)) ((Nat → Int32)) := f_X8_copies_l3b F1 x1 x2 k3 (q_)
def f_X8_copies_l3e (F1 : (Nat → Int32)) (x1 : Nat) (x2 : Nat) (q_ : (Nat → Int32)) : (Nat → Int32) := f_X8_copies_l3x F1 x1 x2 (q_)
def f_X8_copies_l3 (F1 : (Nat → Int32)) (x1 : Nat) (x2 : Nat) (n3 k3 : Nat) (arb1_3 : (Nat → Int32)) : (Nat → Int32) := lpF (f_X8_copies_l3s F1 x1 x2) (f_X8_copies_l3e F1 x1 x2) n3 k3 arb1_3
def f_X8_copies (F1 : (Nat → Int32)) (F2 : (Nat → Int32)) (x1 : Nat) (x2 : Nat) : (Nat → Int32) := (f_X8_copies_l3 F1 x1 x2 (178) 0 (F2))
def f_X8_begins (nw : (Nat → Int32)) (bf : (Nat → Int32)) : (Nat → Int32) := (lt_ (f_X8_copies nw bf (0) (0)) (fun y10 => y10))

def f_X8_remembers_j50 (bf : (Nat → Int32)) (his0_50 : (Nat → Int32)) (rem0_50 : Nat) : (Nat → Int32) × Nat := (lt_ (f_X8_copies bf his0_50 (0) ((rem0_50 * 178))) (fun y67 => (y67, (rem0_50 + 1))))
def f_X8_remembers_l11b (bf : (Nat → Int32)) (rm : Nat) (k11 : Nat) (his0_11 : (Nat → Int32)) : Sum ((Nat → Int32) × Nat) ((Nat → Int32)) := (Sum.inr (upd his0_11 k11 (his0_11 (k11 + 178))))
def f_X8_remembers_l11x (bf : (Nat → Int32)) (rm : Nat) (his0_11 : (Nat → Int32)) : (Nat → Int32) × Nat := (f_X8_remembers_j50 bf (his0_11) ((rm - 1)))
def f_X8_remembers_l11s (bf : (Nat → Int32)) (rm : Nat) (k11 : Nat) (q_ : (Nat → Int32)) : Sum ((Nat → Int32) × Nat) ((Nat → Int32)) := f_X8_remembers_l11b bf rm k11 (q_)
def f_X8_remembers_l11e (bf : (Nat → Int32)) (rm : Nat) (q_ : (Nat → Int32)) : (Nat → Int32) × Nat := f_X8_remembers_l11x bf rm (q_)
def f_X8_remembers_l11 (bf : (Nat → Int32)) (rm : Nat) (n11 k11 : Nat) (his0_11 : (Nat → Int32)) : (Nat → Int32) × Nat := lpF (f_X8_remembers_l11s bf rm) (f_X8_remembers_l11e bf rm) n11 k11 his0_11
def f_X8_remembers (bf : (Nat → Int32)) (hs : (Nat → Int32)) (rm : Nat) : (Nat → Int32) × Nat := (if (nI rm) = 8 then (f_X8_remembers_l11 bf rm (1246) 0 (hs)) else (f_X8_remembers_j50 bf (hs) (rm)))
def f_X8_ends (nw : (Nat → Int32)) (bf : (Nat → Int32)) (hs : (Nat → Int32)) (rm : Nat) (th : Int32) (x : Int32) : Int32 × (Nat → Int32) × (Nat → Int32) × Nat := (if th = 0 then (lt_ (f_X8_remembers bf hs rm) (fun y23 => (x, nw, y23.1, y23.2))) else (lt_ (f_X8_copies bf nw (0) (0)) (fun y17 => (0, y17, hs, rm))))
def f_X8_joins_j23 (nw : (Nat → Int32)) (x : Int32) (s0_23 : Bool) (s1_23 : Bool) : Int32 × (Nat → Int32) × Int32 := (if (hOk s1_23 s0_23 true true) = true then ((nI (mP nw)), (upd (upd (upd nw ((14 + 2 * (mP nw)) + 0) x) ((14 + 2 * (mP nw)) + 1) 0) 1 (nI ((mP nw) + 1))), (hThr s1_23 s0_23 true true)) else (0, nw, (hThr s1_23 s0_23 true true)))
def f_X8_joins (nw : (Nat → Int32)) (x : Int32) : Int32 × (Nat → Int32) × Int32 := (if 4 ≤ (nI (mP nw)) then (f_X8_joins_j23 nw x (false) ((f_X8_isIn (x) (0) (99)))) else (f_X8_joins_j23 nw x (true) ((f_X8_isIn (x) (0) (99)))))
def f_X8_addPlayer (nw : (Nat → Int32)) (bf : (Nat → Int32)) (hs : (Nat → Int32)) (rm : Nat) (x : Int32) : Int32 × (Nat → Int32) × (Nat → Int32) × (Nat → Int32) × Nat × Int32 := (lt_ (f_X8_joins nw (x)) (fun y7 => (lt_ (f_X8_ends y7.2.1 (f_X8_copies nw bf 0 0) hs rm y7.2.2 (y7.1)) (fun y10 => (y10.1, y10.2.1, (f_X8_copies nw bf 0 0), y10.2.2.1, y10.2.2.2, y7.2.2)))))
def f_X8_adds_l92b (nw : (Nat → Int32)) (x : Int32) (y : Int32) (w : Int32) (k92 : Nat) (v4_92 : Nat) (now0_92 : (Nat → Int32)) (thr0_92 : Int32) : Sum (Int32 × (Nat → Int32) × Int32) (Nat × (Nat → Int32) × Int32) := (Sum.inr (v4_92, (upd now0_92 (v4_92 + k92) 0), thr0_92))
def f_X8_adds_l92x (nw : (Nat → Int32)) (x : Int32) (y : Int32) (w : Int32) (v4_92 : Nat) (now0_92 : (Nat → Int32)) (thr0_92 : Int32) : Int32 × (Nat → Int32) × Int32 := ((nI (mS nw)), (upd (upd (upd (upd (upd (upd now0_92 (v4_92 + 0) (imin x y)) (v4_92 + 1) (imax x y)) (v4_92 + 2) w) (v4_92 + 3) (-1)) (v4_92 + 4) (-1)) 2 (nI ((mS nw) + 1))), thr0_92)
def f_X8_adds_l92s (nw : (Nat → Int32)) (x : Int32) (y : Int32) (w : Int32) (k92 : Nat) (q_ : Nat × (Nat → Int32) × Int32) : Sum (Int32 × (Nat → Int32) × Int32) (Nat × (Nat → Int32) × Int32) := f_X8_adds_l92b nw x y w k92 (q_.1) (q_.2.1) (q_.2.2)
def f_X8_adds_l92e (nw : (Nat → Int32)) (x : Int32) (y : Int32) (w : Int32) (q_ : Nat × (Nat → Int32) × Int32) : Int32 × (Nat → Int32) × Int32 := f_X8_adds_l92x nw x y w (q_.1) (q_.2.1) (q_.2.2)
def f_X8_adds_l92 (nw : (Nat → Int32)) (x : Int32) (y : Int32) (w : Int32) (n92 k92 : Nat) (v4_92 : Nat) (now0_92 : (Nat → Int32)) (thr0_92 : Int32) : Int32 × (Nat → Int32) × Int32 := lpF (f_X8_adds_l92s nw x y w) (f_X8_adds_l92e nw x y w) n92 k92 (v4_92, now0_92, thr0_92)
def f_X8_adds_j70 (nw : (Nat → Int32)) (x : Int32) (y : Int32) (w : Int32) (s0_70 : Bool) (s1_70 : Bool) (s2_70 : Bool) (s3_70 : Bool) : Int32 × (Nat → Int32) × Int32 := (if (hOk s3_70 s2_70 s1_70 s0_70) = true then (f_X8_adds_l92 nw x y w (13) 0 ((22 + 13 * (mS nw))) (nw) ((hThr s3_70 s2_70 s1_70 s0_70))) else (0, nw, (hThr s3_70 s2_70 s1_70 s0_70)))
def f_X8_adds_j54 (nw : (Nat → Int32)) (x : Int32) (y : Int32) (w : Int32) (s0_54 : Bool) (s1_54 : Bool) (s2_54 : Bool) : Int32 × (Nat → Int32) × Int32 := (if 12 ≤ (nI (mS nw)) then (f_X8_adds_j70 nw x y w (false) (s0_54) (s1_54) (s2_54)) else (f_X8_adds_j70 nw x y w (true) (s0_54) (s1_54) (s2_54)))
def f_X8_adds_j40 (nw : (Nat → Int32)) (x : Int32) (y : Int32) (w : Int32) (s0_40 : Bool) (s1_40 : Bool) : Int32 × (Nat → Int32) × Int32 := (if (f_X8_isPair nw (x) (y)) = true then (f_X8_adds_j54 nw x y w (false) (s0_40) (s1_40)) else (f_X8_adds_j54 nw x y w (true) (s0_40) (s1_40)))
def f_X8_adds_j39 (nw : (Nat → Int32)) (x : Int32) (y : Int32) (w : Int32) (s0_39 : Bool) : Int32 × (Nat → Int32) × Int32 := (f_X8_adds_j40 nw x y w (false) (s0_39))
def f_X8_adds_j20 (nw : (Nat → Int32)) (x : Int32) (y : Int32) (w : Int32) (s0_20 : Bool) : Int32 × (Nat → Int32) × Int32 := (if x = y then (f_X8_adds_j39 nw x y w (s0_20)) else (if (f_X8_isIn (w) (1) (9)) = true then (f_X8_adds_j40 nw x y w (true) (s0_20)) else (f_X8_adds_j39 nw x y w (s0_20))))
def f_X8_adds_j19 (nw : (Nat → Int32)) (x : Int32) (y : Int32) (w : Int32) : Int32 × (Nat → Int32) × Int32 := (f_X8_adds_j20 nw x y w (false))
def f_X8_adds (nw : (Nat → Int32)) (x : Int32) (y : Int32) (w : Int32) : Int32 × (Nat → Int32) × Int32 := (if (f_X8_isIsland (x)) = true then (if (f_X8_isIsland (y)) = true then (f_X8_adds_j20 nw x y w (true)) else (f_X8_adds_j19 nw x y w)) else (f_X8_adds_j19 nw x y w))
def f_X8_addSite (nw : (Nat → Int32)) (bf : (Nat → Int32)) (hs : (Nat → Int32)) (rm : Nat) (x : Int32) (y : Int32) (w : Int32) : Int32 × (Nat → Int32) × (Nat → Int32) × (Nat → Int32) × Nat × Int32 := (lt_ (f_X8_adds nw (x) (y) (w)) (fun y9 => (lt_ (f_X8_ends y9.2.1 (f_X8_copies nw bf 0 0) hs rm y9.2.2 (y9.1)) (fun y12 => (y12.1, y12.2.1, (f_X8_copies nw bf 0 0), y12.2.2.1, y12.2.2.2, y9.2.2)))))
def f_X8_dresses (nw : (Nat → Int32)) (x : Int32) (y : Int32) : Int32 × (Nat → Int32) × Int32 := (if (hOk (f_X8_isIsland (x)) (f_X8_isIn (y) (0) (3)) true true) = true then ((nw (6 + x.toNatClampNeg)), (upd nw (6 + x.toNatClampNeg) y), (hThr (f_X8_isIsland (x)) (f_X8_isIn (y) (0) (3)) true true)) else (0, nw, (hThr (f_X8_isIsland (x)) (f_X8_isIn (y) (0) (3)) true true)))
def f_X8_setSuit (nw : (Nat → Int32)) (bf : (Nat → Int32)) (hs : (Nat → Int32)) (rm : Nat) (x : Int32) (y : Int32) : Int32 × (Nat → Int32) × (Nat → Int32) × (Nat → Int32) × Nat × Int32 := (lt_ (f_X8_dresses nw (x) (y)) (fun y8 => (lt_ (f_X8_ends y8.2.1 (f_X8_copies nw bf 0 0) hs rm y8.2.2 (y8.1)) (fun y11 => (y11.1, y11.2.1, (f_X8_copies nw bf 0 0), y11.2.2.1, y11.2.2.2, y8.2.2)))))
def f_X8_floods_j28  (v2_28 : Int32) (now0_28 : (Nat → Int32)) (thr0_28 : Int32) : Int32 × (Nat → Int32) × Int32 := (v2_28, now0_28, thr0_28)
def f_X8_floods (nw : (Nat → Int32)) (x : Int32) : Int32 × (Nat → Int32) × Int32 := (if (f_X8_isIn (x) (0) (9)) = true then (f_X8_floods_j28 ((nw 0)) ((upd nw 0 x)) ((gThr (f_X8_isIn (x) (0) (9))))) else (f_X8_floods_j28 ((nw 0)) (nw) ((gThr (f_X8_isIn (x) (0) (9))))))
def f_X8_setTide (nw : (Nat → Int32)) (bf : (Nat → Int32)) (hs : (Nat → Int32)) (rm : Nat) (x : Int32) : Int32 × (Nat → Int32) × (Nat → Int32) × (Nat → Int32) × Nat × Int32 := (lt_ (f_X8_floods nw (x)) (fun y7 => (lt_ (f_X8_ends y7.2.1 (f_X8_copies nw bf 0 0) hs rm y7.2.2 (y7.1)) (fun y10 => (y10.1, y10.2.1, (f_X8_copies nw bf 0 0), y10.2.2.1, y10.2.2.2, y7.2.2)))))
def f_X8_bids_j158  (s0_158 : Int32) (now0_158 : (Nat → Int32)) (thr0_158 : Int32) : Int32 × (Nat → Int32) × Int32 := (s0_158, now0_158, thr0_158)
def f_X8_bids_j139 (x : Int32) (y : Int32) (v : Bool) (s0_139 : Bool) (s1_139 : Nat) (now0_139 : (Nat → Int32)) (thr0_139 : Int32) : Int32 × (Nat → Int32) × Int32 := (if v = true then (f_X8_bids_j158 ((f_X8_bidsOn (upd now0_139 s1_139 (bI s0_139)) (y))) ((upd now0_139 s1_139 (bI s0_139))) (thr0_139)) else (f_X8_bids_j158 ((f_X8_available (upd now0_139 s1_139 (bI s0_139)) (x.toNatClampNeg))) ((upd now0_139 s1_139 (bI s0_139))) (thr0_139)))
def f_X8_bids_j86 (nw : (Nat → Int32)) (x : Int32) (y : Int32) (w : Int32) (v : Bool) (s0_86 : Bool) (thr0_86 : Int32) : Int32 × (Nat → Int32) × Int32 := (if (hOk true true true s0_86) = true then (if v = true then (f_X8_bids_j139 x y v (true) ((((22 + 13 * y.toNatClampNeg) + 9) + x.toNatClampNeg)) ((upd nw (((22 + 13 * y.toNatClampNeg) + 5) + x.toNatClampNeg) w)) ((hThr true true true s0_86))) else (f_X8_bids_j139 x y v (false) ((((22 + 13 * y.toNatClampNeg) + 9) + x.toNatClampNeg)) ((upd nw (((22 + 13 * y.toNatClampNeg) + 5) + x.toNatClampNeg) w)) ((hThr true true true s0_86)))) else (0, nw, (hThr true true true s0_86)))
def f_X8_bids_j85 (nw : (Nat → Int32)) (x : Int32) (y : Int32) (w : Int32) (v : Bool) (thr0_85 : Int32) : Int32 × (Nat → Int32) × Int32 := (f_X8_bids_j86 nw x y w v (false) (thr0_85))
def f_X8_bids_j81 (nw : (Nat → Int32)) (x : Int32) (y : Int32) (w : Int32) (v : Bool) (thr0_81 : Int32) : Int32 × (Nat → Int32) × Int32 := (f_X8_bids_j86 nw x y w v (true) (thr0_81))
def f_X8_bids_j42 (nw : (Nat → Int32)) (x : Int32) (y : Int32) (w : Int32) (v : Bool) (s0_42 : Bool) (s1_42 : Bool) (s2_42 : Bool) : Int32 × (Nat → Int32) × Int32 := (if (hOk s2_42 s1_42 s0_42 true) = true then (if w ≤ (f_X8_highest nw (y)) then (f_X8_bids_j85 nw x y w v ((hThr s2_42 s1_42 s0_42 true))) else (if v = true then (f_X8_bids_j81 nw x y w v ((hThr s2_42 s1_42 s0_42 true))) else (if ((f_X8_available nw (x.toNatClampNeg)) + (f_X8_reservedOn nw (x.toNatClampNeg) (y))) < w then (f_X8_bids_j85 nw x y w v ((hThr s2_42 s1_42 s0_42 true))) else (f_X8_bids_j81 nw x y w v ((hThr s2_42 s1_42 s0_42 true)))))) else (0, nw, (hThr s2_42 s1_42 s0_42 true)))
def f_X8_bids_j22 (nw : (Nat → Int32)) (x : Int32) (y : Int32) (w : Int32) (v : Bool) (s0_22 : Bool) : Int32 × (Nat → Int32) × Int32 := (if (f_X8_isDone nw (y)) = true then (f_X8_bids_j42 nw x y w v (false) ((f_X8_isIn (w) (1) (99))) (s0_22)) else (f_X8_bids_j42 nw x y w v (true) ((f_X8_isIn (w) (1) (99))) (s0_22)))
def f_X8_bids_j21 (nw : (Nat → Int32)) (x : Int32) (y : Int32) (w : Int32) (v : Bool) : Int32 × (Nat → Int32) × Int32 := (f_X8_bids_j22 nw x y w v (false))
def f_X8_bids (nw : (Nat → Int32)) (x : Int32) (y : Int32) (w : Int32) (v : Bool) : Int32 × (Nat → Int32) × Int32 := (if (f_X8_isPlayer nw (x)) = true then (if (f_X8_isSite nw (y)) = true then (f_X8_bids_j22 nw x y w v (true)) else (f_X8_bids_j21 nw x y w v)) else (f_X8_bids_j21 nw x y w v))
def f_X8_placeBid (nw : (Nat → Int32)) (bf : (Nat → Int32)) (hs : (Nat → Int32)) (rm : Nat) (x : Int32) (y : Int32) (w : Int32) : Int32 × (Nat → Int32) × (Nat → Int32) × (Nat → Int32) × Nat × Int32 := (lt_ (f_X8_bids nw (x) (y) (w) (false)) (fun y10 => (lt_ (f_X8_ends y10.2.1 (f_X8_copies nw bf 0 0) hs rm y10.2.2 (y10.1)) (fun y13 => (y13.1, y13.2.1, (f_X8_copies nw bf 0 0), y13.2.2.1, y13.2.2.2, y10.2.2)))))
def f_X8_placeBluff (nw : (Nat → Int32)) (bf : (Nat → Int32)) (hs : (Nat → Int32)) (rm : Nat) (x : Int32) (y : Int32) (w : Int32) : Int32 × (Nat → Int32) × (Nat → Int32) × (Nat → Int32) × Nat × Int32 := (lt_ (f_X8_bids nw (x) (y) (w) (true)) (fun y10 => (lt_ (f_X8_ends y10.2.1 (f_X8_copies nw bf 0 0) hs rm y10.2.2 (y10.1)) (fun y13 => (y13.1, y13.2.1, (f_X8_copies nw bf 0 0), y13.2.2.1, y13.2.2.2, y10.2.2)))))
def f_X8_drops_j53 (nw : (Nat → Int32)) (x : Int32) (y : Int32) (v3_53 : Int32) (s0_53 : Bool) (s1_53 : Bool) (s2_53 : Bool) : Int32 × (Nat → Int32) × Int32 := (if (hOk s2_53 s1_53 s0_53 true) = true then (v3_53, (upd (upd nw (((22 + 13 * y.toNatClampNeg) + 5) + x.toNatClampNeg) 0) (((22 + 13 * y.toNatClampNeg) + 9) + x.toNatClampNeg) 0), (hThr s2_53 s1_53 s0_53 true)) else (0, nw, (hThr s2_53 s1_53 s0_53 true)))
def f_X8_drops_j38 (nw : (Nat → Int32)) (x : Int32) (y : Int32) (v3_38 : Int32) (s0_38 : Bool) (s1_38 : Bool) : Int32 × (Nat → Int32) × Int32 := (if (f_X8_of nw (y) (4)) = x then (f_X8_drops_j53 nw x y (v3_38) (false) (s0_38) (s1_38)) else (f_X8_drops_j53 nw x y (v3_38) (true) (s0_38) (s1_38)))
def f_X8_drops_j29 (nw : (Nat → Int32)) (x : Int32) (y : Int32) (v3_29 : Int32) (s0_29 : Bool) : Int32 × (Nat → Int32) × Int32 := (if v3_29 ≤ 0 then (f_X8_drops_j38 nw x y (v3_29) (false) (s0_29)) else (f_X8_drops_j38 nw x y (v3_29) (true) (s0_29)))
def f_X8_drops_j28 (nw : (Nat → Int32)) (x : Int32) (y : Int32) (v3_28 : Int32) : Int32 × (Nat → Int32) × Int32 := (f_X8_drops_j29 nw x y (v3_28) (false))
def f_X8_drops (nw : (Nat → Int32)) (x : Int32) (y : Int32) : Int32 × (Nat → Int32) × Int32 := (if (f_X8_isPlayer nw (x)) = true then (if (f_X8_isSite nw (y)) = true then (f_X8_drops_j29 nw x y ((f_X8_amountOf nw (x) (y))) (true)) else (f_X8_drops_j28 nw x y ((f_X8_amountOf nw (x) (y))))) else (f_X8_drops_j28 nw x y ((f_X8_amountOf nw (x) (y)))))
def f_X8_withdrawBid (nw : (Nat → Int32)) (bf : (Nat → Int32)) (hs : (Nat → Int32)) (rm : Nat) (x : Int32) (y : Int32) : Int32 × (Nat → Int32) × (Nat → Int32) × (Nat → Int32) × Nat × Int32 := (lt_ (f_X8_drops nw (x) (y)) (fun y8 => (lt_ (f_X8_ends y8.2.1 (f_X8_copies nw bf 0 0) hs rm y8.2.2 (y8.1)) (fun y11 => (y11.1, y11.2.1, (f_X8_copies nw bf 0 0), y11.2.2.1, y11.2.2.2, y8.2.2)))))
def f_X8_ferries_j170  (v3_170 : Int32) (s0_170 : Bool) (s1_170 : Int32) (thr0_170 : Int32) : Sum (Int32 × (Nat → Int32) × Int32) (Int32 × Int32 × Int32) := (Sum.inr (v3_170, (s1_170 + (bI s0_170)), thr0_170))
def f_X8_ferries_l144b (nw : (Nat → Int32)) (x : Int32) (y : Int32) (k144 : Nat) (v3_144 : Int32) (v7_144 : Int32) (thr0_144 : Int32) : Sum (Int32 × (Nat → Int32) × Int32) (Int32 × Int32 × Int32) := (if (f_X8_of nw (y) ((5 + k144))) ≤ v3_144 then (f_X8_ferries_j170 (v3_144) (false) (v7_144) (thr0_144)) else (f_X8_ferries_j170 (v3_144) (true) (v7_144) (thr0_144)))
def f_X8_ferries_l144x (nw : (Nat → Int32)) (x : Int32) (y : Int32) (v3_144 : Int32) (v7_144 : Int32) (thr0_144 : Int32) : Int32 × (Nat → Int32) × Int32 := (v7_144, (upd (upd nw ((14 + 2 * x.toNatClampNeg) + 1) 1) ((22 + 13 * y.toNatClampNeg) + 4) x), thr0_144)
def f_X8_ferries_l144s (nw : (Nat → Int32)) (x : Int32) (y : Int32) (k144 : Nat) (q_ : Int32 × Int32 × Int32) : Sum (Int32 × (Nat → Int32) × Int32) (Int32 × Int32 × Int32) := f_X8_ferries_l144b nw x y k144 (q_.1) (q_.2.1) (q_.2.2)
def f_X8_ferries_l144e (nw : (Nat → Int32)) (x : Int32) (y : Int32) (q_ : Int32 × Int32 × Int32) : Int32 × (Nat → Int32) × Int32 := f_X8_ferries_l144x nw x y (q_.1) (q_.2.1) (q_.2.2)
def f_X8_ferries_l144 (nw : (Nat → Int32)) (x : Int32) (y : Int32) (n144 k144 : Nat) (v3_144 : Int32) (v7_144 : Int32) (thr0_144 : Int32) : Int32 × (Nat → Int32) × Int32 := lpF (f_X8_ferries_l144s nw x y) (f_X8_ferries_l144e nw x y) n144 k144 (v3_144, v7_144, thr0_144)
def f_X8_ferries_j126 (nw : (Nat → Int32)) (x : Int32) (y : Int32) (v3_126 : Int32) (v5_126 : Bool) (v6_126 : Bool) (s0_126 : Bool) (s1_126 : Bool) : Int32 × (Nat → Int32) × Int32 := (if (hOk s1_126 s0_126 v5_126 v6_126) = true then (f_X8_ferries_l144 nw x y (4) 0 (v3_126) (0) ((hThr s1_126 s0_126 v5_126 v6_126))) else (0, nw, (hThr s1_126 s0_126 v5_126 v6_126)))
def f_X8_ferries_j112 (nw : (Nat → Int32)) (x : Int32) (y : Int32) (v3_112 : Int32) (v4_112 : Bool) (v5_112 : Bool) (s0_112 : Bool) : Int32 × (Nat → Int32) × Int32 := (if v3_112 ≤ 0 then (f_X8_ferries_j126 nw x y (v3_112) (v5_112) (s0_112) (false) (v4_112)) else (f_X8_ferries_j126 nw x y (v3_112) (v5_112) (s0_112) (true) (v4_112)))
def f_X8_ferries_j111 (nw : (Nat → Int32)) (x : Int32) (y : Int32) (v3_111 : Int32) (v4_111 : Bool) (v5_111 : Bool) : Int32 × (Nat → Int32) × Int32 := (f_X8_ferries_j112 nw x y (v3_111) (v4_111) (v5_111) (false))
def f_X8_ferries_j107 (nw : (Nat → Int32)) (x : Int32) (y : Int32) (v3_107 : Int32) (v4_107 : Bool) (v5_107 : Bool) : Int32 × (Nat → Int32) × Int32 := (f_X8_ferries_j112 nw x y (v3_107) (v4_107) (v5_107) (true))
def f_X8_ferries_j64 (nw : (Nat → Int32)) (x : Int32) (y : Int32) (v3_64 : Int32) (v4_64 : Bool) (s0_64 : Bool) : Int32 × (Nat → Int32) × Int32 := (if v4_64 = true then (if (nw ((6 + (f_X8_of nw (y) (0)))).toNatClampNeg) = x then (f_X8_ferries_j107 nw x y (v3_64) (v4_64) (s0_64)) else (if (nw ((6 + (f_X8_of nw (y) (1)))).toNatClampNeg) = x then (f_X8_ferries_j107 nw x y (v3_64) (v4_64) (s0_64)) else (f_X8_ferries_j111 nw x y (v3_64) (v4_64) (s0_64)))) else (f_X8_ferries_j111 nw x y (v3_64) (v4_64) (s0_64)))
def f_X8_ferries_j63 (nw : (Nat → Int32)) (x : Int32) (y : Int32) (v3_63 : Int32) (v4_63 : Bool) : Int32 × (Nat → Int32) × Int32 := (f_X8_ferries_j64 nw x y (v3_63) (v4_63) (false))
def f_X8_ferries_j28 (nw : (Nat → Int32)) (x : Int32) (y : Int32) (v3_28 : Int32) (s0_28 : Bool) : Int32 × (Nat → Int32) × Int32 := (if s0_28 = true then (if (nw ((14 + 2 * x.toNatClampNeg) + 1)) = 0 then (if (f_X8_of nw (y) (4)) = (-1) then (f_X8_ferries_j64 nw x y (v3_28) (s0_28) (true)) else (f_X8_ferries_j63 nw x y (v3_28) (s0_28))) else (f_X8_ferries_j63 nw x y (v3_28) (s0_28))) else (f_X8_ferries_j63 nw x y (v3_28) (s0_28)))
def f_X8_ferries_j27 (nw : (Nat → Int32)) (x : Int32) (y : Int32) (v3_27 : Int32) : Int32 × (Nat → Int32) × Int32 := (f_X8_ferries_j28 nw x y (v3_27) (false))
def f_X8_ferries (nw : (Nat → Int32)) (x : Int32) (y : Int32) : Int32 × (Nat → Int32) × Int32 := (if (f_X8_isPlayer nw (x)) = true then (if (f_X8_isSite nw (y)) = true then (f_X8_ferries_j28 nw x y ((f_X8_amountOf nw (x) (y))) (true)) else (f_X8_ferries_j27 nw x y ((f_X8_amountOf nw (x) (y))))) else (f_X8_ferries_j27 nw x y ((f_X8_amountOf nw (x) (y)))))
def f_X8_playFerry (nw : (Nat → Int32)) (bf : (Nat → Int32)) (hs : (Nat → Int32)) (rm : Nat) (x : Int32) (y : Int32) : Int32 × (Nat → Int32) × (Nat → Int32) × (Nat → Int32) × Nat × Int32 := (lt_ (f_X8_ferries nw (x) (y)) (fun y8 => (lt_ (f_X8_ends y8.2.1 (f_X8_copies nw bf 0 0) hs rm y8.2.2 (y8.1)) (fun y11 => (y11.1, y11.2.1, (f_X8_copies nw bf 0 0), y11.2.2.1, y11.2.2.2, y8.2.2)))))
def f_X8_settles_j255  (s0_255 : Bool) (now0_255 : (Nat → Int32)) (thr0_255 : Int32) : Int32 × (Nat → Int32) × Int32 := ((bI s0_255), now0_255, thr0_255)
def f_X8_settles_j244  (v4_244 : Bool) (s0_244 : Int32) (s1_244 : Nat) (now0_244 : (Nat → Int32)) (thr0_244 : Int32) : Int32 × (Nat → Int32) × Int32 := (if v4_244 = true then (f_X8_settles_j255 (true) ((upd now0_244 s1_244 s0_244)) (thr0_244)) else (f_X8_settles_j255 (false) ((upd now0_244 s1_244 s0_244)) (thr0_244)))
def f_X8_settles_j222 (x : Int32) (v2_222 : Nat) (v4_222 : Bool) (s0_222 : Bool) (s1_222 : Int32) (now0_222 : (Nat → Int32)) (thr0_222 : Int32) : Int32 × (Nat → Int32) × Int32 := (if v4_222 = true then (f_X8_settles_j244 (v4_222) ((nI v2_222)) (((22 + 13 * x.toNatClampNeg) + 3)) ((upd now0_222 5 (s1_222 + (bI s0_222)))) (thr0_222)) else (f_X8_settles_j244 (v4_222) ((-1)) (((22 + 13 * x.toNatClampNeg) + 3)) ((upd now0_222 5 (s1_222 + (bI s0_222)))) (thr0_222)))
def f_X8_settles_j167 (x : Int32) (v2_167 : Nat) (v3_167 : Bool) (v4_167 : Bool) (s0_167 : Int32) (now0_167 : (Nat → Int32)) (thr0_167 : Int32) : Int32 × (Nat → Int32) × Int32 := (if v3_167 = true then (f_X8_settles_j222 x (v2_167) (v4_167) (true) (((upd (upd (upd now0_167 ((14 + 2 * v2_167) + 0) ((now0_167 ((14 + 2 * v2_167) + 0)) - s0_167)) 3 (((upd now0_167 ((14 + 2 * v2_167) + 0) ((now0_167 ((14 + 2 * v2_167) + 0)) - s0_167)) 3) + s0_167)) 4 (((upd (upd now0_167 ((14 + 2 * v2_167) + 0) ((now0_167 ((14 + 2 * v2_167) + 0)) - s0_167)) 3 (((upd now0_167 ((14 + 2 * v2_167) + 0) ((now0_167 ((14 + 2 * v2_167) + 0)) - s0_167)) 3) + s0_167)) 4) + 1)) 5)) ((upd (upd (upd now0_167 ((14 + 2 * v2_167) + 0) ((now0_167 ((14 + 2 * v2_167) + 0)) - s0_167)) 3 (((upd now0_167 ((14 + 2 * v2_167) + 0) ((now0_167 ((14 + 2 * v2_167) + 0)) - s0_167)) 3) + s0_167)) 4 (((upd (upd now0_167 ((14 + 2 * v2_167) + 0) ((now0_167 ((14 + 2 * v2_167) + 0)) - s0_167)) 3 (((upd now0_167 ((14 + 2 * v2_167) + 0) ((now0_167 ((14 + 2 * v2_167) + 0)) - s0_167)) 3) + s0_167)) 4) + 1))) (thr0_167)) else (f_X8_settles_j222 x (v2_167) (v4_167) (false) (((upd (upd (upd now0_167 ((14 + 2 * v2_167) + 0) ((now0_167 ((14 + 2 * v2_167) + 0)) - s0_167)) 3 (((upd now0_167 ((14 + 2 * v2_167) + 0) ((now0_167 ((14 + 2 * v2_167) + 0)) - s0_167)) 3) + s0_167)) 4 (((upd (upd now0_167 ((14 + 2 * v2_167) + 0) ((now0_167 ((14 + 2 * v2_167) + 0)) - s0_167)) 3 (((upd now0_167 ((14 + 2 * v2_167) + 0) ((now0_167 ((14 + 2 * v2_167) + 0)) - s0_167)) 3) + s0_167)) 4) + 1)) 5)) ((upd (upd (upd now0_167 ((14 + 2 * v2_167) + 0) ((now0_167 ((14 + 2 * v2_167) + 0)) - s0_167)) 3 (((upd now0_167 ((14 + 2 * v2_167) + 0) ((now0_167 ((14 + 2 * v2_167) + 0)) - s0_167)) 3) + s0_167)) 4 (((upd (upd now0_167 ((14 + 2 * v2_167) + 0) ((now0_167 ((14 + 2 * v2_167) + 0)) - s0_167)) 3 (((upd now0_167 ((14 + 2 * v2_167) + 0) ((now0_167 ((14 + 2 * v2_167) + 0)) - s0_167)) 3) + s0_167)) 4) + 1))) (thr0_167)))
def f_X8_settles_l94b (x : Int32) (k94 : Nat) (v2_94 : Nat) (v3_94 : Bool) (v4_94 : Bool) (v5_94 : Int32) (now0_94 : (Nat → Int32)) (thr0_94 : Int32) : Sum (Int32 × (Nat → Int32) × Int32) (Nat × Bool × Bool × Int32 × (Nat → Int32) × Int32) := (Sum.inr (v2_94, v3_94, v4_94, v5_94, (upd (upd now0_94 (((22 + 13 * x.toNatClampNeg) + 5) + k94) 0) (((22 + 13 * x.toNatClampNeg) + 9) + k94) 0), thr0_94))
def f_X8_settles_l94x (x : Int32) (v2_94 : Nat) (v3_94 : Bool) (v4_94 : Bool) (v5_94 : Int32) (now0_94 : (Nat → Int32)) (thr0_94 : Int32) : Int32 × (Nat → Int32) × Int32 := (if v3_94 = true then (f_X8_settles_j167 x (v2_94) (v3_94) (v4_94) ((imin 5 (f_X8_available (upd now0_94 ((22 + 13 * x.toNatClampNeg) + 4) (-1)) (v2_94)))) ((upd now0_94 ((22 + 13 * x.toNatClampNeg) + 4) (-1))) (thr0_94)) else (f_X8_settles_j167 x (v2_94) (v3_94) (v4_94) (v5_94) ((upd now0_94 ((22 + 13 * x.toNatClampNeg) + 4) (-1))) (thr0_94)))
def f_X8_settles_l94s (x : Int32) (k94 : Nat) (q_ : Nat × Bool × Bool × Int32 × (Nat → Int32) × Int32) : Sum (Int32 × (Nat → Int32) × Int32) (Nat × Bool × Bool × Int32 × (Nat → Int32) × Int32) := f_X8_settles_l94b x k94 (q_.1) (q_.2.1) (q_.2.2.1) (q_.2.2.2.1) (q_.2.2.2.2.1) (q_.2.2.2.2.2)
def f_X8_settles_l94e (x : Int32) (q_ : Nat × Bool × Bool × Int32 × (Nat → Int32) × Int32) : Int32 × (Nat → Int32) × Int32 := f_X8_settles_l94x x (q_.1) (q_.2.1) (q_.2.2.1) (q_.2.2.2.1) (q_.2.2.2.2.1) (q_.2.2.2.2.2)
def f_X8_settles_l94 (x : Int32) (n94 k94 : Nat) (v2_94 : Nat) (v3_94 : Bool) (v4_94 : Bool) (v5_94 : Int32) (now0_94 : (Nat → Int32)) (thr0_94 : Int32) : Int32 × (Nat → Int32) × Int32 := lpF (f_X8_settles_l94s x) (f_X8_settles_l94e x) n94 k94 (v2_94, v3_94, v4_94, v5_94, now0_94, thr0_94)
def f_X8_settles_j73 (nw : (Nat → Int32)) (x : Int32) (v2_73 : Nat) (s0_73 : Bool) (thr0_73 : Int32) : Int32 × (Nat → Int32) × Int32 := (f_X8_settles_l94 x (4) 0 (v2_73) (s0_73) ((f_X8_doesBuild nw (x))) ((f_X8_of nw (x) ((5 + v2_73)))) (nw) (thr0_73))
def f_X8_settles_j40 (nw : (Nat → Int32)) (x : Int32) (s0_40 : Bool) (s1_40 : Bool) (s2_40 : Bool) : Int32 × (Nat → Int32) × Int32 := (if (hOk s2_40 s1_40 s0_40 true) = true then (if (f_X8_of nw (x) ((9 + (f_X8_winner nw x).toNatClampNeg))) = 1 then (f_X8_settles_j73 nw x ((f_X8_winner nw x).toNatClampNeg) (true) ((hThr s2_40 s1_40 s0_40 true))) else (f_X8_settles_j73 nw x ((f_X8_winner nw x).toNatClampNeg) (false) ((hThr s2_40 s1_40 s0_40 true)))) else (0, nw, (hThr s2_40 s1_40 s0_40 true)))
def f_X8_settles_j39 (nw : (Nat → Int32)) (x : Int32) (s0_39 : Bool) (s1_39 : Bool) : Int32 × (Nat → Int32) × Int32 := (f_X8_settles_j40 nw x (false) (s0_39) (s1_39))
def f_X8_settles_j19 (nw : (Nat → Int32)) (x : Int32) (s0_19 : Bool) (s1_19 : Bool) : Int32 × (Nat → Int32) × Int32 := (if (f_X8_isSite nw (x)) = true then (if (f_X8_bidsOn nw (x)) ≤ 0 then (f_X8_settles_j39 nw x (s0_19) (s1_19)) else (f_X8_settles_j40 nw x (true) (s0_19) (s1_19))) else (f_X8_settles_j39 nw x (s0_19) (s1_19)))
def f_X8_settles (nw : (Nat → Int32)) (x : Int32) : Int32 × (Nat → Int32) × Int32 := (if (f_X8_isDone nw (x)) = true then (f_X8_settles_j19 nw x (false) ((f_X8_isSite nw (x)))) else (f_X8_settles_j19 nw x (true) ((f_X8_isSite nw (x)))))
def f_X8_settle_j22  (s0_22 : Bool) (now0_22 : (Nat → Int32)) (bef0_22 : (Nat → Int32)) (his0_22 : (Nat → Int32)) (rem0_22 : Nat) (thr0_22 : Int32) : Bool × (Nat → Int32) × (Nat → Int32) × (Nat → Int32) × Nat × Int32 := (s0_22, now0_22, bef0_22, his0_22, rem0_22, thr0_22)
def f_X8_settle (nw : (Nat → Int32)) (bf : (Nat → Int32)) (hs : (Nat → Int32)) (rm : Nat) (x : Int32) : Bool × (Nat → Int32) × (Nat → Int32) × (Nat → Int32) × Nat × Int32 := (lt_ (f_X8_settles nw (x)) (fun y7 => (lt_ (f_X8_ends y7.2.1 (f_X8_copies nw bf 0 0) hs rm y7.2.2 (y7.1)) (fun y10 => (if y10.1 = 1 then (f_X8_settle_j22 (true) (y10.2.1) ((f_X8_copies nw bf 0 0)) (y10.2.2.1) (y10.2.2.2) (y7.2.2)) else (f_X8_settle_j22 (false) (y10.2.1) ((f_X8_copies nw bf 0 0)) (y10.2.2.1) (y10.2.2.2) (y7.2.2)))))))
def f_X8_undo_j64  (s0_64 : Int32) (now0_64 : (Nat → Int32)) (rem0_64 : Nat) (thr0_64 : Int32) : Int32 × (Nat → Int32) × Nat × Int32 := (s0_64, now0_64, rem0_64, thr0_64)
def f_X8_undo_j49  (now0_49 : (Nat → Int32)) (rem0_49 : Nat) (thr0_49 : Int32) : Int32 × (Nat → Int32) × Nat × Int32 := (if thr0_49 = 0 then (f_X8_undo_j64 ((nI rem0_49)) (now0_49) (rem0_49) (thr0_49)) else (f_X8_undo_j64 (0) (now0_49) (rem0_49) (thr0_49)))
def f_X8_undo_j13 (nw : (Nat → Int32)) (hs : (Nat → Int32)) (rm : Nat) (s0_13 : Bool) : Int32 × (Nat → Int32) × Nat × Int32 := (if s0_13 = true then (lt_ (f_X8_copies hs nw (((rm - 1) * 178)) (0)) (fun y46 => (f_X8_undo_j49 (y46) ((rm - 1)) ((gThr s0_13))))) else (f_X8_undo_j49 (nw) (rm) ((gThr s0_13))))
def f_X8_undo (nw : (Nat → Int32)) (hs : (Nat → Int32)) (rm : Nat) : Int32 × (Nat → Int32) × Nat × Int32 := (if (nI rm) ≤ 0 then (f_X8_undo_j13 nw hs rm (false)) else (f_X8_undo_j13 nw hs rm (true)))
def f_X8_save (nw : (Nat → Int32)) (sv : (Nat → Int32)) : Int32 × (Nat → Int32) × Bool × Int32 := (lt_ (f_X8_copies nw sv (0) (0)) (fun y15 => ((nI (mP nw)), y15, true, 0)))
def f_X8_restore (nw : (Nat → Int32)) (sv : (Nat → Int32)) (iS : Bool) (rm : Nat) : Int32 × (Nat → Int32) × Nat × Int32 := (if iS = true then (lt_ (f_X8_copies sv nw (0) (0)) (fun y23 => ((y23 1), y23, 0, (gThr iS)))) else (0, nw, rm, (gThr iS)))
