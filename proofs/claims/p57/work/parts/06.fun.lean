def f_X8_isIn_j15  (s0_15 : Bool) : Bool := s0_15
def f_X8_isIn_j14  : Bool := (f_X8_isIn_j15 (false))
def f_X8_isIn (x : Int32) (y : Int32) (w : Int32) : Bool := (if x < y then (f_X8_isIn_j14) else (if w < x then (f_X8_isIn_j14) else (f_X8_isIn_j15 (true))))
def f_X8_isIsland (x : Int32) : Bool := (f_X8_isIn (x) (0) (7))
def f_X8_playerAt (q : Nat) : Nat := (14 + (2 * q))
def f_X8_siteAt (k : Nat) : Nat := (22 + (13 * k))
def f_X8_isPlayer (nw : (Nat → Int32)) (x : Int32) : Bool := (f_X8_isIn (x) (0) (((nI (mP nw)) - 1)))
def f_X8_isSite (nw : (Nat → Int32)) (x : Int32) : Bool := (f_X8_isIn (x) (0) (((nI (mS nw)) - 1)))
theorem X8_isIn_of {x : Int32} {n : Nat} (hn : n < 2 ^ 30) (h : f_X8_isIn x 0 (nI n - 1) = true) : vp_in x n := by
  have e := nI_m1 hn
  simp only [f_X8_isIn, f_X8_isIn_j14, f_X8_isIn_j15] at h
  rw [vp_in_iff]
  split at h
  · exact absurd h (by decide)
  · rename_i h0
    split at h
    · exact absurd h (by decide)
    · rename_i h1
      rw [Int32.lt_iff_toInt_lt, Int32.toInt_zero] at h0
      rw [Int32.lt_iff_toInt_lt, e] at h1
      omega
theorem X8_isIn_on {x : Int32} {n : Nat} (hn : n < 2 ^ 30) (h : vp_in x n) : f_X8_isIn x 0 (nI n - 1) = true := by
  have e := nI_m1 hn
  rw [vp_in_iff] at h
  simp only [f_X8_isIn, f_X8_isIn_j14, f_X8_isIn_j15]
  rw [if_neg (by rw [Int32.lt_iff_toInt_lt, Int32.toInt_zero]; omega), if_neg (by rw [Int32.lt_iff_toInt_lt, e]; omega)]
theorem X8_isSite_in {nw : Nat → Int32} (hM : NowOK nw) {x : Int32} (h : f_X8_isSite nw x = true) : vp_in x (mS nw) := by
  obtain ⟨⟨_, h12⟩, -⟩ := hM
  exact X8_isIn_of (by omega) h
theorem X8_isPlayer_in {nw : Nat → Int32} (hM : NowOK nw) {x : Int32} (h : f_X8_isPlayer nw x = true) : vp_in x (mP nw) := by
  obtain ⟨-, ⟨_, h12⟩, -⟩ := hM
  exact X8_isIn_of (by omega) h
theorem vp_mono {x : Int32} {n k : Nat} (h : vp_in x n) (hn : n ≤ k) : vp_in x k := by
  rw [vp_in_iff] at h ⊢
  omega
def f_X8_of_j17 (nw : (Nat → Int32)) (j : Nat) (s0_17 : Int32) : Int32 := (nw ((22 + 13 * s0_17.toNatClampNeg) + j))
def f_X8_of (nw : (Nat → Int32)) (x : Int32) (j : Nat) : Int32 := (if (f_X8_isSite nw (x)) = true then (f_X8_of_j17 nw j (x)) else (f_X8_of_j17 nw j (0)))
theorem X8_of_eq {nw : Nat → Int32} (hM : NowOK nw) {k : Nat} (hk : k < mS nw) (j : Nat) : f_X8_of nw (nI k) j = nw (22 + 13 * k + j) := by
  have h12 := hM.1.2
  unfold f_X8_of f_X8_isSite f_X8_of_j17
  rw [if_pos (X8_isIn_on (by omega) (vp_in_nI hk (by omega))), nI_clamp (by omega)]
theorem X8_of_at {nw : Nat → Int32} (hM : NowOK nw) (x : Int32) : ∃ k, k < 12 ∧ ∀ j, f_X8_of nw x j = nw (22 + 13 * k + j) := by
  have h12 := hM.1.2
  by_cases c : f_X8_isSite nw x = true
  · obtain ⟨k, hk, rfl⟩ := vp_in_of (X8_isSite_in hM c) (by omega)
    exact ⟨k, by omega, fun j => X8_of_eq hM hk j⟩
  · refine ⟨0, by decide, fun j => ?_⟩
    unfold f_X8_of
    rw [if_neg c]
    rfl
theorem X8_lo_in {nw : Nat → Int32} (hM : NowOK nw) {k : Nat} (hk : k < mS nw) : vp_in (f_X8_of nw (nI k) 0) 8 := by
  rw [X8_of_eq hM hk]; exact (hM.2.2.1 k (by have := hM.1.2; omega)).1
theorem X8_hi_in {nw : Nat → Int32} (hM : NowOK nw) {k : Nat} (hk : k < mS nw) : vp_in (f_X8_of nw (nI k) 1) 8 := by
  rw [X8_of_eq hM hk]; exact (hM.2.2.1 k (by have := hM.1.2; omega)).2
theorem vp_add {x c : Int32} (e : Nat) {n : Nat} (h : vp_in x n) (hc : c = nI e) {k : Nat} (hk : e + n ≤ k) (h2 : k < 2 ^ 31) : vp_in (c + x) k := by
  obtain ⟨j, hj, rfl⟩ := vp_in_of h (by omega)
  rw [hc, nI_add]
  exact vp_in_nI (by omega) h2
def f_X8_amountOf_j28  (s0_28 : Int32) : Int32 := s0_28
def f_X8_amountOf_j27  : Int32 := (f_X8_amountOf_j28 (0))
def f_X8_amountOf (nw : (Nat → Int32)) (x : Int32) (y : Int32) : Int32 := (if (f_X8_isPlayer nw (x)) = true then (if (f_X8_isSite nw (y)) = true then (f_X8_amountOf_j28 ((f_X8_of nw (y) (((5 + x)).toNatClampNeg)))) else (f_X8_amountOf_j27)) else (f_X8_amountOf_j27))
def f_X8_isDone_j23  (s0_23 : Bool) : Bool := s0_23
def f_X8_isDone_j22  : Bool := (f_X8_isDone_j23 (false))
def f_X8_isDone (nw : (Nat → Int32)) (x : Int32) : Bool := (if (f_X8_isSite nw (x)) = true then (if (f_X8_of nw (x) (3)) = (-1) then (f_X8_isDone_j22) else (f_X8_isDone_j23 (true))) else (f_X8_isDone_j22))
def f_X8_highest_l4b (nw : (Nat → Int32)) (x : Int32) (k4 : Nat) (v2_4 : Int32) : Sum (Int32) (Int32) := (Sum.inr (imax v2_4 (f_X8_of nw (x) ((5 + k4)))))
def f_X8_highest_l4x (nw : (Nat → Int32)) (x : Int32) (v2_4 : Int32) : Int32 := v2_4
def f_X8_highest_l4s (nw : (Nat → Int32)) (x : Int32) (k4 : Nat) (q_ : Int32) : Sum (Int32) (Int32) := f_X8_highest_l4b nw x k4 (q_)
def f_X8_highest_l4e (nw : (Nat → Int32)) (x : Int32) (q_ : Int32) : Int32 := f_X8_highest_l4x nw x (q_)
def f_X8_highest_l4 (nw : (Nat → Int32)) (x : Int32) (n4 k4 : Nat) (v2_4 : Int32) : Int32 := lpF (f_X8_highest_l4s nw x) (f_X8_highest_l4e nw x) n4 k4 v2_4
def f_X8_highest (nw : (Nat → Int32)) (x : Int32) : Int32 := (f_X8_highest_l4 nw x (4) 0 (0))
def f_X8_bidsOn_j26  (s0_26 : Bool) (s1_26 : Int32) : Sum (Int32) (Int32) := (Sum.inr (s1_26 + (bI s0_26)))
def f_X8_bidsOn_l4b (nw : (Nat → Int32)) (x : Int32) (k4 : Nat) (v2_4 : Int32) : Sum (Int32) (Int32) := (if (f_X8_of nw (x) ((5 + k4))) ≤ 0 then (f_X8_bidsOn_j26 (false) (v2_4)) else (f_X8_bidsOn_j26 (true) (v2_4)))
def f_X8_bidsOn_l4x (nw : (Nat → Int32)) (x : Int32) (v2_4 : Int32) : Int32 := v2_4
def f_X8_bidsOn_l4s (nw : (Nat → Int32)) (x : Int32) (k4 : Nat) (q_ : Int32) : Sum (Int32) (Int32) := f_X8_bidsOn_l4b nw x k4 (q_)
def f_X8_bidsOn_l4e (nw : (Nat → Int32)) (x : Int32) (q_ : Int32) : Int32 := f_X8_bidsOn_l4x nw x (q_)
def f_X8_bidsOn_l4 (nw : (Nat → Int32)) (x : Int32) (n4 k4 : Nat) (v2_4 : Int32) : Int32 := lpF (f_X8_bidsOn_l4s nw x) (f_X8_bidsOn_l4e nw x) n4 k4 v2_4
def f_X8_bidsOn (nw : (Nat → Int32)) (x : Int32) : Int32 := (f_X8_bidsOn_l4 nw x (4) 0 (0))
def f_X8_reservedOn_j24  (s0_24 : Int32) : Int32 := s0_24
def f_X8_reservedOn (nw : (Nat → Int32)) (q : Nat) (x : Int32) : Int32 := (if (f_X8_of nw (x) ((9 + q))) = 0 then (f_X8_reservedOn_j24 ((f_X8_of nw (x) ((5 + q))))) else (f_X8_reservedOn_j24 (0)))
def f_X8_available_l14b (nw : (Nat → Int32)) (q : Nat) (k14 : Nat) (v2_14 : Int32) : Sum (Int32) (Int32) := (Sum.inr (v2_14 - (f_X8_reservedOn nw (q) ((nI k14)))))
def f_X8_available_l14x (nw : (Nat → Int32)) (q : Nat) (v2_14 : Int32) : Int32 := v2_14
def f_X8_available_l14s (nw : (Nat → Int32)) (q : Nat) (k14 : Nat) (q_ : Int32) : Sum (Int32) (Int32) := f_X8_available_l14b nw q k14 (q_)
def f_X8_available_l14e (nw : (Nat → Int32)) (q : Nat) (q_ : Int32) : Int32 := f_X8_available_l14x nw q (q_)
def f_X8_available_l14 (nw : (Nat → Int32)) (q : Nat) (n14 k14 : Nat) (v2_14 : Int32) : Int32 := lpF (f_X8_available_l14s nw q) (f_X8_available_l14e nw q) n14 k14 v2_14
def f_X8_available (nw : (Nat → Int32)) (q : Nat) : Int32 := (f_X8_available_l14 nw q (mS nw) 0 ((nw ((14 + 2 * q) + 0))))
def f_X8_costOf (nw : (Nat → Int32)) (x : Int32) : Int32 := ((f_X8_of nw (x) (2)) + (nw 0))
def f_X8_winner_j60  (s0_60 : Int32) : Int32 := s0_60
def f_X8_winner_j33  (s0_33 : Nat) : Sum (Int32) (Nat) := (Sum.inr s0_33)
def f_X8_winner_l4b (nw : (Nat → Int32)) (x : Int32) (k4 : Nat) (v2_4 : Nat) : Sum (Int32) (Nat) := (if (f_X8_of nw (x) ((5 + k4))) ≤ (f_X8_of nw (x) ((5 + v2_4))) then (f_X8_winner_j33 (v2_4)) else (f_X8_winner_j33 (k4)))
def f_X8_winner_l4x (nw : (Nat → Int32)) (x : Int32) (v2_4 : Nat) : Int32 := (if (f_X8_of nw (x) (4)) = (-1) then (f_X8_winner_j60 ((nI v2_4))) else (f_X8_winner_j60 ((f_X8_of nw (x) (4)))))
def f_X8_winner_l4s (nw : (Nat → Int32)) (x : Int32) (k4 : Nat) (q_ : Nat) : Sum (Int32) (Nat) := f_X8_winner_l4b nw x k4 (q_)
def f_X8_winner_l4e (nw : (Nat → Int32)) (x : Int32) (q_ : Nat) : Int32 := f_X8_winner_l4x nw x (q_)
def f_X8_winner_l4 (nw : (Nat → Int32)) (x : Int32) (n4 k4 : Nat) (v2_4 : Nat) : Int32 := lpF (f_X8_winner_l4s nw x) (f_X8_winner_l4e nw x) n4 k4 v2_4
def f_X8_winner (nw : (Nat → Int32)) (x : Int32) : Int32 := (f_X8_winner_l4 nw x (4 - 1) 1 (0))
theorem X8_winner_in {nw : Nat → Int32} (hM : NowOK nw) (x : Int32) : vp_in (f_X8_winner nw x) 4 := by
  refine lpF_invN (step := f_X8_winner_l4s nw x) (ex := f_X8_winner_l4e nw x) 4 (fun _ v => v < 4) (fun r => vp_in r 4) ?_ ?_ ?_ (4 - 1) 1 _ rfl (by decide)
  · intro k s r _ hI h
    simp only [f_X8_winner_l4s, f_X8_winner_l4b, f_X8_winner_j33] at h
    split at h
    all_goals cases h
  · intro k s s' hk hI h
    simp only [f_X8_winner_l4s, f_X8_winner_l4b, f_X8_winner_j33] at h
    split at h
    · cases h; exact hI
    · cases h; exact hk
  · intro s hI
    simp only [f_X8_winner_l4e, f_X8_winner_l4x, f_X8_winner_j60]
    obtain ⟨k, hk, e⟩ := X8_of_at hM x
    split
    · exact vp_in_nI hI (by decide)
    · rename_i h9
      rw [e 4] at h9 ⊢
      exact (hM.2.2.2 k hk).resolve_left h9
def f_X8_doesBuild_j39  (s0_39 : Bool) : Bool := s0_39
def f_X8_doesBuild_j38  : Bool := (f_X8_doesBuild_j39 (false))
def f_X8_doesBuild (nw : (Nat → Int32)) (x : Int32) : Bool := (if (f_X8_of nw (x) (((9 + (f_X8_winner nw (x)))).toNatClampNeg)) = 0 then (if (f_X8_of nw (x) (((5 + (f_X8_winner nw (x)))).toNatClampNeg)) < (f_X8_costOf nw (x)) then (f_X8_doesBuild_j38) else (f_X8_doesBuild_j39 (true))) else (f_X8_doesBuild_j38))
def f_X8_isPair_j55  (s0_55 : Bool) : Sum (Bool) (Bool) := (Sum.inr s0_55)
def f_X8_isPair_j54  : Sum (Bool) (Bool) := (f_X8_isPair_j55 (false))
def f_X8_isPair_j50  : Sum (Bool) (Bool) := (f_X8_isPair_j55 (true))
def f_X8_isPair_l5b (nw : (Nat → Int32)) (x : Int32) (y : Int32) (k5 : Nat) (v3_5 : Bool) : Sum (Bool) (Bool) := (if v3_5 = true then (f_X8_isPair_j50) else (if (f_X8_of nw ((nI k5)) (0)) = (imin x y) then (if (f_X8_of nw ((nI k5)) (1)) = (imax x y) then (f_X8_isPair_j50) else (f_X8_isPair_j54)) else (f_X8_isPair_j54)))
def f_X8_isPair_l5x (nw : (Nat → Int32)) (x : Int32) (y : Int32) (v3_5 : Bool) : Bool := v3_5
def f_X8_isPair_l5s (nw : (Nat → Int32)) (x : Int32) (y : Int32) (k5 : Nat) (q_ : Bool) : Sum (Bool) (Bool) := f_X8_isPair_l5b nw x y k5 (q_)
def f_X8_isPair_l5e (nw : (Nat → Int32)) (x : Int32) (y : Int32) (q_ : Bool) : Bool := f_X8_isPair_l5x nw x y (q_)
def f_X8_isPair_l5 (nw : (Nat → Int32)) (x : Int32) (y : Int32) (n5 k5 : Nat) (v3_5 : Bool) : Bool := lpF (f_X8_isPair_l5s nw x y) (f_X8_isPair_l5e nw x y) n5 k5 v3_5
def f_X8_isPair (nw : (Nat → Int32)) (x : Int32) (y : Int32) : Bool := (f_X8_isPair_l5 nw x y (mS nw) 0 (false))
def f_X8_scoreOf_j84  (s0_84 : Int32) (s1_84 : Int32) : Sum (Int32) (Int32) := (Sum.inr (s1_84 + s0_84))
def f_X8_scoreOf_j79  (s0_79 : Int32) (s1_79 : Int32) (s2_79 : Int32) : Sum (Int32) (Int32) := (f_X8_scoreOf_j84 ((s1_79 + s0_79)) (s2_79))
def f_X8_scoreOf_j50 (nw : (Nat → Int32)) (x : Int32) (k4 : Nat) (v2_50 : Int32) (s0_50 : Bool) : Sum (Int32) (Int32) := (if (f_X8_of nw ((nI k4)) (3)) = x then (if s0_50 = true then (f_X8_scoreOf_j79 (3) ((f_X8_of nw ((nI k4)) (2))) (v2_50)) else (f_X8_scoreOf_j79 (0) ((f_X8_of nw ((nI k4)) (2))) (v2_50))) else (f_X8_scoreOf_j84 (0) (v2_50)))
def f_X8_scoreOf_l4b (nw : (Nat → Int32)) (x : Int32) (k4 : Nat) (v2_4 : Int32) : Sum (Int32) (Int32) := (if (nw ((6 + (f_X8_of nw ((nI k4)) (0)))).toNatClampNeg) = (nw ((6 + (f_X8_of nw ((nI k4)) (1)))).toNatClampNeg) then (f_X8_scoreOf_j50 nw x k4 (v2_4) (true)) else (f_X8_scoreOf_j50 nw x k4 (v2_4) (false)))
def f_X8_scoreOf_l4x (nw : (Nat → Int32)) (x : Int32) (v2_4 : Int32) : Int32 := v2_4
def f_X8_scoreOf_l4s (nw : (Nat → Int32)) (x : Int32) (k4 : Nat) (q_ : Int32) : Sum (Int32) (Int32) := f_X8_scoreOf_l4b nw x k4 (q_)
def f_X8_scoreOf_l4e (nw : (Nat → Int32)) (x : Int32) (q_ : Int32) : Int32 := f_X8_scoreOf_l4x nw x (q_)
def f_X8_scoreOf_l4 (nw : (Nat → Int32)) (x : Int32) (n4 k4 : Nat) (v2_4 : Int32) : Int32 := lpF (f_X8_scoreOf_l4s nw x) (f_X8_scoreOf_l4e nw x) n4 k4 v2_4
def f_X8_scoreOf (nw : (Nat → Int32)) (x : Int32) : Int32 := (f_X8_scoreOf_l4 nw x (mS nw) 0 (0))
def f_X8_builtSites_j28  (s0_28 : Bool) (s1_28 : Int32) : Sum (Int32) (Int32) := (Sum.inr (s1_28 + (bI s0_28)))
def f_X8_builtSites_l4b (nw : (Nat → Int32)) (k4 : Nat) (v1_4 : Int32) : Sum (Int32) (Int32) := (if (f_X8_isDone nw ((nI k4))) = true then (f_X8_builtSites_j28 (true) (v1_4)) else (f_X8_builtSites_j28 (false) (v1_4)))
def f_X8_builtSites_l4x (nw : (Nat → Int32)) (v1_4 : Int32) : Int32 := v1_4
def f_X8_builtSites_l4s (nw : (Nat → Int32)) (k4 : Nat) (q_ : Int32) : Sum (Int32) (Int32) := f_X8_builtSites_l4b nw k4 (q_)
def f_X8_builtSites_l4e (nw : (Nat → Int32)) (q_ : Int32) : Int32 := f_X8_builtSites_l4x nw (q_)
def f_X8_builtSites_l4 (nw : (Nat → Int32)) (n4 k4 : Nat) (v1_4 : Int32) : Int32 := lpF (f_X8_builtSites_l4s nw) (f_X8_builtSites_l4e nw) n4 k4 v1_4
def f_X8_builtSites (nw : (Nat → Int32)) : Int32 := (f_X8_builtSites_l4 nw (mS nw) 0 (0))
