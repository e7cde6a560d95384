/-! what the questions answer in a game that is kept -/
theorem site_y {G : GS} (hG : GSafe G) {k : Nat} (hk : k < gS G) : f_X1_isSite G (nI k) = true := (X1_isSite_t hG).mpr (vp_in_nI hk (by have := hG.1; omega))
theorem player_y {G : GS} (hG : GSafe G) {q : Nat} (hq : q < gP G) : f_X1_isPlayer G (nI q) = true := (X1_isPlayer_t hG).mpr (vp_in_nI hq (by have := hG.2.1; omega))
theorem nt_f {b : Bool} (h : ¬ b = true) : b = false := by
  cases b
  · rfl
  · exact absurd rfl h
theorem site_n {G : GS} (hG : GSafe G) : f_X1_isSite G (nI (gS G)) = false := nt_f (fun e => by
  have h := vp_int ((X1_isSite_t hG).mp e)
  have := hG.1
  rw [nI_toInt (by omega)] at h
  omega)
theorem site_m {G : GS} (hG : GSafe G) : f_X1_isSite G (-1) = false := nt_f (fun e => by
  have h := vp_int ((X1_isSite_t hG).mp e)
  have t : (-1 : Int32).toInt = -1 := rfl
  rw [t] at h
  omega)
theorem player_n {G : GS} (hG : GSafe G) : f_X1_isPlayer G (nI (gP G)) = false := nt_f (fun e => by
  have h := vp_int ((X1_isPlayer_t hG).mp e)
  have := hG.2.1
  rw [nI_toInt (by omega)] at h
  omega)
theorem nI_nm {n : Nat} (hn : n < 100) (c : Int32) (hc : c.toInt < 0) : ¬ nI n = c := fun e => by
  have h := congrArg Int32.toInt e
  rw [nI_toInt (by omega)] at h
  omega
section
variable {K : CT}
theorem av_bid (hI : GI (kG K)) {q s : Nat} (hq : q < gP (kG K)) (hs : s < gS (kG K)) : askV K 3 (nI q) (nI s) = if gOff (kG K) (s * 4 + q) = 0 then -2004 else iabs (gOff (kG K) (s * 4 + q)) := by
  have hG := GI_safe hI
  have h1 := hG.1
  have h2 := hG.2.1
  show aCode (f_X7_bidAmount (kQ K) (kG K) (nI q) (nI s)) = _
  simp only [f_X7_bidAmount, f_X7_requireBid, f_X7_requirePlayer, f_X7_requireSite, lt_, player_y hG hq, site_y hG hs, if_true, nI_clamp (show q < 2 ^ 31 by omega), nI_clamp (show s < 2 ^ 31 by omega), f_X1_hasBid, f_X1_hasBid_j18]
  by_cases c : gOff (kG K) (s * 4 + q) = 0
  · rw [if_pos c, if_pos c]; rfl
  · rw [if_neg c, if_neg c]; rfl
theorem av_bluff (hI : GI (kG K)) {q s : Nat} (hq : q < gP (kG K)) (hs : s < gS (kG K)) : askV K 4 (nI q) (nI s) = if gOff (kG K) (s * 4 + q) = 0 then -2004 else bI (f_X1_hasBluff (kG K) q s) := by
  have hG := GI_safe hI
  have h1 := hG.1
  have h2 := hG.2.1
  show aCode ((f_X7_isBluff (kQ K) (kG K) (nI q) (nI s)).1, bI (f_X7_isBluff (kQ K) (kG K) (nI q) (nI s)).2) = _
  simp only [f_X7_isBluff, f_X7_requireBid, f_X7_requirePlayer, f_X7_requireSite, lt_, player_y hG hq, site_y hG hs, if_true, nI_clamp (show q < 2 ^ 31 by omega), nI_clamp (show s < 2 ^ 31 by omega), f_X1_hasBid, f_X1_hasBid_j18]
  by_cases c : gOff (kG K) (s * 4 + q) = 0
  · rw [if_pos c, if_pos c]; rfl
  · rw [if_neg c, if_neg c]; rfl
theorem fnd (x : Int32) : aCode (lt_ (f_X7_requireFound x) (fun y9 => (if y9 = 0 then (0, x) else (y9, 0)))) = if x = -1 then -2004 else x := by
  unfold f_X7_requireFound lt_
  by_cases c : x = -1
  · rw [if_pos c, if_pos c]; rfl
  · rw [if_neg c, if_neg c]; rfl
theorem av_builder (hI : GI (kG K)) {s : Nat} (hs : s < gS (kG K)) (b : Int32) : askV K 2 (nI s) b = if gBld (kG K) s = -1 then -2004 else gBld (kG K) s := by
  have hG := GI_safe hI
  have h1 := hG.1
  rw [← fnd]
  show aCode (f_X7_builder (kQ K) (kG K) (nI s)) = _
  simp only [f_X7_builder, f_X7_requireSite, lt_, site_y hG hs, if_true, nI_clamp (show s < 2 ^ 31 by omega)]
theorem av_ferry (hI : GI (kG K)) {s : Nat} (hs : s < gS (kG K)) (b : Int32) : askV K 5 (nI s) b = if gFer (kG K) s = -1 then -2004 else gFer (kG K) s := by
  have hG := GI_safe hI
  have h1 := hG.1
  rw [← fnd]
  show aCode (f_X7_ferryOwner (kQ K) (kG K) (nI s)) = _
  simp only [f_X7_ferryOwner, f_X7_requireSite, lt_, site_y hG hs, if_true, nI_clamp (show s < 2 ^ 31 by omega)]
theorem av_winner (hI : GI (kG K)) {s : Nat} (hs : s < gS (kG K)) (b : Int32) : askV K 6 (nI s) b = if f_X1_winnerOf (kG K) s = -1 then -2004 else f_X1_winnerOf (kG K) s := by
  have hG := GI_safe hI
  have h1 := hG.1
  rw [← fnd]
  show aCode (f_X7_winningBidder (kQ K) (kG K) (nI s)) = _
  simp only [f_X7_winningBidder, f_X7_requireSite, lt_, site_y hG hs, if_true, nI_clamp (show s < 2 ^ 31 by omega)]
theorem av_would (hI : GI (kG K)) {s : Nat} (hs : s < gS (kG K)) (b : Int32) : askV K 7 (nI s) b = if f_X1_hasBridge (kG K) s = true then -2005 else if f_X1_winnerOf (kG K) s = -1 then -2004 else bI (f_X1_buildsWith (kG K) (f_X1_winnerOf (kG K) s).toNatClampNeg s) := by
  have hG := GI_safe hI
  have h1 := hG.1
  have hj : f_X1_judge (kG K) 8 (nI s) 0 0 = f_X1_judgeSettling (kG K) (nI s) := X1_judge_9 rfl
  have h6 := X1_judge_lt (kG K) 8 (nI s) 0 0
  show aCode ((f_X7_wouldBuild (kQ K) (kG K) (nI s)).1, bI (f_X7_wouldBuild (kQ K) (kG K) (nI s)).2) = _
  unfold f_X7_wouldBuild lt_
  rw [hj] at h6 ⊢
  rw [fine_eq h6]
  simp only [f_X1_judgeSettling, f_X1_judgeSettling_j42, site_y hG hs, if_true, nI_clamp (show s < 2 ^ 31 by omega)]
  by_cases c : f_X1_hasBridge (kG K) s = true
  · rw [if_pos c, if_pos c]; rfl
  · rw [if_neg c, if_neg c]
    by_cases d : f_X1_winnerOf (kG K) s = -1
    · rw [if_pos d, if_pos d]; rfl
    · rw [if_neg d, if_neg d]; rfl
theorem av_cheap (K : CT) (a b : Int32) : askV K 8 a b = if f_X1_cheapestWithoutBridge (kG K) = -1 then -2004 else f_X1_cheapestWithoutBridge (kG K) := by
  rw [← fnd]
  rfl
theorem av_rank (K : CT) (x b : Int32) : askV K 9 x b = if f_X1_playerAtRank (kG K) x = -1 then -2004 else f_X1_playerAtRank (kG K) x := by
  rw [← fnd]
  rfl
theorem av_len_n (hI : GI (kG K)) (b : Int32) : askV K 12 (nI (gS (kG K))) b = -2002 := by
  have hG := GI_safe hI
  show aCode (f_X7_length (kQ K) (kG K) (nI (gS (kG K)))) = _
  simp only [f_X7_length, f_X7_requireSite, lt_, site_n hG, Bool.false_eq_true, if_false, Nat.one_ne_zero]
  rfl
theorem av_builder_n (hI : GI (kG K)) (b : Int32) : askV K 2 (nI (gS (kG K))) b = -2002 := by
  have hG := GI_safe hI
  show aCode (f_X7_builder (kQ K) (kG K) (nI (gS (kG K)))) = _
  simp only [f_X7_builder, f_X7_requireSite, lt_, site_n hG, Bool.false_eq_true, if_false, Nat.one_ne_zero]
  rfl
theorem av_winner_m (hI : GI (kG K)) (b : Int32) : askV K 6 (-1) b = -2002 := by
  have hG := GI_safe hI
  show aCode (f_X7_winningBidder (kQ K) (kG K) (-1)) = _
  simp only [f_X7_winningBidder, f_X7_requireSite, lt_, site_m hG, Bool.false_eq_true, if_false, Nat.one_ne_zero]
  rfl
theorem av_money_n (hI : GI (kG K)) (b : Int32) : askV K 13 (nI (gP (kG K))) b = -2002 := by
  have hG := GI_safe hI
  show aCode (f_X7_money (kQ K) (kG K) (nI (gP (kG K)))) = _
  simp only [f_X7_money, f_X7_requirePlayer, lt_, player_n hG, Bool.false_eq_true, if_false, Nat.one_ne_zero]
  rfl
theorem no_rank {G : GS} (hI : GI G) {x : Int32} (h : ∀ n, n < gP G → ¬ nI n = x) : f_X1_playerAtRank G x = -1 := by
  unfold f_X1_playerAtRank f_X1_playerAtRank_l2
  refine lpF_invN (gP G) (fun _ _ => True) (fun z => z = -1) ?_ ?_ ?_ (gP G) 0 _ (Nat.zero_add _) trivial
  · intro k s r hk _ e
    have e : f_X1_playerAtRank_l2b G x k = .inl r := e
    unfold f_X1_playerAtRank_l2b at e
    rw [if_neg (by rw [rank_n hI]; exact h _ (rkN_lt hI hk))] at e
    cases e
  · intros; trivial
  · intro s _; rfl
theorem av_rank_n (hI : GI (kG K)) (b : Int32) : askV K 9 (nI (gP (kG K))) b = -2004 := by
  have h2 := (GI_safe hI).2.1
  rw [av_rank, no_rank hI (fun n hn e => by have := (nI_eq (by omega) (by omega)).mp e; omega), if_pos rfl]
theorem av_rank_m (hI : GI (kG K)) (b : Int32) : askV K 9 (-1) b = -2004 := by
  have h2 := (GI_safe hI).2.1
  rw [av_rank, no_rank hI (fun n hn => nI_nm (by omega) _ (by decide)), if_pos rfl]
/-- the amount of a bid -/
theorem bid_v (hI : GI (kG K)) {q s : Nat} (hq : q < gP (kG K)) (hs : s < gS (kG K)) : f_L_bid K (nI q) (nI s) = f_X1_amountOf (kG K) q s := by
  have hG := GI_safe hI
  have b := hI.2.1.1 s (by have := hG.1; omega) q (by have := hG.2.1; omega)
  unfold f_L_bid f_X1_amountOf
  rw [av_bid hI hq hs]
  by_cases c : gOff (kG K) (s * 4 + q) = 0
  · rw [if_pos c, c]; decide
  · rw [if_neg c]
    have n := (abs_int b.1 b.2).1
    unfold imax
    have t0 : (0 : Int32).toInt = 0 := rfl
    split
    · rfl
    · rename_i g
      refine Int32.toInt_inj.mp ?_
      rw [ilt, t0] at g
      rw [t0]
      omega
end
