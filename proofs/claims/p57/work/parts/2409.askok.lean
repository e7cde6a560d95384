/-! what the law asks throws only what it catches -/
theorem ask_ok {K : CT} (hI : GI (kG K)) {n : Nat} (hn : n < 14) (a b : Int32) : (aqs K n a b).1 = 0 ∨ (aqs K n a b).1 = 1 ∨ (aqs K n a b).1 = 3 ∨ (aqs K n a b).1 = 5 := by
  rcases (by omega : n = 0 ∨ n = 1 ∨ n = 2 ∨ n = 3 ∨ n = 4 ∨ n = 5 ∨ n = 6 ∨ n = 7 ∨ n = 8 ∨ n = 9 ∨ n = 10 ∨ n = 11 ∨ n = 12 ∨ n = 13) with r | r | r | r | r | r | r | r | r | r | r | r | r | r <;> subst r
  · show (f_X7_distance (kQ K) (kG K) R0 a b).1 = 0 ∨ (f_X7_distance (kQ K) (kG K) R0 a b).1 = 1 ∨ (f_X7_distance (kQ K) (kG K) R0 a b).1 = 3 ∨ (f_X7_distance (kQ K) (kG K) R0 a b).1 = 5
    unfold f_X7_distance f_X7_requireIsland f_X7_requireNear lt_
    repeat' split
    all_goals first | (simp; done) | (by_cases h9 : rNear (f_X2_searchNearest R0 (kG K) a.toNatClampNeg) b.toNatClampNeg = 1000 <;> simp [h9])
  · show (f_X7_distanceByRelaxation (kQ K) (kG K) R0 a b).1 = 0 ∨ (f_X7_distanceByRelaxation (kQ K) (kG K) R0 a b).1 = 1 ∨ (f_X7_distanceByRelaxation (kQ K) (kG K) R0 a b).1 = 3 ∨ (f_X7_distanceByRelaxation (kQ K) (kG K) R0 a b).1 = 5
    unfold f_X7_distanceByRelaxation f_X7_requireIsland f_X7_requireNear lt_
    repeat' split
    all_goals first | (simp; done) | (by_cases h9 : rRlx (f_X2_relaxFrom R0 (kG K) a.toNatClampNeg) b.toNatClampNeg = 1000 <;> simp [h9])
  · show (f_X7_builder (kQ K) (kG K) a).1 = 0 ∨ (f_X7_builder (kQ K) (kG K) a).1 = 1 ∨ (f_X7_builder (kQ K) (kG K) a).1 = 3 ∨ (f_X7_builder (kQ K) (kG K) a).1 = 5
    unfold f_X7_builder f_X7_requireSite f_X7_requireFound lt_
    repeat' split
    all_goals simp
  · show (f_X7_bidAmount (kQ K) (kG K) a b).1 = 0 ∨ (f_X7_bidAmount (kQ K) (kG K) a b).1 = 1 ∨ (f_X7_bidAmount (kQ K) (kG K) a b).1 = 3 ∨ (f_X7_bidAmount (kQ K) (kG K) a b).1 = 5
    unfold f_X7_bidAmount f_X7_requireBid f_X7_requirePlayer f_X7_requireSite lt_
    repeat' split
    all_goals simp_all
  · show (f_X7_isBluff (kQ K) (kG K) a b).1 = 0 ∨ (f_X7_isBluff (kQ K) (kG K) a b).1 = 1 ∨ (f_X7_isBluff (kQ K) (kG K) a b).1 = 3 ∨ (f_X7_isBluff (kQ K) (kG K) a b).1 = 5
    unfold f_X7_isBluff f_X7_requireBid f_X7_requirePlayer f_X7_requireSite lt_
    repeat' split
    all_goals simp_all
  · show (f_X7_ferryOwner (kQ K) (kG K) a).1 = 0 ∨ (f_X7_ferryOwner (kQ K) (kG K) a).1 = 1 ∨ (f_X7_ferryOwner (kQ K) (kG K) a).1 = 3 ∨ (f_X7_ferryOwner (kQ K) (kG K) a).1 = 5
    unfold f_X7_ferryOwner f_X7_requireSite f_X7_requireFound lt_
    repeat' split
    all_goals simp
  · show (f_X7_winningBidder (kQ K) (kG K) a).1 = 0 ∨ (f_X7_winningBidder (kQ K) (kG K) a).1 = 1 ∨ (f_X7_winningBidder (kQ K) (kG K) a).1 = 3 ∨ (f_X7_winningBidder (kQ K) (kG K) a).1 = 5
    unfold f_X7_winningBidder f_X7_requireSite f_X7_requireFound lt_
    repeat' split
    all_goals simp
  · have e : (aqs K 7 a b).1 = f_X1_judgeSettling (kG K) a := by
      have hj : f_X1_judge (kG K) 8 a 0 0 = f_X1_judgeSettling (kG K) a := X1_judge_9 rfl
      have h6 := X1_judge_lt (kG K) 8 a 0 0
      show (f_X7_wouldBuild (kQ K) (kG K) a).1 = _
      unfold f_X7_wouldBuild lt_
      rw [hj] at h6 ⊢
      rw [fine_eq h6]
      dsimp only
      split
      · rename_i h; exact h.symm
      · rfl
    rw [e]
    unfold f_X1_judgeSettling f_X1_judgeSettling_j42
    repeat' split
    all_goals simp
  · show (f_X7_cheapestFreeSite (kQ K) (kG K)).1 = 0 ∨ (f_X7_cheapestFreeSite (kQ K) (kG K)).1 = 1 ∨ (f_X7_cheapestFreeSite (kQ K) (kG K)).1 = 3 ∨ (f_X7_cheapestFreeSite (kQ K) (kG K)).1 = 5
    unfold f_X7_cheapestFreeSite f_X7_requireFound lt_
    repeat' split
    all_goals simp
  · show (f_X7_playerByScore (kQ K) (kG K) a).1 = 0 ∨ (f_X7_playerByScore (kQ K) (kG K) a).1 = 1 ∨ (f_X7_playerByScore (kQ K) (kG K) a).1 = 3 ∨ (f_X7_playerByScore (kQ K) (kG K) a).1 = 5
    unfold f_X7_playerByScore f_X7_requireFound lt_
    repeat' split
    all_goals simp
  · show (f_X7_errorPosition (kQ K)).1 = 0 ∨ (f_X7_errorPosition (kQ K)).1 = 1 ∨ (f_X7_errorPosition (kQ K)).1 = 3 ∨ (f_X7_errorPosition (kQ K)).1 = 5
    unfold f_X7_errorPosition f_X7_requireFound lt_
    repeat' split
    all_goals simp
  · show (f_X7_failedCommand (kQ K)).1 = 0 ∨ (f_X7_failedCommand (kQ K)).1 = 1 ∨ (f_X7_failedCommand (kQ K)).1 = 3 ∨ (f_X7_failedCommand (kQ K)).1 = 5
    unfold f_X7_failedCommand f_X7_requireFound lt_
    repeat' split
    all_goals simp
  · show (f_X7_length (kQ K) (kG K) a).1 = 0 ∨ (f_X7_length (kQ K) (kG K) a).1 = 1 ∨ (f_X7_length (kQ K) (kG K) a).1 = 3 ∨ (f_X7_length (kQ K) (kG K) a).1 = 5
    unfold f_X7_length f_X7_requireSite lt_
    repeat' split
    all_goals simp
  · show (f_X7_money (kQ K) (kG K) a).1 = 0 ∨ (f_X7_money (kQ K) (kG K) a).1 = 1 ∨ (f_X7_money (kQ K) (kG K) a).1 = 3 ∨ (f_X7_money (kQ K) (kG K) a).1 = 5
    unfold f_X7_money f_X7_requirePlayer lt_
    repeat' split
    all_goals simp
