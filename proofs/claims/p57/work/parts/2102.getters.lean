/-! what the two answer: the reference's number of what is thrown, its answer -/
def thr (L : List Nat) (c : Nat) : Int32 := if c = 0 then 0 else nI (L.idxOf c + 1)
def EQI (L : List Nat) (r : Nat × Int32) (r' : Int32 × Int32) : Prop := r'.2 = thr L r.1 ∧ (r.1 = 0 → r'.1 = r.2) ∧ (r.1 = 0 ∨ r.1 ∈ L)
def EQB (L : List Nat) (r : Nat × Bool) (r' : Bool × Int32) : Prop := r'.2 = thr L r.1 ∧ (r.1 = 0 → r'.1 = r.2) ∧ (r.1 = 0 ∨ r.1 ∈ L)
theorem EQI_0 {L : List Nat} {v w : Int32} (h : w = v) : EQI L (0, v) (w, 0) := ⟨rfl, fun _ => h, Or.inl rfl⟩
theorem EQB_0 {L : List Nat} {v w : Bool} (h : w = v) : EQB L (0, v) (w, 0) := ⟨rfl, fun _ => h, Or.inl rfl⟩
theorem EQI_x {L : List Nat} {c : Nat} {v w t : Int32} (h : c ≠ 0) (hm : c ∈ L) (ht : t = thr L c) : EQI L (c, v) (w, t) := ⟨ht, fun h9 => absurd h9 h, Or.inr hm⟩
theorem EQB_x {L : List Nat} {c : Nat} {v w : Bool} {t : Int32} (h : c ≠ 0) (hm : c ∈ L) (ht : t = thr L c) : EQB L (c, v) (w, t) := ⟨ht, fun h9 => absurd h9 h, Or.inr hm⟩
theorem pl_case {G : GS} (hG : GSafe G) (x : Int32) : f_X1_isPlayer G x = false ∨ ∃ j, j < gP G ∧ x = nI j ∧ (nI j).toNatClampNeg = j ∧ f_X1_isPlayer G (nI j) = true := by
  cases e : f_X1_isPlayer G x
  · exact Or.inl rfl
  · have h4 := hG.2.1
    obtain ⟨j, hj, e1⟩ := vp_in_of ((X1_isPlayer_t hG).mp e) (by omega)
    exact Or.inr ⟨j, hj, e1, nI_clamp (by omega), by rw [← e1]; exact e⟩
theorem si_case {G : GS} (hG : GSafe G) (x : Int32) : f_X1_isSite G x = false ∨ ∃ j, j < gS G ∧ x = nI j ∧ (nI j).toNatClampNeg = j ∧ f_X1_isSite G (nI j) = true := by
  cases e : f_X1_isSite G x
  · exact Or.inl rfl
  · have h4 := hG.1
    obtain ⟨j, hj, e1⟩ := vp_in_of ((X1_isSite_t hG).mp e) (by omega)
    exact Or.inr ⟨j, hj, e1, nI_clamp (by omega), by rw [← e1]; exact e⟩
theorem is_case (x : Int32) : f_X1_isIsland x = false ∨ ∃ j, j < 8 ∧ x = nI j ∧ (nI j).toNatClampNeg = j ∧ f_X1_isIsland (nI j) = true := by
  cases e : f_X1_isIsland x
  · exact Or.inl rfl
  · obtain ⟨j, hj, e1⟩ := vp_in_of (X1_isIsland_t.mp e) (by decide)
    exact Or.inr ⟨j, hj, e1, nI_clamp (by omega), by rw [← e1]; exact e⟩

theorem g_suit {G : GS} {f : Nat → Int32} (hG : GSafe G) (h : NR G f) (Q : QS) (x : Int32) : EQI [1] (f_X7_suit Q G x) (f_X8_suit f x) := by
  rcases is_case x with e | ⟨j, hj, rfl, e1, e⟩
  · simp only [f_X7_suit, f_X7_requireIsland, lt_, f_X8_suit, f_X8_suit_j24, gThr, island_c, e, Bool.false_eq_true, if_false, show ¬ (1 : Nat) = 0 by decide]
    exact EQI_x (by decide) (by decide) (by decide +kernel)
  · simp only [f_X7_suit, f_X7_requireIsland, lt_, f_X8_suit, f_X8_suit_j24, gThr, island_c, e, e1, if_true]
    exact EQI_0 (h.2.1 j hj)
theorem g_money {G : GS} {f : Nat → Int32} (hG : GSafe G) (h : NR G f) (Q : QS) (x : Int32) : EQI [1] (f_X7_money Q G x) (f_X8_money f x) := by
  rcases pl_case hG x with e | ⟨j, hj, rfl, e1, e⟩
  · simp only [f_X7_money, f_X7_requirePlayer, lt_, f_X8_money, f_X8_money_j27, gThr, player_c hG h, e, Bool.false_eq_true, if_false, show ¬ (1 : Nat) = 0 by decide]
    exact EQI_x (by decide) (by decide) (by decide +kernel)
  · simp only [f_X7_money, f_X7_requirePlayer, lt_, f_X8_money, f_X8_money_j27, gThr, player_c hG h, e, e1, if_true]
    exact EQI_0 ((h.2.2.1 j hj).1)
theorem g_availableMoney {G : GS} {f : Nat → Int32} (hG : GSafe G) (h1 : GI1 G) (h : NR G f) (Q : QS) (x : Int32) : EQI [1] (f_X7_availableMoney Q G x) (f_X8_availableMoney f x) := by
  rcases pl_case hG x with e | ⟨j, hj, rfl, e1, e⟩
  · simp only [f_X7_availableMoney, f_X7_requirePlayer, lt_, f_X8_availableMoney, f_X8_availableMoney_j21, gThr, player_c hG h, e, Bool.false_eq_true, if_false, show ¬ (1 : Nat) = 0 by decide]
    exact EQI_x (by decide) (by decide) (by decide +kernel)
  · simp only [f_X7_availableMoney, f_X7_requirePlayer, lt_, f_X8_availableMoney, f_X8_availableMoney_j21, gThr, player_c hG h, e, e1, if_true]
    exact EQI_0 (avail_c hG h1 h hj)
theorem g_score {G : GS} {f : Nat → Int32} (hG : GSafe G) (h : NR G f) (Q : QS) (x : Int32) : EQI [1] (f_X7_score Q G x) (f_X8_score f x) := by
  rcases pl_case hG x with e | ⟨j, hj, rfl, e1, e⟩
  · simp only [f_X7_score, f_X7_requirePlayer, lt_, f_X8_score, f_X8_score_j21, gThr, player_c hG h, e, Bool.false_eq_true, if_false, show ¬ (1 : Nat) = 0 by decide]
    exact EQI_x (by decide) (by decide) (by decide +kernel)
  · simp only [f_X7_score, f_X7_requirePlayer, lt_, f_X8_score, f_X8_score_j21, gThr, player_c hG h, e, e1, if_true]
    exact EQI_0 (score_c hG h _)
theorem g_lowerIsland {G : GS} {f : Nat → Int32} (hG : GSafe G) (h : NR G f) (Q : QS) (x : Int32) : EQI [1] (f_X7_lowerIsland Q G x) (f_X8_lowerIsland f x) := by
  rcases si_case hG x with e | ⟨j, hj, rfl, e1, e⟩
  · simp only [f_X7_lowerIsland, f_X7_requireSite, lt_, f_X8_lowerIsland, f_X8_lowerIsland_j22, gThr, site_c hG h, e, Bool.false_eq_true, if_false, show ¬ (1 : Nat) = 0 by decide]
    exact EQI_x (by decide) (by decide) (by decide +kernel)
  · simp only [f_X7_lowerIsland, f_X7_requireSite, lt_, f_X8_lowerIsland, f_X8_lowerIsland_j22, gThr, site_c hG h, e, e1, if_true]
    exact EQI_0 (ofLo hG h hj)
theorem g_higherIsland {G : GS} {f : Nat → Int32} (hG : GSafe G) (h : NR G f) (Q : QS) (x : Int32) : EQI [1] (f_X7_higherIsland Q G x) (f_X8_higherIsland f x) := by
  rcases si_case hG x with e | ⟨j, hj, rfl, e1, e⟩
  · simp only [f_X7_higherIsland, f_X7_requireSite, lt_, f_X8_higherIsland, f_X8_higherIsland_j22, gThr, site_c hG h, e, Bool.false_eq_true, if_false, show ¬ (1 : Nat) = 0 by decide]
    exact EQI_x (by decide) (by decide) (by decide +kernel)
  · simp only [f_X7_higherIsland, f_X7_requireSite, lt_, f_X8_higherIsland, f_X8_higherIsland_j22, gThr, site_c hG h, e, e1, if_true]
    exact EQI_0 (ofHi hG h hj)
theorem g_length {G : GS} {f : Nat → Int32} (hG : GSafe G) (h : NR G f) (Q : QS) (x : Int32) : EQI [1] (f_X7_length Q G x) (f_X8_length f x) := by
  rcases si_case hG x with e | ⟨j, hj, rfl, e1, e⟩
  · simp only [f_X7_length, f_X7_requireSite, lt_, f_X8_length, f_X8_length_j22, gThr, site_c hG h, e, Bool.false_eq_true, if_false, show ¬ (1 : Nat) = 0 by decide]
    exact EQI_x (by decide) (by decide) (by decide +kernel)
  · simp only [f_X7_length, f_X7_requireSite, lt_, f_X8_length, f_X8_length_j22, gThr, site_c hG h, e, e1, if_true]
    exact EQI_0 (ofLen hG h hj)
theorem g_buildingCost {G : GS} {f : Nat → Int32} (hG : GSafe G) (h : NR G f) (Q : QS) (x : Int32) : EQI [1] (f_X7_buildingCost Q G x) (f_X8_buildingCost f x) := by
  rcases si_case hG x with e | ⟨j, hj, rfl, e1, e⟩
  · simp only [f_X7_buildingCost, f_X7_requireSite, lt_, f_X8_buildingCost, f_X8_buildingCost_j21, gThr, site_c hG h, e, Bool.false_eq_true, if_false, show ¬ (1 : Nat) = 0 by decide]
    exact EQI_x (by decide) (by decide) (by decide +kernel)
  · simp only [f_X7_buildingCost, f_X7_requireSite, lt_, f_X8_buildingCost, f_X8_buildingCost_j21, gThr, site_c hG h, e, e1, if_true]
    exact EQI_0 (cost_c hG h hj)
theorem g_bidCount {G : GS} {f : Nat → Int32} (hG : GSafe G) (h1 : GI1 G) (h : NR G f) (Q : QS) (x : Int32) : EQI [1] (f_X7_bidCount Q G x) (f_X8_bidCount f x) := by
  rcases si_case hG x with e | ⟨j, hj, rfl, e1, e⟩
  · simp only [f_X7_bidCount, f_X7_requireSite, lt_, f_X8_bidCount, f_X8_bidCount_j21, gThr, site_c hG h, e, Bool.false_eq_true, if_false, show ¬ (1 : Nat) = 0 by decide]
    exact EQI_x (by decide) (by decide) (by decide +kernel)
  · simp only [f_X7_bidCount, f_X7_requireSite, lt_, f_X8_bidCount, f_X8_bidCount_j21, gThr, site_c hG h, e, e1, if_true]
    exact EQI_0 (bids_c hG h1 h hj)
theorem g_isFerryUsed {G : GS} {f : Nat → Int32} (hG : GSafe G) (h : NR G f) (Q : QS) (x : Int32) : EQB [1] (f_X7_isFerryUsed Q G x) (f_X8_isFerryUsed f x) := by
  rcases pl_case hG x with e | ⟨j, hj, rfl, e1, e⟩
  · simp only [f_X7_isFerryUsed, f_X7_requirePlayer, lt_, f_X8_isFerryUsed, f_X8_isFerryUsed_j31, f_X8_isFerryUsed_j32, gThr, player_c hG h, e, Bool.false_eq_true, if_false, show ¬ (1 : Nat) = 0 by decide]
    exact EQB_x (by decide) (by decide) (by decide +kernel)
  · simp only [f_X7_isFerryUsed, f_X7_requirePlayer, lt_, f_X8_isFerryUsed, f_X8_isFerryUsed_j31, f_X8_isFerryUsed_j32, gThr, player_c hG h, e, e1, if_true, (h.2.2.1 j hj).2, bI_1]
    cases f_X1_hasUsedFerry G j
    · exact EQB_0 rfl
    · exact EQB_0 rfl
theorem g_bridgeCount {G : GS} {f : Nat → Int32} (hG : GSafe G) (h : NR G f) (Q : QS) (x : Int32) : EQI [1] (f_X7_bridgeCount Q G x) (f_X8_bridgeCount f x) := by
  rcases pl_case hG x with e | ⟨j, hj, rfl, e1, e⟩
  · simp only [f_X7_bridgeCount, f_X7_requirePlayer, lt_, f_X8_bridgeCount, gThr, player_c hG h, e, Bool.false_eq_true, if_false, show ¬ (1 : Nat) = 0 by decide]
    exact EQI_x (by decide) (by decide) (by decide +kernel)
  · simp only [f_X7_bridgeCount, f_X7_requirePlayer, lt_, f_X8_bridgeCount, gThr, player_c hG h, e, if_true, bridgesOf_c hG h]
    exact EQI_0 rfl
theorem g_isBuilt {G : GS} {f : Nat → Int32} (hG : GSafe G) (h : NR G f) (Q : QS) (x : Int32) : EQB [1] (f_X7_isBuilt Q G x) (f_X8_isBuilt f x) := by
  rcases si_case hG x with e | ⟨j, hj, rfl, e1, e⟩
  · simp only [f_X7_isBuilt, f_X7_requireSite, lt_, f_X8_isBuilt, f_X8_isBuilt_j24, f_X8_isBuilt_j25, gThr, site_c hG h, e, Bool.false_eq_true, if_false, show ¬ (1 : Nat) = 0 by decide]
    exact EQB_x (by decide) (by decide) (by decide +kernel)
  · simp only [f_X7_isBuilt, f_X7_requireSite, lt_, f_X8_isBuilt, f_X8_isBuilt_j24, f_X8_isBuilt_j25, gThr, site_c hG h, e, e1, if_true, done_c hG h hj]
    cases f_X1_hasBridge G j
    · exact EQB_0 rfl
    · exact EQB_0 rfl
theorem g_builder {G : GS} {f : Nat → Int32} (hG : GSafe G) (h : NR G f) (Q : QS) (x : Int32) : EQI [1, 5] (f_X7_builder Q G x) (f_X8_builder f x) := by
  rcases si_case hG x with e | ⟨j, hj, rfl, e1, e⟩
  · have ed : f_X8_isDone f x = false := by simp only [f_X8_isDone, f_X8_isDone_j22, f_X8_isDone_j23, site_c hG h, e, Bool.false_eq_true, if_false]
    simp only [f_X7_builder, f_X7_requireSite, f_X7_requireFound, lt_, f_X8_builder, f_X8_builder_j29, hOk, hThr, site_c hG h, e, ed, Bool.false_eq_true, Bool.false_and, if_false, show ¬ (1 : Nat) = 0 by decide]
    exact EQI_x (by decide) (by decide) (by decide +kernel)
  · by_cases hb : gBld G j = -1
    · have ed : f_X1_hasBridge G j = false := by
        cases q : f_X1_hasBridge G j
        · rfl
        · exact absurd hb (hasBridge_t.mp q)
      simp only [f_X7_builder, f_X7_requireSite, f_X7_requireFound, lt_, f_X8_builder, f_X8_builder_j29, hOk, hThr, site_c hG h, e, e1, done_c hG h hj, ed, hb, Bool.false_eq_true, Bool.true_and, Bool.false_and, if_false, if_true, show ¬ (5 : Nat) = 0 by decide]
      exact EQI_x (by decide) (by decide) (by decide +kernel)
    · have ed : f_X1_hasBridge G j = true := hasBridge_t.mpr hb
      simp only [f_X7_builder, f_X7_requireSite, f_X7_requireFound, lt_, f_X8_builder, f_X8_builder_j29, hOk, hThr, site_c hG h, e, e1, done_c hG h hj, ed, hb, Bool.true_and, if_false, if_true]
      exact EQI_0 (ofBld hG h hj)
theorem g_ferryOwner {G : GS} {f : Nat → Int32} (hG : GSafe G) (h : NR G f) (Q : QS) (x : Int32) : EQI [1, 5] (f_X7_ferryOwner Q G x) (f_X8_ferryOwner f x) := by
  rcases si_case hG x with e | ⟨j, hj, rfl, e1, e⟩
  · have t : ∀ b, EQI [1, 5] (1, 0) (f_X8_ferryOwner_j21 f x b false) := fun b => by
      simp only [f_X8_ferryOwner_j21, f_X8_ferryOwner_j39, hOk, hThr, Bool.false_and, Bool.false_eq_true, if_false]
      exact EQI_x (by decide) (by decide) (by decide +kernel)
    simp only [f_X7_ferryOwner, f_X7_requireSite, f_X7_requireFound, lt_, f_X8_ferryOwner, site_c hG h, e, Bool.false_eq_true, if_false, show ¬ (1 : Nat) = 0 by decide]
    split <;> exact t _
  · by_cases hb : gFer G j = -1
    · simp only [f_X7_ferryOwner, f_X7_requireSite, f_X7_requireFound, lt_, f_X8_ferryOwner, f_X8_ferryOwner_j21, f_X8_ferryOwner_j39, hOk, hThr, site_c hG h, e, e1, ofFer hG h hj, hb, Bool.false_eq_true, Bool.true_and, Bool.false_and, if_false, if_true, show ¬ (5 : Nat) = 0 by decide]
      exact EQI_x (by decide) (by decide) (by decide +kernel)
    · simp only [f_X7_ferryOwner, f_X7_requireSite, f_X7_requireFound, lt_, f_X8_ferryOwner, f_X8_ferryOwner_j21, f_X8_ferryOwner_j39, hOk, hThr, site_c hG h, e, e1, ofFer hG h hj, hb, Bool.true_and, if_false, if_true]
      exact EQI_0 rfl
theorem nobid_le {G : GS} (hG : GSafe G) (h1 : GI1 G) {k : Nat} (hk : k < 12) (g : ∀ q, q < 4 → f_X1_hasBid G q k = false) : f_X1_bidsAbove G k 0 ≤ 0 := (bids_0 hG h1 hk).mpr g
theorem bid_nle {G : GS} (hG : GSafe G) (h1 : GI1 G) {k w : Nat} (hk : k < 12) (hw : w < 4) (g : f_X1_hasBid G w k = true) : ¬ f_X1_bidsAbove G k 0 ≤ 0 := fun h => by
  rw [(bids_0 hG h1 hk).mp h w hw] at g
  cases g
theorem g_winningBidder {G : GS} {f : Nat → Int32} (hG : GSafe G) (h1 : GI1 G) (hF : FerB G) (h : NR G f) (Q : QS) (x : Int32) : EQI [1, 5] (f_X7_winningBidder Q G x) (f_X8_winningBidder f x) := by
  rcases si_case hG x with e | ⟨j, hj, rfl, e1, e⟩
  · simp only [f_X7_winningBidder, f_X7_requireSite, f_X7_requireFound, lt_, f_X8_winningBidder, f_X8_winningBidder_j26, f_X8_winningBidder_j27, f_X8_winningBidder_j44, hOk, hThr, site_c hG h, e, Bool.false_eq_true, Bool.false_and, if_false, show ¬ (1 : Nat) = 0 by decide]
    exact EQI_x (by decide) (by decide) (by decide +kernel)
  · have h12 : j < 12 := Nat.lt_of_lt_of_le hj hG.1
    have hP4 := hG.2.1
    rcases win_n hG h1 hF hj with ⟨hw, g⟩ | ⟨w, hw, ew, g⟩
    · simp only [f_X7_winningBidder, f_X7_requireSite, f_X7_requireFound, lt_, f_X8_winningBidder, f_X8_winningBidder_j26, f_X8_winningBidder_j27, f_X8_winningBidder_j44, hOk, hThr, site_c hG h, e, e1, bids_c hG h1 h hj, nobid_le hG h1 h12 g, hw, Bool.false_eq_true, Bool.true_and, Bool.false_and, if_false, if_true, show ¬ (5 : Nat) = 0 by decide]
      exact EQI_x (by decide) (by decide) (by decide +kernel)
    · have hn : ¬ (nI w = -1) := fun h9 => by
        have := congrArg Int32.toInt h9
        rw [nI_toInt (by omega)] at this
        have e9 : (-1 : Int32).toInt = -1 := by decide
        omega
      simp only [f_X7_winningBidder, f_X7_requireSite, f_X7_requireFound, lt_, f_X8_winningBidder, f_X8_winningBidder_j26, f_X8_winningBidder_j27, f_X8_winningBidder_j44, hOk, hThr, site_c hG h, e, e1, bids_c hG h1 h hj, bid_nle hG h1 h12 (show w < 4 by omega) g, ew, hn, Bool.true_and, if_false, if_true]
      exact EQI_0 ((win_c hG h1 h hj ⟨w, by omega, g⟩).trans ew)
/-- a bid's place -/
theorem amtOf_c {G : GS} {f : Nat → Int32} (hG : GSafe G) (h : NR G f) {q k : Nat} (hq : q < gP G) (hk : k < gS G) : f_X8_amountOf f (nI q) (nI k) = f_X1_amountOf G q k := by
  have hP4 := hG.2.1
  unfold f_X8_amountOf f_X8_amountOf_j28
  rw [player_c hG h, isP_n hG hq, if_pos rfl, site_c hG h, isS_n hG hk, if_pos rfl, show (5 : Int32) = nI 5 from rfl, nI_add, nI_clamp (by omega)]
  exact ofAmt hG h hk (by omega)
theorem amtOf_0 {G : GS} {f : Nat → Int32} (hG : GSafe G) (h : NR G f) {x y : Int32} (hx : f_X1_isPlayer G x = false ∨ f_X1_isSite G y = false) : f_X8_amountOf f x y = 0 := by
  unfold f_X8_amountOf f_X8_amountOf_j27 f_X8_amountOf_j28
  rw [player_c hG h, site_c hG h]
  rcases hx with e | e
  · rw [e, ifB_f rfl]
  · rw [e]
    cases f_X1_isPlayer G x
    · rw [ifB_f rfl]
    · rw [if_pos rfl, ifB_f rfl]
/-- player and site together, with or without a bid -/
theorem hb_c {G : GS} {f : Nat → Int32} (hG : GSafe G) (h1 : GI1 G) (h : NR G f) (Q : QS) (x y : Int32) : (f_X7_requireBid Q G x y = 1 ∧ f_X8_hasBid f x y = (false, 1)) ∨ (f_X7_requireBid Q G x y = 5 ∧ f_X8_hasBid f x y = (false, 2)) ∨ ∃ q k, q < gP G ∧ k < gS G ∧ x = nI q ∧ y = nI k ∧ (nI q).toNatClampNeg = q ∧ (nI k).toNatClampNeg = k ∧ f_X1_hasBid G q k = true ∧ f_X7_requireBid Q G x y = 0 ∧ f_X8_hasBid f x y = (true, 0) := by
  rcases pl_case hG x with e | ⟨q, hq, rfl, e1, e⟩
  · left
    simp only [f_X7_requireBid, f_X7_requirePlayer, f_X7_requireSite, lt_, f_X8_hasBid, f_X8_hasBid_j21, f_X8_hasBid_j22, f_X8_hasBid_j36, hOk, hThr, player_c hG h, e, amtOf_0 hG h (Or.inl e), Bool.false_eq_true, Bool.false_and, if_false, show ¬ (1 : Nat) = 0 by decide, show (0 : Int32) ≤ 0 by decide, if_true]
    exact ⟨trivial, trivial⟩
  · rcases si_case hG y with e' | ⟨k, hk, rfl, e1', e'⟩
    · left
      simp only [f_X7_requireBid, f_X7_requirePlayer, f_X7_requireSite, lt_, f_X8_hasBid, f_X8_hasBid_j21, f_X8_hasBid_j22, f_X8_hasBid_j36, hOk, hThr, player_c hG h, site_c hG h, e, e', amtOf_0 hG h (Or.inr e'), Bool.false_eq_true, Bool.false_and, if_false, show ¬ (1 : Nat) = 0 by decide, show (0 : Int32) ≤ 0 by decide, if_true]
      exact ⟨trivial, trivial⟩
    · right
      have hP4 := hG.2.1
      have hS12 := hG.1
      cases hb : f_X1_hasBid G q k
      · left
        simp only [f_X7_requireBid, f_X7_requirePlayer, f_X7_requireSite, lt_, f_X8_hasBid, f_X8_hasBid_j21, f_X8_hasBid_j22, f_X8_hasBid_j36, hOk, hThr, player_c hG h, site_c hG h, e, e', e1, e1', hb, amtOf_c hG h hq hk, (amt_pos h1 (show k < 12 by omega) (show q < 4 by omega)).mpr hb, Bool.false_eq_true, Bool.true_and, Bool.false_and, if_false, if_true]
        exact ⟨trivial, trivial⟩
      · right
        refine ⟨q, k, hq, hk, rfl, rfl, e1, e1', hb, ?_, ?_⟩
        · simp only [f_X7_requireBid, f_X7_requirePlayer, f_X7_requireSite, lt_, e, e', e1, e1', hb, if_true]
        · have hn : ¬ f_X1_amountOf G q k ≤ 0 := fun h9 => by rw [(amt_pos h1 (by omega) (by omega)).mp h9] at hb; cases hb
          simp only [f_X8_hasBid, f_X8_hasBid_j21, f_X8_hasBid_j22, f_X8_hasBid_j36, hOk, hThr, player_c hG h, site_c hG h, e, e', amtOf_c hG h hq hk, hn, Bool.true_and, if_false, if_true]
theorem g_bidAmount {G : GS} {f : Nat → Int32} (hG : GSafe G) (h1 : GI1 G) (h : NR G f) (Q : QS) (x y : Int32) : EQI [1, 5] (f_X7_bidAmount Q G x y) (f_X8_bidAmount f x y) := by
  rcases hb_c hG h1 h Q x y with ⟨a, b⟩ | ⟨a, b⟩ | ⟨q, k, hq, hk, rfl, rfl, e1, e2, hb, a, b⟩
  · simp only [f_X7_bidAmount, f_X8_bidAmount, f_X8_bidAmount_j19, lt_, a, b, Bool.false_eq_true, if_false, show ¬ (1 : Nat) = 0 by decide]
    exact EQI_x (by decide) (by decide) (by decide +kernel)
  · simp only [f_X7_bidAmount, f_X8_bidAmount, f_X8_bidAmount_j19, lt_, a, b, Bool.false_eq_true, if_false, show ¬ (5 : Nat) = 0 by decide]
    exact EQI_x (by decide) (by decide) (by decide +kernel)
  · simp only [f_X7_bidAmount, f_X8_bidAmount, f_X8_bidAmount_j19, lt_, a, b, if_true, e1, e2]
    exact EQI_0 (amtOf_c hG h hq hk)
theorem g_isBluff {G : GS} {f : Nat → Int32} (hG : GSafe G) (h1 : GI1 G) (h : NR G f) (Q : QS) (x y : Int32) : EQB [1, 5] (f_X7_isBluff Q G x y) (f_X8_isBluff f x y) := by
  have hP4 := hG.2.1
  rcases hb_c hG h1 h Q x y with ⟨a, b⟩ | ⟨a, b⟩ | ⟨q, k, hq, hk, rfl, rfl, e1, e2, hb, a, b⟩
  · simp only [f_X7_isBluff, f_X8_isBluff, f_X8_isBluff_j26, f_X8_isBluff_j27, lt_, a, b, Bool.false_eq_true, if_false, show ¬ (1 : Nat) = 0 by decide]
    exact EQB_x (by decide) (by decide) (by decide +kernel)
  · simp only [f_X7_isBluff, f_X8_isBluff, f_X8_isBluff_j26, f_X8_isBluff_j27, lt_, a, b, Bool.false_eq_true, if_false, show ¬ (5 : Nat) = 0 by decide]
    exact EQB_x (by decide) (by decide) (by decide +kernel)
  · simp only [f_X7_isBluff, f_X8_isBluff, f_X8_isBluff_j26, f_X8_isBluff_j27, lt_, a, b, if_true, e1, e2, ofBlf hG h hk (show q < 4 by omega), bI_1]
    cases f_X1_hasBluff G q k
    · exact EQB_0 rfl
    · exact EQB_0 rfl
/-- whether the winner builds -/
theorem cost_pos {G : GS} (h0 : GI0 G) {k : Nat} (hk : k < gS G) : 1 ≤ (f_X1_costOf G k).toInt ∧ (f_X1_costOf G k).toInt ≤ 18 := by
  obtain ⟨t, ht, et⟩ := h0.2.1
  obtain ⟨L, hL1, hL9, eL⟩ := h0.2.2.2.2.1 k hk
  unfold f_X1_costOf
  rw [eL, et, nI_add, nI_toInt (by omega)]
  omega
theorem build_c {G : GS} {f : Nat → Int32} (hG : GSafe G) (h0 : GI0 G) (h1 : GI1 G) (h : NR G f) {k w : Nat} (hk : k < gS G) (hw : w < gP G) (ew : f_X1_winnerOf G k = nI w) (g : f_X1_hasBid G w k = true) : f_X8_doesBuild f (nI k) = f_X1_buildsWith G w k := by
  have hP4 := hG.2.1
  have h12 : k < 12 := Nat.lt_of_lt_of_le hk hG.1
  have hw4 : w < 4 := by omega
  have ec := cost_pos h0 hk
  have ha := amt_int h1 h12 hw4
  have hr := res_int h1 h12 hw4
  unfold f_X8_doesBuild f_X8_doesBuild_j38 f_X8_doesBuild_j39 f_X1_buildsWith f_X1_buildsWith_j19
  rw [win_c hG h1 h hk ⟨w, hw4, g⟩, ew, show (9 : Int32) = nI 9 from rfl, show (5 : Int32) = nI 5 from rfl, nI_add, nI_add, nI_clamp (by omega), nI_clamp (by omega), ofBlf hG h hk hw4, ofAmt hG h hk hw4, cost_c hG h hk]
  have e0 : (0 : Int32).toInt = 0 := rfl
  cases hb : f_X1_hasBluff G w k
  · rw [if_pos (show bI false = 0 from rfl)]
    have h9 : ¬ gOff G (k * 4 + w) < 0 := fun h9 => by rw [bluff_t.mpr h9] at hb; cases hb
    rw [ilt] at h9
    have e : f_X1_amountOf G w k = f_X1_reservedBy G w k := Int32.toInt_inj.mp (by rw [ha, hr]; omega)
    rw [e]
  · rw [if_neg (by decide)]
    have h9 := bluff_t.mp hb
    rw [ilt] at h9
    rw [if_pos (by rw [ilt, hr]; omega)]
theorem jS_c {G : GS} {f : Nat → Int32} (hG : GSafe G) (h1 : GI1 G) (hF : FerB G) (h : NR G f) (x : Int32) : (f_X1_judgeSettling G x = 1 ∧ f_X1_isSite G x = false) ∨ ∃ k, k < gS G ∧ x = nI k ∧ (nI k).toNatClampNeg = k ∧ f_X1_isSite G (nI k) = true ∧ ((f_X1_judgeSettling G x = 3 ∧ f_X1_hasBridge G k = true) ∨ (f_X1_hasBridge G k = false ∧ ((f_X1_judgeSettling G x = 5 ∧ ∀ q, q < 4 → f_X1_hasBid G q k = false) ∨ (f_X1_judgeSettling G x = 0 ∧ ∃ w, w < gP G ∧ f_X1_winnerOf G k = nI w ∧ f_X1_hasBid G w k = true)))) := by
  have hP4 := hG.2.1
  rcases si_case hG x with e | ⟨k, hk, rfl, e1, e⟩
  · left
    simp only [f_X1_judgeSettling, e, Bool.false_eq_true, if_false]
    exact ⟨trivial, trivial⟩
  · right
    refine ⟨k, hk, rfl, e1, e, ?_⟩
    cases hb : f_X1_hasBridge G k
    · right
      refine ⟨rfl, ?_⟩
      rcases win_n hG h1 hF hk with ⟨hw, g⟩ | ⟨w, hw, ew, g⟩
      · left
        simp only [f_X1_judgeSettling, f_X1_judgeSettling_j42, e, e1, hb, hw, Bool.false_eq_true, if_false, if_true]
        exact ⟨trivial, g⟩
      · right
        have hn : ¬ (nI w = -1) := fun h9 => by
          have := congrArg Int32.toInt h9
          rw [nI_toInt (by omega)] at this
          have e9 : (-1 : Int32).toInt = -1 := by decide
          omega
        simp only [f_X1_judgeSettling, f_X1_judgeSettling_j42, e, e1, hb, ew, hn, Bool.false_eq_true, if_false, if_true]
        exact ⟨trivial, w, hw, rfl, g⟩
    · left
      simp only [f_X1_judgeSettling, f_X1_judgeSettling_j42, e, e1, hb, if_true]
      exact ⟨trivial, trivial⟩
theorem g_wouldBuild {G : GS} {f : Nat → Int32} (hG : GSafe G) (h0 : GI0 G) (h1 : GI1 G) (hF : FerB G) (h : NR G f) (Q : QS) (x : Int32) : EQB [1, 3, 5] (f_X7_wouldBuild Q G x) (f_X8_wouldBuild f x) := by
  have hP4 := hG.2.1
  have r0 : f_X7_refuseUnlessFine 0 = 0 := by decide +kernel
  have r1 : f_X7_refuseUnlessFine 1 = 1 := by decide +kernel
  have r3 : f_X7_refuseUnlessFine 3 = 3 := by decide +kernel
  have r5 : f_X7_refuseUnlessFine 5 = 5 := by decide +kernel
  have ej : f_X1_judge G 8 x 0 0 = f_X1_judgeSettling G x := X1_judge_9 rfl
  rcases jS_c hG h1 hF h x with ⟨a, b⟩ | ⟨k, hk, rfl, e1, e, ⟨a, b⟩ | ⟨b, ⟨a, g⟩ | ⟨a, w, hw, ew, g⟩⟩⟩
  · have ed : f_X8_isDone f x = false := by simp only [f_X8_isDone, f_X8_isDone_j22, f_X8_isDone_j23, site_c hG h, b, Bool.false_eq_true, if_false]
    simp only [f_X7_wouldBuild, ej, a, r1, lt_, f_X8_wouldBuild, f_X8_wouldBuild_j19, f_X8_wouldBuild_j39, f_X8_wouldBuild_j40, f_X8_wouldBuild_j59, f_X8_wouldBuild_j60, hOk, hThr, site_c hG h, b, ed, Bool.false_eq_true, Bool.false_and, if_false, show ¬ (1 : Nat) = 0 by decide]
    exact EQB_x (by decide) (by decide) (by decide +kernel)
  · have h12 : k < 12 := Nat.lt_of_lt_of_le hk hG.1
    simp only [f_X7_wouldBuild, ej, a, r3, lt_, f_X8_wouldBuild, f_X8_wouldBuild_j19, f_X8_wouldBuild_j39, f_X8_wouldBuild_j40, f_X8_wouldBuild_j59, f_X8_wouldBuild_j60, hOk, hThr, site_c hG h, e, done_c hG h hk, b, Bool.false_eq_true, Bool.true_and, Bool.false_and, if_false, if_true, show ¬ (3 : Nat) = 0 by decide]
    split <;> exact EQB_x (by decide) (by decide) (by decide +kernel)
  · have h12 : k < 12 := Nat.lt_of_lt_of_le hk hG.1
    simp only [f_X7_wouldBuild, ej, a, r5, lt_, f_X8_wouldBuild, f_X8_wouldBuild_j19, f_X8_wouldBuild_j39, f_X8_wouldBuild_j40, f_X8_wouldBuild_j59, f_X8_wouldBuild_j60, hOk, hThr, site_c hG h, e, done_c hG h hk, b, bids_c hG h1 h hk, nobid_le hG h1 h12 g, Bool.false_eq_true, Bool.true_and, Bool.false_and, if_false, if_true, show ¬ (5 : Nat) = 0 by decide]
    exact EQB_x (by decide) (by decide) (by decide +kernel)
  · have h12 : k < 12 := Nat.lt_of_lt_of_le hk hG.1
    simp only [f_X7_wouldBuild, ej, a, r0, e1, ew, nI_clamp (show w < 2 ^ 31 by omega), lt_, f_X8_wouldBuild, f_X8_wouldBuild_j19, f_X8_wouldBuild_j39, f_X8_wouldBuild_j40, f_X8_wouldBuild_j59, f_X8_wouldBuild_j60, hOk, hThr, site_c hG h, e, done_c hG h hk, b, bids_c hG h1 h hk, bid_nle hG h1 h12 (show w < 4 by omega) g, build_c hG h0 h1 h hk hw ew g, Bool.false_eq_true, Bool.true_and, if_false, if_true]
    cases f_X1_buildsWith G w k
    · exact EQB_0 rfl
    · exact EQB_0 rfl
