/-! bids counted by the law; whether a site would be built, by the law -/
theorem bid_pos {K : CT} (hI : GI (kG K)) {q s : Nat} (hq : q < gP (kG K)) (hs : s < gS (kG K)) : f_L_bid K (nI q) (nI s) ≤ 0 ↔ f_X1_hasBid (kG K) q s = false := by
  have h12 : s < 12 := by have := (GI_safe hI).1; omega
  have h4 : q < 4 := by have := (GI_safe hI).2.1; omega
  have t0 : (0 : Int32).toInt = 0 := rfl
  have n := amt_nn hI.2.1 h12 h4
  rw [bid_v hI hq hs, ile, t0]
  constructor
  · intro h
    exact nbid hI.2.1 h12 h4 (by omega)
  · intro h
    refine Decidable.byContradiction (fun c => ?_)
    rw [ybid hI.2.1 h12 h4 (by omega)] at h
    cases h
theorem cnt_bids {K : CT} (hI : GI (kG K)) {s : Nat} (hs : s < gS (kG K)) : f_X1_bidsAbove (kG K) s 0 = itF (fun q v => v + (if f_L_bid K (nI q) (nI s) ≤ 0 then 0 else 1)) (gP (kG K)) 0 0 := by
  have h12 : s < 12 := by have := (GI_safe hI).1; omega
  rw [bidsAbove_it (GI_safe hI) hI.2.1 h12]
  refine itF_c (gP (kG K)) (fun q v hq => ?_) _ 0 _ (Nat.zero_add _)
  have b := bid_pos hI hq hs
  cases c : f_X1_hasBid (kG K) q s
  · rw [if_pos (b.mpr c)]
    rfl
  · rw [if_neg (fun h => by rw [b.mp h] at c; cases c)]
    rfl
/-- no bids: the class's winner is none; else it is a player with a bid -/
theorem bids_none {K : CT} (hI : GI (kG K)) {s : Nat} (hs : s < gS (kG K)) : (f_X1_bidsAbove (kG K) s 0 = 0 ∧ f_X1_winnerOf (kG K) s = -1) ∨ (¬ f_X1_bidsAbove (kG K) s 0 = 0 ∧ (∃ q, q < 4 ∧ f_X1_hasBid (kG K) q s = true) ∧ ∃ w, w < gP (kG K) ∧ f_X1_winnerOf (kG K) s = nI w ∧ f_X1_hasBid (kG K) w s = true) := by
  have hG := GI_safe hI
  have h12 : s < 12 := by have := hG.1; omega
  have h4 := hG.2.1
  have t0 : (0 : Int32).toInt = 0 := rfl
  obtain ⟨m, m1, m2, m3⟩ := cnt_it (fun q => f_X1_hasBid (kG K) q s) (gP (kG K)) (by omega)
  have e : f_X1_bidsAbove (kG K) s 0 = nI m := (bidsAbove_it hG hI.2.1 h12).trans m2
  rcases win_n hG hI.2.1 (GI_fer hI) hs with ⟨w, n⟩ | ⟨w, w1, w2, w3⟩
  · exact Or.inl ⟨by rw [e, m3.mpr (fun q hq => n q (by omega))]; rfl, w⟩
  · refine Or.inr ⟨fun z => ?_, ⟨w, by omega, w3⟩, w, w1, w2, w3⟩
    rw [e] at z
    have m0 := (nI_eq (b := 0) (by omega) (by decide)).mp z
    rw [(m3.mp m0) w w1] at w3
    cases w3
theorem cost_in {G : GS} (hI : GI G) {s : Nat} (hs : s < gS G) : 1 ≤ (f_X1_costOf G s).toInt ∧ (f_X1_costOf G s).toInt ≤ 18 := by
  obtain ⟨t, ht, et⟩ := hI.1.2.1
  obtain ⟨L, h1, h9, el⟩ := hI.1.2.2.2.2.1 s hs
  unfold f_X1_costOf
  rw [et, el, nI_add, nI_toInt (by omega)]
  omega
theorem would_v {K : CT} (hI : GI (kG K)) {s w : Nat} (hs : s < gS (kG K)) (hn : f_X1_hasBridge (kG K) s = false) (hw : w < gP (kG K)) (ew : f_X1_winnerOf (kG K) s = nI w) (hb : f_X1_hasBid (kG K) w s = true) (b : Int32) : askV K 7 (nI s) b = if askV K 4 (nI w) (nI s) = 0 then (if f_L_bid K (nI w) (nI s) < f_X1_costOf (kG K) s then 0 else 1) else 0 := by
  have hG := GI_safe hI
  have h4 := hG.2.1
  have t0 : (0 : Int32).toInt = 0 := rfl
  have cp := cost_in hI hs
  have bb := hI.2.1.1 s (by have := hG.1; omega) w (by omega)
  have a := abs_int bb.1 bb.2
  have off : ¬ gOff (kG K) (s * 4 + w) = 0 := fun e => by
    unfold f_X1_hasBid f_X1_hasBid_j18 at hb
    rw [if_pos e] at hb
    cases hb
  have off' : (gOff (kG K) (s * 4 + w)).toInt ≠ 0 := fun e => off (Int32.toInt_inj.mp (e.trans t0.symm))
  rw [av_would hI hs, hn, if_neg (by decide), ew, if_neg (nI_nm (by omega) _ (by decide)), nI_clamp (by omega), av_bluff hI hw hs, if_neg off, bid_v hI hw hs]
  unfold f_X1_buildsWith f_X1_buildsWith_j19 f_X1_reservedBy f_X1_hasBluff f_X1_hasBluff_j18 f_X1_amountOf
  by_cases d : 0 ≤ gOff (kG K) (s * 4 + w)
  · have same : (imax (gOff (kG K) (s * 4 + w)) 0) = iabs (gOff (kG K) (s * 4 + w)) := Int32.toInt_inj.mp (by
      rw [ile, t0] at d
      rw [a.1, a.2]
      omega)
    rw [if_pos d, if_pos (show bI false = 0 from rfl), same]
    generalize iabs (gOff (kG K) (s * 4 + w)) = x
    by_cases c : x < f_X1_costOf (kG K) s
    · rw [if_pos c, if_pos c]; rfl
    · rw [if_neg c, if_neg c]; rfl
  · rw [if_neg d, if_neg (show ¬ bI true = 0 by decide), if_pos (by
      rw [ile, t0] at d
      rw [ilt, a.2]
      omega)]
    rfl
