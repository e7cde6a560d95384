/-! the measures of the game and of the reference -/
theorem avail_c {G : GS} {f : Nat → Int32} (hG : GSafe G) (h1 : GI1 G) (h : NR G f) {q : Nat} (hq : q < gP G) : f_X8_available f q = f_X1_availableTo G q := by
  have hq4 : q < 4 := Nat.lt_of_lt_of_le hq hG.2.1
  unfold f_X8_available f_X1_availableTo f_X8_available_l14 f_X1_availableTo_l9
  rw [mS_of hG h, show f (14 + 2 * q + 0) = gMon G q from (h.2.2.1 q hq).1]
  rw [lpF_it (fun k v => v - f_X1_reservedBy G q k) (gS G) (fun k s hk => by show Sum.inr (s - f_X8_reservedOn f q (nI k)) = _; rw [res_c hG h1 h hk hq4]) _ _ _ (Nat.zero_add _),
    lpF_it (step := f_X1_availableTo_l9s G q) (fun k v => v - f_X1_reservedBy G q k) (gS G) (fun k s hk => rfl) _ _ _ (Nat.zero_add _)]
  rfl
theorem bids_c {G : GS} {f : Nat → Int32} (hG : GSafe G) (h1 : GI1 G) (h : NR G f) {k : Nat} (hk : k < gS G) : f_X8_bidsOn f (nI k) = f_X1_bidsAbove G k 0 := by
  have hk12 : k < 12 := Nat.lt_of_lt_of_le hk hG.1
  unfold f_X8_bidsOn f_X1_bidsAbove f_X8_bidsOn_l4 f_X1_bidsAbove_l5
  rw [lpF_it (fun q v => v + bI (f_X1_hasBid G q k)) 4 (fun q s hq => by
      show f_X8_bidsOn_l4b f (nI k) q s = _
      unfold f_X8_bidsOn_l4b f_X8_bidsOn_j26
      rw [ofAmt hG h hk hq]
      cases hb : f_X1_hasBid G q k
      · rw [if_pos ((amt_pos h1 hk12 hq).mpr hb)]
      · rw [if_neg (fun h9 => by rw [(amt_pos h1 hk12 hq).mp h9] at hb; cases hb)]) 4 0 _ rfl,
    lpF_it (fun q v => v + bI (f_X1_hasBid G q k)) (gP G) (fun q s hq => by
      show f_X1_bidsAbove_l5b G k 0 q s = _
      unfold f_X1_bidsAbove_l5b f_X1_bidsAbove_j31
      have hq4 : q < 4 := Nat.lt_of_lt_of_le hq hG.2.1
      cases hb : f_X1_hasBid G q k
      · rw [if_pos ((amt_pos h1 hk12 hq4).mpr hb)]
      · rw [if_neg (fun h9 => by rw [(amt_pos h1 hk12 hq4).mp h9] at hb; cases hb)]) (gP G) 0 _ (Nat.zero_add _)]
  show itF (fun q v => v + bI (f_X1_hasBid G q k)) 4 0 0 = itF (fun q v => v + bI (f_X1_hasBid G q k)) (gP G) 0 0
  refine itF_4 hG.2.1 _ (fun q s hq hq4 => ?_)
  have : f_X1_hasBid G q k = false := by
    cases hb : f_X1_hasBid G q k
    · rfl
    · exact absurd (h1.2.1 k hk12 q hq4 (Or.inr hq)) (bid_t.mp hb)
    
  show s + bI (f_X1_hasBid G q k) = s
  rw [this]
  exact Int32.add_zero s
theorem bridges_c {G : GS} {f : Nat → Int32} (hG : GSafe G) (h : NR G f) : f_X8_builtSites f = f_X1_bridges G := by
  unfold f_X8_builtSites f_X1_bridges f_X8_builtSites_l4 f_X1_bridges_l4
  rw [mS_of hG h]
  rw [lpF_it (fun k v => v + bI (f_X1_hasBridge G k)) (gS G) (fun k s hk => by
      show f_X8_builtSites_l4b f k s = _
      unfold f_X8_builtSites_l4b f_X8_builtSites_j28
      rw [done_c hG h hk]
      cases f_X1_hasBridge G k <;> rfl) _ _ _ (Nat.zero_add _),
    lpF_it (fun k v => v + bI (f_X1_hasBridge G k)) (gS G) (fun k s hk => by
      show f_X1_bridges_l4b G k s = _
      unfold f_X1_bridges_l4b f_X1_bridges_j26
      cases f_X1_hasBridge G k <;> rfl) _ _ _ (Nat.zero_add _)]
  rfl
theorem score_c {G : GS} {f : Nat → Int32} (hG : GSafe G) (h : NR G f) (x : Int32) : f_X8_scoreOf f x = f_X1_scoreOf G x := by
  unfold f_X8_scoreOf f_X1_scoreOf f_X8_scoreOf_l4 f_X1_scoreOf_l4
  rw [mS_of hG h]
  rw [lpF_it (fun k v => v + (if gBld G k = x then gLen G k + (if gSuit G (gLo G k) = gSuit G (gHi G k) then 3 else 0) else 0)) (gS G) (fun k s hk => by
      show f_X8_scoreOf_l4b f x k s = _
      have e6 : ∀ a, a < 8 → (6 + nI a : Int32).toNatClampNeg = 6 + a := fun a ha => by
        rw [show (6 : Int32) = nI 6 from rfl, nI_add, nI_clamp (by omega)]
      unfold f_X8_scoreOf_l4b f_X8_scoreOf_j50 f_X8_scoreOf_j79 f_X8_scoreOf_j84
      rw [ofLo hG h hk, ofHi hG h hk, ofLen hG h hk, ofBld hG h hk, e6 _ (hG.2.2.1 k), e6 _ (hG.2.2.2 k), h.2.1 _ (hG.2.2.1 k), h.2.1 _ (hG.2.2.2 k)]
      split <;> split <;> simp_all) _ _ _ (Nat.zero_add _),
    lpF_it (fun k v => v + (if gBld G k = x then gLen G k + (if gSuit G (gLo G k) = gSuit G (gHi G k) then 3 else 0) else 0)) (gS G) (fun k s hk => by
      show f_X1_scoreOf_l4b G x k s = _
      unfold f_X1_scoreOf_l4b f_X1_scoreOf_j62 f_X1_scoreOf_j64
      split
      · split <;> simp [Int32.add_assoc]
      · simp) _ _ _ (Nat.zero_add _)]
  rfl
theorem bridgesOf_c {G : GS} {f : Nat → Int32} (hG : GSafe G) (h : NR G f) (x t : Int32) : f_X8_bridgeCount_l18 f x (mS f) 0 0 t = (f_X1_bridgesOf G x, t) := by
  unfold f_X8_bridgeCount_l18 f_X1_bridgesOf f_X1_bridgesOf_l4
  rw [mS_of hG h]
  have key : ∀ (n k : Nat) (v : Int32), k + n = gS G → lpF (f_X8_bridgeCount_l18s f x) (f_X8_bridgeCount_l18e f x) n k (v, t) = (lpF (f_X1_bridgesOf_l4s G x) (f_X1_bridgesOf_l4e G x) n k v, t) := by
    intro n
    induction n with
    | zero => intro k v _; rfl
    | succ n ih =>
      intro k v hk
      show sE id (lpF _ _ n (k + 1)) (f_X8_bridgeCount_l18b f x k v t) = (sE id (lpF _ _ n (k + 1)) (f_X1_bridgesOf_l4b G x k v), t)
      unfold f_X8_bridgeCount_l18b f_X1_bridgesOf_l4b f_X8_bridgeCount_j44 f_X1_bridgesOf_j28
      rw [ofBld hG h (by omega)]
      split
      · exact ih (k + 1) _ (by omega)
      · exact ih (k + 1) _ (by omega)
  exact key _ 0 0 (Nat.zero_add _)
