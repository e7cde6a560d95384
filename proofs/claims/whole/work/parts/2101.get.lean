/-! the measures of the game and of the reference -/
theorem avail_c {G : GS} {f : Nat → Int32} (hG : GSafe G) (h1 : GI1 G) (h : NR G f) {q : Nat} (hq : q < gP G) : f_X8_available f q = f_X1_availableTo G q := by
  have hq4 : q < 4 := Nat.lt_of_lt_of_le hq hG.2.1
  unfold f_X8_available f_X1_availableTo f_X8_available_l14 f_X1_availableTo_l9
  rw [mS_of hG h, show f (14 + 2 * q + 0) = gMon G q from (h.2.2.1 q hq).1]
  rw [lpF_it (fun k v => v - f_X1_reservedBy G q k) (gS G) (fun k s hk => by show Sum.inr (s - f_X8_reservedOn f q (nI k)) = _; rw [res_c hG h1 h hk hq4]) _ _ _ (Nat.zero_add _),
    lpF_it (fun k v => v - f_X1_reservedBy G q k) (gS G) (fun k s hk => rfl) _ _ _ (Nat.zero_add _)]
  rfl
theorem bids_c {G : GS} {f : Nat → Int32} (hG : GSafe G) (h1 : GI1 G) (h : NR G f) {k : Nat} (hk : k < gS G) : f_X8_bidsOn f (nI k) = f_X1_bidsAbove G k 0 := by
  have hk12 : k < 12 := Nat.lt_of_lt_of_le hk hG.1
  unfold f_X8_bidsOn f_X1_bidsAbove f_X8_bidsOn_l4 f_X1_bidsAbove_l5
  rw [lpF_it (fun q v => v + bI (f_X1_hasBid G q k)) 4 (fun q s hq => by
      show f_X8_bidsOn_l4b f (nI k) q s = _
      unfold f_X8_bidsOn_l4b f_X8_bidsOn_j26
      rw [ofAmt hG h hk hq]
      cases hb : f_X1_hasBid G q k
      · rw [if_pos ((amt_pos h1 hk12 hq).mpr hb)]
      · rw [if_neg (fun h9 => by rw [(amt_pos h1 hk12 hq).mp h9] at hb; cases hb)]) 4 0 _ rfl,
    lpF_it (fun q v => v + bI (f_X1_hasBid G q k)) (gP G) (fun q s hq => by
      show f_X1_bidsAbove_l5b G k 0 q s = _
      unfold f_X1_bidsAbove_l5b f_X1_bidsAbove_j31
      have hq4 : q < 4 := Nat.lt_of_lt_of_le hq hG.2.1
      cases hb : f_X1_hasBid G q k
      · rw [if_pos ((amt_pos h1 hk12 hq4).mpr hb)]
      · rw [if_neg (fun h9 => by rw [(amt_pos h1 hk12 hq4).mp h9] at hb; cases hb)]) (gP G) 0 _ (Nat.zero_add _)]
  show itF _ 4 0 _ = itF _ (gP G) 0 _
  refine itF_4 hG.2.1 _ (fun q s hq hq4 => ?_)
  have : f_X1_hasBid G q k = false := by
    cases hb : f_X1_hasBid G q k
    · rfl
    · exact absurd (h1.2.1 k hk12 q hq4 (Or.inr hq)) (bid_t.mp hb)
    
  show s + bI (f_X1_hasBid G q k) = s
  rw [this]
  exact Int32.add_zero s
theorem bridges_c {G : GS} {f : Nat → Int32} (hG : GSafe G) (h : NR G f) : f_X8_builtSites f = f_X1_bridges G := by
  unfold f_X8_builtSites f_X1_bridges f_X8_builtSites_l4 f_X1_bridges_l4
  rw [mS_of hG h]
  rw [lpF_it (fun k v => v + bI (f_X1_hasBridge G k)) (gS G) (fun k s hk => by
      show f_X8_builtSites_l4b f k s = _
      unfold f_X8_builtSites_l4b f_X8_builtSites_j28
      rw [done_c hG h hk]
      cases f_X1_hasBridge G k <;> rfl) _ _ _ (Nat.zero_add _),
    lpF_it (fun k v => v + bI (f_X1_hasBridge G k)) (gS G) (fun k s hk => by
      show f_X1_bridges_l4b G k s = _
      unfold f_X1_bridges_l4b f_X1_bridges_j26
      cases f_X1_hasBridge G k <;> rfl) _ _ _ (Nat.zero_add _)]
  rfl
theorem score_c {G : GS} {f : Nat → Int32} (hG : GSafe G) (h : NR G f) (x : Int32) : f_X8_scoreOf f x = f_X1_scoreOf G x := by
  unfold f_X8_scoreOf f_X1_scoreOf f_X8_scoreOf_l4 f_X1_scoreOf_l4
  rw [mS_of hG h]
  rw [lpF_it (fun k v => v + (if gBld G k = x then gLen G k + (if gSuit G (gLo G k) = gSuit G (gHi G k) then 3 else 0) else 0)) (gS G) (fun k s hk => by
      show f_X8_scoreOf_l4b f x k s = _
      have e6 : ∀ a, a < 8 → (6 + nI a : Int32).toNatClampNeg = 6 + a := fun a ha => by
        rw [show (6 : Int32) = nI 6 from rfl, nI_add, nI_clamp (by omega)]
      unfold f_X8_scoreOf_l4b f_X8_scoreOf_j50 f_X8_scoreOf_j79 f_X8_scoreOf_j84
      rw [ofLo hG h hk, ofHi hG h hk, ofLen hG h hk, ofBld hG h hk, e6 _ (hG.2.2.1 k), e6 _ (hG.2.2.2 k), h.2.1 _ (hG.2.2.1 k), h.2.1 _ (hG.2.2.2 k)]
      split <;> split <;> simp_all) _ _ _ (Nat.zero_add _),
    lpF_it (fun k v => v + (if gBld G k = x then gLen G k + (if gSuit G (gLo G k) = gSuit G (gHi G k) then 3 else 0) else 0)) (gS G) (fun k s hk => by
      show f_X1_scoreOf_l4b G x k s = _
      unfold f_X1_scoreOf_l4b f_X1_scoreOf_j62 f_X1_scoreOf_j64
      split
      · split <;> simp [Int32.add_assoc]
      · simp) _ _ _ (Nat.zero_add _)]
  rfl
theorem bridgesOf_c {G : GS} {f : Nat → Int32} (hG : GSafe G) (h : NR G f) (x t : Int32) : f_X8_bridgeCount_l18 f x (mS f) 0 0 t = (f_X1_bridgesOf G x, t) := by
  unfold f_X8_bridgeCount_l18 f_X1_bridgesOf f_X1_bridgesOf_l4
  rw [mS_of hG h]
  have key : ∀ (n k : Nat) (v : Int32), k + n = gS G → lpF (f_X8_bridgeCount_l18s f x) (f_X8_bridgeCount_l18e f x) n k (v, t) = (lpF (f_X1_bridgesOf_l4s G x) (f_X1_bridgesOf_l4e G x) n k v, t) := by
    intro n
    induction n with
    | zero => intro k v _; rfl
    | succ n ih =>
      intro k v hk
      show sE id (lpF _ _ n (k + 1)) (f_X8_bridgeCount_l18b f x k v t) = (sE id (lpF _ _ n (k + 1)) (f_X1_bridgesOf_l4b G x k v), t)
      unfold f_X8_bridgeCount_l18b f_X1_bridgesOf_l4b f_X8_bridgeCount_j44 f_X1_bridgesOf_j28
      rw [ofBld hG h (by omega)]
      split
      · exact ih (k + 1) _ (by omega)
      · exact ih (k + 1) _ (by omega)
  exact key _ 0 0 (Nat.zero_add _)
theorem itF_snoc {σ : Type} {f : Nat → σ → σ} (n k : Nat) (s : σ) : itF f (n + 1) k s = f (k + n) (itF f n k s) := itF_add n 1 k s
/-- who leads, by the amounts alone -/
def wC1 (a : Nat → Int32) (q : Nat) (s : Int32 × Int32) : Int32 × Int32 := if a q ≤ s.2 then s else (nI q, a q)
def wR1 (a : Nat → Int32) (q : Nat) (b : Nat) : Nat := if a q ≤ a b then b else q
theorem win_it {a : Nat → Int32} (h0 : ∀ q, q < 4 → 0 ≤ (a q).toInt) : ∀ j, j < 4 → ∀ r c, r = itF (wR1 a) j 1 0 → c = itF (wC1 a) (j + 1) 0 (-1, 0) → r ≤ j ∧ c.2 = a r ∧ ((c.1 = nI r ∧ 0 < (a r).toInt) ∨ (c.1 = -1 ∧ (a r).toInt = 0)) ∧ ∀ q, q ≤ j → (a q).toInt ≤ (a r).toInt := by
  intro j
  induction j with
  | zero =>
    intro _ r c hr hc
    have hr : r = 0 := hr
    have hc : c = wC1 a 0 (-1, 0) := hc
    subst hr
    have h9 := h0 0 (by decide)
    have e0 : (0 : Int32).toInt = 0 := rfl
    unfold wC1 at hc
    by_cases q : a 0 ≤ (0 : Int32)
    · rw [if_pos q] at hc
      rw [ile, e0] at q
      subst hc
      exact ⟨Nat.le_refl _, Int32.toInt_inj.mp (by show (0 : Int32).toInt = _; omega), Or.inr ⟨rfl, by omega⟩, fun q hq => by obtain rfl : q = 0 := by omega
                                                                                                                        exact Int.le_refl _⟩
    · rw [if_neg q] at hc
      rw [ile, e0] at q
      subst hc
      exact ⟨Nat.le_refl _, rfl, Or.inl ⟨rfl, by omega⟩, fun q hq => by obtain rfl : q = 0 := by omega
                                                                        exact Int.le_refl _⟩
  | succ j ih =>
    intro hj r c hr hc
    rw [itF_snoc] at hr hc
    obtain ⟨i1, i2, i3, i4⟩ := ih (by omega) _ _ rfl rfl
    generalize itF (wR1 a) j 1 0 = r0 at hr i1 i2 i3 i4
    generalize itF (wC1 a) (j + 1) 0 (-1, 0) = c0 at hc i2 i3
    rw [Nat.add_comm 1 j] at hr
    rw [Nat.zero_add] at hc
    have h9 := h0 (j + 1) hj
    have h8 := h0 r0 (by omega)
    unfold wR1 at hr
    unfold wC1 at hc
    rw [i2] at hc
    by_cases q : a (j + 1) ≤ a r0
    · rw [if_pos q] at hr hc
      rw [ile] at q
      subst hr hc
      exact ⟨by omega, i2, i3, fun q9 hq => by
        rcases Nat.lt_or_ge q9 (j + 1) with h | h
        · exact i4 q9 (by omega)
        · obtain rfl : q9 = j + 1 := by omega
          exact q⟩
    · rw [if_neg q] at hr hc
      rw [ile] at q
      subst hr hc
      exact ⟨Nat.le_refl _, rfl, Or.inl ⟨rfl, by omega⟩, fun q9 hq => by
        rcases Nat.lt_or_ge q9 (j + 1) with h | h
        · have := i4 q9 (by omega)
          omega
        · obtain rfl : q9 = j + 1 := by omega
          exact Int.le_refl _⟩
theorem amt_nn {G : GS} (h : GI1 G) {q k : Nat} (hk : k < 12) (hq : q < 4) : 0 ≤ (f_X1_amountOf G q k).toInt := by
  rw [amt_int h hk hq]; omega
theorem amt_0 {G : GS} (h : GI1 G) {q k : Nat} (hk : k < 12) (hq : q < 4) (h2 : gS G ≤ k ∨ gP G ≤ q) : (f_X1_amountOf G q k).toInt = 0 := by
  rw [amt_int h hk hq, h.2.1 k hk q hq h2]; rfl
/-- the class's loop and the reference's over the amounts of a site -/
theorem winL {G : GS} (hG : GSafe G) (k : Nat) : f_X1_winnerOf_l24 G k (gP G) 0 (-1) 0 = (itF (wC1 (fun q => f_X1_amountOf G q k)) (gP G) 0 (-1, 0)).1 := by
  unfold f_X1_winnerOf_l24
  rw [lpF_it (wC1 (fun q => f_X1_amountOf G q k)) (gP G) (fun q s hq => by
    show f_X1_winnerOf_l24b G k q s.1 s.2 = _
    unfold f_X1_winnerOf_l24b f_X1_winnerOf_j55 wC1
    split <;> rfl) _ _ _ (Nat.zero_add _)]
  rfl
theorem winR {G : GS} {f : Nat → Int32} (hG : GSafe G) (h1 : GI1 G) (h : NR G f) {k : Nat} (hk : k < gS G) : f_X8_winner f (nI k) = if gFer G k = -1 then nI (itF (wR1 (fun q => f_X1_amountOf G q k)) 3 1 0) else gFer G k := by
  unfold f_X8_winner f_X8_winner_l4
  rw [lpF_it (wR1 (fun q => f_X8_of f (nI k) (5 + q))) 4 (fun q s hq => by
    show f_X8_winner_l4b f (nI k) q s = _
    unfold f_X8_winner_l4b f_X8_winner_j33 wR1
    split <;> rfl) 3 1 0 rfl]
  show f_X8_winner_l4x f (nI k) _ = _
  unfold f_X8_winner_l4x f_X8_winner_j60
  rw [ofFer hG h hk]
  have e : ∀ (n j b : Nat), j + n = 4 → b < 4 → itF (wR1 (fun q => f_X8_of f (nI k) (5 + q))) n j b = itF (wR1 (fun q => f_X1_amountOf G q k)) n j b := by
    intro n
    induction n with
    | zero => intro j b _ _; rfl
    | succ n ih =>
      intro j b hj hb
      have e1 : wR1 (fun q => f_X8_of f (nI k) (5 + q)) j b = wR1 (fun q => f_X1_amountOf G q k) j b := by
        unfold wR1
        simp only [ofAmt hG h hk (show j < 4 by omega), ofAmt hG h hk hb]
      show itF _ n (j + 1) _ = itF _ n (j + 1) _
      rw [e1]
      exact ih (j + 1) _ (by omega) (by unfold wR1; split <;> omega)
  rw [e 3 1 0 rfl (by decide)]
theorem wR_id {a : Nat → Int32} {b : Nat} : ∀ (n j : Nat), (∀ q, j ≤ q → q < j + n → a q ≤ a b) → itF (wR1 a) n j b = b := by
  intro n
  induction n with
  | zero => intro j _; rfl
  | succ n ih =>
    intro j h
    show itF (wR1 a) n (j + 1) (wR1 a j b) = b
    have e : wR1 a j b = b := if_pos (h j (Nat.le_refl _) (by omega))
    rw [e]
    exact ih (j + 1) (fun q hq hq2 => h q (by omega) (by omega))
theorem nbid {G : GS} (h1 : GI1 G) {q k : Nat} (hk : k < 12) (hq : q < 4) (h : (f_X1_amountOf G q k).toInt = 0) : f_X1_hasBid G q k = false := (amt_pos h1 hk hq).mp (by rw [ile, h]; exact Int.le_refl _)
theorem ybid {G : GS} (h1 : GI1 G) {q k : Nat} (hk : k < 12) (hq : q < 4) (h : 0 < (f_X1_amountOf G q k).toInt) : f_X1_hasBid G q k = true := by
  cases hb : f_X1_hasBid G q k
  · have := (amt_pos h1 hk hq).mpr hb
    rw [ile] at this
    have e0 : (0 : Int32).toInt = 0 := rfl
    omega
  · rfl
/-- no bids: no winner; bids: both name the same -/
theorem win_all {G : GS} (hG : GSafe G) (h1 : GI1 G) {k : Nat} (hk : k < 12) : (f_X1_winnerOf_l24 G k (gP G) 0 (-1) 0 = -1 ∧ ∀ q, q < 4 → f_X1_hasBid G q k = false) ∨ (f_X1_winnerOf_l24 G k (gP G) 0 (-1) 0 = nI (itF (wR1 (fun q => f_X1_amountOf G q k)) 3 1 0) ∧ itF (wR1 (fun q => f_X1_amountOf G q k)) 3 1 0 < gP G ∧ f_X1_hasBid G (itF (wR1 (fun q => f_X1_amountOf G q k)) 3 1 0) k = true) := by
  rw [winL hG k]
  have hP4 := hG.2.1
  obtain ⟨a, ha⟩ : ∃ a : Nat → Int32, a = fun q => f_X1_amountOf G q k := ⟨_, rfl⟩
  have a0 : ∀ q, q < 4 → 0 ≤ (a q).toInt := fun q hq => by rw [ha]; exact amt_nn h1 hk hq
  have aP : ∀ q, q < 4 → gP G ≤ q → (a q).toInt = 0 := fun q hq hP => by rw [ha]; exact amt_0 h1 hk hq (Or.inr hP)
  have nb : ∀ q, q < 4 → (a q).toInt = 0 → f_X1_hasBid G q k = false := fun q hq h => nbid h1 hk hq (by rw [ha] at h; exact h)
  have hb : ∀ q, q < 4 → 0 < (a q).toInt → f_X1_hasBid G q k = true := fun q hq h => ybid h1 hk hq (by rw [ha] at h; exact h)
  rw [← ha]
  generalize hP : gP G = P at hP4 aP ⊢
  rcases Nat.eq_zero_or_pos P with hz | hpos
  · subst hz
    exact Or.inl ⟨rfl, fun q hq => nb q hq (aP q hq (Nat.zero_le _))⟩
  · obtain ⟨i1, i2, i3, i4⟩ := win_it a0 (P - 1) (by omega) _ _ rfl rfl
    rw [show P - 1 + 1 = P by omega] at i2 i3
    have e3 : itF (wR1 a) 3 1 0 = itF (wR1 a) (P - 1) 1 0 := by
      have e := itF_add (f := wR1 a) (P - 1) (4 - P) 1 0
      rw [show P - 1 + (4 - P) = 3 by omega] at e
      rw [e]
      refine wR_id _ _ (fun q hq hq2 => ?_)
      rw [ile, aP q (by omega) (by omega)]
      exact a0 _ (by omega)
    rw [e3]
    rcases i3 with ⟨e, h⟩ | ⟨e, h⟩
    · exact Or.inr ⟨e, by omega, hb _ (by omega) h⟩
    · refine Or.inl ⟨e, fun q hq => nb q hq ?_⟩
      have := a0 q hq
      rcases Nat.lt_or_ge q P with h8 | h8
      · have := i4 q (by omega)
        omega
      · exact aP q hq h8
theorem bidsAbove_it {G : GS} (hG : GSafe G) (h1 : GI1 G) {k : Nat} (hk : k < 12) : f_X1_bidsAbove G k 0 = itF (fun q v => v + bI (f_X1_hasBid G q k)) (gP G) 0 0 := by
  unfold f_X1_bidsAbove f_X1_bidsAbove_l5
  rw [lpF_it (fun q v => v + bI (f_X1_hasBid G q k)) (gP G) (fun q s hq => by
      show f_X1_bidsAbove_l5b G k 0 q s = _
      unfold f_X1_bidsAbove_l5b f_X1_bidsAbove_j31
      have hq4 : q < 4 := Nat.lt_of_lt_of_le hq hG.2.1
      cases hb : f_X1_hasBid G q k
      · rw [if_pos ((amt_pos h1 hk hq4).mpr hb)]
      · rw [if_neg (fun h9 => by rw [(amt_pos h1 hk hq4).mp h9] at hb; cases hb)]) (gP G) 0 _ (Nat.zero_add _)]
  rfl
/-- a count of truths -/
theorem cnt_it (b : Nat → Bool) : ∀ n, n < 2 ^ 20 → ∃ m, m ≤ n ∧ itF (fun q v => v + bI (b q)) n 0 0 = nI m ∧ (m = 0 ↔ ∀ q, q < n → b q = false) := by
  intro n
  induction n with
  | zero => intro _; exact ⟨0, Nat.le_refl _, rfl, ⟨fun _ q hq => absurd hq (Nat.not_lt_zero q), fun _ => rfl⟩⟩
  | succ n ih =>
    intro hn
    obtain ⟨m, hm, e, h⟩ := ih (by omega)
    rw [itF_snoc, e, Nat.zero_add]
    cases hb : b n
    · refine ⟨m, by omega, Int32.add_zero _, h.trans ⟨fun g q hq => ?_, fun g q hq => g q (by omega)⟩⟩
      rcases Nat.lt_or_ge q n with h8 | h8
      · exact g q h8
      · obtain rfl : q = n := by omega
        exact hb
    · refine ⟨m + 1, by omega, nI_1 m, ⟨fun h9 => absurd h9 (by omega), fun g => ?_⟩⟩
      have := g n (by omega)
      rw [hb] at this
      cases this
theorem bids_0 {G : GS} (hG : GSafe G) (h1 : GI1 G) {k : Nat} (hk : k < 12) : f_X1_bidsAbove G k 0 ≤ 0 ↔ ∀ q, q < 4 → f_X1_hasBid G q k = false := by
  rw [bidsAbove_it hG h1 hk]
  have hP4 := hG.2.1
  obtain ⟨m, hm, e, h⟩ := cnt_it (fun q => f_X1_hasBid G q k) (gP G) (by omega)
  rw [e]
  constructor
  · intro h9 q hq
    have : m = 0 := by
      rcases Nat.eq_zero_or_pos m with h8 | h8
      · exact h8
      · exact absurd h9 (nI_nle h8 (by omega))
    rcases Nat.lt_or_ge q (gP G) with h8 | h8
    · exact h.mp this q h8
    · exact nbid h1 hk hq (amt_0 h1 hk hq (Or.inr h8))
  · intro g
    rw [h.mpr (fun q hq => g q (by omega))]
    exact Int32.le_refl _
/-- the winner: none without bids, the same in both -/
theorem win_c {G : GS} {f : Nat → Int32} (hG : GSafe G) (h1 : GI1 G) (h : NR G f) {k : Nat} (hk : k < gS G) (hb : ∃ q, q < 4 ∧ f_X1_hasBid G q k = true) : f_X8_winner f (nI k) = f_X1_winnerOf G k := by
  rw [winR hG h1 h hk]
  unfold f_X1_winnerOf
  split
  · rcases win_all hG h1 (Nat.lt_of_lt_of_le hk hG.1) with ⟨_, g⟩ | ⟨g, _⟩
    · obtain ⟨q, hq, e⟩ := hb
      rw [g q hq] at e
      cases e
    · exact g.symm
  · rfl
/-- the ferry's owner has a bid there -/
def FerB (G : GS) : Prop := ∀ k, k < gS G → gFer G k = -1 ∨ (vp_in (gFer G k) (gP G) ∧ gOff G (k * 4 + (gFer G k).toNatClampNeg) ≠ 0)
theorem win_n {G : GS} (hG : GSafe G) (h1 : GI1 G) (hF : FerB G) {k : Nat} (hk : k < gS G) : (f_X1_winnerOf G k = -1 ∧ ∀ q, q < 4 → f_X1_hasBid G q k = false) ∨ (∃ w, w < gP G ∧ f_X1_winnerOf G k = nI w ∧ f_X1_hasBid G w k = true) := by
  have hP4 := hG.2.1
  have hS := hG.1
  unfold f_X1_winnerOf
  split
  · rcases win_all hG h1 (show k < 12 by omega) with h | ⟨h, h2, h3⟩
    · exact Or.inl h
    · exact Or.inr ⟨_, h2, h, h3⟩
  · rename_i hf
    rcases hF k hk with h | ⟨h, h2⟩
    · exact absurd h hf
    · obtain ⟨e, l⟩ := nat_of h (by omega)
      exact Or.inr ⟨_, l, e, bid_t.mpr h2⟩
theorem hasBid_some {G : GS} (hG : GSafe G) (h1 : GI1 G) {k : Nat} (hk : k < 12) (h : ¬ f_X1_bidsAbove G k 0 ≤ 0) : ∃ q, q < 4 ∧ f_X1_hasBid G q k = true := by
  refine Classical.byContradiction (fun g => h ((bids_0 hG h1 hk).mpr (fun q hq => ?_)))
  cases hb : f_X1_hasBid G q k
  · rfl
  · exact absurd ⟨q, hq, hb⟩ g
