theorem bidsAbove_it {G : GS} (hG : GSafe G) (h1 : GI1 G) {k : Nat} (hk : k < 12) : f_X1_bidsAbove G k 0 = itF (fun q v => v + bI (f_X1_hasBid G q k)) (gP G) 0 0 := by
  unfold f_X1_bidsAbove f_X1_bidsAbove_l5
  rw [lpF_it (fun q v => v + bI (f_X1_hasBid G q k)) (gP G) (fun q s hq => by
      show f_X1_bidsAbove_l5b G k 0 q s = _
      unfold f_X1_bidsAbove_l5b f_X1_bidsAbove_j31
      have hq4 : q < 4 := Nat.lt_of_lt_of_le hq hG.2.1
      cases hb : f_X1_hasBid G q k
      · rw [if_pos ((amt_pos h1 hk hq4).mpr hb)]
      · rw [if_neg (fun h9 => by rw [(amt_pos h1 hk hq4).mp h9] at hb; cases hb)]) (gP G) 0 _ (Nat.zero_add _)]
  rfl
/-- a count of truths -/
theorem cnt_it (b : Nat → Bool) : ∀ n, n < 2 ^ 20 → ∃ m, m ≤ n ∧ itF (fun q v => v + bI (b q)) n 0 0 = nI m ∧ (m = 0 ↔ ∀ q, q < n → b q = false) := by
  intro n
  induction n with
  | zero => intro _; exact ⟨0, Nat.le_refl _, rfl, ⟨fun _ q hq => absurd hq (Nat.not_lt_zero q), fun _ => rfl⟩⟩
  | succ n ih =>
    intro hn
    obtain ⟨m, hm, e, h⟩ := ih (by omega)
    rw [itF_snoc, e, Nat.zero_add]
    cases hb : b n
    · refine ⟨m, by omega, Int32.add_zero _, h.trans ⟨fun g q hq => ?_, fun g q hq => g q (by omega)⟩⟩
      rcases Nat.lt_or_ge q n with h8 | h8
      · exact g q h8
      · obtain rfl : q = n := by omega
        exact hb
    · refine ⟨m + 1, by omega, nI_1 m, ⟨fun h9 => absurd h9 (by omega), fun g => ?_⟩⟩
      have := g n (by omega)
      rw [hb] at this
      cases this
theorem bids_0 {G : GS} (hG : GSafe G) (h1 : GI1 G) {k : Nat} (hk : k < 12) : f_X1_bidsAbove G k 0 ≤ 0 ↔ ∀ q, q < 4 → f_X1_hasBid G q k = false := by
  rw [bidsAbove_it hG h1 hk]
  have hP4 := hG.2.1
  obtain ⟨m, hm, e, h⟩ := cnt_it (fun q => f_X1_hasBid G q k) (gP G) (by omega)
  rw [e]
  constructor
  · intro h9 q hq
    have : m = 0 := by
      rcases Nat.eq_zero_or_pos m with h8 | h8
      · exact h8
      · exact absurd h9 (nI_nle h8 (by omega))
    rcases Nat.lt_or_ge q (gP G) with h8 | h8
    · exact h.mp this q h8
    · exact nbid h1 hk hq (amt_0 h1 hk hq (Or.inr h8))
  · intro g
    rw [h.mpr (fun q hq => g q (by omega))]
    exact Int32.le_refl _
/-- the winner: none without bids, the same in both -/
theorem win_c {G : GS} {f : Nat → Int32} (hG : GSafe G) (h1 : GI1 G) (h : NR G f) {k : Nat} (hk : k < gS G) (hb : ∃ q, q < 4 ∧ f_X1_hasBid G q k = true) : f_X8_winner f (nI k) = f_X1_winnerOf G k := by
  rw [winR hG h hk]
  unfold f_X1_winnerOf
  split
  · rcases win_all hG h1 (Nat.lt_of_lt_of_le hk hG.1) with ⟨_, g⟩ | ⟨g, _⟩
    · obtain ⟨q, hq, e⟩ := hb
      rw [g q hq] at e
      cases e
    · exact g.symm
  · rfl
/-- the ferry's owner has a bid there -/
def FerB (G : GS) : Prop := ∀ k, k < gS G → gFer G k = -1 ∨ (vp_in (gFer G k) (gP G) ∧ gOff G (k * 4 + (gFer G k).toNatClampNeg) ≠ 0)
theorem win_n {G : GS} (hG : GSafe G) (h1 : GI1 G) (hF : FerB G) {k : Nat} (hk : k < gS G) : (f_X1_winnerOf G k = -1 ∧ ∀ q, q < 4 → f_X1_hasBid G q k = false) ∨ (∃ w, w < gP G ∧ f_X1_winnerOf G k = nI w ∧ f_X1_hasBid G w k = true) := by
  have hP4 := hG.2.1
  have hS := hG.1
  unfold f_X1_winnerOf
  split
  · rcases win_all hG h1 (show k < 12 by omega) with h | ⟨h, h2, h3⟩
    · exact Or.inl h
    · exact Or.inr ⟨_, h2, h, h3⟩
  · rename_i hf
    rcases hF k hk with h | ⟨h, h2⟩
    · exact absurd h hf
    · obtain ⟨e, l⟩ := nat_of h (by omega)
      exact Or.inr ⟨_, l, e, bid_t.mpr h2⟩
theorem hasBid_some {G : GS} (hG : GSafe G) (h1 : GI1 G) {k : Nat} (hk : k < 12) (h : ¬ f_X1_bidsAbove G k 0 ≤ 0) : ∃ q, q < 4 ∧ f_X1_hasBid G q k = true := by
  refine Classical.byContradiction (fun g => h ((bids_0 hG h1 hk).mpr (fun q hq => ?_)))
  cases hb : f_X1_hasBid G q k
  · rfl
  · exact absurd ⟨q, hq, hb⟩ g
