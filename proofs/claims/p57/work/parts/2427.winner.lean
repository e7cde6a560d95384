/-! the winner by the law, and the cheapest free site by the law -/
theorem bestN {G : GS} (hG : GSafe G) (h1 : GI1 G) {k : Nat} (hk : k < 12) (hp : 1 ≤ gP G) : itF (wR1 (fun q => f_X1_amountOf G q k)) (gP G - 1) 1 0 = itF (wR1 (fun q => f_X1_amountOf G q k)) 3 1 0 := by
  have h4 := hG.2.1
  have e : 3 = (gP G - 1) + (4 - gP G) := by omega
  rw [e, itF_add]
  have lt : ∀ n j b, j + n ≤ 4 → b < 4 → itF (wR1 (fun q => f_X1_amountOf G q k)) n j b < 4 := by
    intro n
    induction n with
    | zero => intro j b _ hb; exact hb
    | succ n ih => intro j b hj hb; exact ih (j + 1) _ (by omega) (wR1_lt (by omega) hb)
  refine (wR_id _ _ (fun q hq1 hq2 => ?_)).symm
  have r4 := lt (gP G - 1) 1 0 (by omega) (by omega)
  rw [ile, amt_0 h1 hk (show q < 4 by omega) (Or.inr (by omega))]
  exact amt_nn h1 hk r4
theorem best_lt {G : GS} {k : Nat} : ∀ n, n < gP G → itF (wR1 (fun q => f_X1_amountOf G q k)) n 1 0 < gP G := by
  intro n
  induction n with
  | zero => intro h; exact h
  | succ n ih =>
    intro h
    rw [itF_snoc]
    unfold wR1
    split
    · exact ih (by omega)
    · omega
theorem winner_v {K : CT} (hI : GI (kG K)) {s : Nat} (hs : s < gS (kG K)) (hb : ∃ q, q < 4 ∧ f_X1_hasBid (kG K) q s = true) : f_L_winner K (nI s) = f_X1_winnerOf (kG K) s := by
  have hG := GI_safe hI
  have h1 := hI.2.1
  have h12 : s < 12 := by have := hG.1; omega
  have h4 := hG.2.1
  have hp : 1 ≤ gP (kG K) := by
    obtain ⟨q, hq, b⟩ := hb
    refine Nat.pos_of_ne_zero (fun e => ?_)
    have z := h1.2.1 s h12 q hq (Or.inr (by omega))
    unfold f_X1_hasBid f_X1_hasBid_j18 at b
    rw [if_pos z] at b
    cases b
  have fr : askV K 5 (nI s) 0 < 0 ↔ gFer (kG K) s = -1 := by
    have t0 : (0 : Int32).toInt = 0 := rfl
    rw [av_ferry hI hs]
    by_cases c : gFer (kG K) s = -1
    · rw [if_pos c]
      exact ⟨fun _ => c, fun _ => by decide⟩
    · rw [if_neg c]
      refine ⟨fun h => ?_, fun h => absurd h c⟩
      have v := vp_int ((hI.1.2.2.2.2.2.2 s hs).resolve_left c).1
      rw [ilt, t0] at h
      omega
  unfold f_L_winner f_L_winner_l13
  have e9 : max (gP (kG K)) 1 = gP (kG K) := Nat.max_eq_left hp
  rw [e9]
  refine lpF_invN (step := f_L_winner_l13s K (nI s)) (ex := f_L_winner_l13e K (nI s)) (gP (kG K)) (fun k (t : Int32 × Int32) => t.1 = askV K 5 (nI s) 0 ∧ t.2 = nI (itF (wR1 (fun q => f_X1_amountOf (kG K) q s)) (k - 1) 1 0) ∧ 1 ≤ k) (fun z => z = f_X1_winnerOf (kG K) s) ?_ ?_ ?_ _ 1 _ (by omega) ⟨rfl, rfl, Nat.le_refl _⟩
  · rintro k ⟨v2, v3⟩ r hk _ e
    have e : f_L_winner_l13b K (nI s) k v2 v3 = .inl r := e
    unfold f_L_winner_l13b f_L_winner_j44 at e
    split at e <;> cases e
  · rintro k ⟨v2, v3⟩ t hk ⟨e1, e2, e3⟩ e
    have e2 : v3 = nI (itF (wR1 (fun q => f_X1_amountOf (kG K) q s)) (k - 1) 1 0) := e2
    have e3 : 1 ≤ k := e3
    have e : f_L_winner_l13b K (nI s) k v2 v3 = .inr t := e
    have rl := best_lt (G := kG K) (k := s) (k - 1) (by omega)
    unfold f_L_winner_l13b f_L_winner_j44 at e
    rw [e2, bid_v hI hk hs, bid_v hI rl hs] at e
    have sn : itF (wR1 (fun q => f_X1_amountOf (kG K) q s)) (k + 1 - 1) 1 0 = wR1 (fun q => f_X1_amountOf (kG K) q s) k (itF (wR1 (fun q => f_X1_amountOf (kG K) q s)) (k - 1) 1 0) := by
      have e8 : k + 1 - 1 = (k - 1) + 1 := by omega
      have e7 : 1 + (k - 1) = k := by omega
      rw [e8, itF_snoc, e7]
    refine ⟨?_, ?_, by omega⟩
    · split at e <;> (rw [← Sum.inr.inj e]; exact e1)
    · rw [sn]
      generalize itF (wR1 (fun q => f_X1_amountOf (kG K) q s)) (k - 1) 1 0 = r9 at e ⊢
      show t.2 = nI (if f_X1_amountOf (kG K) k s ≤ f_X1_amountOf (kG K) r9 s then r9 else k)
      by_cases c : f_X1_amountOf (kG K) k s ≤ f_X1_amountOf (kG K) r9 s
      · rw [if_pos c] at e ⊢
        rw [← Sum.inr.inj e]
      · rw [if_neg c] at e ⊢
        rw [← Sum.inr.inj e]
  · rintro ⟨v2, v3⟩ ⟨e1, e2, e3⟩
    have e1 : v2 = askV K 5 (nI s) 0 := e1
    have e2 : v3 = nI (itF (wR1 (fun q => f_X1_amountOf (kG K) q s)) (gP (kG K) - 1) 1 0) := e2
    show f_L_winner_l13x K (nI s) v2 v3 = _
    unfold f_L_winner_l13x f_L_winner_j60 f_X1_winnerOf
    rw [e1, e2, bestN hG h1 h12 hp]
    by_cases c : gFer (kG K) s = -1
    · rw [if_pos (fr.mpr c), if_pos c]
      rcases win_all hG h1 h12 with w | w
      · obtain ⟨q, hq, b⟩ := hb
        rw [w.2 q hq] at b
        cases b
      · exact w.1.symm
    · rw [if_neg (fun z => c (fr.mp z)), if_neg c, av_ferry hI hs, if_neg c]
def chC (G : GS) (k : Nat) (v : Int32) : Int32 := if f_X1_hasBridge G k = true then v else if v = -1 then nI k else if f_X1_costOf G v.toNatClampNeg ≤ f_X1_costOf G k then v else nI k
def chL (G : GS) (k : Nat) (v : Int32) : Int32 := if f_X1_hasBridge G k = true then v else if v < 0 then nI k else if f_X1_costOf G v.toNatClampNeg ≤ f_X1_costOf G k then v else nI k
theorem cheap_it (G : GS) : f_X1_cheapestWithoutBridge G = itF (chC G) (gS G) 0 (-1) := by
  unfold f_X1_cheapestWithoutBridge f_X1_cheapestWithoutBridge_l4
  rw [lpF_it (step := f_X1_cheapestWithoutBridge_l4s G) (ex := f_X1_cheapestWithoutBridge_l4e G) (chC G) (gS G) (fun k v hk => by
    show f_X1_cheapestWithoutBridge_l4b G k v = .inr (chC G k v)
    unfold f_X1_cheapestWithoutBridge_l4b f_X1_cheapestWithoutBridge_j40 f_X1_cheapestWithoutBridge_j38 f_X1_cheapestWithoutBridge_j40 chC
    split
    · rfl
    · split
      · rfl
      · split <;> rfl) _ _ _ (Nat.zero_add _)]
  rfl
theorem cheap_rel {G : GS} (hS : gS G ≤ 12) : ∀ n, n ≤ gS G → (itF (chC G) n 0 (-1) = -1 ∧ itF (chL G) n 0 (-2004) = -2004) ∨ ∃ j, j < n ∧ itF (chC G) n 0 (-1) = nI j ∧ itF (chL G) n 0 (-2004) = nI j := by
  intro n
  induction n with
  | zero => intro _; exact Or.inl ⟨rfl, rfl⟩
  | succ n ih =>
    intro hn
    rw [itF_snoc, itF_snoc, Nat.zero_add]
    rcases ih (by omega) with ⟨a, b⟩ | ⟨j, hj, a, b⟩
    · rw [a, b]
      unfold chC chL
      by_cases c : f_X1_hasBridge G n = true
      · rw [if_pos c, if_pos c]
        exact Or.inl ⟨rfl, rfl⟩
      · rw [if_neg c, if_neg c, if_pos rfl, if_pos (by decide)]
        exact Or.inr ⟨n, by omega, rfl, rfl⟩
    · rw [a, b]
      unfold chC chL
      by_cases c : f_X1_hasBridge G n = true
      · rw [if_pos c, if_pos c]
        exact Or.inr ⟨j, by omega, rfl, rfl⟩
      · rw [if_neg c, if_neg c, if_neg (nI_nm (by omega) _ (by decide)), if_neg (nI_pos (by omega))]
        split
        · exact Or.inr ⟨j, by omega, rfl, rfl⟩
        · exact Or.inr ⟨n, by omega, rfl, rfl⟩
theorem cheap_v {K : CT} (hI : GI (kG K)) (a b : Int32) : askV K 8 a b = itF (chL (kG K)) (gS (kG K)) 0 (-2004) := by
  have hS := (GI_safe hI).1
  rw [av_cheap, cheap_it]
  rcases cheap_rel hS (gS (kG K)) (Nat.le_refl _) with ⟨p, q⟩ | ⟨j, hj, p, q⟩
  · rw [p, q, if_pos rfl]
  · rw [p, q, if_neg (nI_nm (by omega) _ (by decide))]
