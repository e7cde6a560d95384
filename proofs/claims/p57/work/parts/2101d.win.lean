theorem wR_id {a : Nat → Int32} {b : Nat} : ∀ (n j : Nat), (∀ q, j ≤ q → q < j + n → a q ≤ a b) → itF (wR1 a) n j b = b := by
  intro n
  induction n with
  | zero => intro j _; rfl
  | succ n ih =>
    intro j h
    show itF (wR1 a) n (j + 1) (wR1 a j b) = b
    have e : wR1 a j b = b := if_pos (h j (Nat.le_refl _) (by omega))
    rw [e]
    exact ih (j + 1) (fun q hq hq2 => h q (by omega) (by omega))
theorem nbid {G : GS} (h1 : GI1 G) {q k : Nat} (hk : k < 12) (hq : q < 4) (h : (f_X1_amountOf G q k).toInt = 0) : f_X1_hasBid G q k = false := (amt_pos h1 hk hq).mp (by rw [ile, h]; exact Int.le_refl _)
theorem ybid {G : GS} (h1 : GI1 G) {q k : Nat} (hk : k < 12) (hq : q < 4) (h : 0 < (f_X1_amountOf G q k).toInt) : f_X1_hasBid G q k = true := by
  cases hb : f_X1_hasBid G q k
  · have := (amt_pos h1 hk hq).mpr hb
    rw [ile] at this
    have e0 : (0 : Int32).toInt = 0 := rfl
    omega
  · rfl
/-- no bids: no winner; bids: both name the same -/
theorem win_all {G : GS} (hG : GSafe G) (h1 : GI1 G) {k : Nat} (hk : k < 12) : (f_X1_winnerOf_l24 G k (gP G) 0 (-1) 0 = -1 ∧ ∀ q, q < 4 → f_X1_hasBid G q k = false) ∨ (f_X1_winnerOf_l24 G k (gP G) 0 (-1) 0 = nI (itF (wR1 (fun q => f_X1_amountOf G q k)) 3 1 0) ∧ itF (wR1 (fun q => f_X1_amountOf G q k)) 3 1 0 < gP G ∧ f_X1_hasBid G (itF (wR1 (fun q => f_X1_amountOf G q k)) 3 1 0) k = true) := by
  rw [winL hG k]
  have hP4 := hG.2.1
  obtain ⟨a, ha⟩ : ∃ a : Nat → Int32, a = fun q => f_X1_amountOf G q k := ⟨_, rfl⟩
  have a0 : ∀ q, q < 4 → 0 ≤ (a q).toInt := fun q hq => by rw [ha]; exact amt_nn h1 hk hq
  have aP : ∀ q, q < 4 → gP G ≤ q → (a q).toInt = 0 := fun q hq hP => by rw [ha]; exact amt_0 h1 hk hq (Or.inr hP)
  have nb : ∀ q, q < 4 → (a q).toInt = 0 → f_X1_hasBid G q k = false := fun q hq h => nbid h1 hk hq (by rw [ha] at h; exact h)
  have hb : ∀ q, q < 4 → 0 < (a q).toInt → f_X1_hasBid G q k = true := fun q hq h => ybid h1 hk hq (by rw [ha] at h; exact h)
  rw [← ha]
  generalize hP : gP G = P at hP4 aP ⊢
  rcases Nat.eq_zero_or_pos P with hz | hpos
  · subst hz
    exact Or.inl ⟨rfl, fun q hq => nb q hq (aP q hq (Nat.zero_le _))⟩
  · obtain ⟨i1, i2, i3, i4⟩ := win_it a0 (P - 1) (by omega) _ _ rfl rfl
    rw [show P - 1 + 1 = P by omega] at i2 i3
    have e3 : itF (wR1 a) 3 1 0 = itF (wR1 a) (P - 1) 1 0 := by
      have e := itF_add (f := wR1 a) (P - 1) (4 - P) 1 0
      rw [show P - 1 + (4 - P) = 3 by omega] at e
      rw [e]
      refine wR_id _ _ (fun q hq hq2 => ?_)
      rw [ile, aP q (by omega) (by omega)]
      exact a0 _ (by omega)
    rw [e3]
    rcases i3 with ⟨e, h⟩ | ⟨e, h⟩
    · exact Or.inr ⟨e, by omega, hb _ (by omega) h⟩
    · refine Or.inl ⟨e, fun q hq => nb q hq ?_⟩
      have := a0 q hq
      rcases Nat.lt_or_ge q P with h8 | h8
      · have := i4 q (by omega)
        omega
      · exact aP q hq h8
