theorem itF_snoc {σ : Type} {f : Nat → σ → σ} (n k : Nat) (s : σ) : itF f (n + 1) k s = f (k + n) (itF f n k s) := itF_add n 1 k s
/-- who leads, by the amounts alone -/
def wC1 (a : Nat → Int32) (q : Nat) (s : Int32 × Int32) : Int32 × Int32 := if a q ≤ s.2 then s else (nI q, a q)
def wR1 (a : Nat → Int32) (q : Nat) (b : Nat) : Nat := if a q ≤ a b then b else q
theorem win_it {a : Nat → Int32} (h0 : ∀ q, q < 4 → 0 ≤ (a q).toInt) : ∀ j, j < 4 → ∀ r c, r = itF (wR1 a) j 1 0 → c = itF (wC1 a) (j + 1) 0 (-1, 0) → r ≤ j ∧ c.2 = a r ∧ ((c.1 = nI r ∧ 0 < (a r).toInt) ∨ (c.1 = -1 ∧ (a r).toInt = 0)) ∧ ∀ q, q ≤ j → (a q).toInt ≤ (a r).toInt := by
  intro j
  induction j with
  | zero =>
    intro _ r c hr hc
    have hr : r = 0 := hr
    have hc : c = wC1 a 0 (-1, 0) := hc
    subst hr
    have h9 := h0 0 (by decide)
    have e0 : (0 : Int32).toInt = 0 := rfl
    unfold wC1 at hc
    by_cases q : a 0 ≤ (0 : Int32)
    · rw [if_pos q] at hc
      rw [ile, e0] at q
      subst hc
      exact ⟨Nat.le_refl _, Int32.toInt_inj.mp (by show (0 : Int32).toInt = _; omega), Or.inr ⟨rfl, by omega⟩, fun q9 hq => by
        have e : q9 = 0 := by omega
        rw [e]
        exact Int.le_refl _⟩
    · rw [if_neg q] at hc
      rw [ile, e0] at q
      subst hc
      exact ⟨Nat.le_refl _, rfl, Or.inl ⟨rfl, by omega⟩, fun q9 hq => by
        have e : q9 = 0 := by omega
        rw [e]
        exact Int.le_refl _⟩
  | succ j ih =>
    intro hj r c hr hc
    rw [itF_snoc] at hr hc
    obtain ⟨i1, i2, i3, i4⟩ := ih (by omega) _ _ rfl rfl
    generalize itF (wR1 a) j 1 0 = r0 at hr i1 i2 i3 i4
    generalize itF (wC1 a) (j + 1) 0 (-1, 0) = c0 at hc i2 i3
    rw [Nat.add_comm 1 j] at hr
    rw [Nat.zero_add] at hc
    have h9 := h0 (j + 1) hj
    have h8 := h0 r0 (by omega)
    unfold wR1 at hr
    unfold wC1 at hc
    rw [i2] at hc
    by_cases q : a (j + 1) ≤ a r0
    · rw [if_pos q] at hr hc
      rw [ile] at q
      subst hr hc
      exact ⟨by omega, i2, i3, fun q9 hq => by
        rcases Nat.lt_or_ge q9 (j + 1) with h | h
        · exact i4 q9 (by omega)
        · obtain rfl : q9 = j + 1 := by omega
          exact q⟩
    · rw [if_neg q] at hr hc
      rw [ile] at q
      subst hr hc
      exact ⟨Nat.le_refl _, rfl, Or.inl ⟨rfl, by omega⟩, fun q9 hq => by
        rcases Nat.lt_or_ge q9 (j + 1) with h | h
        · have := i4 q9 (by omega)
          omega
        · obtain rfl : q9 = j + 1 := by omega
          exact Int.le_refl _⟩
