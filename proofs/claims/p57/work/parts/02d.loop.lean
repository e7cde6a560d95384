/-! loops as functions: what they keep, and two of them side by side -/
theorem lpF_invN {σ ρ : Type} {step : Nat → σ → Sum ρ σ} {ex : σ → ρ} (N : Nat) (I : Nat → σ → Prop) (P : ρ → Prop) (h1 : ∀ k s r, k < N → I k s → step k s = .inl r → P r) (h2 : ∀ k s s', k < N → I k s → step k s = .inr s' → I (k + 1) s') (h3 : ∀ s, I N s → P (ex s)) : ∀ (n k : Nat) (s : σ), k + n = N → I k s → P (lpF step ex n k s) := by
  intro n
  induction n with
  | zero =>
    intro k s hk h
    have e : k = N := by omega
    subst e
    exact h3 s h
  | succ n ih =>
    intro k s hk h
    show P (sE id (lpF step ex n (k + 1)) (step k s))
    cases e : step k s with
    | inl r => exact h1 k s r (by omega) h e
    | inr s' => exact ih (k + 1) s' (by omega) (h2 k s s' (by omega) h e)
def sumR {ρ ρ' σ τ : Type} (Q : ρ → ρ' → Prop) (R : σ → τ → Prop) : Sum ρ σ → Sum ρ' τ → Prop
  | .inl a, .inl b => Q a b
  | .inr a, .inr b => R a b
  | _, _ => False
theorem lpF_sim {σ τ ρ ρ' : Type} {step : Nat → σ → Sum ρ σ} {ex : σ → ρ} {step' : Nat → τ → Sum ρ' τ} {ex' : τ → ρ'} (N : Nat) (R : Nat → σ → τ → Prop) (Q : ρ → ρ' → Prop) (h1 : ∀ k s t, k < N → R k s t → sumR Q (R (k + 1)) (step k s) (step' k t)) (h3 : ∀ s t, R N s t → Q (ex s) (ex' t)) : ∀ (n k : Nat) (s : σ) (t : τ), k + n = N → R k s t → Q (lpF step ex n k s) (lpF step' ex' n k t) := by
  intro n
  induction n with
  | zero =>
    intro k s t hk h
    have e : k = N := by omega
    subst e
    exact h3 s t h
  | succ n ih =>
    intro k s t hk h
    show Q (sE id (lpF step ex n (k + 1)) (step k s)) (sE id (lpF step' ex' n (k + 1)) (step' k t))
    have h9 := h1 k s t (by omega) h
    cases e : step k s with
    | inl r =>
      cases e' : step' k t with
      | inl r' => rw [e, e'] at h9; exact h9
      | inr t' => rw [e, e'] at h9; exact h9.elim
    | inr s' =>
      cases e' : step' k t with
      | inl r' => rw [e, e'] at h9; exact h9.elim
      | inr t' => rw [e, e'] at h9; exact ih (k + 1) s' t' (by omega) h9
/-- a loop that never leaves early -/
def itF {σ : Type} (f : Nat → σ → σ) : Nat → Nat → σ → σ
  | 0, _, s => s
  | n + 1, k, s => itF f n (k + 1) (f k s)
theorem lpF_it {σ ρ : Type} {step : Nat → σ → Sum ρ σ} {ex : σ → ρ} (f : Nat → σ → σ) (N : Nat) (h : ∀ k s, k < N → step k s = .inr (f k s)) : ∀ (n k : Nat) (s : σ), k + n = N → lpF step ex n k s = ex (itF f n k s) := by
  intro n
  induction n with
  | zero => intro k s _; rfl
  | succ n ih =>
    intro k s hk
    show sE id (lpF step ex n (k + 1)) (step k s) = ex (itF f n (k + 1) (f k s))
    rw [h k s (by omega)]
    exact ih (k + 1) (f k s) (by omega)
theorem nI_m1 {n : Nat} (hn : n < 2 ^ 30) : (nI n - 1).toInt = (n : Int) - 1 := pk_sub_toInt (b := 1) hn (by decide)
