/-! reading: the verb -/
theorem wordc_at : ∀ k, k < 9 → ∀ j, j < 10 → j < wlen k → f_J0_charAt_5068e 15 (wst k + j) = f_J0_charAt_5068e k j := by decide +kernel
theorem wordc_len : ∀ k, k < 9 → tlen k = wlen k ∧ wlen k ≤ 8 := by decide +kernel
theorem shared_c {S : SS} {tx : Nat → Int32} {si pl k9 : Nat} (hs : si ≤ 60) (hp : pl ≤ si) (a : AG S tx si pl) (h9 : k9 < 9) (v1 v2 : Int32) : ∀ n k, k + n = wlen k9 → pl + k ≤ si → f_X8_kindHere_l36 tx si pl k9 n k v1 v2 (wlen k9) = f_X8_kindHere_j90 pl k9 v1 v2 (wlen k9) (f_X4_sharedWith_l2 S k9 n k) ∧ f_X4_sharedWith_l2 S k9 n k ≤ wlen k9 ∧ pl + f_X4_sharedWith_l2 S k9 n k ≤ si := by
  obtain ⟨a1, a2, a3⟩ := a
  obtain ⟨w1, w2⟩ := wordc_len k9 h9
  intro n
  induction n with
  | zero =>
    intro k hk hb
    have e : k = wlen k9 := by omega
    refine ⟨?_, ?_, ?_⟩
    · show f_X8_kindHere_j90 pl k9 v1 v2 (wlen k9) (wlen k9) = f_X8_kindHere_j90 pl k9 v1 v2 (wlen k9) (tlen k9)
      rw [w1]
    · show tlen k9 ≤ wlen k9
      rw [w1]; exact Nat.le_refl _
    · show pl + tlen k9 ≤ si
      rw [w1, ← e]; exact hb
  | succ n ih =>
    intro k hk hb
    have le : nI si ≤ nI (pl + k) ↔ si ≤ pl + k := by rw [ile, nI_toInt (by omega), nI_toInt (by omega)]; omega
    have s1 : f_X8_kindHere_l36 tx si pl k9 (n + 1) k v1 v2 (wlen k9) = sE id (fun q : Int32 × Int32 × Nat => f_X8_kindHere_l36 tx si pl k9 n (k + 1) q.1 q.2.1 q.2.2) (f_X8_kindHere_l36b tx si pl k9 k v1 v2 (wlen k9)) := rfl
    have s2 : f_X4_sharedWith_l2 S k9 (n + 1) k = sE id (fun _ => f_X4_sharedWith_l2 S k9 n (k + 1)) (f_X4_sharedWith_l2b S k9 k) := rfl
    rw [s1, s2]
    unfold f_X8_kindHere_l36b f_X4_sharedWith_l2b f_X4_sharedWith_j48
    rw [a1, a2]
    by_cases c : si ≤ pl + k
    · rw [if_pos (le.mpr c), if_pos (le.mpr c)]
      exact ⟨rfl, (show k ≤ wlen k9 by omega), (show pl + k ≤ si by omega)⟩
    · rw [if_neg (fun z => c (le.mp z)), if_neg (fun z => c (le.mp z)), a3 (pl + k) (by omega), wordc_at k9 h9 k (by omega) (by omega)]
      by_cases d : tx (pl + k) = f_J0_charAt_5068e k9 k
      · rw [if_pos d, if_pos d]
        exact ih (k + 1) (by omega) (by omega)
      · rw [if_neg d, if_neg d]
        exact ⟨rfl, (show k ≤ wlen k9 by omega), (show pl + k ≤ si by omega)⟩
theorem kind_end {pl w : Nat} {wr v1 : Int32} (hp : pl ≤ 60) (hw : w < 9) : f_X8_kindHere_j121 pl wr v1 (nI w) = (nI w, pl + wlen w, wr) := by
  have w9 := wst_le hw
  have ne := nI_m1_ne (n := w) (by omega)
  have e : (nI pl + (f_X8_startOf (nI w + 1) - f_X8_startOf (nI w))).toNatClampNeg = pl + wlen w := by
    rw [nI_1, X8_startOf_at (by omega), X8_startOf_at (by omega), wlen_sub hw, nI_add, nI_clamp (by omega)]
  simp only [f_X8_kindHere_j121, f_X8_kindHere_j135, f_X8_kindHere_j163, lt_, if_neg ne, e]
theorem kind_no {pl : Nat} {wr v1 : Int32} (hp : pl ≤ 60) : f_X8_kindHere_j121 pl wr v1 (-1) = (-1, pl, v1) := by
  have e : (nI pl + 0).toNatClampNeg = pl := by rw [show (0 : Int32) = nI 0 from rfl, nI_add, Nat.add_zero, nI_clamp (by omega)]
  simp only [f_X8_kindHere_j121, f_X8_kindHere_j135, f_X8_kindHere_j163, lt_, if_true, e]
theorem verb_loop {S : SS} {tx : Nat → Int32} {si pl : Nat} (hs : si ≤ 60) (hp : pl ≤ si) (a : AG S tx si pl) : ∀ n k v1, k + n = 9 → pl + v1 ≤ si →
    (∃ w, w < 9 ∧ pl + wlen w ≤ si ∧ f_X4_readVerb_l12 S n k v1 (sAt S) (sVb S) = (true, mkS (sSgn S) (sSiz S) (pl + wlen w) w (sNum S)) ∧ f_X8_kindHere_l9 tx si pl (-1) n k (nI (pl + v1)) (-1) = (nI w, pl + wlen w, -1)) ∨
    (∃ m, pl + m ≤ si ∧ f_X4_readVerb_l12 S n k v1 (sAt S) (sVb S) = (false, mkS (sSgn S) (sSiz S) (pl + m) (sVb S) (sNum S)) ∧ f_X8_kindHere_l9 tx si pl (-1) n k (nI (pl + v1)) (-1) = (-1, pl, nI (pl + m))) := by
  intro n
  induction n with
  | zero =>
    intro k v1 hk hv
    refine Or.inr ⟨v1, hv, ?_, ?_⟩
    · show (false, mkS (sSgn S) (sSiz S) (sAt S + v1) (sVb S) (sNum S)) = _
      rw [a.2.1]
    · show f_X8_kindHere_j121 pl (-1) (nI (pl + v1)) (-1) = _
      exact kind_no (by omega)
  | succ n ih =>
    intro k v1 hk hv
    have h9 : k < 9 := by omega
    obtain ⟨w1, w2⟩ := wordc_len k h9
    have hself : mkS (sSgn S) (sSiz S) (sAt S) (sVb S) (sNum S) = S := rfl
    obtain ⟨q1, q2, q3⟩ := shared_c hs hp a h9 (nI (pl + v1)) (-1) (wlen k) 0 (Nat.zero_add _) hp
    have sh : f_X4_sharedWith S k = f_X4_sharedWith_l2 S k (wlen k) 0 := by
      unfold f_X4_sharedWith
      rw [w1]
    have s1 : f_X4_readVerb_l12 S (n + 1) k v1 (sAt S) (sVb S) = sE id (fun q : Nat × Nat × Nat => f_X4_readVerb_l12 S n (k + 1) q.1 q.2.1 q.2.2) (f_X4_readVerb_l12b S k v1 (sAt S) (sVb S)) := rfl
    have s2 : f_X8_kindHere_l9 tx si pl (-1) (n + 1) k (nI (pl + v1)) (-1) = sE id (fun q : Int32 × Int32 => f_X8_kindHere_l9 tx si pl (-1) n (k + 1) q.1 q.2) (f_X8_kindHere_l9b tx si pl (-1) k (nI (pl + v1)) (-1)) := rfl
    rw [s1, s2]
    unfold f_X4_readVerb_l12b f_X8_kindHere_l9b
    rw [if_pos rfl, hself, q1, sh, w1]
    generalize f_X4_sharedWith_l2 S k (wlen k) 0 = m at q2 q3 ⊢
    unfold f_X8_kindHere_j90 f_X8_kindHere_j114
    rw [imax_nI (by omega) (by omega), show max (pl + v1) (pl + m) = pl + max v1 m by omega]
    by_cases c : m = wlen k
    · have c' : nI m = nI (wlen k) := by rw [c]
      rw [if_pos c', if_pos c']
      refine Or.inl ⟨k, h9, by omega, ?_, ?_⟩
      · show (true, mkS (sSgn S) (sSiz S) (sAt S + m) k (sNum S)) = _
        rw [a.2.1, c]
      · show f_X8_kindHere_l9 tx si pl (-1) n (k + 1) (nI (pl + max v1 m)) (nI k) = _
        cases n with
        | zero => exact kind_end (by omega) h9
        | succ n =>
          show sE id _ (f_X8_kindHere_l9b tx si pl (-1) (k + 1) (nI (pl + max v1 m)) (nI k)) = _
          unfold f_X8_kindHere_l9b
          rw [if_neg (nI_m1_ne (by omega))]
          exact kind_end (by omega) h9
    · have c' : ¬ nI m = nI (wlen k) := fun e => c ((nI_eq (by omega) (by omega)).mp e)
      rw [if_neg c', if_neg c']
      exact ih (k + 1) (max v1 m) (by omega) (by omega)
theorem verb_ok {tx : Nat → Int32} {si pl : Nat} (hs : si ≤ 60) (hp : pl ≤ si) {S0 : SS} (a0 : AG S0 tx si pl) :
    (∃ w, w < 9 ∧ pl + wlen w ≤ si ∧ f_X8_kindHere tx si pl (-1) = (nI w, pl + wlen w, -1) ∧ ∀ S, AG S tx si pl → f_X4_readVerb S = (true, mkS (sSgn S) (sSiz S) (pl + wlen w) w (sNum S))) ∨
    (∃ m, pl + m ≤ si ∧ f_X8_kindHere tx si pl (-1) = (-1, pl, nI (pl + m)) ∧ ∀ S, AG S tx si pl → f_X4_readVerb S = (false, mkS (sSgn S) (sSiz S) (pl + m) (sVb S) (sNum S))) := by
  rcases verb_loop hs hp a0 9 0 0 rfl hp with ⟨w, h1, h2, h3, h4⟩ | ⟨m, h2, h3, h4⟩
  · refine Or.inl ⟨w, h1, h2, h4, fun S a => ?_⟩
    rcases verb_loop hs hp a 9 0 0 rfl hp with ⟨w', i1, i2, i3, i4⟩ | ⟨m', i2, i3, i4⟩
    · have e := h4.symm.trans i4
      have e1 : nI w = nI w' := congrArg (fun t : Int32 × Nat × Int32 => t.1) e
      have e2 := (nI_eq (by omega) (by omega)).mp e1
      subst e2
      exact i3
    · have e := h4.symm.trans i4
      have e1 : nI w = -1 := congrArg (fun t : Int32 × Nat × Int32 => t.1) e
      exact absurd e1 (nI_m1_ne (by omega))
  · refine Or.inr ⟨m, h2, h4, fun S a => ?_⟩
    rcases verb_loop hs hp a 9 0 0 rfl hp with ⟨w', i1, i2, i3, i4⟩ | ⟨m', i2, i3, i4⟩
    · have e := h4.symm.trans i4
      have e1 : -1 = nI w' := congrArg (fun t : Int32 × Nat × Int32 => t.1) e
      exact absurd e1.symm (nI_m1_ne (by omega))
    · have e := h4.symm.trans i4
      have e1 : nI (pl + m) = nI (pl + m') := congrArg (fun t : Int32 × Nat × Int32 => t.2.2) e
      have e2 := (nI_eq (by omega) (by omega)).mp e1
      have e3 : m = m' := by omega
      subst e3
      exact i3
