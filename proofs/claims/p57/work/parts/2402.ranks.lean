/-! ranks: who has which -/
theorem find_at {r : Nat → Int32} {x : Int32} : ∀ n k, (∃ i, k ≤ i ∧ i < k + n ∧ r i = x) → ∀ (step : Nat → Unit → Sum Int32 Unit) (ex : Unit → Int32), (∀ k s, step k s = if r k = x then Sum.inl (nI k) else Sum.inr ()) → ∃ i, k ≤ i ∧ i < k + n ∧ r i = x ∧ lpF step ex n k () = nI i := by
  intro n
  induction n with
  | zero => rintro k ⟨i, h1, h2, -⟩; omega
  | succ n ih =>
    rintro k ⟨i, h1, h2, h3⟩ step ex hs
    show ∃ i, k ≤ i ∧ i < k + (n + 1) ∧ r i = x ∧ sE id (lpF step ex n (k + 1)) (step k ()) = nI i
    rw [hs]
    by_cases hk : r k = x
    · rw [if_pos hk]
      exact ⟨k, Nat.le_refl _, by omega, hk, rfl⟩
    · rw [if_neg hk]
      have hi : i ≠ k := fun e => hk (by rw [← e]; exact h3)
      obtain ⟨j, j1, j2, j3, j4⟩ := ih (k + 1) ⟨i, by omega, by omega, h3⟩ step ex hs
      exact ⟨j, by omega, by omega, j3, j4⟩
/-- how many are ahead -/
def rkN (G : GS) (q : Nat) : Nat := (List.range (gP G)).countP (fun k => f_X1_isAhead G k q)
theorem rank_n {G : GS} (h : GI G) (q : Nat) : f_X1_rankOf G q = nI (rkN G q) := rank_cnt h q
theorem ahead_irr {G : GS} (h : GI G) {q : Nat} (hq : q < gP G) : f_X1_isAhead G q q = false := by
  cases e : f_X1_isAhead G q q with
  | false => rfl
  | true => exact absurd ((ahead_key h hq hq).mp e) (Int.lt_irrefl _)
theorem rkN_lt {G : GS} (h : GI G) {q : Nat} (hq : q < gP G) : rkN G q < gP G := by
  have h1 : (List.range (gP G)).countP (fun k => f_X1_isAhead G k q) < (List.range (gP G)).countP (fun _ => true) := cnt_lt (p := fun k => f_X1_isAhead G k q) (q := fun _ => true) (m := q) (ahead_irr h hq) rfl _ (fun _ _ _ => rfl) (List.mem_range.mpr hq)
  rw [List.countP_true, List.length_range] at h1
  exact h1
theorem rkN_inj {G : GS} (h : GI G) {i j : Nat} (hi : i < gP G) (hj : j < gP G) (e : rkN G i = rkN G j) : i = j := rank_one h hi hj (by rw [rank_n h, rank_n h, e])
theorem surj_of_inj : ∀ (n : Nat) (f : Nat → Nat), (∀ i, i < n → f i < n) → (∀ i j, i < n → j < n → f i = f j → i = j) → ∀ r, r < n → ∃ i, i < n ∧ f i = r := by
  intro n
  induction n with
  | zero => intro f _ _ r hr; omega
  | succ n ih =>
    intro f h1 h2 r hr
    by_cases e : f n = r
    · exact ⟨n, by omega, e⟩
    · -- the last value is moved to n
      obtain ⟨i, hi, hf⟩ := ih (fun i => if f i = n then f n else f i) (fun i hi => by
          show (if f i = n then f n else f i) < n
          have a := h1 i (by omega); have b := h1 n (by omega)
          have c : f i ≠ f n := fun q => by have := h2 i n (by omega) (by omega) q; omega
          split <;> omega) (fun i j hi hj q => by
          have q : (if f i = n then f n else f i) = (if f j = n then f n else f j) := q
          have ci : f i ≠ f n := fun q => by have := h2 i n (by omega) (by omega) q; omega
          have cj : f j ≠ f n := fun q => by have := h2 j n (by omega) (by omega) q; omega
          by_cases a : f i = n
          · by_cases b : f j = n
            · exact h2 i j (by omega) (by omega) (a.trans b.symm)
            · rw [if_pos a, if_neg b] at q; exact absurd q.symm cj
          · by_cases b : f j = n
            · rw [if_neg a, if_pos b] at q; exact absurd q ci
            · rw [if_neg a, if_neg b] at q; exact h2 i j (by omega) (by omega) q) (if r = n then f n else r) (by
          have b := h1 n (by omega)
          split
          · rename_i g; subst g; omega
          · omega)
      have hf : (if f i = n then f n else f i) = (if r = n then f n else r) := hf
      have ci : f i ≠ f n := fun q => by have := h2 i n (by omega) (by omega) q; omega
      refine ⟨i, by omega, ?_⟩
      by_cases a : f i = n
      · rw [if_pos a] at hf
        by_cases b : r = n
        · rw [a, b]
        · rw [if_neg b] at hf; exact absurd hf e
      · rw [if_neg a] at hf
        by_cases b : r = n
        · rw [if_pos b] at hf; exact absurd hf ci
        · rw [if_neg b] at hf; exact hf
def kRk (G : GS) (r : Nat) : Nat := (f_X1_playerAtRank G (nI r)).toNatClampNeg
theorem rk_all {G : GS} (h : GI G) {r : Nat} (hr : r < gP G) : f_X1_playerAtRank G (nI r) = nI (kRk G r) ∧ kRk G r < gP G ∧ rkN G (kRk G r) = r := by
  have hP := (GI_safe h).2.1
  obtain ⟨i, hi, e⟩ := surj_of_inj (gP G) (rkN G) (fun i hi => rkN_lt h hi) (fun i j hi hj q => rkN_inj h hi hj q) r hr
  obtain ⟨j, j1, j2, j3, j4⟩ := find_at (r := f_X1_rankOf G) (x := nI r) (gP G) 0 ⟨i, Nat.zero_le _, by omega, by rw [rank_n h, e]⟩ (f_X1_playerAtRank_l2s G (nI r)) (f_X1_playerAtRank_l2e G (nI r)) (fun k s => rfl)
  have e1 : f_X1_playerAtRank G (nI r) = nI j := j4
  have e2 : kRk G r = j := by unfold kRk; rw [e1, nI_clamp (by omega)]
  refine ⟨by rw [e1, e2], by rw [e2]; omega, ?_⟩
  rw [e2]
  have e3 : nI (rkN G j) = nI r := by rw [← rank_n h]; exact j3
  have l1 := rkN_lt h (show j < gP G by omega)
  have := congrArg Int32.toNatClampNeg e3
  rw [nI_clamp (by omega), nI_clamp (by omega)] at this
  exact this
theorem rk_at {G : GS} (h : GI G) {r : Nat} (hr : r < gP G) : f_X1_playerAtRank G (nI r) = nI (kRk G r) ∧ kRk G r < gP G := ⟨(rk_all h hr).1, (rk_all h hr).2.1⟩
