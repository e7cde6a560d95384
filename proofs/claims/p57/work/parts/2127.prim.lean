/-! the shortest forest, by growing -/
theorem i32_assoc (a b c : Int32) : a ||| (b ||| c) = a ||| b ||| c := by
  apply Int32.toBitVec_inj.mp
  apply BitVec.eq_of_getLsbD_eq
  intro i hi
  simp only [Int32.toBitVec_or, BitVec.getLsbD_or, Bool.or_assoc]
theorem leave_ok {G : GS} (h : GI G) {Rr : GR} {m : Int32} {R : Nat → Bool} (bm : BM m R) : (f_X2_shortestLeaving Rr G m = -1 ∧ shut (eds G) R) ∨ ∃ j, j < gS G ∧ f_X2_shortestLeaving Rr G m = nI j ∧ f_X1_hasBridge G j = true ∧ R (gLo G j) ≠ R (gHi G j) ∧ ∀ i, i < gS G → f_X1_hasBridge G i = true → R (gLo G i) ≠ R (gHi G i) → (edE G j).2.2 ≤ (edE G i).2.2 := by
  have hG := GI_safe h
  have hS := hG.1
  have bi : ∀ k, (bI (f_X2_contains m (nI (gLo G k))) = bI (f_X2_contains m (nI (gHi G k))) ↔ R (gLo G k) = R (gHi G k)) := fun k => by
    rw [bm _ (hG.2.2.1 k), bm _ (hG.2.2.2 k)]
    cases R (gLo G k) <;> cases R (gHi G k) <;> decide
  unfold f_X2_shortestLeaving f_X2_shortestLeaving_l4
  refine lpF_invN (step := f_X2_shortestLeaving_l4s G m) (ex := f_X2_shortestLeaving_l4e G m) (gS G) (fun k v => (v = -1 ∧ ∀ i, i < k → f_X1_hasBridge G i = true → R (gLo G i) = R (gHi G i)) ∨ ∃ j, j < gS G ∧ v = nI j ∧ f_X1_hasBridge G j = true ∧ R (gLo G j) ≠ R (gHi G j) ∧ ∀ i, i < k → f_X1_hasBridge G i = true → R (gLo G i) ≠ R (gHi G i) → (edE G j).2.2 ≤ (edE G i).2.2) (fun v => (v = -1 ∧ shut (eds G) R) ∨ ∃ j, j < gS G ∧ v = nI j ∧ f_X1_hasBridge G j = true ∧ R (gLo G j) ≠ R (gHi G j) ∧ ∀ i, i < gS G → f_X1_hasBridge G i = true → R (gLo G i) ≠ R (gHi G i) → (edE G j).2.2 ≤ (edE G i).2.2) ?_ ?_ ?_ (gS G) 0 _ (Nat.zero_add _) (Or.inl ⟨rfl, fun i hi => absurd hi (Nat.not_lt_zero i)⟩)
  · intro k v r hk _ e
    simp only [f_X2_shortestLeaving_l4s, f_X2_shortestLeaving_l4b, f_X2_shortestLeaving_j47, f_X2_shortestLeaving_j48, f_X2_shortestLeaving_j75, f_X2_shortestLeaving_j77] at e
    repeat' (split at e)
    all_goals cases e
  · intro k v v' hk hs e
    obtain ⟨L, l1, l9, el, el2⟩ := len_nat h.1 hk
    -- nothing new
    have same : (f_X1_hasBridge G k = true → R (gLo G k) = R (gHi G k)) → v' = v → (v' = -1 ∧ ∀ i, i < k + 1 → f_X1_hasBridge G i = true → R (gLo G i) = R (gHi G i)) ∨ ∃ j, j < gS G ∧ v' = nI j ∧ f_X1_hasBridge G j = true ∧ R (gLo G j) ≠ R (gHi G j) ∧ ∀ i, i < k + 1 → f_X1_hasBridge G i = true → R (gLo G i) ≠ R (gHi G i) → (edE G j).2.2 ≤ (edE G i).2.2 := fun nl ev => by
      rw [ev]
      rcases hs with ⟨s1, s2⟩ | ⟨j, hj, s1, s2, s3, s4⟩
      · refine Or.inl ⟨s1, fun i hi hb => ?_⟩
        by_cases z : i = k
        · subst z; exact nl hb
        · exact s2 i (by omega) hb
      · refine Or.inr ⟨j, hj, s1, s2, s3, fun i hi hb ne => ?_⟩
        by_cases z : i = k
        · subst z; exact absurd (nl hb) ne
        · exact s4 i (by omega) hb ne
    have e : f_X2_shortestLeaving_l4b G m k v = Sum.inr v' := e
    unfold f_X2_shortestLeaving_l4b f_X2_shortestLeaving_j47 f_X2_shortestLeaving_j48 f_X2_shortestLeaving_j75 f_X2_shortestLeaving_j77 at e
    by_cases c : f_X1_hasBridge G k = true
    · rw [if_pos c] at e
      by_cases d : R (gLo G k) = R (gHi G k)
      · rw [if_pos ((bi k).mpr d), if_neg (by decide)] at e
        cases e
        exact same (fun _ => d) rfl
      · rw [if_neg (fun z => d ((bi k).mp z)), if_pos rfl] at e
        rcases hs with ⟨s1, s2⟩ | ⟨j, hj, s1, s2, s3, s4⟩
        · rw [if_pos s1] at e
          cases e
          refine Or.inr ⟨k, hk, rfl, c, d, fun i hi hb ne => ?_⟩
          by_cases z : i = k
          · rw [z]; exact Nat.le_refl _
          · exact absurd (s2 i (by omega) hb) ne
        · obtain ⟨Lj, j1, j9, elj, elj2⟩ := len_nat h.1 hj
          have cmp : gLen G j ≤ gLen G k ↔ (edE G j).2.2 ≤ (edE G k).2.2 := by
            rw [el, elj, el2, elj2, ile, nI_toInt (by omega), nI_toInt (by omega)]
            omega
          rw [s1, if_neg (nI_m1_ne (by omega)), nI_clamp (by omega)] at e
          by_cases g : gLen G j ≤ gLen G k
          · rw [if_pos g] at e
            cases e
            refine Or.inr ⟨j, hj, rfl, s2, s3, fun i hi hb ne => ?_⟩
            by_cases z : i = k
            · rw [z]; exact cmp.mp g
            · exact s4 i (by omega) hb ne
          · rw [if_neg g] at e
            cases e
            have g2 : ¬ (edE G j).2.2 ≤ (edE G k).2.2 := fun z => g (cmp.mpr z)
            refine Or.inr ⟨k, hk, rfl, c, d, fun i hi hb ne => ?_⟩
            by_cases z : i = k
            · rw [z]; exact Nat.le_refl _
            · have := s4 i (by omega) hb ne
              omega
    · rw [if_neg c, if_neg (by decide)] at e
      cases e
      exact same (fun z => absurd z c) rfl
  · intro v hs
    rcases hs with ⟨s1, s2⟩ | ⟨j, hj, s1, s2, s3, s4⟩
    · refine Or.inl ⟨s1, fun e he => ?_⟩
      obtain ⟨k, hk, hb, rfl⟩ := mem_eds he
      exact s2 k hk hb
    · exact Or.inr ⟨j, hj, s1, s2, s3, s4⟩
/-- a mask that has one more -/
theorem BM_cg {m : Int32} {c d : Nat → Bool} (h : BM m c) (e : ∀ x, x < 8 → c x = d x) : BM m d := fun i hi => (h i hi).trans (e i hi)
theorem prim_in {G : GS} (h : GI G) (Rr : GR) {v m : Int32} {T : List Edg} {R : Nat → Bool} (pi : PI (eds G) T R) (bm : BM m R) (ev : v = nI (sumL T)) (c1 : 1 ≤ c8 R) : ∃ v' m', f_X2_primLength_l21 Rr G (8 - 1) 1 v m = Sum.inr (v', m') ∧ ∃ T' R', PI (eds G) T' R' ∧ BM m' R' ∧ v' = nI (sumL T') ∧ shut (eds G) R' ∧ ∀ x, R x = true → R' x = true := by
  have hG := GI_safe h
  have hE := wf_eds h.1
  unfold f_X2_primLength_l21
  refine lpF_invN (step := f_X2_primLength_l21s Rr G) (ex := f_X2_primLength_l21e Rr G) 8 (fun k s => ∃ T' R', PI (eds G) T' R' ∧ BM s.2 R' ∧ s.1 = nI (sumL T') ∧ k ≤ c8 R' ∧ ∀ x, R x = true → R' x = true) (fun r => ∃ v' m', r = Sum.inr (v', m') ∧ ∃ T' R', PI (eds G) T' R' ∧ BM m' R' ∧ v' = nI (sumL T') ∧ shut (eds G) R' ∧ ∀ x, R x = true → R' x = true) ?_ ?_ ?_ (8 - 1) 1 _ (by omega) ⟨T, R, pi, bm, ev, c1, fun x hx => hx⟩
  · rintro k ⟨v, m⟩ r hk ⟨T1, R1, p1, b1, e1, k1, s1⟩ e
    have b1 : BM m R1 := b1
    have e1 : v = nI (sumL T1) := e1
    have e : f_X2_primLength_l21b Rr G k v m = Sum.inl r := e
    unfold f_X2_primLength_l21b f_X2_primLength_j82 at e
    rcases leave_ok (Rr := Rr) h b1 with ⟨o1, o2⟩ | ⟨j, hj, o1, o2, o3, o4⟩
    · rw [if_pos o1] at e
      cases e
      exact ⟨v, m, rfl, T1, R1, p1, b1, e1, o2, s1⟩
    · rw [o1, if_neg (nI_m1_ne (by have := hG.1; omega))] at e
      cases e
  · rintro k ⟨v, m⟩ t' hk ⟨T1, R1, p1, b1, e1, k1, s1⟩ e
    have b1 : BM m R1 := b1
    have e1 : v = nI (sumL T1) := e1
    have e : f_X2_primLength_l21b Rr G k v m = Sum.inr t' := e
    unfold f_X2_primLength_l21b f_X2_primLength_j82 at e
    rcases leave_ok (Rr := Rr) h b1 with ⟨o1, o2⟩ | ⟨j, hj, o1, o2, o3, o4⟩
    · rw [if_pos o1] at e
      cases e
    · obtain ⟨L, l1, l9, el, el2⟩ := len_nat h.1 hj
      rw [o1, if_neg (nI_m1_ne (by have := hG.1; omega)), nI_clamp (by have := hG.1; omega)] at e
      cases e
      have lo8 := hG.2.2.1 j
      have hi8 := hG.2.2.2 j
      have hm : ∀ e', e' ∈ eds G → R1 e'.1 ≠ R1 e'.2.1 → (edE G j).2.2 ≤ e'.2.2 := fun e' he ne => by
        obtain ⟨i, hi, hb, rfl⟩ := mem_eds he
        exact o4 i hi hb ne
      have ej : edE G j ∈ eds G := eds_mem hj o2
      have sum1 : nI (sumL T1) + gLen G j = nI (sumL (T1 ++ [edE G j])) := by rw [el, nI_add, sumL_app, el2]
      have mk : m ||| (bt (gLo G j) ||| bt (gHi G j)) = m ||| bt (gLo G j) ||| bt (gHi G j) := i32_assoc _ _ _
      have bmm := BM_add (BM_add b1 lo8) hi8
      -- the end that is new
      have go : ∀ u w, ((gLo G j = u ∧ gHi G j = w) ∨ (gLo G j = w ∧ gHi G j = u)) → w < 8 → R1 u = true → R1 w = false → ∃ T' R', PI (eds G) T' R' ∧ BM (m ||| (bt (gLo G j) ||| bt (gHi G j))) R' ∧ v + gLen G j = nI (sumL T') ∧ k + 1 ≤ c8 R' ∧ ∀ x, R x = true → R' x = true := fun u w huv hw hu hv => by
        have st := PI_step hE p1 ej (u := u) (v := w) huv hu hv hm
        refine ⟨_, _, st, ?_, by rw [e1]; exact sum1, by rw [c8_add hw hv]; omega, fun x hx => by simp [s1 x hx]⟩
        rw [mk]
        refine BM_cg bmm (fun x hx => ?_)
        rcases huv with ⟨q1, q2⟩ | ⟨q1, q2⟩
        · rw [q1, q2]
          by_cases z : x = u
          · subst z; simp [hu]
          · have : (x == u) = false := beq_eq_false_iff_ne.mpr z
            rw [this, Bool.or_false]
        · rw [q1, q2]
          by_cases z : x = u
          · subst z; simp [hu]
          · have : (x == u) = false := beq_eq_false_iff_ne.mpr z
            rw [this, Bool.or_false]
      cases q : R1 (gLo G j)
      · have q2 : R1 (gHi G j) = true := by
          cases z : R1 (gHi G j)
          · exact absurd (q.trans z.symm) o3
          · rfl
        exact go (gHi G j) (gLo G j) (Or.inr ⟨rfl, rfl⟩) lo8 q2 q
      · have q2 : R1 (gHi G j) = false := by
          cases z : R1 (gHi G j)
          · rfl
          · exact absurd (q.trans z.symm) o3
        exact go (gLo G j) (gHi G j) (Or.inl ⟨rfl, rfl⟩) hi8 q q2
  · rintro ⟨v, m⟩ ⟨T1, R1, p1, b1, e1, k1, s1⟩
    have full := c8_full k1
    exact ⟨v, m, rfl, T1, R1, p1, b1, e1, fun e he => by have w := hE e he; rw [full _ w.1, full _ w.2.1], s1⟩
theorem prim_c {G : GS} (h : GI G) (Rr : GR) : f_X2_primLength Rr G = nI (forestW (eds G)) := by
  have hE := wf_eds h.1
  unfold f_X2_primLength f_X2_primLength_l6
  refine lpF_invN (step := f_X2_primLength_l6s Rr G) (ex := f_X2_primLength_l6e Rr G) 8 (fun k s => ∃ T R, PI (eds G) T R ∧ BM s.2 R ∧ s.1 = nI (sumL T) ∧ shut (eds G) R ∧ ∀ j, j < k → R j = true) (fun v => v = nI (forestW (eds G))) ?_ ?_ ?_ 8 0 _ (Nat.zero_add _) ⟨[], fun _ => false, PI_0 _, BM_0, rfl, fun e he => rfl, fun j hj => absurd hj (Nat.not_lt_zero j)⟩
  · rintro k ⟨v, m⟩ r hk ⟨T, R, p1, b1, e1, s1, a1⟩ e
    have c1 : 1 ≤ c8 (fun x => R x || x == k) := List.countP_pos_iff.mpr ⟨k, List.mem_range.mpr hk, by simp⟩
    obtain ⟨v', m', e2, _⟩ := prim_in h Rr (PI_start p1 s1 k) (BM_add (show BM m R from b1) hk) e1 c1
    have e : f_X2_primLength_l21 Rr G (8 - 1) 1 v (m ||| bt k) = Sum.inl r := e
    have e2 : f_X2_primLength_l21 Rr G (8 - 1) 1 v (m ||| bt k) = _ := e2
    rw [e2] at e
    cases e
  · rintro k ⟨v, m⟩ t' hk ⟨T, R, p1, b1, e1, s1, a1⟩ e
    have c1 : 1 ≤ c8 (fun x => R x || x == k) := List.countP_pos_iff.mpr ⟨k, List.mem_range.mpr hk, by simp⟩
    obtain ⟨v', m', e2, T', R', p2, b2, e3, s2, a2⟩ := prim_in h Rr (PI_start p1 s1 k) (BM_add (show BM m R from b1) hk) e1 c1
    have e : f_X2_primLength_l21 Rr G (8 - 1) 1 v (m ||| bt k) = Sum.inr t' := e
    have e2 : f_X2_primLength_l21 Rr G (8 - 1) 1 v (m ||| bt k) = _ := e2
    rw [e2] at e
    cases e
    refine ⟨T', R', p2, b2, e3, s2, fun j hj => a2 j ?_⟩
    by_cases z : j = k
    · subst z; simp
    · simp [a1 j (by omega)]
  · rintro ⟨v, m⟩ ⟨T, R, p1, b1, e1, s1, a1⟩
    have e1 : v = nI (sumL T) := e1
    show v = _
    rw [e1, PI_end hE p1 a1]
