/-! sets of islands as bits -/
def bt (i : Nat) : Int32 := 1 <<< (nI i &&& 31)
theorem bt_ne : ∀ i, i < 8 → ∀ j, j < 8 → j ≠ i → bt i &&& bt j = 0 := by decide +kernel
theorem bt_nz : ∀ i, i < 8 → bt i ≠ 0 := by decide +kernel
theorem i32_dist (a b c : Int32) : (a ||| b) &&& c = (a &&& c) ||| (b &&& c) := by
  apply Int32.toBitVec_inj.mp
  apply BitVec.eq_of_getLsbD_eq
  intro i hi
  simp only [Int32.toBitVec_and, Int32.toBitVec_or, BitVec.getLsbD_and, BitVec.getLsbD_or]
  cases (a.toBitVec.getLsbD i) <;> cases (b.toBitVec.getLsbD i) <;> cases (c.toBitVec.getLsbD i) <;> rfl
theorem i32_or0 (a : Int32) : a ||| 0 = a := by
  apply Int32.toBitVec_inj.mp
  apply BitVec.eq_of_getLsbD_eq
  intro i hi
  simp
theorem i32_ors {a b : Int32} (h : a ||| b = 0) : b = 0 := by
  have h2 := Int32.toBitVec_inj.mpr h
  apply Int32.toBitVec_inj.mp
  apply BitVec.eq_of_getLsbD_eq
  intro i hi
  have h3 := congrArg (fun (v : BitVec 32) => v.getLsbD i) h2
  simp only [Int32.toBitVec_or, BitVec.getLsbD_or, Bool.or_eq_true, Int32.toBitVec_zero, BitVec.getLsbD_zero, Bool.or_eq_false_iff] at h3
  rw [Int32.toBitVec_zero, BitVec.getLsbD_zero]
  exact h3.2
theorem i32_self (a : Int32) : a &&& a = a := by
  apply Int32.toBitVec_inj.mp
  apply BitVec.eq_of_getLsbD_eq
  intro i hi
  simp
theorem cont_t {m : Int32} {j : Nat} : f_X2_contains m (nI j) = true ↔ ¬ m &&& bt j = 0 := by
  unfold f_X2_contains f_X2_contains_j13
  by_cases c : m &&& (1 <<< (nI j &&& 31)) = 0
  · rw [if_pos c]
    exact ⟨fun h => absurd h (by decide), fun h => absurd c h⟩
  · rw [if_neg c]
    exact ⟨fun _ => c, fun _ => rfl⟩
theorem cont_add {m : Int32} {u j : Nat} (hu : u < 8) (hj : j < 8) : f_X2_contains (m ||| bt u) (nI j) = (f_X2_contains m (nI j) || j == u) := by
  refine bool_c (cont_t.trans ?_)
  rw [i32_dist, Bool.or_eq_true, cont_t]
  by_cases c : j = u
  · subst c
    rw [i32_self]
    exact ⟨fun _ => Or.inr (beq_self_eq_true j), fun _ h => bt_nz j hj (i32_ors h)⟩
  · rw [bt_ne u hu j hj c, i32_or0]
    exact ⟨fun h => Or.inl h, fun h => h.resolve_right (fun e => c (beq_iff_eq.mp e))⟩
def BM (m : Int32) (c : Nat → Bool) : Prop := ∀ i, i < 8 → f_X2_contains m (nI i) = c i
theorem BM_0 : BM 0 (fun _ => false) := by
  unfold BM
  decide +kernel
theorem BM_add {m : Int32} {c : Nat → Bool} {u : Nat} (h : BM m c) (hu : u < 8) : BM (m ||| bt u) (fun x => c x || x == u) := fun i hi => by
  rw [cont_add hu hi, h i hi]
/-- the other end of a built site -/
theorem bridged_c {G : GS} (hG : GSafe G) {u k : Nat} (hu : u < 8) : f_X1_bridgedFrom G (nI u) k = if f_X1_hasBridge G k = true then (if gLo G k = u then nI (gHi G k) else if gHi G k = u then nI (gLo G k) else -1) else -1 := by
  have a1 := hG.2.2.1 k
  have a2 := hG.2.2.2 k
  unfold f_X1_bridgedFrom f_X1_bridgedFrom_j47
  by_cases c : f_X1_hasBridge G k = true
  · rw [if_pos c, if_pos c]
    by_cases d : gLo G k = u
    · rw [if_pos d, if_pos (by rw [d])]
    · rw [if_neg d, if_neg (fun e => d ((nI_eq (by omega) (by omega)).mp e))]
      by_cases g : gHi G k = u
      · rw [if_pos g, if_pos (by rw [g])]
      · rw [if_neg g, if_neg (fun e => g ((nI_eq (by omega) (by omega)).mp e))]
  · rw [if_neg c, if_neg c]
/-! the nearest: the class's search -/
theorem look_ok {G : GS} (h : GI G) {Rr : GR} {d : Nat → Nat} {u : Nat} (hu : u < 8) (a : AR 1000 (rNear Rr) d) : rRlx (f_X2_lookFurther Rr G u) = rRlx Rr ∧ rPar (f_X2_lookFurther Rr G u) = rPar Rr ∧ AR 1000 (rNear (f_X2_lookFurther Rr G u)) ((eds G).foldl (lkE u) d) := by
  have hG := GI_safe h
  unfold f_X2_lookFurther f_X2_lookFurther_l2
  rw [lpF_it (step := f_X2_lookFurther_l2s Rr G u) (ex := f_X2_lookFurther_l2e Rr G u) (fun k s => if f_X1_hasBridge G k = true then (if gLo G k = u then upd s (gHi G k) (imin (s (gHi G k)) (s u + gLen G k)) else if gHi G k = u then upd s (gLo G k) (imin (s (gLo G k)) (s u + gLen G k)) else s) else s) (gS G) (fun k s hk => by
    have a1 := hG.2.2.1 k
    have a2 := hG.2.2.2 k
    show f_X2_lookFurther_l2b Rr G u k s = _
    unfold f_X2_lookFurther_l2b f_X2_lookFurther_j54
    rw [bridged_c hG hu]
    by_cases c : f_X1_hasBridge G k = true
    · rw [if_pos c, if_pos c]
      by_cases d : gLo G k = u
      · rw [if_pos d, if_pos d, if_neg (nI_m1_ne (by omega)), nI_clamp (by omega)]
      · rw [if_neg d, if_neg d]
        by_cases g : gHi G k = u
        · rw [if_pos g, if_pos g, if_neg (nI_m1_ne (by omega)), nI_clamp (by omega)]
        · rw [if_neg g, if_neg g, if_pos rfl]
    · rw [if_neg c, if_neg c, if_pos rfl]) _ _ _ (Nat.zero_add _)]
  refine ⟨rfl, rfl, ?_⟩
  refine AR_pass h.1 (by decide) (stpD := lkE u) (fun k s d hk hb a => ?_) (fun k s hk hb => if_neg hb) (gS G) (Nat.le_refl _) _ _ a
  obtain ⟨L, l1, l9, el, el2⟩ := len_nat h.1 hk
  have e2 : edE G k = (gLo G k, gHi G k, L) := by
    rw [← el2]
    rfl
  rw [if_pos hb, el, e2]
  unfold lkE
  by_cases d : gLo G k = u
  · rw [if_pos d, if_pos (show (gLo G k, gHi G k, L).1 = u from d)]
    exact AR_rel (by decide) a hu (hG.2.2.2 k) l9
  · rw [if_neg d, if_neg (show ¬ (gLo G k, gHi G k, L).1 = u from d)]
    by_cases g : gHi G k = u
    · rw [if_pos g, if_pos (show (gLo G k, gHi G k, L).2.1 = u from g)]
      exact AR_rel (by decide) a hu (hG.2.2.1 k) l9
    · rw [if_neg g, if_neg (show ¬ (gLo G k, gHi G k, L).2.1 = u from g)]
      exact a
theorem open_ok {Rr : GR} {m : Int32} {c : Nat → Bool} {d : Nat → Nat} (hm : BM m c) (a : AR 1000 (rNear Rr) d) : (f_X2_nearestOpen Rr m = -1 ∧ ∀ x, x < 8 → c x = false → d x = 1000) ∨ ∃ u, u < 8 ∧ f_X2_nearestOpen Rr m = nI u ∧ c u = false ∧ d u < 1000 ∧ ∀ v, v < 8 → c v = false → d u ≤ d v := by
  unfold f_X2_nearestOpen f_X2_nearestOpen_l9
  refine lpF_invN (step := f_X2_nearestOpen_l9s Rr m) (ex := f_X2_nearestOpen_l9e Rr m) 8 (fun k s => (s.1 = -1 ∧ s.2 = nI 1000 ∧ ∀ x, x < k → c x = false → d x = 1000) ∨ ∃ u, u < 8 ∧ s.1 = nI u ∧ s.2 = nI (d u) ∧ c u = false ∧ d u < 1000 ∧ ∀ v, v < k → c v = false → d u ≤ d v) (fun r => (r = -1 ∧ ∀ x, x < 8 → c x = false → d x = 1000) ∨ ∃ u, u < 8 ∧ r = nI u ∧ c u = false ∧ d u < 1000 ∧ ∀ v, v < 8 → c v = false → d u ≤ d v) ?_ ?_ ?_ 8 0 _ (Nat.zero_add _) (Or.inl ⟨rfl, rfl, fun x hx => absurd hx (Nat.not_lt_zero x)⟩)
  · intro k s r hk _ e
    simp only [f_X2_nearestOpen_l9s, f_X2_nearestOpen_l9b, f_X2_nearestOpen_j47] at e
    split at e
    · cases e
    · split at e <;> cases e
  · rintro k ⟨s1, s2⟩ s' hk hs e
    have bk := a.2 k
    have cmp : ∀ y, y ≤ 1000 → (nI y ≤ nI (d k) ↔ y ≤ d k) := fun y hy => by rw [ile, nI_toInt (by omega), nI_toInt (by omega)]; omega
    simp only [f_X2_nearestOpen_l9s, f_X2_nearestOpen_l9b, f_X2_nearestOpen_j47, hm k hk, a.1 k hk] at e
    have grow : c k = true → (fun (k : Nat) (s : Int32 × Int32) => (s.1 = -1 ∧ s.2 = nI 1000 ∧ ∀ x, x < k → c x = false → d x = 1000) ∨ ∃ u, u < 8 ∧ s.1 = nI u ∧ s.2 = nI (d u) ∧ c u = false ∧ d u < 1000 ∧ ∀ v, v < k → c v = false → d u ≤ d v) (k + 1) (s1, s2) := fun hc => by
      rcases hs with ⟨p1, p2, p3⟩ | ⟨u, hu, p1, p2, p3, p4, p5⟩
      · refine Or.inl ⟨p1, p2, fun x hx cx => ?_⟩
        by_cases q : x = k
        · subst q; rw [hc] at cx; cases cx
        · exact p3 x (by omega) cx
      · refine Or.inr ⟨u, hu, p1, p2, p3, p4, fun x hx cx => ?_⟩
        by_cases q : x = k
        · subst q; rw [hc] at cx; cases cx
        · exact p5 x (by omega) cx
    cases hc : c k
    · rw [hc, if_neg (by decide)] at e
      rcases hs with ⟨p1, p2, p3⟩ | ⟨u, hu, p1, p2, p3, p4, p5⟩
      · have p1 : s1 = -1 := p1
        have p2 : s2 = nI 1000 := p2
        rw [p2] at e
        by_cases q : nI 1000 ≤ nI (d k)
        · rw [if_pos q] at e
          cases e
          have q2 := (cmp 1000 (Nat.le_refl _)).mp q
          refine Or.inl ⟨p1, rfl, fun x hx cx => ?_⟩
          by_cases z : x = k
          · subst z; omega
          · exact p3 x (by omega) cx
        · rw [if_neg q] at e
          cases e
          have q2 : ¬ 1000 ≤ d k := fun z => q ((cmp 1000 (Nat.le_refl _)).mpr z)
          refine Or.inr ⟨k, hk, rfl, rfl, hc, by omega, fun x hx cx => ?_⟩
          by_cases z : x = k
          · subst z; omega
          · have := p3 x (by omega) cx
            omega
      · have p1 : s1 = nI u := p1
        have p2 : s2 = nI (d u) := p2
        rw [p2] at e
        by_cases q : nI (d u) ≤ nI (d k)
        · rw [if_pos q] at e
          cases e
          have q2 := (cmp (d u) (by omega)).mp q
          refine Or.inr ⟨u, hu, p1, rfl, p3, p4, fun x hx cx => ?_⟩
          by_cases z : x = k
          · subst z; omega
          · exact p5 x (by omega) cx
        · rw [if_neg q] at e
          cases e
          have q2 : ¬ d u ≤ d k := fun z => q ((cmp (d u) (by omega)).mpr z)
          refine Or.inr ⟨k, hk, rfl, rfl, hc, by omega, fun x hx cx => ?_⟩
          by_cases z : x = k
          · subst z; omega
          · have := p5 x (by omega) cx
            omega
    · rw [hc, if_pos rfl] at e
      cases e
      exact grow hc
  · rintro ⟨s1, s2⟩ hs
    rcases hs with ⟨p1, p2, p3⟩ | ⟨u, hu, p1, p2, p3, p4, p5⟩
    · exact Or.inl ⟨p1, p3⟩
    · exact Or.inr ⟨u, hu, p1, p3, p4, p5⟩
