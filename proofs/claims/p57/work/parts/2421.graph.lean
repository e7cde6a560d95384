/-! the graph is right -/
theorem ask_far {K : CT} (hI : GI (kG K)) {a b : Nat} (ha : a < 8) (hb : b < 8) (n : Nat) (hn : n = 0 ∨ n = 1) : askV K n (nI a) (nI b) = if dist (eds (kG K)) a 100000 b < 100000 then nI (dist (eds (kG K)) a 100000 b) else -2004 := by
  have hE := wf_eds hI.1
  have ca : f_X1_isIsland (nI a) = true := X1_isIsland_t.mpr (vp_in_nI ha (by decide))
  have cb : f_X1_isIsland (nI b) = true := X1_isIsland_t.mpr (vp_in_nI hb (by decide))
  have na : (nI a).toNatClampNeg = a := nI_clamp (by omega)
  have nb : (nI b).toNatClampNeg = b := nI_clamp (by omega)
  have key : ∀ v : Int32, v = nI (dist (eds (kG K)) a 1000 b) → aCode ((f_X7_requireNear v).1, if (f_X7_requireNear v).1 = 0 then (f_X7_requireNear v).2 else 0) = if dist (eds (kG K)) a 100000 b < 100000 then nI (dist (eds (kG K)) a 100000 b) else -2004 := by
    intro v hv
    have t : (1000000 : Int32).toInt = 1000000 := rfl
    have l3 := (dist_feas (eds (kG K)) a 100000).2.1 b
    have e := dist_far hE (F := 100000) (G := 1000000) ha hb (by decide) (by decide)
    rw [hv, near_of hI ha hb]
    rcases far_eq hI ha hb with ⟨r1, r2⟩ | ⟨r1, r2⟩
    · rw [r2, if_pos rfl] at e
      rw [r2, if_pos (show (1000000 : Int32) ≤ nI 1000000 from Int32.le_refl _), if_neg (show ¬ dist (eds (kG K)) a 100000 b < 100000 by omega)]
      rfl
    · rw [if_neg (by omega)] at e
      rw [if_neg (by rw [ile, t, nI_toInt (by omega)]; omega), if_pos (show dist (eds (kG K)) a 100000 b < 100000 by omega), e]
      rfl
  rcases hn with r | r <;> subst r
  · have s1 := (search_ok hI R0 ha).1 b hb
    rw [← key _ s1]
    unfold askV
    congr 1
    show ((f_X7_distance (kQ K) (kG K) R0 (nI a) (nI b)).1, (f_X7_distance (kQ K) (kG K) R0 (nI a) (nI b)).2.1) = _
    simp only [f_X7_distance, f_X7_requireIsland, lt_, ca, cb, na, nb, if_true]
    split <;> rename_i q <;> simp only [q, if_true, if_false]
  · have s1 := (relax_ok hI R0 ha).1 b hb
    rw [← key _ s1]
    unfold askV
    congr 1
    show ((f_X7_distanceByRelaxation (kQ K) (kG K) R0 (nI a) (nI b)).1, (f_X7_distanceByRelaxation (kQ K) (kG K) R0 (nI a) (nI b)).2.1) = _
    simp only [f_X7_distanceByRelaxation, f_X7_requireIsland, lt_, ca, cb, na, nb, if_true]
    split <;> rename_i q <;> simp only [q, if_true, if_false]
theorem reach_d {G : GS} (hI : GI G) {a b : Nat} (ha : a < 8) (hb : b < 8) : f_X2_reaches R0 G (nI a) (nI b) = decide (dist (eds G) a 100000 b < 100000) := by
  refine bool_c ?_
  rw [decide_eq_true_iff]
  exact (reach_c hI ha hb).trans (dist_conn (wf_eds hI.1) ha hb (by decide)).symm
theorem init_it : ∀ n, n ≤ 64 → ∀ x y, x < 8 → y < 8 → x * 8 + y < n → itF (fun k A => updT A (k / 8) (k % 8) (if nI (k / 8) = nI (k % 8) then 0 else 100000)) n 0 (fun _ _ => (0 : Int32)) x y = nI (f0 x y) := by
  intro n
  induction n with
  | zero => intro _ x y _ _ h; omega
  | succ n ih =>
    intro hn x y hx hy h
    rw [itF_snoc, Nat.zero_add, updT_at]
    by_cases c : x = n / 8 ∧ y = n % 8
    · rw [if_pos c, ← c.1, ← c.2]
      unfold f0
      by_cases d : x = y
      · rw [if_pos (congrArg nI d), if_pos d]; rfl
      · rw [if_neg (fun e => d ((nI_eq (by omega) (by omega)).mp e)), if_neg d]; rfl
    · rw [if_neg c]
      exact ih (by omega) x y hx hy (by omega)
theorem cell_right {K : CT} (hI : GI (kG K)) {A : Nat → Nat → Int32} (hd : ∀ a b, a < 8 → b < 8 → A a b = nI (dist (eds (kG K)) a 100000 b)) {a b : Nat} (ha : a < 8) (hb : b < 8) (v : Int32) (low : Bool) : f_L_isGraphRight_l193b K a b v true low A = .inr (v, true, (low && (decide (a ≤ b) || !decide (dist (eds (kG K)) a 100000 b < 100000))), A) := by
  have l := (dist_feas (eds (kG K)) a 100000).2.1 b
  have t : (100000 : Int32).toInt = 100000 := rfl
  have t0 : (0 : Int32).toInt = 0 := rfl
  have fin : f_L_isGraphRight_j285 a b v low true A = .inr (v, true, (low && (decide (a ≤ b) || !decide (dist (eds (kG K)) a 100000 b < 100000))), A) := by
    unfold f_L_isGraphRight_j285 f_L_isGraphRight_j310 f_L_isGraphRight_j314 f_L_isGraphRight_j315
    cases low
    · rw [if_neg (by decide)]
      rfl
    · rw [if_pos rfl]
      by_cases q : a ≤ b
      · rw [if_pos (by rw [ile, nI_toInt (by omega), nI_toInt (by omega)]; omega), decide_eq_true q]
        rfl
      · rw [if_neg (by rw [ile, nI_toInt (by omega), nI_toInt (by omega)]; omega), decide_eq_false q]
        by_cases c : dist (eds (kG K)) a 100000 b < 100000
        · rw [if_pos (by rw [hd a b ha hb, ilt, t, nI_toInt (by omega)]; omega), decide_eq_true c]
          rfl
        · rw [if_neg (by rw [hd a b ha hb, ilt, t, nI_toInt (by omega)]; omega), decide_eq_false c]
          rfl
  unfold f_L_isGraphRight_l193b
  by_cases c : dist (eds (kG K)) a 100000 b < 100000
  · rw [if_neg (by rw [hd a b ha hb, ile, t, nI_toInt (by omega)]; omega)]
    unfold f_L_isGraphRight_j225
    rw [if_pos rfl, ask_far hI ha hb 0 (Or.inl rfl), if_pos c, hd a b ha hb, if_pos rfl, ask_far hI ha hb 1 (Or.inr rfl), if_pos c, if_pos rfl, if_neg (by rw [ilt, t0, nI_toInt (by omega)]; omega), reach_d hI ha hb, decide_eq_true c]
    unfold f_L_isGraphRight_j277
    rw [if_pos rfl, fin, decide_eq_true c]
  · rw [if_pos (by rw [hd a b ha hb, ile, t, nI_toInt (by omega)]; omega)]
    unfold f_L_isGraphRight_j225
    rw [if_pos rfl, ask_far hI ha hb 0 (Or.inl rfl), if_neg c, if_pos rfl, ask_far hI ha hb 1 (Or.inr rfl), if_neg c, if_pos rfl, if_pos (by decide), reach_d hI ha hb, decide_eq_false c]
    unfold f_L_isGraphRight_j277
    rw [if_pos rfl, fin, decide_eq_false c]
theorem row_right {K : CT} (hI : GI (kG K)) {A : Nat → Nat → Int32} (hd : ∀ a b, a < 8 → b < 8 → A a b = nI (dist (eds (kG K)) a 100000 b)) {a : Nat} (ha : a < 8) (v : Int32) : f_L_isGraphRight_l193 K a 8 0 v true true A = .inr (v + bI (lowB (Conn (inL (eds (kG K)))) a), true, A) := by
  unfold f_L_isGraphRight_l193
  refine lpF_invN 8 (fun k (t : Int32 × Bool × Bool × (Nat → Nat → Int32)) => t.1 = v ∧ t.2.1 = true ∧ t.2.2.2 = A ∧ (t.2.2.1 = true ↔ ∀ b, b < k → b < a → ¬ dist (eds (kG K)) a 100000 b < 100000)) (fun (r : Sum Bool (Int32 × Bool × (Nat → Nat → Int32))) => r = .inr (v + bI (lowB (Conn (inL (eds (kG K)))) a), true, A)) ?_ ?_ ?_ 8 0 _ (Nat.zero_add _) ⟨rfl, rfl, rfl, fun _ b hb => absurd hb (Nat.not_lt_zero b), fun _ => rfl⟩
  · rintro b ⟨w, is, low, B⟩ r hb ⟨e1, e2, e3, e4⟩ e
    have e2 : is = true := e2
    have e3 : B = A := e3
    subst e2 e3
    have e : f_L_isGraphRight_l193b K a b w true low B = .inl r := e
    rw [cell_right hI hd ha hb] at e
    cases e
  · rintro b ⟨w, is, low, B⟩ t' hb ⟨e1, e2, e3, e4⟩ e
    have e1 : w = v := e1
    have e2 : is = true := e2
    have e3 : B = A := e3
    have e4 : low = true ↔ ∀ c, c < b → c < a → ¬ dist (eds (kG K)) a 100000 c < 100000 := e4
    subst e1 e2 e3
    have e : f_L_isGraphRight_l193b K a b w true low B = .inr t' := e
    rw [cell_right hI hd ha hb] at e
    have e := Sum.inr.inj e
    subst e
    refine ⟨rfl, rfl, rfl, ?_⟩
    show (low && (decide (a ≤ b) || !decide (dist (eds (kG K)) a 100000 b < 100000))) = true ↔ _
    rw [Bool.and_eq_true, Bool.or_eq_true, Bool.not_eq_true', decide_eq_true_iff, decide_eq_false_iff_not, e4]
    constructor
    · rintro ⟨h1, h2⟩ c hc ca
      by_cases q : c = b
      · subst q
        exact h2.resolve_left (by omega)
      · exact h1 c (by omega) ca
    · intro h
      refine ⟨fun c hc ca => h c (by omega) ca, ?_⟩
      by_cases q : a ≤ b
      · exact Or.inl q
      · exact Or.inr (h b (by omega) (by omega))
  · rintro ⟨w, is, low, B⟩ ⟨e1, e2, e3, e4⟩
    have e1 : w = v := e1
    have e2 : is = true := e2
    have e3 : B = A := e3
    have e4 : low = true ↔ ∀ c, c < 8 → c < a → ¬ dist (eds (kG K)) a 100000 c < 100000 := e4
    subst e1 e2 e3
    have lw : low = lowB (Conn (inL (eds (kG K)))) a := bool_c (e4.trans (Iff.trans ⟨fun h y hy g => h y (by omega) hy ((dist_conn (wf_eds hI.1) ha (by omega) (by decide)).mpr (Conn_sy g)), fun h c hc ca g => h c ca (Conn_sy ((dist_conn (wf_eds hI.1) ha hc (by decide)).mp g))⟩ lowB_t.symm))
    show f_L_isGraphRight_l193x K a w true low B = _
    unfold f_L_isGraphRight_l193x f_L_isGraphRight_j334
    rw [← lw]
    cases low
    · rw [if_neg (by decide)]
    · rw [if_pos rfl]
theorem graph_right {K : CT} (hI : GI (kG K)) (hD : DS (kG K)) : f_L_isGraphRight K = true := by
  have hE := wf_eds hI.1
  unfold f_L_isGraphRight f_L_isGraphRight_l11
  rw [lpF_it (fun k A => updT A (k / 8) (k % 8) (if nI (k / 8) = nI (k % 8) then 0 else 100000)) 64 (fun k A hk => by
    show f_L_isGraphRight_l11b K k A = _
    unfold f_L_isGraphRight_l11b f_L_isGraphRight_j44
    split <;> rfl) 64 0 _ (Nat.zero_add _)]
  have a0 : AF (itF (fun k A => updT A (k / 8) (k % 8) (if nI (k / 8) = nI (k % 8) then 0 else 100000)) 64 0 (fun _ _ => (0 : Int32))) f0 := ⟨fun x y hx hy => init_it 64 (Nat.le_refl _) x y hx hy (by omega), fun x y => by unfold f0; split <;> omega⟩
  revert a0
  generalize itF (fun k A => updT A (k / 8) (k % 8) (if nI (k / 8) = nI (k % 8) then 0 else 100000)) 64 0 (fun _ _ => (0 : Int32)) = A0
  intro a0
  show f_L_isGraphRight_l53 K (gS (kG K)) 0 A0 = true
  unfold f_L_isGraphRight_l53
  rw [lpF_it (fun k A => if f_X1_hasBridge (kG K) k = true then updT (updT A (gLo (kG K) k) (gHi (kG K) k) (gLen (kG K) k)) (gHi (kG K) k) (gLo (kG K) k) (gLen (kG K) k) else A) (gS (kG K)) (fun k A hk => by
    show f_L_isGraphRight_l53b K k A = _
    unfold f_L_isGraphRight_l53b f_L_isGraphRight_j105
    split <;> rfl) _ 0 _ (Nat.zero_add _)]
  obtain ⟨F1, a1, n1⟩ := edges_it hI.1 hD (gS (kG K)) (Nat.le_refl _) A0 a0
  revert a1
  generalize itF (fun k A => if f_X1_hasBridge (kG K) k = true then updT (updT A (gLo (kG K) k) (gHi (kG K) k) (gLen (kG K) k)) (gHi (kG K) k) (gLo (kG K) k) (gLen (kG K) k) else A) (gS (kG K)) 0 A0 = A1
  intro a1
  show f_L_isGraphRight_l113 K 512 0 A1 = true
  unfold f_L_isGraphRight_l113
  rw [lpF_it (step := f_L_isGraphRight_l113s K) (ex := f_L_isGraphRight_l113e K) fwI 512 (fun k A hk => rfl) 512 0 _ (Nat.zero_add _)]
  obtain ⟨F2, a2, i2, t2⟩ := fwI_all a1 (NE_FI hE n1) 8 (Nat.le_refl _)
  have a2 : AF (itF fwI 512 0 A1) F2 := a2
  revert a2
  generalize itF fwI 512 0 A1 = A2
  intro a2
  have d2 : ∀ a b, a < 8 → b < 8 → A2 a b = nI (dist (eds (kG K)) a 100000 b) := fun a b ha hb => by rw [a2.1 a b ha hb, fw_end hE i2 t2 ha b]
  show f_L_isGraphRight_l180 K 8 0 0 true A2 = true
  unfold f_L_isGraphRight_l180
  refine lpF_invN 8 (fun k (t : Int32 × Bool × (Nat → Nat → Int32)) => t.1 = itF (fun q v => v + bI (lowB (Conn (inL (eds (kG K)))) q)) k 0 0 ∧ t.2.1 = true ∧ t.2.2 = A2) (fun v => v = true) ?_ ?_ ?_ 8 0 _ (Nat.zero_add _) ⟨rfl, rfl, rfl⟩
  · rintro a ⟨v, is, A⟩ r ha ⟨e1, e2, e3⟩ e
    have e2 : is = true := e2
    have e3 : A = A2 := e3
    subst e2 e3
    have e : f_L_isGraphRight_l193 K a 8 0 v true true A = .inl r := e
    rw [row_right hI d2 ha] at e
    cases e
  · rintro a ⟨v, is, A⟩ t' ha ⟨e1, e2, e3⟩ e
    have e1 : v = itF (fun q v => v + bI (lowB (Conn (inL (eds (kG K)))) q)) a 0 0 := e1
    have e2 : is = true := e2
    have e3 : A = A2 := e3
    subst e2 e3
    have e : f_L_isGraphRight_l193 K a 8 0 v true true A = .inr t' := e
    rw [row_right hI d2 ha] at e
    have e := Sum.inr.inj e
    subst e
    refine ⟨?_, rfl, rfl⟩
    rw [itF_snoc, Nat.zero_add]
    exact congrArg (fun z => z + bI (lowB (Conn (inL (eds (kG K)))) a)) e1
  · rintro ⟨v, is, A⟩ ⟨e1, e2, e3⟩
    have e1 : v = itF (fun q v => v + bI (lowB (Conn (inL (eds (kG K)))) q)) 8 0 0 := e1
    have e2 : is = true := e2
    subst e2
    rw [cl_it] at e1
    show f_L_isGraphRight_l180x K v true A = true
    unfold f_L_isGraphRight_l180x f_L_isGraphRight_j394
    have i8 : f_X1_isIsland 8 = false := by decide
    have im : f_X1_isIsland (-1) = false := by decide
    have i0 : f_X1_isIsland 0 = true := by decide
    have q0 : askV K 0 8 0 = -2002 := by
      show aCode ((f_X7_distance (kQ K) (kG K) R0 8 0).1, (f_X7_distance (kQ K) (kG K) R0 8 0).2.1) = -2002
      simp only [f_X7_distance, f_X7_requireIsland, lt_, i8, Bool.false_eq_true, if_false, Nat.one_ne_zero]
      rfl
    have q1 : askV K 1 0 (-1) = -2002 := by
      show aCode ((f_X7_distanceByRelaxation (kQ K) (kG K) R0 0 (-1)).1, (f_X7_distanceByRelaxation (kQ K) (kG K) R0 0 (-1)).2.1) = -2002
      simp only [f_X7_distanceByRelaxation, f_X7_requireIsland, lt_, i0, im, Bool.false_eq_true, if_false, if_true, Nat.one_ne_zero]
      rfl
    rw [if_pos rfl, if_pos ((count_search hI R0).trans e1.symm), if_pos ((union_c hI R0).trans e1.symm), if_pos q0, if_pos q1]
