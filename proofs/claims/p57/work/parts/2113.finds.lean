/-! what is found: the typed letters, errors, the cheapest site, the player of a rank -/
theorem nar_char_n : ∀ n : Nat, n < 127 → vp_nar .char (nI n) = nI n := by decide +kernel
theorem nar_char {x : Int32} (h1 : 0 ≤ x.toInt) (h2 : x.toInt < 127) : vp_nar .char x = x := by
  obtain ⟨n, hn, e⟩ := vp_in_of (vp_of_int (n := 127) h1 (by omega)) (by omega)
  rw [e]
  exact nar_char_n n hn
theorem b_errorPosition (Q : QS) : EQI [5] (f_X7_errorPosition Q) (f_X8_errorPosition (qEr Q)) := by
  unfold f_X7_errorPosition f_X8_errorPosition f_X7_requireFound f_X8_errorPosition_j14 f_X8_errorPosition_j28 lt_
  dsimp only
  by_cases c : qEr Q = -1
  · rw [if_pos c, if_pos c, if_neg (by decide), if_neg (by decide)]
    exact EQI_x (by decide) (by decide) thr_5
  · rw [if_neg c, if_neg c, if_pos rfl, if_pos rfl]
    exact EQI_0 rfl
theorem b_failedCommand (Q : QS) : EQI [5] (f_X7_failedCommand Q) (f_X8_failedCommand (qFa Q)) := by
  unfold f_X7_failedCommand f_X8_failedCommand f_X7_requireFound f_X8_failedCommand_j14 f_X8_failedCommand_j28 lt_
  dsimp only
  by_cases c : qFa Q = -1
  · rw [if_pos c, if_pos c, if_neg (by decide), if_neg (by decide)]
    exact EQI_x (by decide) (by decide) thr_5
  · rw [if_neg c, if_neg c, if_pos rfl, if_pos rfl]
    exact EQI_0 rfl
/-- what is found, or not -/
theorem found {x : Int32} {a b : Nat × Int32} {r : Int32 × Int32} (ha : a = (lt_ (f_X7_requireFound x) (fun y9 => (if y9 = 0 then (0, x) else (y9, 0))))) (hr : r = if x = -1 then (0, gThr false) else (x, gThr true)) : EQI [5] a r := by
  rw [ha, hr]
  unfold f_X7_requireFound lt_
  dsimp only
  by_cases c : x = -1
  · rw [if_pos c, if_pos c, if_neg (by decide)]
    exact EQI_x (by decide) (by decide) thr_5
  · rw [if_neg c, if_neg c, if_pos rfl]
    exact EQI_0 rfl
theorem b_cheapestFreeSite {G : GS} {f : Nat → Int32} (h : GI G) (r : NR G f) (Q : QS) : EQI [5] (f_X7_cheapestFreeSite Q G) (f_X8_cheapestFreeSite f) := by
  have hG := GI_safe h
  have hS := hG.1
  have e1m : (1000000 : Int32).toInt = 1000000 := rfl
  refine found (x := f_X1_cheapestWithoutBridge G) (b := (0, 0)) rfl ?_
  unfold f_X8_cheapestFreeSite f_X1_cheapestWithoutBridge f_X8_cheapestFreeSite_l7 f_X1_cheapestWithoutBridge_l4
  rw [mS_of hG r]
  refine lpF_sim (step := f_X1_cheapestWithoutBridge_l4s G) (ex := f_X1_cheapestWithoutBridge_l4e G) (step' := f_X8_cheapestFreeSite_l7s f) (ex' := f_X8_cheapestFreeSite_l7e f) (gS G) (fun _ s t => t.1 = s ∧ ((s = -1 ∧ t.2 = 1000000) ∨ ∃ j, j < gS G ∧ s = nI j ∧ t.2 = f_X1_costOf G j)) (fun a b => b = if a = -1 then (0, gThr false) else (a, gThr true)) ?_ ?_ (gS G) 0 _ _ (Nat.zero_add _) ⟨rfl, Or.inl ⟨rfl, rfl⟩⟩
  · rintro k s ⟨t1, t2⟩ hk ⟨a, b⟩
    have a : t1 = s := a
    subst a
    have ck := cost_pos h.1 hk
    show sumR _ _ (f_X1_cheapestWithoutBridge_l4b G k t1) (f_X8_cheapestFreeSite_l7b f k t1 t2)
    unfold f_X1_cheapestWithoutBridge_l4b f_X8_cheapestFreeSite_l7b f_X8_cheapestFreeSite_j38 f_X8_cheapestFreeSite_j39 f_X8_cheapestFreeSite_j51 f_X8_cheapestFreeSite_j66 f_X1_cheapestWithoutBridge_j40 f_X1_cheapestWithoutBridge_j38 f_X1_cheapestWithoutBridge_j40
    rw [done_c hG r hk, cost_c hG r hk]
    by_cases c : f_X1_hasBridge G k = true
    · rw [if_pos c, if_pos c, if_neg (by decide), if_neg (by decide)]
      exact ⟨rfl, b⟩
    · rw [if_neg c, if_neg c]
      rcases b with ⟨b1, b2⟩ | ⟨j, hj, b1, b2⟩
      · have b2 : t2 = 1000000 := b2
        rw [if_pos b1, b2, if_neg (by rw [ile, e1m]; omega), if_pos rfl, if_pos rfl]
        exact ⟨rfl, Or.inr ⟨k, hk, rfl, rfl⟩⟩
      · have b1 : t1 = nI j := b1
        have b2 : t2 = f_X1_costOf G j := b2
        rw [if_neg (by rw [b1]; exact nI_m1_ne (by omega)), b1, nI_clamp (by omega), b2]
        by_cases d : f_X1_costOf G j ≤ f_X1_costOf G k
        · rw [if_pos d, if_pos d, if_neg (by decide), if_neg (by decide)]
          exact ⟨rfl, Or.inr ⟨j, hj, rfl, rfl⟩⟩
        · rw [if_neg d, if_neg d, if_pos rfl, if_pos rfl]
          exact ⟨rfl, Or.inr ⟨k, hk, rfl, rfl⟩⟩
  · rintro s ⟨t1, t2⟩ ⟨a, _⟩
    have a : t1 = s := a
    subst a
    show f_X8_cheapestFreeSite_l7x f t1 t2 = if t1 = -1 then _ else _
    unfold f_X8_cheapestFreeSite_l7x f_X8_cheapestFreeSite_j84 f_X8_cheapestFreeSite_j95
    by_cases c : t1 = -1
    · rw [if_pos c, if_pos c, if_neg (by decide)]
    · rw [if_neg c, if_neg c, if_pos rfl]
      rfl
/-! ranks -/
theorem cnt_int (b : Nat → Bool) : ∀ n, n < 100 → itF (fun q v => v + bI (b q)) n 0 0 = nI ((List.range n).countP b) := by
  intro n
  induction n with
  | zero => intro _; rfl
  | succ n ih =>
    intro hn
    have l : (List.range n).countP b ≤ n := Nat.le_trans List.countP_le_length (Nat.le_of_eq List.length_range)
    rw [itF_snoc, Nat.zero_add, ih (by omega), List.range_succ, List.countP_append]
    show nI _ + bI (b n) = nI (_ + List.countP b [n])
    cases e : b n
    · rw [show List.countP b [n] = 0 by simp [e]]
      exact Int32.add_zero _
    · rw [show List.countP b [n] = 1 by simp [e]]
      exact nI_add _ 1
/-- a loop that finds the first is one that keeps the last, where but one is found -/
theorem find_one {r : Nat → Int32} {x : Int32} : ∀ n, (∀ i j, i < n → j < n → r i = x → r j = x → i = j) → ∀ (step : Nat → Unit → Sum Int32 Unit) (ex : Unit → Int32), (∀ k s, step k s = if r k = x then Sum.inl (nI k) else Sum.inr ()) → (∀ s, ex s = -1) → lpF step ex n 0 () = itF (fun k v => if r k = x then nI k else v) n 0 (-1) := by
  intro n hu step ex hs he
  have key : ∀ m k, k + m = n → (lpF step ex m k () = itF (fun k v => if r k = x then nI k else v) m k (-1)) ∧ ∀ i, i < k → r i = x → ∀ v, itF (fun k v => if r k = x then nI k else v) m k v = v := by
    intro m
    induction m with
    | zero => intro k hk; exact ⟨he (), fun i _ _ v => rfl⟩
    | succ m ih =>
      intro k hk
      obtain ⟨i1, i2⟩ := ih (k + 1) (by omega)
      refine ⟨?_, fun i hi ei v => ?_⟩
      · show sE id (lpF step ex m (k + 1)) (step k ()) = itF (fun k v => if r k = x then nI k else v) m (k + 1) (if r k = x then nI k else -1)
        rw [hs]
        by_cases c : r k = x
        · rw [if_pos c, if_pos c]
          exact (i2 k (by omega) c _).symm
        · rw [if_neg c, if_neg c]
          exact i1
      · show itF (fun k v => if r k = x then nI k else v) m (k + 1) (if r k = x then nI k else v) = v
        have c : ¬ r k = x := fun c => by
          have := hu i k (by omega) (by omega) ei c
          omega
        rw [if_neg c]
        exact i2 i (by omega) ei v
  exact (key n 0 (Nat.zero_add _)).1
theorem score_b {G : GS} (h0 : GI0 G) (x : Int32) : 0 ≤ (f_X1_scoreOf G x).toInt ∧ (f_X1_scoreOf G x).toInt ≤ 144 := by
  have hS := h0.1.1
  unfold f_X1_scoreOf f_X1_scoreOf_l4
  refine lpF_invN (step := f_X1_scoreOf_l4s G x) (ex := f_X1_scoreOf_l4e G x) (gS G) (fun k v => 0 ≤ v.toInt ∧ v.toInt ≤ 12 * k) (fun v => 0 ≤ v.toInt ∧ v.toInt ≤ 144) ?_ ?_ ?_ (gS G) 0 _ (Nat.zero_add _) ⟨by decide, by decide⟩
  · intro k s r hk _ e
    simp only [f_X1_scoreOf_l4s, f_X1_scoreOf_l4b, f_X1_scoreOf_j62, f_X1_scoreOf_j64] at e
    split at e
    · split at e <;> cases e
    · cases e
  · intro k s s' hk hs e
    obtain ⟨L, hL1, hL9, eL⟩ := h0.2.2.2.2.1 k hk
    have tL : (gLen G k).toInt = L := by rw [eL, nI_toInt (by omega)]
    have hs : 0 ≤ s.toInt ∧ s.toInt ≤ 12 * (k : Int) := hs
    have t3 : (3 : Int32).toInt = 3 := rfl
    have t0 : (0 : Int32).toInt = 0 := rfl
    have t1 : (s + gLen G k).toInt = s.toInt + L := by rw [add_int (by omega) (by omega), tL]
    show 0 ≤ s'.toInt ∧ s'.toInt ≤ 12 * ((k + 1 : Nat) : Int)
    simp only [f_X1_scoreOf_l4s, f_X1_scoreOf_l4b, f_X1_scoreOf_j62, f_X1_scoreOf_j64] at e
    split at e
    · split at e
      · cases e
        rw [add_int (by rw [t1, t3]; omega) (by rw [t1, t3]; omega), t1, t3]
        omega
      · cases e
        rw [add_int (by rw [t1, t0]; omega) (by rw [t1, t0]; omega), t1, t0]
        omega
    · cases e
      omega
  · intro s hs
    have hs : 0 ≤ s.toInt ∧ s.toInt ≤ 12 * (gS G : Int) := hs
    show 0 ≤ s.toInt ∧ s.toInt ≤ 144
    omega
def rkey (G : GS) (i : Nat) : Int := (f_X1_scoreOf G (nI i)).toInt * 1000 + (gMon G i).toInt * 10 - i
theorem cmp_0 {x y : Int32} : f_J6_compare_7cf53 x y = 0 ↔ x = y := by
  unfold f_J6_compare_7cf53 f_J6_compare_7cf53_j19
  by_cases a : y ≤ x
  · rw [if_pos a]
    by_cases b : x = y
    · rw [if_pos b]; exact ⟨fun _ => b, fun _ => rfl⟩
    · rw [if_neg b]; exact ⟨fun h => absurd h (by decide), fun h => absurd h b⟩
  · rw [if_neg a]
    exact ⟨fun h => absurd h (by decide), fun h => absurd (by rw [h]; exact Int32.le_refl _) a⟩
theorem cmp_le {x y : Int32} : f_J6_compare_7cf53 x y ≤ 0 ↔ x.toInt ≤ y.toInt := by
  unfold f_J6_compare_7cf53 f_J6_compare_7cf53_j19
  by_cases a : y ≤ x
  · rw [if_pos a]
    have a2 := ile.mp a
    by_cases b : x = y
    · rw [if_pos b, b]; exact ⟨fun _ => Int.le_refl _, fun _ => by decide⟩
    · rw [if_neg b]
      have n : x.toInt ≠ y.toInt := fun e => b (Int32.toInt_inj.mp e)
      exact ⟨fun h => absurd h (by decide), fun h => by omega⟩
  · rw [if_neg a]
    have a2 : ¬ y.toInt ≤ x.toInt := fun h => a (ile.mpr h)
    exact ⟨fun _ => by omega, fun _ => by decide⟩
theorem ahead_key {G : GS} (h : GI G) {i j : Nat} (hi : i < gP G) (hj : j < gP G) : f_X1_isAhead G i j = true ↔ rkey G j < rkey G i := by
  have hP4 := (GI_safe h).2.1
  have s1 := score_b h.1 (nI i)
  have s2 := score_b h.1 (nI j)
  have m1 := GI_mon h hi
  have m2 := GI_mon h hj
  have c1 : f_X1_scoreOf G (nI i) = f_X1_scoreOf G (nI j) ↔ (f_X1_scoreOf G (nI i)).toInt = (f_X1_scoreOf G (nI j)).toInt := Int32.toInt_inj.symm
  have c2 : gMon G i = gMon G j ↔ (gMon G i).toInt = (gMon G j).toInt := Int32.toInt_inj.symm
  have c3 : nI j ≤ nI i ↔ j ≤ i := by rw [ile, nI_toInt (by omega), nI_toInt (by omega)]; omega
  unfold f_X1_isAhead f_X1_isAhead_j73 f_X1_isAhead_j27 rkey
  simp only [cmp_0, cmp_le, c1, c2, c3]
  generalize (f_X1_scoreOf G (nI i)).toInt = a at *
  generalize (f_X1_scoreOf G (nI j)).toInt = b at *
  generalize (gMon G i).toInt = c at *
  generalize (gMon G j).toInt = d at *
  by_cases e1 : a = b
  · rw [if_pos e1]
    by_cases e2 : c = d
    · rw [if_pos e2]
      by_cases e3 : j ≤ i
      · rw [if_pos e3]; exact ⟨fun h => absurd h (by decide), fun h => by omega⟩
      · rw [if_neg e3]; exact ⟨fun _ => by omega, fun _ => rfl⟩
    · rw [if_neg e2]
      by_cases e3 : c ≤ d
      · rw [if_pos e3]; exact ⟨fun h => absurd h (by decide), fun h => by omega⟩
      · rw [if_neg e3]; exact ⟨fun _ => by omega, fun _ => rfl⟩
  · rw [if_neg e1]
    by_cases e3 : a ≤ b
    · rw [if_pos e3]; exact ⟨fun h => absurd h (by decide), fun h => by omega⟩
    · rw [if_neg e3]; exact ⟨fun _ => by omega, fun _ => rfl⟩
theorem rank_cnt {G : GS} (h : GI G) (q : Nat) : f_X1_rankOf G q = nI ((List.range (gP G)).countP (fun k => f_X1_isAhead G k q)) := by
  have hP4 := (GI_safe h).2.1
  unfold f_X1_rankOf f_X1_rankOf_l4
  rw [lpF_it (step := f_X1_rankOf_l4s G q) (fun k v => v + bI (f_X1_isAhead G k q)) (gP G) (fun k s hk => by
    show f_X1_rankOf_l4b G q k s = _
    unfold f_X1_rankOf_l4b f_X1_rankOf_j27
    cases f_X1_isAhead G k q <;> rfl) _ _ _ (Nat.zero_add _)]
  exact cnt_int _ _ (by omega)
theorem rank_one {G : GS} (h : GI G) {i j : Nat} (hi : i < gP G) (hj : j < gP G) (e : f_X1_rankOf G i = f_X1_rankOf G j) : i = j := by
  have hP4 := (GI_safe h).2.1
  have l : ∀ b : Nat → Bool, (List.range (gP G)).countP b ≤ gP G := fun b => Nat.le_trans List.countP_le_length (Nat.le_of_eq List.length_range)
  have l1 := l (fun k => f_X1_isAhead G k i)
  have l2 := l (fun k => f_X1_isAhead G k j)
  rw [rank_cnt h, rank_cnt h] at e
  have e := (nI_eq (by omega) (by omega)).mp e
  have lt : ∀ a b, a < gP G → b < gP G → rkey G a < rkey G b → (List.range (gP G)).countP (fun k => f_X1_isAhead G k b) < (List.range (gP G)).countP (fun k => f_X1_isAhead G k a) := fun a b ha hb hk => by
    refine cnt_lt (m := b) ?_ ((ahead_key h hb ha).mpr hk) _ (fun x hx ex => ?_) (List.mem_range.mpr hb)
    · cases g : f_X1_isAhead G b b
      · rfl
      · have := (ahead_key h hb hb).mp g
        omega
    · have := (ahead_key h (List.mem_range.mp hx) hb).mp ex
      exact (ahead_key h (List.mem_range.mp hx) ha).mpr (by omega)
  have k1 : rkey G i = rkey G j := by
    have a1 := lt i j hi hj
    have a2 := lt j i hj hi
    omega
  have s1 := score_b h.1 (nI i)
  have s2 := score_b h.1 (nI j)
  have m1 := GI_mon h hi
  have m2 := GI_mon h hj
  unfold rkey at k1
  omega
theorem b_playerByScore {G : GS} {f : Nat → Int32} (h : GI G) (r : NR G f) (Q : QS) (x : Int32) : EQI [5] (f_X7_playerByScore Q G x) (f_X8_playerByScore f x) := by
  have hG := GI_safe h
  have hP4 := hG.2.1
  refine found (x := f_X1_playerAtRank G x) (b := (0, 0)) rfl ?_
  have e1 : f_X1_playerAtRank G x = itF (fun k v => if f_X1_rankOf G k = x then nI k else v) (gP G) 0 (-1) := by
    unfold f_X1_playerAtRank f_X1_playerAtRank_l2
    exact find_one (r := f_X1_rankOf G) (gP G) (fun i j hi hj ei ej => rank_one h hi hj (ei.trans ej.symm)) _ _ (fun k s => rfl) (fun s => rfl)
  rw [e1]
  unfold f_X8_playerByScore f_X8_playerByScore_l4
  rw [mP_of hG r]
  rw [lpF_it (step := f_X8_playerByScore_l4s f x) (fun k v => if f_X1_rankOf G k = x then nI k else v) (gP G) (fun k s hk => by
    show f_X8_playerByScore_l4b f x k s = _
    unfold f_X8_playerByScore_l4b f_X8_playerByScore_l20
    rw [mP_of hG r]
    rw [lpF_it (step := f_X8_playerByScore_l20s f x k) (fun j t => (t.1, t.2 + bI (f_X1_isAhead G j k))) (gP G) (fun j t hj => by
      have s1 := score_b h.1 (nI j)
      have s2 := score_b h.1 (nI k)
      have m1 := GI_mon h hj
      have m2 := GI_mon h hk
      have t0 : (0 : Int32).toInt = 0 := rfl
      have d1 : (f_X1_scoreOf G (nI j) - f_X1_scoreOf G (nI k)).toInt = (f_X1_scoreOf G (nI j)).toInt - (f_X1_scoreOf G (nI k)).toInt := sub_int (by omega) (by omega)
      have d2 : (gMon G j - gMon G k).toInt = (gMon G j).toInt - (gMon G k).toInt := sub_int (by omega) (by omega)
      have c3 : nI k ≤ nI j ↔ k ≤ j := by rw [ile, nI_toInt (by omega), nI_toInt (by omega)]; omega
      have ak := ahead_key h hj hk
      show f_X8_playerByScore_l20b f x k j t.1 t.2 = _
      unfold f_X8_playerByScore_l20b f_X8_playerByScore_j99 f_X8_playerByScore_j103 f_X8_playerByScore_j104
      rw [score_c hG r, score_c hG r, Nat.add_zero, Nat.add_zero, (r.2.2.1 j hj).1, (r.2.2.1 k hk).1]
      unfold rkey at ak
      cases g : f_X1_isAhead G j k
      · have ak : ¬ _ := fun q => by have := ak.mpr q; rw [g] at this; cases this
        rw [if_neg (by rw [ilt, t0, d1]; omega)]
        by_cases z : f_X1_scoreOf G (nI j) - f_X1_scoreOf G (nI k) = 0
        · have z1 := Int32.toInt_inj.mpr z
          rw [d1, t0] at z1
          rw [if_pos z, if_neg (by rw [ilt, t0, d2]; omega)]
          by_cases y : gMon G j - gMon G k = 0
          · have y1 := Int32.toInt_inj.mpr y
            rw [d2, t0] at y1
            rw [if_pos y, if_pos (c3.mpr (by omega))]
          · rw [if_neg y]
        · rw [if_neg z]
      · have ak := ak.mp g
        by_cases u : (0 : Int32) < f_X1_scoreOf G (nI j) - f_X1_scoreOf G (nI k)
        · rw [if_pos u]
        · rw [ilt, t0, d1] at u
          rw [if_neg (by rw [ilt, t0, d1]; exact u), if_pos (Int32.toInt_inj.mp (by rw [d1, t0]; omega))]
          by_cases v : (0 : Int32) < gMon G j - gMon G k
          · rw [if_pos v]
          · rw [ilt, t0, d2] at v
            rw [if_neg (by rw [ilt, t0, d2]; exact v), if_pos (Int32.toInt_inj.mp (by rw [d2, t0]; omega)), if_neg (fun w => by have := c3.mp w; omega)]) _ _ _ (Nat.zero_add _)]
    have pr : ∀ n, itF (fun j (t : Int32 × Int32) => (t.1, t.2 + bI (f_X1_isAhead G j k))) n 0 (s, 0) = (s, itF (fun j v => v + bI (f_X1_isAhead G j k)) n 0 0) := by
      intro n
      induction n with
      | zero => rfl
      | succ n ih => rw [itF_snoc, itF_snoc, ih]
    rw [pr, cnt_int _ _ (by omega), ← rank_cnt h]
    show f_X8_playerByScore_l20x f x k s (f_X1_rankOf G k) = _
    unfold f_X8_playerByScore_l20x f_X8_playerByScore_j124
    split <;> rfl) _ _ _ (Nat.zero_add _)]
  generalize itF (fun k v => if f_X1_rankOf G k = x then nI k else v) (gP G) 0 (-1) = v
  show f_X8_playerByScore_l4x f x v = _
  unfold f_X8_playerByScore_l4x f_X8_playerByScore_j142 f_X8_playerByScore_j153
  by_cases c : v = -1
  · rw [if_pos c, if_pos c, if_neg (by decide)]
  · rw [if_neg c, if_neg c, if_pos rfl]
