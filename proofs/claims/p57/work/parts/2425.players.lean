/-! the players are right -/
theorem held_v {K : CT} (hI : GI (kG K)) {q s : Nat} (hq : q < gP (kG K)) (hs : s < gS (kG K)) : (if askV K 4 (nI q) (nI s) = 0 then f_L_bid K (nI q) (nI s) else 0) = f_X1_reservedBy (kG K) q s := by
  have hG := GI_safe hI
  have b := hI.2.1.1 s (by have := hG.1; omega) q (by have := hG.2.1; omega)
  have t0 : (0 : Int32).toInt = 0 := rfl
  have a := abs_int b.1 b.2
  rw [av_bluff hI hq hs, bid_v hI hq hs]
  unfold f_X1_reservedBy f_X1_hasBluff f_X1_hasBluff_j18 f_X1_amountOf
  by_cases c : gOff (kG K) (s * 4 + q) = 0
  · rw [if_pos c, if_neg (by decide), c]
    decide
  · rw [if_neg c]
    have c' : (gOff (kG K) (s * 4 + q)).toInt ≠ 0 := fun e => c (Int32.toInt_inj.mp (e.trans t0.symm))
    refine Int32.toInt_inj.mp ?_
    by_cases d : 0 ≤ gOff (kG K) (s * 4 + q)
    · rw [if_pos d, if_pos (show bI false = 0 from rfl), a.1, a.2]
      rw [ile, t0] at d
      omega
    · rw [if_neg d, if_neg (show ¬ bI true = 0 by decide), a.2, t0]
      rw [ile, t0] at d
      omega
theorem built_v {K : CT} (hI : GI (kG K)) {s : Nat} (hs : s < gS (kG K)) {q : Nat} (hq : q < 100) (b : Int32) : askV K 2 (nI s) b = nI q ↔ gBld (kG K) s = nI q := by
  rw [av_builder hI hs b]
  by_cases c : gBld (kG K) s = -1
  · rw [if_pos c, c]
    exact ⟨fun e => absurd e.symm (nI_nm hq _ (by decide)), fun e => absurd e.symm (nI_nm hq _ (by decide))⟩
  · rw [if_neg c]
theorem score_v {K : CT} (hI : GI (kG K)) {q : Nat} (hq : q < 100) : f_X1_scoreOf (kG K) (nI q) = f_L_score K (nI q) := by
  unfold f_X1_scoreOf f_L_score f_X1_scoreOf_l4 f_L_score_l4
  rw [lpF_it (step := f_X1_scoreOf_l4s (kG K) (nI q)) (ex := f_X1_scoreOf_l4e (kG K) (nI q)) (fun k v => if gBld (kG K) k = nI q then v + (gLen (kG K) k + (if gSuit (kG K) (gLo (kG K) k) = gSuit (kG K) (gHi (kG K) k) then 3 else 0)) else v + 0) (gS (kG K)) (fun k v hk => by
    show f_X1_scoreOf_l4b (kG K) (nI q) k v = _
    unfold f_X1_scoreOf_l4b f_X1_scoreOf_j62 f_X1_scoreOf_j64
    by_cases c : gBld (kG K) k = nI q
    · rw [if_pos c, if_pos c]
      split <;> rw [Int32.add_assoc]
    · rw [if_neg c, if_neg c, Int32.add_zero]) _ _ _ (Nat.zero_add _)]
  rw [lpF_it (step := f_L_score_l4s K (nI q)) (ex := f_L_score_l4e K (nI q)) (fun k v => if gBld (kG K) k = nI q then v + (gLen (kG K) k + (if gSuit (kG K) (gLo (kG K) k) = gSuit (kG K) (gHi (kG K) k) then 3 else 0)) else v + 0) (gS (kG K)) (fun k v hk => by
    show f_L_score_l4b K (nI q) k v = _
    unfold f_L_score_l4b f_L_score_j38 f_L_score_j67 f_L_score_j72
    have bv := built_v hI hk hq 0
    by_cases c : gBld (kG K) k = nI q
    · rw [if_pos c, if_pos (bv.mpr c), if_pos (bv.mpr c)]
      split <;> simp
    · rw [if_neg c, if_neg (fun e => c (bv.mp e)), if_neg (fun e => c (bv.mp e))]
      split <;> rfl) _ _ _ (Nat.zero_add _)]
  rfl
theorem bridges_it (G : GS) (x : Int32) : f_X1_bridgesOf G x = itF (fun k v => v + bI (decide (gBld G k = x))) (gS G) 0 0 := by
  unfold f_X1_bridgesOf f_X1_bridgesOf_l4
  rw [lpF_it (step := f_X1_bridgesOf_l4s G x) (ex := f_X1_bridgesOf_l4e G x) (fun k v => v + bI (decide (gBld G k = x))) (gS G) (fun k v hk => by
    show f_X1_bridgesOf_l4b G x k v = _
    unfold f_X1_bridgesOf_l4b f_X1_bridgesOf_j28
    by_cases c : gBld G k = x
    · rw [if_pos c, decide_eq_true c]
    · rw [if_neg c, decide_eq_false c]) _ _ _ (Nat.zero_add _)]
  rfl
theorem player_row {K : CT} (hI : GI (kG K)) {q : Nat} (hq : q < gP (kG K)) (v : Int32) : f_L_arePlayersRight_l62b K (gIni (kG K)) q v true = .inr (v + gMon (kG K) q, true) := by
  have hG := GI_safe hI
  have h2 := hG.2.1
  have hm := GI_mon hI hq
  have t0 : (0 : Int32).toInt = 0 := rfl
  unfold f_L_arePlayersRight_l62b f_L_arePlayersRight_l82
  rw [lpF_it (step := f_L_arePlayersRight_l82s K q) (ex := f_L_arePlayersRight_l82e K q) (fun k (t : Int32 × Bool × Int32 × Int32) => (t.1, t.2.1, t.2.2.1 - f_X1_reservedBy (kG K) q k, t.2.2.2 + bI (decide (gBld (kG K) k = nI q)))) (gS (kG K)) (fun k t hk => by
    obtain ⟨a, b, c, d⟩ := t
    show f_L_arePlayersRight_l82b K q k a b c d = .inr (a, b, c - f_X1_reservedBy (kG K) q k, d + bI (decide (gBld (kG K) k = nI q)))
    rw [← held_v hI hq hk]
    unfold f_L_arePlayersRight_l82b f_L_arePlayersRight_j117 f_L_arePlayersRight_j140
    have bv := built_v hI hk (show q < 100 by omega) 0
    by_cases e : gBld (kG K) k = nI q
    · rw [if_pos (bv.mpr e), if_pos (bv.mpr e), decide_eq_true e]
      split <;> rfl
    · rw [if_neg (fun z => e (bv.mp z)), if_neg (fun z => e (bv.mp z)), decide_eq_false e]
      split <;> rfl) _ _ _ (Nat.zero_add _)]
  have it : ∀ n, itF (fun k (t : Int32 × Bool × Int32 × Int32) => (t.1, t.2.1, t.2.2.1 - f_X1_reservedBy (kG K) q k, t.2.2.2 + bI (decide (gBld (kG K) k = nI q)))) n 0 (v, true, gMon (kG K) q, 0) = (v, true, itF (fun k v => v - f_X1_reservedBy (kG K) q k) n 0 (gMon (kG K) q), itF (fun k v => v + bI (decide (gBld (kG K) k = nI q))) n 0 0) := by
    intro n
    induction n with
    | zero => rfl
    | succ n ih => rw [itF_snoc, itF_snoc, itF_snoc, ih, Nat.zero_add]
  rw [it, ← avail_it, ← bridges_it]
  show f_L_arePlayersRight_l82x K q v true (f_X1_availableTo (kG K) q) (f_X1_bridgesOf (kG K) (nI q)) = _
  unfold f_L_arePlayersRight_l82x f_L_arePlayersRight_j210
  rw [if_pos rfl, if_pos rfl, if_neg (by rw [ilt, t0, avail_int hG hI.2.1 (by omega) hm]; have := hI.2.2.1 q hq; omega), if_pos rfl, if_pos (score_v hI (by omega))]
theorem ranked {G : GS} (h : GI G) {i j : Nat} (hi : i < gP G) (hj : j < gP G) (hr : rkN G i < rkN G j) : f_X1_isAhead G i j = true := by
  rw [ahead_key h hi hj]
  refine Decidable.byContradiction (fun c => ?_)
  have le : rkN G j ≤ rkN G i := cnt_le _ (fun k hk e => by
    have hk := List.mem_range.mp hk
    rw [ahead_key h hk hj] at e
    rw [ahead_key h hk hi]
    omega)
  omega
theorem sub_b {x y : Int32} (hx : 0 ≤ x.toInt ∧ x.toInt ≤ 200) (hy : 0 ≤ y.toInt ∧ y.toInt ≤ 200) : (x - y).toInt = x.toInt - y.toInt := sub_int (by omega) (by omega)
theorem rank_row {K : CT} (hI : GI (kG K)) (w : Int32) {r : Nat} (hr : r + 1 < gP (kG K)) (v : Int32) : f_L_arePlayersRight_l221b K w r v true = .inr (v, true) := by
  have h2 := (GI_safe hI).2.1
  obtain ⟨_, a1, a2⟩ := rk_all hI (show r < gP (kG K) by omega)
  obtain ⟨_, b1, b2⟩ := rk_all hI hr
  have ah := (ahead_key hI a1 b1).mp (ranked hI a1 b1 (by omega))
  have s1 := score_b hI.1 (nI (kRk (kG K) r))
  have s2 := score_b hI.1 (nI (kRk (kG K) (r + 1)))
  have m1 := GI_mon hI a1
  have m2 := GI_mon hI b1
  have ss := sub_b (x := f_X1_scoreOf (kG K) (nI (kRk (kG K) r))) (y := f_X1_scoreOf (kG K) (nI (kRk (kG K) (r + 1)))) (by omega) (by omega)
  have mm := sub_b (x := gMon (kG K) (kRk (kG K) r)) (y := gMon (kG K) (kRk (kG K) (r + 1))) (by omega) (by omega)
  have t0 : (0 : Int32).toInt = 0 := rfl
  unfold rkey at ah
  unfold f_L_arePlayersRight_l221b f_L_arePlayersRight_j309 f_L_arePlayersRight_j314
  rw [if_pos rfl]
  generalize kRk (kG K) r = i at *
  generalize kRk (kG K) (r + 1) = j at *
  by_cases c1 : 0 < f_X1_scoreOf (kG K) (nI i) - f_X1_scoreOf (kG K) (nI j)
  · rw [if_pos c1]
  · rw [if_neg c1]
    rw [ilt, t0, ss] at c1
    have e1 : f_X1_scoreOf (kG K) (nI i) - f_X1_scoreOf (kG K) (nI j) = 0 := Int32.toInt_inj.mp (by rw [ss, t0]; omega)
    rw [if_pos e1]
    by_cases c2 : 0 < gMon (kG K) i - gMon (kG K) j
    · rw [if_pos c2]
    · rw [if_neg c2]
      rw [ilt, t0, mm] at c2
      have e2 : gMon (kG K) i - gMon (kG K) j = 0 := Int32.toInt_inj.mp (by rw [mm, t0]; omega)
      rw [if_pos e2, if_neg (by rw [ile, nI_toInt (by omega), nI_toInt (by omega)]; omega)]
theorem players_right {K : CT} (hI : GI (kG K)) : f_L_arePlayersRight K (gIni (kG K)) = true := by
  unfold f_L_arePlayersRight
  rw [if_pos (av_rank_n hI 0), if_pos (av_rank_m hI 0), if_pos (av_money_n hI 0)]
  unfold f_L_arePlayersRight_j57 f_L_arePlayersRight_l62
  refine lpF_invN (gP (kG K)) (fun n (t : Int32 × Bool) => t.1 = itF (fun p v => v + gMon (kG K) p) n 0 (gBank (kG K)) ∧ t.2 = true) (fun z => z = true) ?_ ?_ ?_ _ 0 _ (Nat.zero_add _) ⟨rfl, rfl⟩
  · rintro q ⟨v, is⟩ z hq ⟨e1, e2⟩ e
    have e2 : is = true := e2
    subst e2
    have e : f_L_arePlayersRight_l62b K (gIni (kG K)) q v true = .inl z := e
    rw [player_row hI hq] at e
    cases e
  · rintro q ⟨v, is⟩ t hq ⟨e1, e2⟩ e
    have e2 : is = true := e2
    subst e2
    have e : f_L_arePlayersRight_l62b K (gIni (kG K)) q v true = .inr t := e
    rw [player_row hI hq] at e
    have et := (Sum.inr.inj e).symm
    subst et
    refine ⟨?_, rfl⟩
    rw [itF_snoc, Nat.zero_add]
    exact congrArg (fun z => z + gMon (kG K) q) e1
  · rintro ⟨v, is⟩ ⟨e1, e2⟩
    have e2 : is = true := e2
    subst e2
    have ev : v = gIni (kG K) := e1.trans hI.2.2.2.symm
    show f_L_arePlayersRight_l221 K (gIni (kG K)) (gP (kG K) - 1) 0 v true = true
    unfold f_L_arePlayersRight_l221
    refine lpF_invN (gP (kG K) - 1) (fun n (t : Int32 × Bool) => t.1 = v ∧ t.2 = true) (fun z => z = true) ?_ ?_ ?_ _ 0 _ (Nat.zero_add _) ⟨rfl, rfl⟩
    · rintro r ⟨v', is⟩ z hr ⟨e1, e2⟩ e
      have e2 : is = true := e2
      subst e2
      have e : f_L_arePlayersRight_l221b K (gIni (kG K)) r v' true = .inl z := e
      rw [rank_row hI _ (by omega)] at e
      cases e
    · rintro r ⟨v', is⟩ t hr ⟨e1, e2⟩ e
      have e2 : is = true := e2
      subst e2
      have e : f_L_arePlayersRight_l221b K (gIni (kG K)) r v' true = .inr t := e
      rw [rank_row hI _ (by omega)] at e
      have et := (Sum.inr.inj e).symm
      subst et
      exact ⟨e1, rfl⟩
    · rintro ⟨v', is⟩ ⟨e1, e2⟩
      obtain rfl : is = true := e2
      obtain rfl : v' = v := e1
      show f_L_arePlayersRight_l221x K (gIni (kG K)) v' true = true
      unfold f_L_arePlayersRight_l221x f_L_arePlayersRight_j344
      rw [if_pos rfl, if_pos ev, if_pos rfl]
