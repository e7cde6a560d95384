/-! ferries -/
theorem used_bit (G : GS) {q : Nat} (hq : q < 8) : f_X1_hasUsedFerry G q = bitAt (gUsed G) q := con_bit (gUsed G) hq
theorem above_it {G : GS} (k : Nat) (x : Int32) : f_X1_bidsAbove G k x = itF (fun q v => v + bI (!decide (f_X1_amountOf G q k ≤ x))) (gP G) 0 0 := by
  unfold f_X1_bidsAbove f_X1_bidsAbove_l5
  rw [lpF_it (step := f_X1_bidsAbove_l5s G k x) (ex := f_X1_bidsAbove_l5e G k x) (fun q v => v + bI (!decide (f_X1_amountOf G q k ≤ x))) (gP G) (fun q s hq => by
    show f_X1_bidsAbove_l5b G k x q s = _
    unfold f_X1_bidsAbove_l5b f_X1_bidsAbove_j31
    by_cases c : f_X1_amountOf G q k ≤ x
    · rw [if_pos c, decide_eq_true c]; rfl
    · rw [if_neg c, decide_eq_false c]; rfl) _ _ _ (Nat.zero_add _)]
  rfl
/-- the game with a ferry sent -/
abbrev gSf (G : GS) (q k : Nat) : GS := mkG (gSuit G) (gTide G) (gP G) (gMon G) ((gUsed G) ||| (1 <<< ((nI q) &&& 31))) (gS G) (gLo G) (gHi G) (gLen G) (gBld G) (upd (gFer G) k (nI q)) (gOff G) (gIni G) (gBank G) (gSet G) (gBlf G)
theorem fer_used {G : GS} {q k p : Nat} (hq : q < 8) (hp : p < 8) : f_X1_hasUsedFerry (gSf G q k) p = (f_X1_hasUsedFerry G p || decide (p = q)) := by
  rw [used_bit _ hp, used_bit _ hp]
  exact bit_set (gUsed G) hq hp
theorem fer_NR {G : GS} {f : Nat → Int32} (hP4 : gP G ≤ 4) (r : NR G f) {q k : Nat} (hq : q < gP G) (hk : k < gS G) : NR (gSf G q k) (upd (upd f (14 + 2 * q + 1) 1) (22 + 13 * k + 4) (nI q)) := by
  obtain ⟨⟨r0, r1, r2, r3, r4, r5⟩, rs, rp, rk⟩ := r
  have lo : ∀ z, z < 14 → upd (upd f (14 + 2 * q + 1) 1) (22 + 13 * k + 4) (nI q) z = f z := fun z hz => (pk_un (by omega)).trans (pk_un (by omega))
  refine ⟨⟨(lo 0 (by omega)).trans r0, (lo 1 (by omega)).trans r1, (lo 2 (by omega)).trans r2, (lo 3 (by omega)).trans r3, (lo 4 (by omega)).trans r4, (lo 5 (by omega)).trans r5⟩, fun i hi => (lo _ (by omega)).trans (rs i hi), fun p hp => ?_, fun k' hk' => ?_⟩
  · have hp : p < gP G := hp
    obtain ⟨z1, z2⟩ := rp p hp
    refine ⟨(pk_un (by omega)).trans ((pk_un (by omega)).trans z1), ?_⟩
    rw [fer_used (show q < 8 by omega) (show p < 8 by omega)]
    by_cases c : p = q
    · subst c
      refine (pk_un (by omega)).trans (pk_us.trans ?_)
      rw [decide_eq_true rfl, Bool.or_true]
      rfl
    · refine (pk_un (by omega)).trans ((pk_un (by omega)).trans (z2.trans ?_))
      rw [decide_eq_false c, Bool.or_false]
  · have hk' : k' < gS G := hk'
    obtain ⟨⟨s1, s2, s3, s4, s5⟩, s6⟩ := rk k' hk'
    refine ⟨⟨(pk_un (by omega)).trans ((pk_un (by omega)).trans s1), (pk_un (by omega)).trans ((pk_un (by omega)).trans s2), (pk_un (by omega)).trans ((pk_un (by omega)).trans s3), (pk_un (by omega)).trans ((pk_un (by omega)).trans s4), ?_⟩, fun q' hq' => ⟨(pk_un (by omega)).trans ((pk_un (by omega)).trans (s6 q' hq').1), (pk_un (by omega)).trans ((pk_un (by omega)).trans (s6 q' hq').2)⟩⟩
    show upd (upd f (14 + 2 * q + 1) 1) (22 + 13 * k + 4) (nI q) (22 + 13 * k' + 4) = upd (gFer G) k (nI q) k'
    by_cases c : k' = k
    · subst c; rw [pk_us, pk_us]
    · rw [pk_un (by omega), pk_un (by omega), pk_un c]; exact s5
theorem fer_GI {G : GS} (h : GI G) {q k : Nat} (hq : q < gP G) (hk : k < gS G) (hb : f_X1_hasBid G q k = true) : GI (gSf G q k) := by
  have hS := (GI_safe h).1
  have hP4 := (GI_safe h).2.1
  have hnb := bid_t.mp hb
  obtain ⟨⟨a1, a2, a3, a4, a5, a6, a7⟩, ⟨b1, b2, b3, b4⟩, c1, c2⟩ := h
  refine ⟨⟨a1, a2, a3, a4, a5, a6, fun k' hk' => ?_⟩, ⟨b1, b2, fun k' hk' hb' => ?_, fun q' hq' hh => ?_⟩, c1, c2⟩
  · show upd (gFer G) k (nI q) k' = -1 ∨ (vp_in (upd (gFer G) k (nI q) k') (gP G) ∧ gOff G (k' * 4 + (upd (gFer G) k (nI q) k').toNatClampNeg) ≠ 0)
    by_cases c : k' = k
    · subst c
      rw [pk_us, nI_clamp (by omega)]
      exact Or.inr ⟨vp_in_nI hq (by omega), hnb⟩
    · rw [pk_un c]; exact a7 k' hk'
  · obtain ⟨z1, z2⟩ := b3 k' hk' hb'
    refine ⟨?_, z2⟩
    show upd (gFer G) k (nI q) k' = -1
    by_cases c : k' = k
    · subst c; exact absurd (z2 q (by omega)) hnb
    · rw [pk_un c]; exact z1
  · have hh : gP G ≤ q' := hh
    rw [fer_used (show q < 8 by omega) (show q' < 8 by omega), b4 q' hq' hh, decide_eq_false (by omega)]
    rfl
/-- how many bid more -/
theorem more_c {G : GS} {f : Nat → Int32} (hG : GSafe G) (h1 : GI1 G) (r : NR G f) {q k : Nat} (hq : q < 4) (hk : k < gS G) (t : Int32) : f_X8_ferries_l144 f (nI q) (nI k) 4 0 (f_X1_amountOf G q k) 0 t = (f_X1_bidsAbove G k (f_X1_amountOf G q k), upd (upd f (14 + 2 * q + 1) 1) (22 + 13 * k + 4) (nI q), t) := by
  have h12 : k < 12 := Nat.lt_of_lt_of_le hk hG.1
  have key : ∀ (n j : Nat) (v : Int32), j + n = 4 → lpF (f_X8_ferries_l144s f (nI q) (nI k)) (f_X8_ferries_l144e f (nI q) (nI k)) n j (f_X1_amountOf G q k, v, t) = f_X8_ferries_l144e f (nI q) (nI k) (f_X1_amountOf G q k, itF (fun o v => v + bI (!decide (f_X1_amountOf G o k ≤ f_X1_amountOf G q k))) n j v, t) := by
    intro n
    induction n with
    | zero => intro j v _; rfl
    | succ n ih =>
      intro j v hj
      show sE id (lpF _ _ n (j + 1)) (f_X8_ferries_l144b f (nI q) (nI k) j (f_X1_amountOf G q k) v t) = _
      have e : f_X8_ferries_l144b f (nI q) (nI k) j (f_X1_amountOf G q k) v t = Sum.inr (f_X1_amountOf G q k, v + bI (!decide (f_X1_amountOf G j k ≤ f_X1_amountOf G q k)), t) := by
        unfold f_X8_ferries_l144b f_X8_ferries_j170
        rw [ofAmt hG r hk (show j < 4 by omega)]
        by_cases c : f_X1_amountOf G j k ≤ f_X1_amountOf G q k
        · rw [if_pos c, decide_eq_true c]; rfl
        · rw [if_neg c, decide_eq_false c]; rfl
      rw [e]
      exact ih (j + 1) _ (by omega)
  unfold f_X8_ferries_l144
  rw [key 4 0 0 rfl]
  unfold f_X8_ferries_l144e f_X8_ferries_l144x
  rw [nI_clamp (by omega), nI_clamp (by omega), itF_4 hG.2.1 _ (fun o s ho ho4 => by
    show s + bI (!decide (f_X1_amountOf G o k ≤ f_X1_amountOf G q k)) = s
    rw [decide_eq_true (by rw [ile, amt_0 h1 h12 ho4 (Or.inr ho)]; exact amt_nn h1 h12 hq)]
    exact Int32.add_zero s), ← above_it]
theorem v_ferries {G : GS} {f : Nat → Int32} (h : GI G) (r : NR G f) (x y : Int32) : VR [1, 5, 3, 4] (f_X1_judgeFerry G x y) (f_X1_sendFerry G x.toNatClampNeg y.toNatClampNeg).1 (f_X1_sendFerry G x.toNatClampNeg y.toNatClampNeg).2 (f_X8_ferries f x y) f := by
  have hG := GI_safe h
  have hP4 := hG.2.1
  have hS := hG.1
  have t1 : ∀ u G1 v a b c, VR [1, 5, 3, 4] 1 u G1 (f_X8_ferries_j126 f x y v a b c false) f := fun u G1 v a b c => by
    simp only [f_X8_ferries_j126, hOk, hThr, Bool.false_and, Bool.false_eq_true, if_false]
    exact VR_x (by decide) (by decide) (by decide +kernel)
  have t2 : ∀ u G1 v, VR [1, 5, 3, 4] 1 u G1 (f_X8_ferries_j27 f x y v) f := fun u G1 v => by
    unfold f_X8_ferries_j27 f_X8_ferries_j28
    rw [ifB_f rfl]
    unfold f_X8_ferries_j63 f_X8_ferries_j64
    rw [ifB_f rfl]
    unfold f_X8_ferries_j111 f_X8_ferries_j112
    split <;> exact t1 _ _ _ _ _ _
  rcases pl_case hG x with e | ⟨q, hq, rfl, ep, e⟩
  · have ej : f_X1_judgeFerry G x y = 1 := by simp only [f_X1_judgeFerry, f_X1_judgeFerry_j16, e, Bool.false_eq_true, if_false]
    rw [ej]
    unfold f_X8_ferries
    rw [player_c hG r, e, ifB_f rfl]
    exact t2 _ _ _
  rcases si_case hG y with e' | ⟨k, hk, rfl, ek, e'⟩
  · have ej : f_X1_judgeFerry G (nI q) y = 1 := by simp only [f_X1_judgeFerry, f_X1_judgeFerry_j16, e, e', Bool.false_eq_true, if_false, if_true]
    rw [ej]
    unfold f_X8_ferries
    rw [player_c hG r, site_c hG r, e, e', if_pos rfl, ifB_f rfl]
    exact t2 _ _ _
  have hk12 : k < 12 := by omega
  have hq4 : q < 4 := by omega
  have e6 : ∀ a, a < 8 → (6 + nI a : Int32).toNatClampNeg = 6 + a := fun a ha => by
    rw [show (6 : Int32) = nI 6 from rfl, nI_add, nI_clamp (by omega)]
  -- the reference, once player and site are known
  have suit : ∀ (b : Bool), f_X8_ferries_j64 f (nI q) (nI k) (f_X1_amountOf G q k) true b = f_X8_ferries_j112 f (nI q) (nI k) (f_X1_amountOf G q k) true b (decide (gSuit G (gLo G k) = nI q) || decide (gSuit G (gHi G k) = nI q)) := fun b => by
    unfold f_X8_ferries_j64 f_X8_ferries_j107 f_X8_ferries_j111
    rw [if_pos rfl, ofLo hG r hk, ofHi hG r hk, e6 _ (hG.2.2.1 k), e6 _ (hG.2.2.2 k), r.2.1 _ (hG.2.2.1 k), r.2.1 _ (hG.2.2.2 k)]
    by_cases c1 : gSuit G (gLo G k) = nI q
    · rw [if_pos c1, decide_eq_true c1]; rfl
    · rw [if_neg c1, decide_eq_false c1]
      by_cases c2 : gSuit G (gHi G k) = nI q
      · rw [if_pos c2, decide_eq_true c2]; rfl
      · rw [if_neg c2, decide_eq_false c2]; rfl
  have ed : f_X8_ferries f (nI q) (nI k) = f_X8_ferries_j112 f (nI q) (nI k) (f_X1_amountOf G q k) true (!f_X1_hasUsedFerry G q && decide (gFer G k = -1)) (decide (gSuit G (gLo G k) = nI q) || decide (gSuit G (gHi G k) = nI q)) := by
    unfold f_X8_ferries
    rw [player_c hG r, site_c hG r, e, e', if_pos rfl, if_pos rfl, amtOf_c hG r hq hk]
    unfold f_X8_ferries_j28 f_X8_ferries_j63
    rw [if_pos rfl, ep, (r.2.2.1 q hq).2, ofFer hG r hk, suit, suit]
    cases f_X1_hasUsedFerry G q
    · rw [if_pos (show bI false = 0 from rfl)]
      by_cases c : gFer G k = -1
      · rw [if_pos c, decide_eq_true c]; rfl
      · rw [if_neg c, decide_eq_false c]; rfl
    · rw [if_neg (show ¬ bI true = 0 by decide)]; rfl
  rw [ed, ep, ek]
  unfold f_X8_ferries_j112
  cases hb : f_X1_hasBid G q k
  · have ej : f_X1_judgeFerry G (nI q) (nI k) = 5 := by simp only [f_X1_judgeFerry, e, e', ep, ek, hb, Bool.false_eq_true, if_false, if_true]
    rw [ej, if_pos ((amt_pos h.2.1 hk12 hq4).mpr hb)]
    simp only [f_X8_ferries_j126, hOk, hThr, Bool.false_and, Bool.true_and, Bool.false_eq_true, if_false, if_true]
    exact VR_x (by decide) (by decide) (by decide +kernel)
  · rw [if_neg (fun z => by rw [(amt_pos h.2.1 hk12 hq4).mp z] at hb; cases hb)]
    cases hu : f_X1_hasUsedFerry G q
    · by_cases hf : gFer G k = -1
      · rw [decide_eq_true hf]
        by_cases hs : gSuit G (gLo G k) = nI q ∨ gSuit G (gHi G k) = nI q
        · have ej : f_X1_judgeFerry G (nI q) (nI k) = 0 := by
            simp only [f_X1_judgeFerry, f_X1_judgeFerry_j85, f_X1_judgeFerry_j90, f_X1_judgeFerry_j104, e, e', ep, ek, hb, hu, hf, Bool.false_eq_true, if_false, if_true]
            rcases hs with s | s
            · rw [if_pos s]
            · split
              · rfl
              · first | rfl | rw [if_pos s]
          have es : (decide (gSuit G (gLo G k) = nI q) || decide (gSuit G (gHi G k) = nI q)) = true := by
            rcases hs with s | s
            · rw [decide_eq_true s]; rfl
            · rw [decide_eq_true s]; exact Bool.or_true _
          rw [ej, es]
          unfold f_X8_ferries_j126
          rw [if_pos (show hOk true true (!false && true) true = true from rfl), more_c hG h.2.1 r hq4 hk]
          refine VR_0 ?_ (fer_NR hP4 r hq hk) (fer_GI h hq hk hb)
          rw [above_it]
          show _ = f_X1_bidsAbove (gSf G q k) k (f_X1_amountOf (gSf G q k) q k)
          rw [above_it]
          rfl
        · have s1 : ¬ gSuit G (gLo G k) = nI q := fun z => hs (Or.inl z)
          have s2 : ¬ gSuit G (gHi G k) = nI q := fun z => hs (Or.inr z)
          have ej : f_X1_judgeFerry G (nI q) (nI k) = 4 := by
            simp only [f_X1_judgeFerry, f_X1_judgeFerry_j85, f_X1_judgeFerry_j90, f_X1_judgeFerry_j104, e, e', ep, ek, hb, hu, hf, s1, s2, Bool.false_eq_true, if_false, if_true]
          rw [ej, decide_eq_false s1, decide_eq_false s2]
          simp only [f_X8_ferries_j126, hOk, hThr, Bool.not_false, Bool.true_and, Bool.or_false, Bool.false_eq_true, if_false, if_true]
          exact VR_x (by decide) (by decide) (by decide +kernel)
      · have ej : f_X1_judgeFerry G (nI q) (nI k) = 3 := by
          simp only [f_X1_judgeFerry, f_X1_judgeFerry_j51, e, e', ep, ek, hb, hu, hf, Bool.false_eq_true, if_false, if_true]
        rw [ej, decide_eq_false hf]
        simp only [f_X8_ferries_j126, hOk, hThr, Bool.and_false, Bool.true_and, Bool.false_and, Bool.false_eq_true, if_false, if_true]
        exact VR_x (by decide) (by decide) (by decide +kernel)
    · have ej : f_X1_judgeFerry G (nI q) (nI k) = 3 := by
        simp only [f_X1_judgeFerry, f_X1_judgeFerry_j51, e, e', ep, ek, hb, hu, if_true]
      rw [ej]
      simp only [f_X8_ferries_j126, hOk, hThr, Bool.not_true, Bool.true_and, Bool.false_and, Bool.false_eq_true, if_false, if_true]
      exact VR_x (by decide) (by decide) (by decide +kernel)
