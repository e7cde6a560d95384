/-! a new site -/
theorem pair_c {G : GS} {f : Nat → Int32} (hG : GSafe G) (r : NR G f) (x y : Int32) : f_X8_isPair f x y = f_X1_hasSiteBetween G (imin x y) (imax x y) := by
  unfold f_X8_isPair f_X8_isPair_l5 f_X1_hasSiteBetween f_X1_hasSiteBetween_l2
  rw [mS_of hG r]
  have key : ∀ (n k : Nat) (v : Bool), k + n = gS G → lpF (f_X8_isPair_l5s f x y) (f_X8_isPair_l5e f x y) n k v = (v || lpF (f_X1_hasSiteBetween_l2s G (imin x y) (imax x y)) (f_X1_hasSiteBetween_l2e G (imin x y) (imax x y)) n k ()) := by
    intro n
    induction n with
    | zero =>
      intro k v _
      show v = (v || false)
      cases v <;> rfl
    | succ n ih =>
      intro k v hk
      show sE id (lpF _ _ n (k + 1)) (f_X8_isPair_l5b f x y k v) = (v || sE id (lpF _ _ n (k + 1)) (f_X1_hasSiteBetween_l2b G (imin x y) (imax x y) k))
      unfold f_X8_isPair_l5b f_X1_hasSiteBetween_l2b f_X8_isPair_j50 f_X8_isPair_j54 f_X8_isPair_j55 f_X1_hasSiteBetween_j32
      rw [ofLo hG r (by omega), ofHi hG r (by omega)]
      cases v
      · rw [ifB_f rfl]
        by_cases c1 : nI (gLo G k) = imin x y
        · rw [if_pos c1, if_pos c1]
          by_cases c2 : nI (gHi G k) = imax x y
          · rw [if_pos c2, if_pos c2]
            exact (ih (k + 1) true (by omega)).trans (Bool.true_or _)
          · rw [if_neg c2, if_neg c2]
            exact (ih (k + 1) false (by omega))
        · rw [if_neg c1, if_neg c1]
          exact (ih (k + 1) false (by omega))
      · rw [if_pos rfl]
        exact (ih (k + 1) true (by omega)).trans ((Bool.true_or _).trans (Bool.true_or _).symm)
  exact (key _ 0 false (Nat.zero_add _)).trans (Bool.false_or _)
theorem zer_it (v : Nat) (t : Int32) : ∀ (n k : Nat) (g : Nat → Int32), ∃ g' : Nat → Int32, itF (fun k (s : Nat × (Nat → Int32) × Int32) => (s.1, upd s.2.1 (s.1 + k) 0, s.2.2)) n k (v, g, t) = (v, g', t) ∧ (∀ i, v + k ≤ i → i < v + k + n → g' i = 0) ∧ ∀ i, i < v + k ∨ v + k + n ≤ i → g' i = g i := by
  intro n
  induction n with
  | zero => intro k g; exact ⟨g, rfl, fun i h1 h2 => absurd h2 (by omega), fun i _ => rfl⟩
  | succ n ih =>
    intro k g
    obtain ⟨g', e, h1, h2⟩ := ih (k + 1) (upd g (v + k) 0)
    refine ⟨g', e, fun i h3 h4 => ?_, fun i h3 => ?_⟩
    · by_cases q : i = v + k
      · subst q
        rw [h2 _ (by omega)]
        exact pk_us
      · exact h1 i (by omega) (by omega)
    · rw [h2 i (by omega)]
      exact pk_un (by omega)
theorem imn_c {i j : Nat} (hi : i < 8) (hj : j < 8) : imin (nI i) (nI j) = nI (min i j) ∧ imax (nI i) (nI j) = nI (max i j) := ⟨imin_nI (by omega) (by omega), imax_nI (by omega) (by omega)⟩
theorem v_adds {G : GS} {f : Nat → Int32} (h : GI G) (r : NR G f) (x y w : Int32) : VR [1, 2, 4, 3] (f_X1_judgeSite G x y w) (nI (f_X1_open G x.toNatClampNeg y.toNatClampNeg w).1) (f_X1_open G x.toNatClampNeg y.toNatClampNeg w).2 (f_X8_adds f x y w) f := by
  have hG := GI_safe h
  have hS := hG.1
  have e1 : (1 : Int32).toInt = 1 := rfl
  have e9 : (9 : Int32).toInt = 9 := rfl
  have E1 : ∀ (p : Nat × GS) (a b c : Bool), VR [1, 2, 4, 3] 1 (nI p.1) p.2 (f_X8_adds_j70 f x y w a b c false) f := fun p a b c => by
    simp only [f_X8_adds_j70, hOk, hThr, Bool.false_and, Bool.false_eq_true, if_false]
    exact VR_x (by decide) (by decide) (by decide +kernel)
  have E1' : ∀ (p : Nat × GS), VR [1, 2, 4, 3] 1 (nI p.1) p.2 (f_X8_adds_j19 f x y w) f := fun p => by
    unfold f_X8_adds_j19 f_X8_adds_j20 f_X8_adds_j39 f_X8_adds_j40 f_X8_adds_j54
    repeat' split
    all_goals exact E1 _ _ _ _
  have E2 : ∀ (p : Nat × GS) (a b : Bool), VR [1, 2, 4, 3] 2 (nI p.1) p.2 (f_X8_adds_j70 f x y w a b false true) f := fun p a b => by
    simp only [f_X8_adds_j70, hOk, hThr, Bool.false_and, Bool.true_and, Bool.false_eq_true, if_false, if_true]
    exact VR_x (by decide) (by decide) (by decide +kernel)
  have E2' : ∀ (p : Nat × GS), VR [1, 2, 4, 3] 2 (nI p.1) p.2 (f_X8_adds_j39 f x y w true) f := fun p => by
    unfold f_X8_adds_j39 f_X8_adds_j40 f_X8_adds_j54
    repeat' split
    all_goals exact E2 _ _ _
  rcases is_case x with e | ⟨i, hi, rfl, ei1, e⟩
  · have hj : f_X1_judgeSite G x y w = 1 := by simp only [f_X1_judgeSite, f_X1_judgeSite_j14, e, Bool.false_eq_true, if_false]
    rw [hj]
    unfold f_X8_adds
    rw [island_c, e, ifB_f rfl]
    exact E1' _
  rcases is_case y with e' | ⟨j, hj, rfl, ej1, e'⟩
  · have hj : f_X1_judgeSite G (nI i) y w = 1 := by simp only [f_X1_judgeSite, f_X1_judgeSite_j14, e, e', Bool.false_eq_true, if_false, if_true]
    rw [hj]
    unfold f_X8_adds
    rw [island_c, island_c, e, e', if_pos rfl, ifB_f rfl]
    exact E1' _
  have hadds : f_X8_adds f (nI i) (nI j) w = f_X8_adds_j20 f (nI i) (nI j) w true := by
    unfold f_X8_adds
    rw [island_c, island_c, e, e', if_pos rfl, if_pos rfl]
  rw [hadds]
  unfold f_X8_adds_j20
  by_cases hij : nI i = nI j
  · have hj2 : f_X1_judgeSite G (nI i) (nI j) w = 2 := by simp only [f_X1_judgeSite, f_X1_judgeSite_j34, e, e', hij, if_true]
    rw [hj2, if_pos hij]
    exact E2' _
  rw [if_neg hij]
  by_cases hw : f_X8_isIn w 1 9 = true
  · rw [if_pos hw]
    have hw2 := (isIn_t2 e1 e9).mp hw
    have n1 : ¬ w < 1 := by rw [ilt, e1]; omega
    have n2 : w ≤ 9 := by rw [ile, e9]; omega
    unfold f_X8_adds_j40
    rw [pair_c hG r]
    cases hp : f_X1_hasSiteBetween G (imin (nI i) (nI j)) (imax (nI i) (nI j))
    · rw [ifB_f rfl]
      unfold f_X8_adds_j54
      rw [mS_of hG r]
      by_cases hs : gS G = 12
      · have n3 : nI (gS G) = 12 := by rw [hs]; rfl
        have hj2 : f_X1_judgeSite G (nI i) (nI j) w = 3 := by simp only [f_X1_judgeSite, f_X1_judgeSite_j77, e, e', hij, n1, n2, n3, hp, Bool.false_eq_true, if_true, if_false]
        rw [hj2, if_pos (by rw [n3]; exact Int32.le_refl _)]
        simp only [f_X8_adds_j70, hOk, hThr, Bool.false_and, Bool.true_and, Bool.false_eq_true, if_false, if_true]
        exact VR_x (by decide) (by decide) (by decide +kernel)
      · have n3 : ¬ nI (gS G) = 12 := fun q => hs ((nI_eq (b := 12) (by omega) (by decide)).mp q)
        have hj2 : f_X1_judgeSite G (nI i) (nI j) w = 0 := by simp only [f_X1_judgeSite, f_X1_judgeSite_j77, e, e', hij, n1, n2, n3, hp, Bool.false_eq_true, if_true, if_false]
        rw [hj2, if_neg (show ¬ (12 : Int32) ≤ nI (gS G) from nI_ge (b := 12) (by omega) (by decide))]
        have hlt : gS G < 12 := by omega
        unfold f_X8_adds_j70
        rw [if_pos (show hOk true true true true = true from rfl)]
        unfold f_X8_adds_l92
        rw [mS_of hG r]
        rw [lpF_it (step := f_X8_adds_l92s f (nI i) (nI j) w) (ex := f_X8_adds_l92e f (nI i) (nI j) w) (fun k (s : Nat × (Nat → Int32) × Int32) => (s.1, upd s.2.1 (s.1 + k) 0, s.2.2)) 13 (fun k s hk => rfl) 13 0 _ rfl]
        obtain ⟨g', eg, g1, g2⟩ := zer_it (22 + 13 * gS G) (hThr true true true true) 13 0 f
        rw [eg]
        unfold f_X8_adds_l92e f_X8_adds_l92x
        rw [mS_of hG r, (imn_c hi hj).1, (imn_c hi hj).2, ei1, ej1]
        have hij' : i ≠ j := fun q => hij (by rw [q])
        obtain ⟨⟨r0, r1, r2, r3, r4, r5⟩, rs, rp, rk⟩ := r
        obtain ⟨⟨a1, a2, a3, a4, a5, a6, a7⟩, ⟨b1, b2, b3, b4⟩, c1, c2⟩ := h
        obtain ⟨m1, m2⟩ := imn_c hi hj
        have hmn : (imin (nI i) (nI j)).toNatClampNeg = min i j := by rw [m1, nI_clamp (by omega)]
        have hmx : (imax (nI i) (nI j)).toNatClampNeg = max i j := by rw [m2, nI_clamp (by omega)]
        have lo : ∀ z, z < 22 + 13 * gS G → z ≠ 2 → upd (upd (upd (upd (upd (upd g' (22 + 13 * gS G + 0) (nI (min i j))) (22 + 13 * gS G + 1) (nI (max i j))) (22 + 13 * gS G + 2) w) (22 + 13 * gS G + 3) (-1)) (22 + 13 * gS G + 4) (-1)) 2 (nI (gS G + 1)) z = f z := fun z hz hz2 =>
          (pk_un hz2).trans ((pk_un (by omega)).trans ((pk_un (by omega)).trans ((pk_un (by omega)).trans ((pk_un (by omega)).trans ((pk_un (by omega)).trans (g2 z (Or.inl (by omega))))))))
        refine VR_0 rfl ⟨⟨(lo 0 (by omega) (by decide)).trans r0, (lo 1 (by omega) (by decide)).trans r1, pk_us, (lo 3 (by omega) (by decide)).trans r3, (lo 4 (by omega) (by decide)).trans r4, (lo 5 (by omega) (by decide)).trans r5⟩, fun z hz => (lo _ (by omega) (by omega)).trans (rs z hz), fun p hp => ⟨(lo _ (by have hp : p < gP G := hp; have := a1.2.1; omega) (by omega)).trans (rp p hp).1, (lo _ (by have hp : p < gP G := hp; have := a1.2.1; omega) (by omega)).trans (rp p hp).2⟩, fun k hk => ?_⟩ ⟨⟨⟨?_, a1.2.1, fun k => ?_, fun k => ?_⟩, a2, a3, a4, fun k hk => ?_, fun k hk => ?_, fun k hk => ?_⟩, ⟨b1, fun k hk q hq hh => b2 k hk q hq (hh.imp (fun z => ?_) (fun z => z)), fun k hk hb => ?_, b4⟩, fun q hq => ?_, c2⟩
        · have hk : k < gS G + 1 := hk
          by_cases q : k = gS G
          · subst q
            refine ⟨⟨?_, ?_, ?_, ?_, ?_⟩, fun q hq => ⟨?_, ?_⟩⟩
            · refine (pk_un (by omega)).trans ((pk_un (by omega)).trans ((pk_un (by omega)).trans ((pk_un (by omega)).trans ((pk_un (by omega)).trans (pk_us.trans ?_)))))
              show nI (min i j) = nI (updN (gLo G) (gS G) (imin (nI i) (nI j)).toNatClampNeg (gS G))
              rw [updN_s, hmn]
            · refine (pk_un (by omega)).trans ((pk_un (by omega)).trans ((pk_un (by omega)).trans ((pk_un (by omega)).trans (pk_us.trans ?_))))
              show nI (max i j) = nI (updN (gHi G) (gS G) (imax (nI i) (nI j)).toNatClampNeg (gS G))
              rw [updN_s, hmx]
            · exact (pk_un (by omega)).trans ((pk_un (by omega)).trans ((pk_un (by omega)).trans (pk_us.trans pk_us.symm)))
            · exact (pk_un (by omega)).trans ((pk_un (by omega)).trans (pk_us.trans pk_us.symm))
            · exact (pk_un (by omega)).trans (pk_us.trans pk_us.symm)
            · refine (pk_un (by omega)).trans ((pk_un (by omega)).trans ((pk_un (by omega)).trans ((pk_un (by omega)).trans ((pk_un (by omega)).trans ((pk_un (by omega)).trans ((g1 _ (by omega) (by omega)).trans ?_))))))
              show 0 = iabs (gOff G (gS G * 4 + q))
              rw [b2 _ hlt q hq (Or.inl (Nat.le_refl _))]
              rfl
            · refine (pk_un (by omega)).trans ((pk_un (by omega)).trans ((pk_un (by omega)).trans ((pk_un (by omega)).trans ((pk_un (by omega)).trans ((pk_un (by omega)).trans ((g1 _ (by omega) (by omega)).trans ?_))))))
              have hz : f_X1_hasBluff G q (gS G) = false := by
                cases hb : f_X1_hasBluff G q (gS G)
                · rfl
                · have := bluff_t.mp hb
                  rw [b2 _ hlt q hq (Or.inl (Nat.le_refl _))] at this
                  exact absurd this (by decide)
              show 0 = bI (f_X1_hasBluff G q (gS G))
              rw [hz]
              rfl
          · obtain ⟨⟨s1, s2, s3, s4, s5⟩, s6⟩ := rk k (by omega)
            refine ⟨⟨(lo _ (by omega) (by omega)).trans (s1.trans ?_), (lo _ (by omega) (by omega)).trans (s2.trans ?_), (lo _ (by omega) (by omega)).trans (s3.trans (pk_un q).symm), (lo _ (by omega) (by omega)).trans (s4.trans (pk_un q).symm), (lo _ (by omega) (by omega)).trans (s5.trans (pk_un q).symm)⟩, fun q hq => ⟨(lo _ (by omega) (by omega)).trans (s6 q hq).1, (lo _ (by omega) (by omega)).trans (s6 q hq).2⟩⟩
            · show nI (gLo G k) = nI (updN (gLo G) (gS G) _ k)
              rw [updN_n q]
            · show nI (gHi G k) = nI (updN (gHi G) (gS G) _ k)
              rw [updN_n q]
        · show gS G + 1 ≤ 12
          omega
        · show updN (gLo G) (gS G) (imin (nI i) (nI j)).toNatClampNeg k < 8
          by_cases q : k = gS G
          · rw [q, updN_s, hmn]; omega
          · rw [updN_n q]; exact a1.2.2.1 k
        · show updN (gHi G) (gS G) (imax (nI i) (nI j)).toNatClampNeg k < 8
          by_cases q : k = gS G
          · rw [q, updN_s, hmx]; omega
          · rw [updN_n q]; exact a1.2.2.2 k
        · have hk : k < gS G + 1 := hk
          show ∃ L, 1 ≤ L ∧ L ≤ 9 ∧ upd (gLen G) (gS G) w k = nI L
          by_cases q : k = gS G
          · rw [q, pk_us]
            obtain ⟨z, hz, ez⟩ := vp_in_of (vp_of_int (x := w) (n := 10) (by omega) (by omega)) (by decide)
            refine ⟨z, ?_, by omega, ez⟩
            rw [ez, nI_toInt (by omega)] at hw2
            omega
          · rw [pk_un q]; exact a5 k (by omega)
        · have hk : k < gS G + 1 := hk
          show upd (gBld G) (gS G) (-1) k = -1 ∨ vp_in (upd (gBld G) (gS G) (-1) k) (gP G)
          by_cases q : k = gS G
          · rw [q, pk_us]; exact Or.inl rfl
          · rw [pk_un q]; exact a6 k (by omega)
        · have hk : k < gS G + 1 := hk
          show upd (gFer G) (gS G) (-1) k = -1 ∨ (vp_in (upd (gFer G) (gS G) (-1) k) (gP G) ∧ gOff G (k * 4 + (upd (gFer G) (gS G) (-1) k).toNatClampNeg) ≠ 0)
          by_cases q : k = gS G
          · rw [q, pk_us]; exact Or.inl rfl
          · rw [pk_un q]; exact a7 k (by omega)
        · have z : gS G + 1 ≤ k := z
          omega
        · have hk : k < gS G + 1 := hk
          have hb : upd (gBld G) (gS G) (-1) k ≠ -1 := hb
          by_cases q : k = gS G
          · rw [q, pk_us] at hb; exact absurd rfl hb
          · rw [pk_un q] at hb
            obtain ⟨z1, z2⟩ := b3 k (by omega) hb
            exact ⟨(pk_un q).trans z1, z2⟩
        · have hq : q < gP G := hq
          show 0 ≤ (gMon G q).toInt - (sumI (resI G q) (gS G) + max (gOff G (gS G * 4 + q)).toInt 0)
          have := c1 q hq
          rw [b2 _ hlt q (Nat.lt_of_lt_of_le hq a1.2.1) (Or.inl (Nat.le_refl _))]
          unfold avI at this
          have e0 : (0 : Int32).toInt = 0 := rfl
          omega
    · have hj2 : f_X1_judgeSite G (nI i) (nI j) w = 4 := by simp only [f_X1_judgeSite, e, e', hij, n1, n2, hp, if_true, if_false]
      rw [hj2, if_pos rfl]
      unfold f_X8_adds_j54
      split <;> (simp only [f_X8_adds_j70, hOk, hThr, Bool.false_and, Bool.true_and, Bool.false_eq_true, if_false, if_true]; exact VR_x (by decide) (by decide) (by decide +kernel))
  · rw [if_neg hw]
    have hj2 : f_X1_judgeSite G (nI i) (nI j) w = 2 := by
      simp only [f_X1_judgeSite, f_X1_judgeSite_j34, e, e', hij, if_true, if_false]
      by_cases n1 : w < 1
      · rw [if_pos n1]
      · rw [if_neg n1]
        by_cases n2 : w ≤ 9
        · exfalso
          apply hw
          rw [ilt, e1] at n1
          rw [ile, e9] at n2
          exact (isIn_t2 e1 e9).mpr ⟨by omega, n2⟩
        · rw [if_neg n2]
    rw [hj2]
    exact E2' _
