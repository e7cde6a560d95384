/-! the changes, one by one: a player, a suit, the tide -/
theorem isIn_t2 {x lo hi : Int32} {a b : Int} (h1 : lo.toInt = a) (h2 : hi.toInt = b) : f_X8_isIn x lo hi = true ↔ a ≤ x.toInt ∧ x.toInt ≤ b := by
  rw [isIn_t, ile, ile, h1, h2]
theorem vp_nn {n m : Nat} (h : vp_in (nI n) m) (hn : n < 2 ^ 31) : n < m := by
  have := vp_in_iff.mp h
  rw [nI_toInt hn] at this
  omega
theorem vp_of_int {x : Int32} {n : Nat} (h1 : 0 ≤ x.toInt) (h2 : x.toInt < n) : vp_in x n := vp_in_iff.mpr ⟨h1, h2⟩
theorem vp_le {x : Int32} {n m : Nat} (h : vp_in x n) (hm : n ≤ m) : vp_in x m := vp_mono h hm
theorem v_joins {G : GS} {f : Nat → Int32} (h : GI G) (r : NR G f) (x : Int32) : VR [2, 3] (f_X1_judgePlayer G x) (nI (f_X1_join G x).1) (f_X1_join G x).2 (f_X8_joins f x) f := by
  have hG := GI_safe h
  have hP4 := hG.2.1
  have e0 : (0 : Int32).toInt = 0 := rfl
  have e99 : (99 : Int32).toInt = 99 := rfl
  by_cases hx : f_X8_isIn x 0 99 = true
  · have hx2 := (isIn_t2 e0 e99).mp hx
    have n1 : ¬ x < 0 := by rw [ilt, e0]; omega
    have n2 : x ≤ 99 := by rw [ile, e99]; omega
    by_cases hp : gP G = 4
    · have n3 : nI (gP G) = 4 := by rw [hp]; rfl
      have n4 : (4 : Int32) ≤ nI (mP f) := by rw [mP_of hG r, n3]; exact Int32.le_refl _
      simp only [f_X1_judgePlayer, f_X1_judgePlayer_j31, f_X8_joins, f_X8_joins_j23, hOk, hThr, hx, n1, n2, n3, n4, if_true, if_false, Bool.false_eq_true, Bool.true_and, Bool.false_and]
      exact VR_x (by decide) (by decide) (by decide +kernel)
    · have n3 : ¬ nI (gP G) = 4 := fun e => hp ((nI_eq (b := 4) (by omega) (by decide)).mp e)
      have n4 : ¬ (4 : Int32) ≤ nI (mP f) := by rw [mP_of hG r]; exact nI_ge (b := 4) (by omega) (by decide)
      have hlt : gP G < 4 := by omega
      simp only [f_X1_judgePlayer, f_X1_judgePlayer_j31, f_X8_joins, f_X8_joins_j23, hOk, hThr, hx, n1, n2, n3, n4, if_true, if_false, Bool.true_and]
      rw [mP_of hG r]
      obtain ⟨⟨r0, r1, r2, r3, r4, r5⟩, rs, rp, rk⟩ := r
      obtain ⟨⟨a1, a2, a3, a4, a5, a6, a7⟩, ⟨b1, b2, b3, b4⟩, c1, c2⟩ := h
      refine VR_0 rfl ⟨⟨?_, ?_, ?_, ?_, ?_, ?_⟩, fun i hi => ?_, fun p hp => ?_, fun k hk => ?_⟩ ⟨⟨⟨a1.1, ?_, a1.2.2.1, a1.2.2.2⟩, a2, a3, fun p hp => ?_, a5, fun k hk => ?_, fun k hk => ?_⟩, ⟨b1, fun k hk q hq hh => ?_, b3, fun q hq hh => b4 q hq ?_⟩, fun q hq => ?_, ?_⟩
      · exact (pk_un (by omega)).trans ((pk_un (by omega)).trans ((pk_un (by omega)).trans r0))
      · exact pk_us
      · exact (pk_un (by omega)).trans ((pk_un (by omega)).trans ((pk_un (by omega)).trans r2))
      · exact (pk_un (by omega)).trans ((pk_un (by omega)).trans ((pk_un (by omega)).trans r3))
      · exact (pk_un (by omega)).trans ((pk_un (by omega)).trans ((pk_un (by omega)).trans r4))
      · exact (pk_un (by omega)).trans ((pk_un (by omega)).trans ((pk_un (by omega)).trans r5))
      · exact (pk_un (by omega)).trans ((pk_un (by omega)).trans ((pk_un (by omega)).trans (rs i hi)))
      · have hp : p < gP G + 1 := hp
        by_cases q : p = gP G
        · subst q
          refine ⟨(pk_un (by omega)).trans ((pk_un (by omega)).trans (pk_us.trans pk_us.symm)), (pk_un (by omega)).trans (pk_us.trans ?_)⟩
          show 0 = bI (f_X1_hasUsedFerry G (gP G))
          rw [b4 _ hlt (Nat.le_refl _)]
          rfl
        · obtain ⟨r7, r8⟩ := rp p (by omega)
          exact ⟨(pk_un (by omega)).trans ((pk_un (by omega)).trans ((pk_un (by omega)).trans (r7.trans (pk_un q).symm))), (pk_un (by omega)).trans ((pk_un (by omega)).trans ((pk_un (by omega)).trans r8))⟩
      · have hk : k < gS G := hk
        obtain ⟨⟨s1, s2, s3, s4, s5⟩, s6⟩ := rk k hk
        refine ⟨⟨(pk_un (by omega)).trans ((pk_un (by omega)).trans ((pk_un (by omega)).trans s1)), (pk_un (by omega)).trans ((pk_un (by omega)).trans ((pk_un (by omega)).trans s2)), (pk_un (by omega)).trans ((pk_un (by omega)).trans ((pk_un (by omega)).trans s3)), (pk_un (by omega)).trans ((pk_un (by omega)).trans ((pk_un (by omega)).trans s4)), (pk_un (by omega)).trans ((pk_un (by omega)).trans ((pk_un (by omega)).trans s5))⟩, fun q hq => ?_⟩
        exact ⟨(pk_un (by omega)).trans ((pk_un (by omega)).trans ((pk_un (by omega)).trans (s6 q hq).1)), (pk_un (by omega)).trans ((pk_un (by omega)).trans ((pk_un (by omega)).trans (s6 q hq).2))⟩
      · show gP G + 1 ≤ 4
        omega
      · have hp : p < gP G + 1 := hp
        show vp_in (upd (gMon G) (gP G) x p) 100
        by_cases q : p = gP G
        · subst q; rw [pk_us]; exact vp_of_int hx2.1 (by omega)
        · rw [pk_un q]; exact a4 p (by omega)
      · rcases a6 k hk with e | e
        · exact Or.inl e
        · exact Or.inr (vp_le e (Nat.le_succ _))
      · rcases a7 k hk with e | e
        · exact Or.inl e
        · exact Or.inr ⟨vp_le e.1 (Nat.le_succ _), e.2⟩
      · refine b2 k hk q hq (hh.imp (fun z => z) (fun z => ?_))
        have z : gP G + 1 ≤ q := z
        omega
      · have hh : gP G + 1 ≤ q := hh
        omega
      · have hq : q < gP G + 1 := hq
        show 0 ≤ (upd (gMon G) (gP G) x q).toInt - sumI (resI G q) (gS G)
        by_cases z : q = gP G
        · subst z
          rw [pk_us, sumI_c (h := fun _ => 0) (gS G) (fun k hk => by
            show max (gOff G (k * 4 + gP G)).toInt 0 = 0
            rw [b2 k (Nat.lt_of_lt_of_le hk a1.1) _ hlt (Or.inr (Nat.le_refl _))]; rfl)]
          have := (sumI_nn (g := fun _ => 0) (B := 0) (gS G) (fun _ _ => ⟨Int.le_refl _, Int.le_refl _⟩)).2
          omega
        · rw [pk_un z]; exact c1 q (by omega)
      · show gIni G + x = itF (fun p v => v + upd (gMon G) (gP G) x p) (gP G + 1) 0 (gBank G)
        rw [itF_snoc, Nat.zero_add, pk_us, itF_c (g := fun p v => v + gMon G p) (gP G) (fun k s hk => by rw [pk_un (by omega)]) _ _ _ (Nat.zero_add _), ← c2]
  · have hx' : f_X8_isIn x 0 99 = false := by cases q : f_X8_isIn x 0 99 with | true => exact absurd q hx | false => rfl
    have hj : f_X1_judgePlayer G x = 2 := by
      unfold f_X1_judgePlayer f_X1_judgePlayer_j10
      by_cases n1 : x < 0
      · rw [if_pos n1]
      · rw [if_neg n1]
        by_cases n2 : x ≤ 99
        · exfalso
          apply hx
          rw [ilt, e0] at n1
          rw [ile, e99] at n2
          exact (isIn_t2 e0 e99).mpr ⟨by omega, n2⟩
        · rw [if_neg n2]
    have e : ∀ b, VR [2, 3] 2 (nI (f_X1_join G x).1) (f_X1_join G x).2 (f_X8_joins_j23 f x b false) f := fun b => by
      simp only [f_X8_joins_j23, hOk, hThr, Bool.false_and, Bool.false_eq_true, if_false]
      exact VR_x (by decide) (by decide) (by decide +kernel)
    rw [hj]
    unfold f_X8_joins
    rw [hx']
    split <;> exact e _
theorem v_dresses {G : GS} {f : Nat → Int32} (h : GI G) (r : NR G f) (x y : Int32) : VR [1, 2] (f_X1_judgeSuit G x y) (f_X1_giveSuit G x.toNatClampNeg y).1 (f_X1_giveSuit G x.toNatClampNeg y).2 (f_X8_dresses f x y) f := by
  have hG := GI_safe h
  have e0 : (0 : Int32).toInt = 0 := rfl
  have e3 : (3 : Int32).toInt = 3 := rfl
  have e4 : (4 : Int32).toInt = 4 := rfl
  rcases is_case x with e | ⟨j, hj, rfl, e1, e⟩
  · simp only [f_X1_judgeSuit, f_X8_dresses, island_c, e, hOk, hThr, Bool.false_and, Bool.false_eq_true, if_false]
    exact VR_x (by decide) (by decide) (by decide +kernel)
  · by_cases hy : f_X8_isIn y 0 3 = true
    · have hy2 := (isIn_t2 e0 e3).mp hy
      have n1 : ¬ y < 0 := by rw [ilt, e0]; omega
      have n2 : y < 4 := by rw [ilt, e4]; omega
      simp only [f_X1_judgeSuit, f_X1_judgeSuit_j29, f_X8_dresses, island_c, e, e1, hy, n1, n2, hOk, hThr, Bool.true_and, if_true, if_false]
      obtain ⟨⟨r0, r1, r2, r3, r4, r5⟩, rs, rp, rk⟩ := r
      obtain ⟨⟨a1, a2, a3, a4, a5, a6, a7⟩, b, c⟩ := h
      refine VR_0 (rs j hj) ⟨⟨(pk_un (by omega)).trans r0, (pk_un (by omega)).trans r1, (pk_un (by omega)).trans r2, (pk_un (by omega)).trans r3, (pk_un (by omega)).trans r4, (pk_un (by omega)).trans r5⟩, fun i hi => ?_, fun p hp => ?_, fun k hk => ?_⟩ ⟨⟨a1, a2, fun i hi => ?_, a4, a5, a6, a7⟩, b, c⟩
      · show upd f (6 + j) y (6 + i) = upd (gSuit G) j y i
        by_cases q : i = j
        · subst q; rw [pk_us, pk_us]
        · rw [pk_un (by omega), pk_un q]; exact rs i hi
      · have hp : p < gP G := hp
        exact ⟨(pk_un (by omega)).trans (rp p hp).1, (pk_un (by omega)).trans (rp p hp).2⟩
      · have hk : k < gS G := hk
        obtain ⟨⟨s1, s2, s3, s4, s5⟩, s6⟩ := rk k hk
        exact ⟨⟨(pk_un (by omega)).trans s1, (pk_un (by omega)).trans s2, (pk_un (by omega)).trans s3, (pk_un (by omega)).trans s4, (pk_un (by omega)).trans s5⟩, fun q hq => ⟨(pk_un (by omega)).trans (s6 q hq).1, (pk_un (by omega)).trans (s6 q hq).2⟩⟩
      · show vp_in (upd (gSuit G) j y i) 4
        by_cases q : i = j
        · subst q; rw [pk_us]; exact vp_of_int hy2.1 (by omega)
        · rw [pk_un q]; exact a3 i hi
    · have hy' : f_X8_isIn y 0 3 = false := by cases q : f_X8_isIn y 0 3 with | true => exact absurd q hy | false => rfl
      have hj2 : f_X1_judgeSuit G (nI j) y = 2 := by
        simp only [f_X1_judgeSuit, f_X1_judgeSuit_j20, f_X1_judgeSuit_j29, e, if_true]
        by_cases n1 : y < 0
        · rw [if_pos n1]
        · rw [if_neg n1]
          by_cases n2 : y < 4
          · exfalso
            apply hy
            rw [ilt, e0] at n1
            rw [ilt, e4] at n2
            exact (isIn_t2 e0 e3).mpr ⟨by omega, by omega⟩
          · rw [if_neg n2]
      rw [hj2]
      simp only [f_X8_dresses, island_c, e, hy', hOk, hThr, Bool.true_and, Bool.false_and, Bool.false_eq_true, if_true, if_false]
      exact VR_x (by decide) (by decide) (by decide +kernel)
theorem v_floods {G : GS} {f : Nat → Int32} (h : GI G) (r : NR G f) (x : Int32) : VR [2] (f_X1_judgeTide x) (f_X1_moveTide G x).1 (f_X1_moveTide G x).2 (f_X8_floods f x) f := by
  have hG := GI_safe h
  have e0 : (0 : Int32).toInt = 0 := rfl
  have e9 : (9 : Int32).toInt = 9 := rfl
  by_cases hy : f_X8_isIn x 0 9 = true
  · have hy2 := (isIn_t2 e0 e9).mp hy
    have n1 : ¬ x < 0 := by rw [ilt, e0]; omega
    have n2 : x ≤ 9 := by rw [ile, e9]; omega
    simp only [f_X1_judgeTide, f_X1_judgeTide_j19, f_X8_floods, f_X8_floods_j28, hy, n1, n2, gThr, if_true, if_false]
    obtain ⟨⟨r0, r1, r2, r3, r4, r5⟩, rs, rp, rk⟩ := r
    obtain ⟨⟨a1, a2, a3, a4, a5, a6, a7⟩, b, c⟩ := h
    refine VR_0 r0 ⟨⟨pk_us, (pk_un (by omega)).trans r1, (pk_un (by omega)).trans r2, (pk_un (by omega)).trans r3, (pk_un (by omega)).trans r4, (pk_un (by omega)).trans r5⟩, fun i hi => (pk_un (by omega)).trans (rs i hi), fun p hp => ⟨(pk_un (by omega)).trans (rp p hp).1, (pk_un (by omega)).trans (rp p hp).2⟩, fun k hk => ?_⟩ ⟨⟨a1, ?_, a3, a4, a5, a6, a7⟩, b, c⟩
    · obtain ⟨⟨s1, s2, s3, s4, s5⟩, s6⟩ := rk k hk
      exact ⟨⟨(pk_un (by omega)).trans s1, (pk_un (by omega)).trans s2, (pk_un (by omega)).trans s3, (pk_un (by omega)).trans s4, (pk_un (by omega)).trans s5⟩, fun q hq => ⟨(pk_un (by omega)).trans (s6 q hq).1, (pk_un (by omega)).trans (s6 q hq).2⟩⟩
    · obtain ⟨j, hj, e⟩ := vp_in_of (vp_of_int (n := 10) hy2.1 (by omega)) (by decide)
      exact ⟨j, by omega, e⟩
  · have hy' : f_X8_isIn x 0 9 = false := by cases q : f_X8_isIn x 0 9 with | true => exact absurd q hy | false => rfl
    have hj2 : f_X1_judgeTide x = 2 := by
      simp only [f_X1_judgeTide, f_X1_judgeTide_j10, f_X1_judgeTide_j19]
      by_cases n1 : x < 0
      · rw [if_pos n1]
      · rw [if_neg n1]
        by_cases n2 : x ≤ 9
        · exfalso
          apply hy
          rw [ilt, e0] at n1
          rw [ile, e9] at n2
          exact (isIn_t2 e0 e9).mpr ⟨by omega, n2⟩
        · rw [if_neg n2]
    rw [hj2]
    simp only [f_X8_floods, f_X8_floods_j28, hy', gThr, Bool.false_eq_true, if_false]
    exact VR_x (by decide) (by decide) (by decide +kernel)
