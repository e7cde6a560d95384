/-! bids, bluffs, withdrawals -/
theorem high_it {a : Nat → Int32} {w : Int32} (hw : 1 ≤ w.toInt) : ∀ n, w ≤ itF (fun q v => imax v (a q)) n 0 0 ↔ ∃ q, q < n ∧ w ≤ a q := by
  intro n
  induction n with
  | zero =>
    constructor
    · intro h
      have h : w ≤ (0 : Int32) := h
      rw [ile] at h
      have e0 : (0 : Int32).toInt = 0 := rfl
      omega
    · rintro ⟨q, hq, _⟩; exact absurd hq (Nat.not_lt_zero q)
  | succ n ih =>
    rw [itF_snoc, Nat.zero_add]
    show w ≤ imax (itF (fun q v => imax v (a q)) n 0 0) (a n) ↔ _
    generalize itF (fun q v => imax v (a q)) n 0 0 = v at ih ⊢
    constructor
    · intro h
      by_cases c : v < a n
      · have h : w ≤ (if v < a n then a n else v) := h
        rw [if_pos c] at h
        exact ⟨n, by omega, h⟩
      · have h : w ≤ (if v < a n then a n else v) := h
        rw [if_neg c] at h
        obtain ⟨q, hq, e⟩ := ih.mp h
        exact ⟨q, by omega, e⟩
    · rintro ⟨q, hq, e⟩
      show w ≤ (if v < a n then a n else v)
      by_cases c : v < a n
      · rw [if_pos c]
        rcases Nat.lt_or_ge q n with z | z
        · have := ih.mpr ⟨q, z, e⟩
          rw [ile] at this ⊢
          rw [ilt] at c
          omega
        · have : q = n := by omega
          rw [← this]; exact e
      · rw [if_neg c]
        rcases Nat.lt_or_ge q n with z | z
        · exact ih.mpr ⟨q, z, e⟩
        · have : q = n := by omega
          rw [this] at e
          rw [ile] at e ⊢
          rw [ilt] at c
          omega
theorem high_c {G : GS} {f : Nat → Int32} (hG : GSafe G) (r : NR G f) {k : Nat} (hk : k < gS G) : f_X8_highest f (nI k) = itF (fun q v => imax v (f_X1_amountOf G q k)) 4 0 0 := by
  unfold f_X8_highest f_X8_highest_l4
  rw [lpF_it (step := f_X8_highest_l4s f (nI k)) (ex := f_X8_highest_l4e f (nI k)) (fun q v => imax v (f_X1_amountOf G q k)) 4 (fun q s hq => by
    show Sum.inr (imax s (f_X8_of f (nI k) (5 + q))) = _
    rw [ofAmt hG r hk hq]) 4 0 _ rfl]
  rfl
/-- bids above: none, or some -/
theorem above_0 {G : GS} (hG : GSafe G) {k : Nat} (x : Int32) : f_X1_bidsAbove G k x ≤ 0 ↔ ∀ q, q < gP G → f_X1_amountOf G q k ≤ x := by
  have hP4 := hG.2.1
  have e : f_X1_bidsAbove G k x = itF (fun q v => v + bI (!decide (f_X1_amountOf G q k ≤ x))) (gP G) 0 0 := by
    unfold f_X1_bidsAbove f_X1_bidsAbove_l5
    rw [lpF_it (step := f_X1_bidsAbove_l5s G k x) (ex := f_X1_bidsAbove_l5e G k x) (fun q v => v + bI (!decide (f_X1_amountOf G q k ≤ x))) (gP G) (fun q s hq => by
      show f_X1_bidsAbove_l5b G k x q s = _
      unfold f_X1_bidsAbove_l5b f_X1_bidsAbove_j31
      by_cases c : f_X1_amountOf G q k ≤ x
      · rw [if_pos c, decide_eq_true c]; rfl
      · rw [if_neg c, decide_eq_false c]; rfl) _ _ _ (Nat.zero_add _)]
    rfl
  rw [e]
  obtain ⟨m, hm, e2, h⟩ := cnt_it (fun q => !decide (f_X1_amountOf G q k ≤ x)) (gP G) (by omega)
  rw [e2]
  constructor
  · intro h9 q hq
    have : m = 0 := by
      rcases Nat.eq_zero_or_pos m with h8 | h8
      · exact h8
      · exact absurd h9 (nI_nle h8 (by omega))
    have := h.mp this q hq
    by_cases c : f_X1_amountOf G q k ≤ x
    · exact c
    · rw [decide_eq_false c] at this; cases this
  · intro g
    rw [h.mpr (fun q hq => by show (!decide (f_X1_amountOf G q k ≤ x)) = false; rw [decide_eq_true (g q hq)]; rfl)]
    exact Int32.le_refl _
theorem above_high {G : GS} {f : Nat → Int32} (hG : GSafe G) (h1 : GI1 G) (r : NR G f) {k : Nat} (hk : k < gS G) {w : Int32} (hw : 1 ≤ w.toInt) (hw2 : w.toInt ≤ 99) : f_X1_bidsAbove G k (w - 1) ≤ 0 ↔ ¬ w ≤ f_X8_highest f (nI k) := by
  have hP4 := hG.2.1
  have h12 : k < 12 := Nat.lt_of_lt_of_le hk hG.1
  have e1 : (1 : Int32).toInt = 1 := rfl
  have es : (w - 1).toInt = w.toInt - 1 := by rw [sub_int (by rw [e1]; omega) (by rw [e1]; omega), e1]
  rw [above_0 hG, high_c hG r hk, high_it hw]
  constructor
  · rintro g ⟨q, hq, e⟩
    rw [ile] at e
    rcases Nat.lt_or_ge q (gP G) with z | z
    · have := g q z
      rw [ile, es] at this
      omega
    · have := amt_0 h1 h12 hq (Or.inr z)
      omega
  · intro g q hq
    rw [ile, es]
    by_cases c : w ≤ f_X1_amountOf G q k
    · exact absurd ⟨q, by omega, c⟩ g
    · rw [ile] at c; omega
/-- the game with another offer -/
abbrev gOf (G : GS) (i : Nat) (x : Int32) : GS := mkG (gSuit G) (gTide G) (gP G) (gMon G) (gUsed G) (gS G) (gLo G) (gHi G) (gLen G) (gBld G) (gFer G) (upd (gOff G) i x) (gIni G) (gBank G) (gSet G) (gBlf G)
theorem iabs_w : ∀ n, n < 100 → iabs (nI n) = nI n ∧ iabs (-nI n) = nI n ∧ (nI n).toInt = n ∧ (-nI n).toInt = -n := by decide +kernel
/-- the reference's row with another bid shows it -/
theorem of_NR {G : GS} {f : Nat → Int32} (hP4 : gP G ≤ 4) (r : NR G f) {q k : Nat} (hq : q < 4) (hk : k < gS G) {x w : Int32} {b : Bool} (e1 : iabs x = w) (e2 : (x < 0) ↔ b = true) : NR (gOf G (k * 4 + q) x) (upd (upd f (22 + 13 * k + 5 + q) w) (22 + 13 * k + 9 + q) (bI b)) := by
  obtain ⟨⟨r0, r1, r2, r3, r4, r5⟩, rs, rp, rk⟩ := r
  have lo : ∀ z, z < 22 → upd (upd f (22 + 13 * k + 5 + q) w) (22 + 13 * k + 9 + q) (bI b) z = f z := fun z hz => (pk_un (by omega)).trans (pk_un (by omega))
  refine ⟨⟨(lo 0 (by omega)).trans r0, (lo 1 (by omega)).trans r1, (lo 2 (by omega)).trans r2, (lo 3 (by omega)).trans r3, (lo 4 (by omega)).trans r4, (lo 5 (by omega)).trans r5⟩, fun i hi => (lo _ (by omega)).trans (rs i hi), fun p hp => ?_, fun k' hk' => ?_⟩
  · have hp : p < gP G := hp
    obtain ⟨z1, z2⟩ := rp p hp
    exact ⟨(lo _ (by omega)).trans z1, (lo _ (by omega)).trans z2⟩
  · obtain ⟨⟨s1, s2, s3, s4, s5⟩, s6⟩ := rk k' hk'
    refine ⟨⟨(pk_un (by omega)).trans ((pk_un (by omega)).trans s1), (pk_un (by omega)).trans ((pk_un (by omega)).trans s2), (pk_un (by omega)).trans ((pk_un (by omega)).trans s3), (pk_un (by omega)).trans ((pk_un (by omega)).trans s4), (pk_un (by omega)).trans ((pk_un (by omega)).trans s5)⟩, fun q' hq' => ?_⟩
    by_cases c : k' = k ∧ q' = q
    · obtain ⟨c1, c2⟩ := c
      subst c1 c2
      refine ⟨(pk_un (by omega)).trans ?_, ?_⟩
      · rw [show 22 + 13 * k' + (5 + q') = 22 + 13 * k' + 5 + q' by omega, pk_us]
        show w = iabs (upd (gOff G) (k' * 4 + q') x (k' * 4 + q'))
        rw [pk_us, e1]
      · rw [show 22 + 13 * k' + (9 + q') = 22 + 13 * k' + 9 + q' by omega, pk_us]
        congr 1
        refine bool_c (e2.symm.trans (Iff.trans ?_ bluff_t.symm))
        show x < 0 ↔ upd (gOff G) (k' * 4 + q') x (k' * 4 + q') < 0
        rw [pk_us]
    · have hne : k' * 4 + q' ≠ k * 4 + q := fun e => c (by omega)
      refine ⟨(pk_un (by omega)).trans ((pk_un (by omega)).trans ((s6 q' hq').1.trans ?_)), (pk_un (by omega)).trans ((pk_un (by omega)).trans ((s6 q' hq').2.trans ?_))⟩
      · show iabs (gOff G (k' * 4 + q')) = iabs (upd (gOff G) (k * 4 + q) x (k' * 4 + q'))
        rw [pk_un hne]
      · congr 1
        refine bool_c (bluff_t.trans (Iff.trans ?_ bluff_t.symm))
        show gOff G (k' * 4 + q') < 0 ↔ upd (gOff G) (k * 4 + q) x (k' * 4 + q') < 0
        rw [pk_un hne]
/-- and it is a game by the rules -/
theorem of_GI {G : GS} (h : GI G) {q k : Nat} (hq : q < gP G) (hk : k < gS G) (hb : gBld G k = -1) {x : Int32} (hx : -99 ≤ x.toInt ∧ x.toInt ≤ 99) (hf : x ≠ 0 ∨ gFer G k ≠ nI q) (hs : max x.toInt 0 ≤ avI G q + resI G q k) : GI (gOf G (k * 4 + q) x) := by
  have hS := (GI_safe h).1
  have hP4 := (GI_safe h).2.1
  obtain ⟨⟨a1, a2, a3, a4, a5, a6, a7⟩, ⟨b1, b2, b3, b4⟩, c1, c2⟩ := h
  have off : ∀ k' q', q' < 4 → ¬ (k' = k ∧ q' = q) → upd (gOff G) (k * 4 + q) x (k' * 4 + q') = gOff G (k' * 4 + q') := fun k' q' hq' c => pk_un (fun e => c (by omega))
  refine ⟨⟨a1, a2, a3, a4, a5, a6, fun k' hk' => ?_⟩, ⟨fun k' hk' q' hq' => ?_, fun k' hk' q' hq' hh => ?_, fun k' hk' hb' => ?_, b4⟩, fun q' hq' => ?_, c2⟩
  · rcases a7 k' hk' with e | ⟨e, e2⟩
    · exact Or.inl e
    · refine Or.inr ⟨e, ?_⟩
      show upd (gOff G) (k * 4 + q) x (k' * 4 + (gFer G k').toNatClampNeg) ≠ 0
      obtain ⟨ef, lf⟩ := nat_of e (by omega)
      by_cases c : k' = k ∧ (gFer G k').toNatClampNeg = q
      · obtain ⟨c3, c4⟩ := c
        subst c3
        rw [c4, pk_us]
        rcases hf with hf | hf
        · exact hf
        · exact absurd (by rw [ef, c4]) hf
      · rw [off _ _ (by omega) c]; exact e2
  · show -99 ≤ (upd (gOff G) (k * 4 + q) x (k' * 4 + q')).toInt ∧ (upd (gOff G) (k * 4 + q) x (k' * 4 + q')).toInt ≤ 99
    by_cases c : k' = k ∧ q' = q
    · rw [c.1, c.2, pk_us]; exact hx
    · rw [off _ _ hq' c]; exact b1 k' hk' q' hq'
  · show upd (gOff G) (k * 4 + q) x (k' * 4 + q') = 0
    have hh : gS G ≤ k' ∨ gP G ≤ q' := hh
    rw [off _ _ hq' (by omega)]
    exact b2 k' hk' q' hq' hh
  · obtain ⟨z1, z2⟩ := b3 k' hk' hb'
    refine ⟨z1, fun q' hq' => ?_⟩
    show upd (gOff G) (k * 4 + q) x (k' * 4 + q') = 0
    rw [off _ _ hq' (fun c => hb' (by rw [c.1]; exact hb))]
    exact z2 q' hq'
  · have hq' : q' < gP G := hq'
    show 0 ≤ (gMon G q').toInt - sumI (resI (gOf G (k * 4 + q) x) q') (gS G)
    have hc := c1 q' hq'
    unfold avI at hc hs
    by_cases z : q' = q
    · subst z
      rw [sumI_1 (h := resI G q') (i := k) (gS G) hk (fun k' hk' hn => by
        show max (upd (gOff G) (k * 4 + q') x (k' * 4 + q')).toInt 0 = max (gOff G (k' * 4 + q')).toInt 0
        rw [off _ _ (by omega) (fun c => hn c.1)])]
      have e9 : resI (gOf G (k * 4 + q') x) q' k = max x.toInt 0 := by
        show max (upd (gOff G) (k * 4 + q') x (k * 4 + q')).toInt 0 = _
        rw [pk_us]
      rw [e9]
      omega
    · rw [sumI_c (h := resI G q') (gS G) (fun k' hk' => by
        show max (upd (gOff G) (k * 4 + q) x (k' * 4 + q')).toInt 0 = max (gOff G (k' * 4 + q')).toInt 0
        rw [off _ _ (by omega) (fun c => z c.2)])]
      exact hc
