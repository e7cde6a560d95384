theorem amtN_0 {G : GS} (h : GI G) {k q : Nat} (hk : k < 12) (hq : q < 4) : f_X1_amountOf G q k ≤ 0 ↔ ¬ f_X1_hasBid G q k = true := by
  have am := amt_int h.2.1 hk hq
  have t0 : (0 : Int32).toInt = 0 := rfl
  rw [ile, t0, bid_t, am]
  have e : gOff G (k * 4 + q) = 0 ↔ (gOff G (k * 4 + q)).toInt = 0 := ⟨fun e => by rw [e]; rfl, fun e => Int32.toInt_inj.mp (by rw [e]; rfl)⟩
  show _ ↔ ¬ ¬ _
  rw [Classical.not_not, e]
  omega
theorem bids_txt {G : GS} {f : Nat → Int32} (h : GI G) (r : NR G f) {k : Nat} (hk : k < gS G) (t : Int32) : ∀ n j T li p, j + n = 4 → LN T li p → ∃ li' p', f_X8_renderSite_l94 f (nI k) n j p li t = (p', li', p', t) ∧ LN (dBids G k (gP G - j) j T) li' p' := by
  have hG := GI_safe h
  have hS := hG.1
  have hP := hG.2.1
  intro n
  induction n with
  | zero =>
    intro j T li p hj a
    refine ⟨li, p, rfl, ?_⟩
    rw [show gP G - j = 0 by omega]
    exact a
  | succ n ih =>
    intro j T li p hj a
    have hq : j < 4 := by omega
    have s1 : f_X8_renderSite_l94 f (nI k) (n + 1) j p li t = sE id (fun q : Nat × (Nat → Int32) × Int32 => f_X8_renderSite_l94 f (nI k) n (j + 1) q.1 q.2.1 q.2.2) (f_X8_renderSite_l94b f (nI k) j p li t) := rfl
    rw [s1]
    unfold f_X8_renderSite_l94b f_X8_renderSite_j121 lt_
    rw [ofAmt hG r hk hq]
    have a0 := amtN_0 h (show k < 12 by omega) hq
    by_cases c : f_X1_hasBid G j k = true
    · rw [if_neg (fun z => a0.mp z c)]
      have hp : j < gP G := by
        apply Classical.byContradiction
        intro z
        have := bid_t.mp c
        exact this (h.2.1.2.1 k (by omega) j hq (Or.inr (by omega)))
      obtain ⟨li', p', e1, e2⟩ := ih (j + 1) _ _ _ (by omega) (bid_txt h r hk hq a)
      refine ⟨li', p', e1, ?_⟩
      rw [show gP G - j = (gP G - (j + 1)) + 1 by omega]
      show LN (dBids G k (gP G - (j + 1)) (j + 1) (if f_X1_hasBid G j k = true then dBid G j k T else T)) li' p'
      rw [if_pos c]
      exact e2
    · rw [if_pos (a0.mpr c)]
      obtain ⟨li', p', e1, e2⟩ := ih (j + 1) _ _ _ (by omega) a
      refine ⟨li', p', e1, ?_⟩
      by_cases z : j < gP G
      · rw [show gP G - j = (gP G - (j + 1)) + 1 by omega]
        show LN (dBids G k (gP G - (j + 1)) (j + 1) (if f_X1_hasBid G j k = true then dBid G j k T else T)) li' p'
        rw [if_neg c]
        exact e2
      · rw [show gP G - j = 0 by omega]
        rw [show gP G - (j + 1) = 0 by omega] at e2
        exact e2
theorem nobids_txt {G : GS} {f : Nat → Int32} (h : GI G) (r : NR G f) {k : Nat} (hk : k < gS G) (hb : f_X1_hasBridge G k = true) (t : Int32) : ∀ n j p li, j + n = 4 → f_X8_renderSite_l94 f (nI k) n j p li t = (p, li, p, t) := by
  have hG := GI_safe h
  have hS := hG.1
  intro n
  induction n with
  | zero => intro j p li _; rfl
  | succ n ih =>
    intro j p li hj
    have hq : j < 4 := by omega
    have s1 : f_X8_renderSite_l94 f (nI k) (n + 1) j p li t = sE id (fun q : Nat × (Nat → Int32) × Int32 => f_X8_renderSite_l94 f (nI k) n (j + 1) q.1 q.2.1 q.2.2) (f_X8_renderSite_l94b f (nI k) j p li t) := rfl
    rw [s1]
    unfold f_X8_renderSite_l94b f_X8_renderSite_j121
    have nb : ¬ f_X1_hasBid G j k = true := fun c => bid_t.mp c ((h.2.1.2.2.1 k hk (hasBridge_t.mp hb)).2 j hq)
    rw [ofAmt hG r hk hq, if_pos ((amtN_0 h (show k < 12 by omega) hq).mpr nb)]
    exact ih (j + 1) p li (by omega)
theorem DOK_of {G : GS} (h : GI G) {k : Nat} (hk : k < gS G) : DOK G k := by
  have hG := GI_safe h
  have hS := hG.1
  have hP := hG.2.1
  obtain ⟨L, l1, l9, el⟩ := h.1.2.2.2.2.1 k hk
  refine ⟨by rw [el]; exact vp_of_int (by rw [nI_toInt (by omega)]; omega) (by rw [nI_toInt (by omega)]; omega), fun hb => ?_, fun q hq => ?_⟩
  · rcases h.1.2.2.2.2.2.1 k hk with e | e
    · exact absurd e (hasBridge_t.mp hb)
    · exact vp_le e (by omega)
  · have am := amt_int h.2.1 (show k < 12 by omega) hq
    have ob := h.2.1.1 k (by omega) q hq
    exact vp_of_int (by omega) (by omega)
theorem b_renderSite {G : GS} {f : Nat → Int32} (h : GI G) (r : NR G f) (Q : QS) {T : TX} {li : Nat → Int32} {ld : Nat} (a : LN T li ld) (x : Int32) :
    (f_X8_renderSite f li ld x).2.2.2 = thr [1] (f_X7_renderSite Q G T x).1 ∧ ((f_X7_renderSite Q G T x).1 = 0 ∨ (f_X7_renderSite Q G T x).1 ∈ [1]) ∧ ((f_X7_renderSite Q G T x).1 = 0 → (f_X8_renderSite f li ld x).1 = (f_X7_renderSite Q G T x).2.2) ∧ LN (f_X7_renderSite Q G T x).2 (f_X8_renderSite f li ld x).2.1 (f_X8_renderSite f li ld x).2.2.1 := by
  have hG := GI_safe h
  have hS := hG.1
  have hP := hG.2.1
  have t1 : gThr false = thr [1] 1 := by decide +kernel
  unfold f_X7_renderSite f_X7_requireSite f_X8_renderSite
  rw [site_c hG r]
  rcases si_case hG x with e | ⟨k, hk, rfl, e1, e⟩
  · rw [e, if_neg (show ¬ false = true by decide), if_neg (show ¬ false = true by decide), if_neg (show ¬ (1 : Nat) = 0 by decide)]
    exact ⟨t1, Or.inr (List.mem_singleton.mpr rfl), fun h9 => absurd (show 1 = 0 from h9) (by decide), a⟩
  · obtain ⟨L, l1, l9, el⟩ := h.1.2.2.2.2.1 k hk
    have lo8 := hG.2.2.1 k
    have hi8 := hG.2.2.2 k
    rw [e, if_pos rfl, if_pos rfl, if_pos rfl, e1]
    unfold f_X8_renderSite_j91 lt_
    rw [ofLo hG r hk, ofHi hG r hk, ofLen hG r hk, done_c hG r hk, ofBld hG r hk, el]
    have a0 : LN (T.1, 0) li 0 := ⟨rfl, fun j hj => absurd hj (Nat.not_lt_zero j)⟩
    have s1 := LN_N a0 (show gLo G k < 100 by omega) rfl
    generalize f_X8_writesNumber li 0 (nI (gLo G k)) = y1 at s1 ⊢
    dsimp only
    have s2 := LN_N (LN_C (c := 45) s1 (by decide)) (show gHi G k < 100 by omega) rfl
    have e45 : nI 45 = 45 := rfl
    rw [e45] at s2
    generalize f_X8_writesNumber (upd y1.2 y1.1 45) (y1.1 + 1) (nI (gHi G k)) = y2 at s2 ⊢
    have s3 := LN_N (LN_C (c := 47) s2 (by decide)) (show L < 100 by omega) rfl
    have e47 : nI 47 = 47 := rfl
    rw [e47] at s3
    generalize f_X8_writesNumber (upd y2.2 y2.1 47) (y2.1 + 1) (nI L) = y3 at s3 ⊢
    have ed : dSite G k (T.1, 0) = (if f_X1_hasBridge G k = true then wN (gBld G k).toNatClampNeg (wC 61 (wN L (wC 47 (wN (gHi G k) (wC 45 (wN (gLo G k) (T.1, 0))))))) else dBids G k (gP G) 0 (wN L (wC 47 (wN (gHi G k) (wC 45 (wN (gLo G k) (T.1, 0))))))) := by
      unfold dSite lt_
      rw [el, nI_clamp (by omega)]
    rw [ed]
    generalize wN L (wC 47 (wN (gHi G k) (wC 45 (wN (gLo G k) (T.1, 0))))) = T5 at s3 ⊢
    by_cases hb : f_X1_hasBridge G k = true
    · have bl : vp_in (gBld G k) (gP G) := (h.1.2.2.2.2.2.1 k hk).resolve_left (hasBridge_t.mp hb)
      obtain ⟨b, hb4, eb⟩ := vp_in_of bl (by omega)
      rw [if_pos hb, if_pos hb, eb, nI_clamp (by omega)]
      have s4 := LN_N (LN_C (c := 61) s3 (by decide)) (show b < 100 by omega) rfl
      have e61 : nI 61 = 61 := rfl
      rw [e61] at s4
      generalize f_X8_writesNumber (upd y3.2 y3.1 61) (y3.1 + 1) (nI b) = y4 at s4 ⊢
      rw [nobids_txt h r hk hb _ 4 0 y4.1 y4.2 rfl]
      exact ⟨rfl, Or.inl rfl, fun _ => s4.1.symm, s4⟩
    · rw [if_neg hb, if_neg hb]
      obtain ⟨li', p', q1, q2⟩ := bids_txt h r hk (gThr true) 4 0 _ _ _ rfl s3
      rw [q1]
      exact ⟨rfl, Or.inl rfl, fun _ => q2.1.symm, q2⟩
theorem c16_n : ∀ n, n < 128 → c16 (nI n) = nI n := by decide +kernel
theorem b_outputAt {T : TX} {li : Nat → Int32} {ld : Nat} (a : LN T li ld) (hl : ld ≤ 60) (x : Int32) : EQI [1] (f_X7_outputAt T x) (f_X8_outputAt li ld x) := by
  obtain ⟨h1, h2⟩ := a
  have t1 : gThr false = thr [1] 1 := by decide +kernel
  have t0 : (0 : Int32).toInt = 0 := rfl
  unfold f_X7_outputAt f_X8_outputAt f_X8_outputAt_j29
  rw [h1]
  have it : f_X8_isIn x 0 (nI ld - 1) = true ↔ 0 ≤ x.toInt ∧ x.toInt ≤ (ld : Int) - 1 := isIn_t2 t0 (nI_m1 (by omega))
  by_cases c : x < 0
  · have i : f_X8_isIn x 0 (nI ld - 1) = false := by
      cases i : f_X8_isIn x 0 (nI ld - 1)
      · rfl
      · have := it.mp i
        rw [ilt, t0] at c
        omega
    rw [if_pos c, i, if_neg (by decide)]
    exact EQI_x (c := 1) (by decide) (by decide) t1
  · rw [if_neg c]
    rw [ilt, t0] at c
    by_cases d : x < nI ld
    · rw [if_pos d]
      rw [ilt, nI_toInt (by omega)] at d
      have i : f_X8_isIn x 0 (nI ld - 1) = true := it.mpr (by omega)
      rw [i, if_pos rfl]
      obtain ⟨n, hn, en⟩ := vp_in_of (vp_of_int (x := x) (n := ld) (by omega) d) (by omega)
      subst en
      rw [nI_clamp (by omega)]
      obtain ⟨q1, q2⟩ := h2 n hn
      refine EQI_0 ?_
      rw [q1, c16_n _ q2]
    · rw [if_neg d]
      rw [ilt, nI_toInt (by omega)] at d
      have i : f_X8_isIn x 0 (nI ld - 1) = false := by
        cases i : f_X8_isIn x 0 (nI ld - 1)
        · rfl
        · have := it.mp i
          omega
      rw [i, if_neg (by decide)]
      exact EQI_x (c := 1) (by decide) (by decide) t1
