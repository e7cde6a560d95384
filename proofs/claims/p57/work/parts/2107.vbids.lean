/-! the changes: a bid, a bluff, a withdrawal -/
theorem not_t {a : Bool} (h : ¬ a = true) : a = false := by cases a with | true => exact absurd rfl h | false => rfl
theorem amount_range {w : Int32} (h : f_X8_isIn w 1 99 = true) : ∃ n, 1 ≤ n ∧ n < 100 ∧ w = nI n := by
  have h2 := (isIn_t2 (show (1 : Int32).toInt = 1 from rfl) (show (99 : Int32).toInt = 99 from rfl)).mp h
  obtain ⟨n, hn, e⟩ := vp_in_of (vp_of_int (x := w) (n := 100) (by omega) (by omega)) (by decide)
  rw [e, nI_toInt (by omega)] at h2
  exact ⟨n, by omega, hn, e⟩
/-- what the class says of a bluff, or of a bid before its money is asked -/
theorem jB_c {G : GS} {f : Nat → Int32} (h : GI G) (r : NR G f) (x y w : Int32) : (f_X1_judgeBluff G x y w = 1 ∧ (f_X1_isPlayer G x = false ∨ f_X1_isSite G y = false)) ∨ ∃ q k, q < gP G ∧ k < gS G ∧ x = nI q ∧ y = nI k ∧ (nI q).toNatClampNeg = q ∧ (nI k).toNatClampNeg = k ∧ f_X1_isPlayer G (nI q) = true ∧ f_X1_isSite G (nI k) = true ∧ ((f_X1_judgeBluff G x y w = 2 ∧ f_X8_isIn w 1 99 = false) ∨ ∃ n, 1 ≤ n ∧ n < 100 ∧ w = nI n ∧ f_X8_isIn w 1 99 = true ∧ ((f_X1_judgeBluff G x y w = 3 ∧ f_X1_hasBridge G k = true) ∨ (f_X1_hasBridge G k = false ∧ gBld G k = -1 ∧ ((f_X1_judgeBluff G x y w = 4 ∧ w ≤ f_X8_highest f (nI k)) ∨ (f_X1_judgeBluff G x y w = 0 ∧ ¬ w ≤ f_X8_highest f (nI k)))))) := by
  have hG := GI_safe h
  have e1 : (1 : Int32).toInt = 1 := rfl
  have e99 : (99 : Int32).toInt = 99 := rfl
  rcases pl_case hG x with e | ⟨q, hq, rfl, ep, e⟩
  · left
    simp only [f_X1_judgeBluff, f_X1_judgeBluff_j16, e, Bool.false_eq_true, if_false]
    exact ⟨trivial, Or.inl trivial⟩
  rcases si_case hG y with e' | ⟨k, hk, rfl, ek, e'⟩
  · left
    simp only [f_X1_judgeBluff, f_X1_judgeBluff_j16, e, e', Bool.false_eq_true, if_false, if_true]
    exact ⟨trivial, Or.inr trivial⟩
  right
  refine ⟨q, k, hq, hk, rfl, rfl, ep, ek, e, e', ?_⟩
  by_cases hw : f_X8_isIn w 1 99 = true
  · right
    obtain ⟨n, hn1, hn2, ew⟩ := amount_range hw
    have hw2 := (isIn_t2 e1 e99).mp hw
    have n1 : ¬ w < 1 := by rw [ilt, e1]; omega
    have n2 : w ≤ 99 := by rw [ile, e99]; omega
    refine ⟨n, hn1, hn2, ew, hw, ?_⟩
    cases hb : f_X1_hasBridge G k
    · right
      have hb2 : gBld G k = -1 := by
        rcases Classical.em (gBld G k = -1) with z | z
        · exact z
        · rw [hasBridge_t.mpr z] at hb; cases hb
      refine ⟨rfl, hb2, ?_⟩
      have key := above_high hG h.2.1 r hk (w := w) (by omega) (by omega)
      by_cases c : w ≤ f_X8_highest f (nI k)
      · left
        have nn : ¬ f_X1_bidsAbove G k (w - 1) ≤ 0 := fun z => (key.mp z) c
        simp only [f_X1_judgeBluff, f_X1_judgeBluff_j67, e, e', ek, n1, n2, hb, nn, Bool.false_eq_true, if_false, if_true]
        exact ⟨trivial, c⟩
      · right
        have nn : f_X1_bidsAbove G k (w - 1) ≤ 0 := key.mpr c
        simp only [f_X1_judgeBluff, f_X1_judgeBluff_j67, e, e', ek, n1, n2, hb, nn, Bool.false_eq_true, if_false, if_true]
        exact ⟨trivial, c⟩
    · left
      simp only [f_X1_judgeBluff, e, e', ek, n1, n2, hb, if_false, if_true]
      exact ⟨trivial, trivial⟩
  · left
    refine ⟨?_, not_t hw⟩
    simp only [f_X1_judgeBluff, f_X1_judgeBluff_j31, e, e', if_true]
    by_cases n1 : w < 1
    · rw [if_pos n1]
    · rw [if_neg n1]
      by_cases n2 : w ≤ 99
      · exfalso
        apply hw
        rw [ilt, e1] at n1
        rw [ile, e99] at n2
        exact (isIn_t2 e1 e99).mpr ⟨by omega, n2⟩
      · rw [if_neg n2]
theorem bids_x1 {L : List Nat} {f : Nat → Int32} {x y w : Int32} {v a b : Bool} {u : Int32} {G1 : GS} (h1 : 1 ∈ L) (h2 : (1 : Int32) = thr L 1) : VR L 1 u G1 (f_X8_bids_j42 f x y w v a b false) f := by
  simp only [f_X8_bids_j42, hOk, hThr, Bool.false_and, Bool.false_eq_true, if_false]
  exact VR_x (by decide) h1 h2
/-- the reference's bid up to its own conditions -/
theorem bids_at {G : GS} {f : Nat → Int32} (h : GI G) (r : NR G f) {q k : Nat} (hq : q < gP G) (hk : k < gS G) (w : Int32) (v : Bool) : f_X8_bids f (nI q) (nI k) w v = f_X8_bids_j42 f (nI q) (nI k) w v (!f_X1_hasBridge G k) (f_X8_isIn w 1 99) true := by
  have hG := GI_safe h
  unfold f_X8_bids f_X8_bids_j22
  rw [player_c hG r, site_c hG r, isP_n hG hq, isS_n hG hk, if_pos rfl, if_pos rfl, done_c hG r hk]
  cases f_X1_hasBridge G k
  · rw [ifB_f rfl]; rfl
  · rw [if_pos rfl]; rfl
/-- the write, and what is answered -/
theorem bids_go {G : GS} {f : Nat → Int32} (h : GI G) (r : NR G f) {q k n : Nat} (hq : q < gP G) (hk : k < gS G) (hb : gBld G k = -1) (hn1 : 1 ≤ n) (hn2 : n < 100) {v : Bool} {j : Int32} {t : Int32} (hs : v = false → (n : Int) ≤ avI G q + resI G q k) :
    ∃ f1, f_X8_bids_j86 f (nI q) (nI k) (nI n) v true j = ((if v = true then f_X1_bidsAbove (gOf G (k * 4 + q) (-nI n)) k 0 else f_X1_availableTo (gOf G (k * 4 + q) (nI n)) q), f1, 0) ∧ NR (gOf G (k * 4 + q) (if v = true then -nI n else nI n)) f1 ∧ GI (gOf G (k * 4 + q) (if v = true then -nI n else nI n)) := by
  have hG := GI_safe h
  have hP4 := hG.2.1
  have hS := hG.1
  obtain ⟨w1, w2, w3, w4⟩ := iabs_w n hn2
  have e0 : (0 : Int32).toInt = 0 := rfl
  have av := h.2.2.1 q hq
  have rb := resI_b h.2.1 (show k < 12 by omega) (show q < 4 by omega)
  cases v
  · have e2 : (nI n < 0) ↔ false = true := by rw [ilt, w3, e0]; constructor <;> (intro z; first | omega | cases z)
    have r1 := of_NR hP4 r (q := q) (k := k) (by omega) hk (x := nI n) (w := nI n) (b := false) w1 e2
    have g1 := of_GI h hq hk hb (x := nI n) (by rw [w3]; omega) (Or.inl (fun z => by have := congrArg Int32.toInt z; rw [w3, e0] at this; omega)) (by rw [w3]; have := hs rfl; omega)
    refine ⟨_, ?_, r1, g1⟩
    unfold f_X8_bids_j86 f_X8_bids_j139 f_X8_bids_j158
    rw [if_pos (show hOk true true true true = true from rfl), nI_clamp (by omega), nI_clamp (by omega), ifB_f rfl, ifB_f rfl, avail_c (GI_safe g1) g1.2.1 r1 hq]
    rfl
  · have e2 : (-nI n < 0) ↔ true = true := by rw [ilt, w4, e0]; constructor <;> (intro z; first | omega | rfl)
    have r1 := of_NR hP4 r (q := q) (k := k) (by omega) hk (x := -nI n) (w := nI n) (b := true) w2 e2
    have g1 := of_GI h hq hk hb (x := -nI n) (by rw [w4]; omega) (Or.inl (fun z => by have := congrArg Int32.toInt z; rw [w4, e0] at this; omega)) (by rw [w4]; omega)
    refine ⟨_, ?_, r1, g1⟩
    unfold f_X8_bids_j86 f_X8_bids_j139 f_X8_bids_j158
    rw [if_pos (show hOk true true true true = true from rfl), nI_clamp (by omega), nI_clamp (by omega), if_pos rfl, if_pos rfl, bids_c (GI_safe g1) g1.2.1 r1 hk]
    rfl
theorem v_bluffs {G : GS} {f : Nat → Int32} (h : GI G) (r : NR G f) (x y w : Int32) : VR [1, 2, 3, 4] (f_X1_judgeBluff G x y w) (f_X1_bidsAbove (gOf G (y.toNatClampNeg * 4 + x.toNatClampNeg) (-w)) y.toNatClampNeg 0) (gOf G (y.toNatClampNeg * 4 + x.toNatClampNeg) (-w)) (f_X8_bids f x y w true) f := by
  have hG := GI_safe h
  rcases jB_c h r x y w with ⟨ej, e⟩ | ⟨q, k, hq, hk, rfl, rfl, ep, ek, e, e', z⟩
  · rw [ej]
    have t1 : ∀ u G1, VR [1, 2, 3, 4] 1 u G1 (f_X8_bids_j21 f x y w true) f := fun u G1 => by
      unfold f_X8_bids_j21 f_X8_bids_j22
      split <;> exact bids_x1 (by decide) (by decide +kernel)
    unfold f_X8_bids
    rw [player_c hG r, site_c hG r]
    rcases e with e | e
    · rw [e, ifB_f rfl]; exact t1 _ _
    · rw [e]
      split
      · rw [ifB_f rfl]; exact t1 _ _
      · exact t1 _ _
  · rw [bids_at h r hq hk, ep, ek]
    rcases z with ⟨ej, ew⟩ | ⟨n, hn1, hn2, rfl, ew, ⟨ej, eb⟩ | ⟨eb, hb, ⟨ej, c⟩ | ⟨ej, c⟩⟩⟩
    · rw [ej, ew]
      simp only [f_X8_bids_j42, hOk, hThr, Bool.false_and, Bool.true_and, Bool.false_eq_true, if_false, if_true]
      exact VR_x (by decide) (by decide) (by decide +kernel)
    · rw [ej, ew, eb]
      simp only [f_X8_bids_j42, hOk, hThr, Bool.not_true, Bool.false_and, Bool.true_and, Bool.false_eq_true, if_false, if_true]
      exact VR_x (by decide) (by decide) (by decide +kernel)
    · rw [ej, ew, eb]
      simp only [f_X8_bids_j42, f_X8_bids_j85, f_X8_bids_j86, hOk, hThr, Bool.not_false, Bool.true_and, c, Bool.false_eq_true, if_false, if_true]
      exact VR_x (by decide) (by decide) (by decide +kernel)
    · rw [ej, ew, eb]
      obtain ⟨f1, e1, r1, g1⟩ := bids_go h r hq hk hb hn1 hn2 (v := true) (j := 0) (t := 0) (fun z => by cases z)
      unfold f_X8_bids_j42
      rw [if_pos (show hOk true true (!false) true = true from rfl), if_neg c, if_pos rfl]
      unfold f_X8_bids_j81
      rw [show hThr true true (!false) true = 0 from rfl, e1]
      exact VR_0 rfl r1 g1
theorem v_bids {G : GS} {f : Nat → Int32} (h : GI G) (r : NR G f) (x y w : Int32) : VR [1, 2, 3, 4] (f_X1_judgeBid G x y w) (f_X1_availableTo (gOf G (y.toNatClampNeg * 4 + x.toNatClampNeg) w) x.toNatClampNeg) (gOf G (y.toNatClampNeg * 4 + x.toNatClampNeg) w) (f_X8_bids f x y w false) f := by
  have hG := GI_safe h
  have hP4 := hG.2.1
  have hS := hG.1
  rcases jB_c h r x y w with ⟨ej, e⟩ | ⟨q, k, hq, hk, rfl, rfl, ep, ek, e, e', z⟩
  · have ej : f_X1_judgeBid G x y w = 1 := by
      unfold f_X1_judgeBid
      rw [ej]
      rfl
    rw [ej]
    have t1 : ∀ u G1, VR [1, 2, 3, 4] 1 u G1 (f_X8_bids_j21 f x y w false) f := fun u G1 => by
      unfold f_X8_bids_j21 f_X8_bids_j22
      split <;> exact bids_x1 (by decide) (by decide +kernel)
    unfold f_X8_bids
    rw [player_c hG r, site_c hG r]
    rcases e with e | e
    · rw [e, ifB_f rfl]; exact t1 _ _
    · rw [e]
      split
      · rw [ifB_f rfl]; exact t1 _ _
      · exact t1 _ _
  · rw [bids_at h r hq hk, ep, ek]
    rcases z with ⟨ej, ew⟩ | ⟨n, hn1, hn2, rfl, ew, ⟨ej, eb⟩ | ⟨eb, hb, ⟨ej, c⟩ | ⟨ej, c⟩⟩⟩
    · have ej : f_X1_judgeBid G (nI q) (nI k) w = 2 := by
        unfold f_X1_judgeBid
        rw [ej]
        rfl
      rw [ej, ew]
      simp only [f_X8_bids_j42, hOk, hThr, Bool.false_and, Bool.true_and, Bool.false_eq_true, if_false, if_true]
      exact VR_x (by decide) (by decide) (by decide +kernel)
    · have ej : f_X1_judgeBid G (nI q) (nI k) (nI n) = 3 := by
        unfold f_X1_judgeBid
        rw [ej]
        rfl
      rw [ej, ew, eb]
      simp only [f_X8_bids_j42, hOk, hThr, Bool.not_true, Bool.false_and, Bool.true_and, Bool.false_eq_true, if_false, if_true]
      exact VR_x (by decide) (by decide) (by decide +kernel)
    · have ej : f_X1_judgeBid G (nI q) (nI k) (nI n) = 4 := by
        unfold f_X1_judgeBid
        rw [ej]
        rfl
      rw [ej, ew, eb]
      simp only [f_X8_bids_j42, f_X8_bids_j85, f_X8_bids_j86, hOk, hThr, Bool.not_false, Bool.true_and, c, Bool.false_eq_true, if_false, if_true]
      exact VR_x (by decide) (by decide) (by decide +kernel)
    · have jd : f_X1_judgeBid G (nI q) (nI k) (nI n) = if nI n ≤ f_X1_availableTo G q + f_X1_reservedBy G q k then 0 else 4 := by
        unfold f_X1_judgeBid f_X1_judgeBid_j49
        rw [ej, if_pos rfl, ep, ek]
      have s1 := avail_int hG h.2.1 (q := q) (by omega) (GI_mon h hq)
      have s2 : (f_X1_reservedBy G q k).toInt = resI G q k := res_int h.2.1 (show k < 12 by omega) (show q < 4 by omega)
      have b1 := h.2.2.1 q hq
      have b2 := avI_le h hq
      have b3 := resI_b h.2.1 (show k < 12 by omega) (show q < 4 by omega)
      have s3 : (f_X1_availableTo G q + f_X1_reservedBy G q k).toInt = avI G q + resI G q k := by rw [add_int (by rw [s1, s2]; omega) (by rw [s1, s2]; omega), s1, s2]
      rw [ew, eb]
      unfold f_X8_bids_j42
      rw [if_pos (show hOk true true (!false) true = true from rfl), if_neg c, ifB_f rfl, ep, avail_c hG h.2.1 r hq, res_c hG h.2.1 r hk (show q < 4 by omega), jd]
      by_cases d : nI n ≤ f_X1_availableTo G q + f_X1_reservedBy G q k
      · rw [if_pos d, if_neg (Int32.not_lt.mpr d)]
        rw [ile, s3, nI_toInt (by omega)] at d
        obtain ⟨f1, e1, r1, g1⟩ := bids_go h r hq hk hb hn1 hn2 (v := false) (j := 0) (t := 0) (fun _ => d)
        unfold f_X8_bids_j81
        rw [show hThr true true (!false) true = 0 from rfl, e1]
        exact VR_0 rfl r1 g1
      · rw [if_neg d, if_pos (Int32.not_le.mp d)]
        simp only [f_X8_bids_j85, f_X8_bids_j86, hOk, hThr, Bool.not_false, Bool.true_and, Bool.false_eq_true, if_false, if_true]
        exact VR_x (by decide) (by decide) (by decide +kernel)
/-- a withdrawal -/
theorem v_drops {G : GS} {f : Nat → Int32} (h : GI G) (r : NR G f) (x y : Int32) : VR [1, 5, 3] (f_X1_judgeDrop G x y) (f_X1_drop G x.toNatClampNeg y.toNatClampNeg).1 (f_X1_drop G x.toNatClampNeg y.toNatClampNeg).2 (f_X8_drops f x y) f := by
  have hG := GI_safe h
  have hP4 := hG.2.1
  have hS := hG.1
  have t1 : ∀ u G1 v a b, VR [1, 5, 3] 1 u G1 (f_X8_drops_j53 f x y v a b false) f := fun u G1 v a b => by
    simp only [f_X8_drops_j53, hOk, hThr, Bool.false_and, Bool.false_eq_true, if_false]
    exact VR_x (by decide) (by decide) (by decide +kernel)
  have t2 : ∀ u G1 v, VR [1, 5, 3] 1 u G1 (f_X8_drops_j28 f x y v) f := fun u G1 v => by
    unfold f_X8_drops_j28 f_X8_drops_j29 f_X8_drops_j38
    repeat' split
    all_goals exact t1 _ _ _ _ _
  rcases pl_case hG x with e | ⟨q, hq, rfl, ep, e⟩
  · have ej : f_X1_judgeDrop G x y = 1 := by simp only [f_X1_judgeDrop, f_X1_judgeDrop_j16, e, Bool.false_eq_true, if_false]
    rw [ej]
    unfold f_X8_drops
    rw [player_c hG r, e, ifB_f rfl]
    exact t2 _ _ _
  rcases si_case hG y with e' | ⟨k, hk, rfl, ek, e'⟩
  · have ej : f_X1_judgeDrop G (nI q) y = 1 := by simp only [f_X1_judgeDrop, f_X1_judgeDrop_j16, e, e', Bool.false_eq_true, if_false, if_true]
    rw [ej]
    unfold f_X8_drops
    rw [player_c hG r, site_c hG r, e, e', if_pos rfl, ifB_f rfl]
    exact t2 _ _ _
  have hk12 : k < 12 := by omega
  have hq4 : q < 4 := by omega
  have ed : f_X8_drops f (nI q) (nI k) = f_X8_drops_j29 f (nI q) (nI k) (f_X1_amountOf G q k) true := by
    unfold f_X8_drops
    rw [player_c hG r, site_c hG r, e, e', if_pos rfl, if_pos rfl, amtOf_c hG r hq hk]
  rw [ed, ep, ek]
  unfold f_X8_drops_j29 f_X8_drops_j38
  rw [ofFer hG r hk]
  cases hb : f_X1_hasBid G q k
  · have ej : f_X1_judgeDrop G (nI q) (nI k) = 5 := by simp only [f_X1_judgeDrop, e, e', ep, ek, hb, Bool.false_eq_true, if_false, if_true]
    rw [ej, if_pos ((amt_pos h.2.1 hk12 hq4).mpr hb)]
    split <;> (simp only [f_X8_drops_j53, hOk, hThr, Bool.false_and, Bool.true_and, Bool.false_eq_true, if_false, if_true]; exact VR_x (by decide) (by decide) (by decide +kernel))
  · rw [if_neg (fun z => by rw [(amt_pos h.2.1 hk12 hq4).mp z] at hb; cases hb)]
    by_cases c : gFer G k = nI q
    · have ej : f_X1_judgeDrop G (nI q) (nI k) = 3 := by simp only [f_X1_judgeDrop, f_X1_judgeDrop_j52, e, e', ep, ek, hb, c, if_true]
      rw [ej, if_pos c]
      simp only [f_X8_drops_j53, hOk, hThr, Bool.false_and, Bool.true_and, Bool.false_eq_true, if_false, if_true]
      exact VR_x (by decide) (by decide) (by decide +kernel)
    · have ej : f_X1_judgeDrop G (nI q) (nI k) = 0 := by simp only [f_X1_judgeDrop, f_X1_judgeDrop_j52, e, e', ep, ek, hb, c, if_true, if_false]
      have hb2 : gBld G k = -1 := by
        rcases Classical.em (gBld G k = -1) with z | z
        · exact z
        · exact absurd ((h.2.1.2.2.1 k hk z).2 q hq4) (bid_t.mp hb)
      have e0 : (0 : Int32).toInt = 0 := rfl
      have av := h.2.2.1 q hq
      have rb := resI_b h.2.1 hk12 hq4
      have r1 := of_NR hP4 r (q := q) (k := k) hq4 hk (x := 0) (w := 0) (b := false) rfl (by rw [ilt, e0]; constructor <;> (intro z; first | omega | cases z))
      have g1 := of_GI h hq hk hb2 (x := 0) (by rw [e0]; omega) (Or.inr c) (by rw [e0]; omega)
      rw [ej, if_neg c]
      unfold f_X8_drops_j53
      rw [if_pos (show hOk true true true true = true from rfl), nI_clamp (by omega), nI_clamp (by omega)]
      exact VR_0 rfl r1 g1
