/-! the text of a site, on both sides -/
def LN (T : TX) (li : Nat → Int32) (n : Nat) : Prop := T.2 = n ∧ ∀ j, j < n → li j = nI (T.1 j) ∧ T.1 j < 128
theorem LN_C {T : TX} {li : Nat → Int32} {n c : Nat} (h : LN T li n) (hc : c < 128) : LN (wC c T) (upd li n (nI c)) (n + 1) := by
  obtain ⟨h1, h2⟩ := h
  refine ⟨by rw [← h1]; rfl, fun j hj => ?_⟩
  show upd li n (nI c) j = nI (sb_cat T.1 T.2 (fun _ => c) j) ∧ sb_cat T.1 T.2 (fun _ => c) j < 128
  unfold sb_cat
  by_cases z : j = n
  · subst z
    rw [pk_us, if_neg (by omega)]
    exact ⟨rfl, hc⟩
  · rw [pk_un z, if_pos (by omega)]
    exact h2 j (by omega)
theorem nI_div10 {k : Nat} (hk : k < 100) : nI k / 10 = nI (k / 10) := by
  revert k; decide +kernel
theorem nI_rem10 {k : Nat} (hk : k < 100) : nI k - nI k / 10 * 10 = nI (k % 10) := by
  revert k; decide +kernel
theorem LN_N {T : TX} {li : Nat → Int32} {n k : Nat} {y : Int32} (h : LN T li n) (hk : k < 100) (hy : y = nI k) : LN (wN k T) (f_X8_writesNumber li n y).2 (f_X8_writesNumber li n y).1 := by
  subst hy
  obtain ⟨h1, h2⟩ := h
  have g : 10 ≤ nI k ↔ 10 ≤ k := by
    rw [ile, nI_toInt (by omega)]
    show (10 : Int) ≤ k ↔ _
    omega
  have e48 : ∀ m, 48 + nI m = nI (48 + m) := fun m => nI_add 48 m
  unfold f_X8_writesNumber f_X8_writesNumber_j22
  rw [nI_rem10 hk, nI_div10 hk, e48, e48]
  by_cases c : 10 ≤ k
  · rw [if_pos (g.mpr c)]
    refine ⟨?_, fun j hj => ?_⟩
    · show T.2 + dl k = n + 1 + 1
      unfold dl
      rw [if_neg (by omega), h1]
    · have hj : j < n + 1 + 1 := hj
      show upd (upd li n (nI (48 + k / 10))) (n + 1) (nI (48 + k % 10)) j = nI (sb_cat T.1 T.2 (digs k) j) ∧ sb_cat T.1 T.2 (digs k) j < 128
      unfold sb_cat digs
      rw [h1]
      by_cases z : j = n + 1
      · subst z
        rw [pk_us, if_neg (by omega), if_neg (by omega), if_neg (by omega)]
        exact ⟨rfl, by omega⟩
      · rw [pk_un z]
        by_cases y : j = n
        · subst y
          rw [pk_us, if_neg (by omega), if_neg (by omega), if_pos (by omega), show k / 10 % 10 = k / 10 by omega]
          exact ⟨rfl, by omega⟩
        · rw [pk_un y, if_pos (by omega)]
          exact h2 j (by omega)
  · rw [if_neg (fun z => c (g.mp z))]
    refine ⟨?_, fun j hj => ?_⟩
    · show T.2 + dl k = n + 1
      unfold dl
      rw [if_pos (by omega), h1]
    · have hj : j < n + 1 := hj
      show upd li n (nI (48 + k % 10)) j = nI (sb_cat T.1 T.2 (digs k) j) ∧ sb_cat T.1 T.2 (digs k) j < 128
      unfold sb_cat digs
      rw [h1]
      by_cases y : j = n
      · subst y
        rw [pk_us, if_neg (by omega), if_pos (by omega)]
        exact ⟨rfl, by omega⟩
      · rw [pk_un y, if_pos (by omega)]
        exact h2 j (by omega)
theorem bid_txt {G : GS} {f : Nat → Int32} (h : GI G) (r : NR G f) {T : TX} {li : Nat → Int32} {n k q : Nat} (hk : k < gS G) (hq : q < 4) (a : LN T li n) : LN (dBid G q k T) (f_X8_writesBid f li n q (nI k)).2 (f_X8_writesBid f li n q (nI k)).1 := by
  have hG := GI_safe h
  have hS := hG.1
  have am := amt_int h.2.1 (show k < 12 by omega) hq
  have ob := h.2.1.1 k (by omega) q hq
  obtain ⟨m, hm, em⟩ := vp_in_of (x := f_X1_amountOf G q k) (n := 100) (vp_of_int (by omega) (by omega)) (by omega)
  unfold dBid f_X8_writesBid f_X8_writesBid_j62 f_X8_writesBid_j87 lt_
  rw [ofAmt hG r hk hq, ofBlf hG r hk hq, ofFer hG r hk, em, nI_clamp (by omega)]
  have s1 := LN_N (LN_C (c := 32) a (by decide)) (show q < 100 by omega) rfl
  have e32 : nI 32 = 32 := rfl
  rw [e32] at s1
  generalize f_X8_writesNumber (upd li n 32) (n + 1) (nI q) = y1 at s1 ⊢
  have s2 := LN_N (LN_C (c := 58) s1 (by decide)) hm rfl
  have e58 : nI 58 = 58 := rfl
  rw [e58] at s2
  dsimp only
  generalize f_X8_writesNumber (upd y1.2 y1.1 58) (y1.1 + 1) (nI m) = y2 at s2 ⊢
  generalize wN m (wC 58 (wN q (wC 32 T))) = T4 at s2 ⊢
  have fin : ∀ T5 p l, LN T5 l p → LN (if gFer G k = nI q then wC 42 T5 else T5) (if gFer G k = nI q then (p + 1, upd l p 42) else (p, l)).2 (if gFer G k = nI q then (p + 1, upd l p 42) else (p, l)).1 := fun T5 p l h5 => by
    split
    · exact LN_C (c := 42) h5 (by decide)
    · exact h5
  cases e : f_X1_hasBluff G q k
  · rw [if_neg (show ¬ bI false = 1 by decide), if_neg (show ¬ false = true by decide)]
    exact fin _ _ _ s2
  · rw [if_pos (show bI true = 1 by decide), if_pos rfl]
    exact fin _ _ _ (LN_C (c := 63) s2 (by decide))
