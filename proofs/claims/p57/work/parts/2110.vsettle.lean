/-! the change: a settling -/
theorem upd_same {f : Nat → Int32} {k : Nat} {x : Int32} (h : f k = x) : upd f k x = f := by
  funext j
  by_cases c : j = k
  · rw [c, pk_us, h]
  · exact pk_un c
theorem avail_4 (f : Nat → Int32) (z : Int32) (q : Nat) : f_X8_available (upd f 4 z) q = f_X8_available f q := by
  have hs : mS (upd f 4 z) = mS f := by
    show (upd f 4 z 2).toNatClampNeg = (f 2).toNatClampNeg
    rw [pk_un (by decide)]
  have hi : ∀ x, f_X8_isSite (upd f 4 z) x = f_X8_isSite f x := fun x => by
    unfold f_X8_isSite
    rw [hs]
  have ho : ∀ x j, f_X8_of (upd f 4 z) x j = f_X8_of f x j := fun x j => by
    unfold f_X8_of f_X8_of_j17
    rw [hi, pk_un (by omega), pk_un (by omega)]
  have hr : ∀ x, f_X8_reservedOn (upd f 4 z) q x = f_X8_reservedOn f q x := fun x => by
    unfold f_X8_reservedOn f_X8_reservedOn_j24
    rw [ho, ho]
  unfold f_X8_available f_X8_available_l14
  rw [hs, pk_un (show 14 + 2 * q + 0 ≠ 4 by omega)]
  rw [lpF_it (step := f_X8_available_l14s (upd f 4 z) q) (ex := f_X8_available_l14e (upd f 4 z) q) (fun k v => v - f_X8_reservedOn f q (nI k)) (mS f) (fun k s hk => by
      show Sum.inr (s - f_X8_reservedOn (upd f 4 z) q (nI k)) = _
      rw [hr]) _ _ _ (Nat.zero_add _),
    lpF_it (step := f_X8_available_l14s f q) (ex := f_X8_available_l14e f q) (fun k v => v - f_X8_reservedOn f q (nI k)) (mS f) (fun k s hk => rfl) _ _ _ (Nat.zero_add _)]
  rfl
abbrev off4 (o : Nat → Int32) (k : Nat) : Nat → Int32 := upd (upd (upd (upd o (k * 4 + 0) 0) (k * 4 + 1) 0) (k * 4 + 2) 0) (k * 4 + 3) 0
theorem off4_k (G : GS) (k : Nat) : OffK G k (off4 (gOff G) k) := by
  refine ⟨fun q hq => ?_, fun i hi => ?_⟩
  · rcases (by omega : q = 0 ∨ q = 1 ∨ q = 2 ∨ q = 3) with e | e | e | e <;> subst e
    · exact (pk_un (by omega)).trans ((pk_un (by omega)).trans ((pk_un (by omega)).trans pk_us))
    · exact (pk_un (by omega)).trans ((pk_un (by omega)).trans pk_us)
    · exact (pk_un (by omega)).trans pk_us
    · exact pk_us
  · exact (pk_un (hi 3 (by omega))).trans ((pk_un (hi 2 (by omega))).trans ((pk_un (hi 1 (by omega))).trans (pk_un (hi 0 (by omega)))))
theorem clear_eq (G : GS) (k : Nat) : f_X1_clearBids G k = mkG (gSuit G) (gTide G) (gP G) (gMon G) (gUsed G) (gS G) (gLo G) (gHi G) (gLen G) (gBld G) (upd (gFer G) k (-1)) (off4 (gOff G) k) (gIni G) (gBank G) (gSet G) (gBlf G) := by
  unfold f_X1_clearBids f_X1_clearBids_l2
  rw [lpF_it (step := f_X1_clearBids_l2s G k) (ex := f_X1_clearBids_l2e G k) (fun q (s : (Nat → Int32) × (Nat → Int32)) => (s.1, upd s.2 (k * 4 + q) 0)) 4 (fun q s hq => rfl) 4 0 _ rfl]
  rfl
abbrev now4 (f : Nat → Int32) (k : Nat) : Nat → Int32 := upd (upd (upd (upd (upd (upd (upd (upd f (22 + 13 * k + 5 + 0) 0) (22 + 13 * k + 9 + 0) 0) (22 + 13 * k + 5 + 1) 0) (22 + 13 * k + 9 + 1) 0) (22 + 13 * k + 5 + 2) 0) (22 + 13 * k + 9 + 2) 0) (22 + 13 * k + 5 + 3) 0) (22 + 13 * k + 9 + 3) 0
theorem now4_o (f : Nat → Int32) (k : Nat) : ∀ i, (∀ p, p < 4 → i ≠ 22 + 13 * k + 5 + p ∧ i ≠ 22 + 13 * k + 9 + p) → now4 f k i = f i := fun i hi =>
  (pk_un (hi 3 (by omega)).2).trans ((pk_un (hi 3 (by omega)).1).trans ((pk_un (hi 2 (by omega)).2).trans ((pk_un (hi 2 (by omega)).1).trans ((pk_un (hi 1 (by omega)).2).trans ((pk_un (hi 1 (by omega)).1).trans ((pk_un (hi 0 (by omega)).2).trans (pk_un (hi 0 (by omega)).1)))))))
theorem now4_z (f : Nat → Int32) (k : Nat) : ∀ p, p < 4 → now4 f k (22 + 13 * k + 5 + p) = 0 ∧ now4 f k (22 + 13 * k + 9 + p) = 0 := by
  intro p hp
  rcases (by omega : p = 0 ∨ p = 1 ∨ p = 2 ∨ p = 3) with e | e | e | e <;> subst e
  · exact ⟨(pk_un (by omega)).trans ((pk_un (by omega)).trans ((pk_un (by omega)).trans ((pk_un (by omega)).trans ((pk_un (by omega)).trans ((pk_un (by omega)).trans ((pk_un (by omega)).trans pk_us)))))), (pk_un (by omega)).trans ((pk_un (by omega)).trans ((pk_un (by omega)).trans ((pk_un (by omega)).trans ((pk_un (by omega)).trans ((pk_un (by omega)).trans pk_us)))))⟩
  · exact ⟨(pk_un (by omega)).trans ((pk_un (by omega)).trans ((pk_un (by omega)).trans ((pk_un (by omega)).trans ((pk_un (by omega)).trans pk_us)))), (pk_un (by omega)).trans ((pk_un (by omega)).trans ((pk_un (by omega)).trans ((pk_un (by omega)).trans pk_us)))⟩
  · exact ⟨(pk_un (by omega)).trans ((pk_un (by omega)).trans ((pk_un (by omega)).trans pk_us)), (pk_un (by omega)).trans ((pk_un (by omega)).trans pk_us)⟩
  · exact ⟨(pk_un (by omega)).trans pk_us, pk_us⟩
/-- the reference's settling, its loop done -/
theorem setl_eq (f : Nat → Int32) {k : Nat} (hk : k < 12) (w : Nat) (b bld : Bool) (a t : Int32) : f_X8_settles_l94 (nI k) 4 0 w b bld a f t = f_X8_settles_l94x (nI k) w b bld a (now4 f k) t := by
  unfold f_X8_settles_l94
  have hc : (nI k).toNatClampNeg = k := nI_clamp (by omega)
  rw [lpF_it (step := f_X8_settles_l94s (nI k)) (ex := f_X8_settles_l94e (nI k)) (fun q (s : Nat × Bool × Bool × Int32 × (Nat → Int32) × Int32) => (s.1, s.2.1, s.2.2.1, s.2.2.2.1, upd (upd s.2.2.2.2.1 (22 + 13 * k + 5 + q) 0) (22 + 13 * k + 9 + q) 0, s.2.2.2.2.2)) 4 (fun q s hq => by
    show f_X8_settles_l94b (nI k) q s.1 s.2.1 s.2.2.1 s.2.2.2.1 s.2.2.2.2.1 s.2.2.2.2.2 = _
    unfold f_X8_settles_l94b
    rw [hc]) 4 0 _ rfl]
  rfl
/-- what is paid goes from the one to the other -/
theorem setl_pay (f f1 : Nat → Int32) {k w : Nat} (hk : k < 12) (hw : w < 4) (hz : ∀ i, (∀ p, p < 4 → i ≠ 22 + 13 * k + 5 + p ∧ i ≠ 22 + 13 * k + 9 + p) → f1 i = f i) (b bld : Bool) (u t : Int32) : f_X8_settles_j167 (nI k) w b bld u (upd f1 (22 + 13 * k + 4) (-1)) t = (bI bld, upd (upd (upd (upd (upd (upd f1 (22 + 13 * k + 4) (-1)) (14 + 2 * w + 0) (f (14 + 2 * w) - u)) 3 (f 3 + u)) 4 (f 4 + 1)) 5 (f 5 + bI b)) (22 + 13 * k + 3) (if bld = true then nI w else -1), t) := by
  have hc : (nI k).toNatClampNeg = k := nI_clamp (by omega)
  have e1 : upd f1 (22 + 13 * k + 4) (-1) (14 + 2 * w + 0) = f (14 + 2 * w) := (pk_un (by omega)).trans (hz _ (fun p hp => by omega))
  have e2 : ∀ z, upd (upd f1 (22 + 13 * k + 4) (-1)) (14 + 2 * w + 0) z 3 = f 3 := fun z => (pk_un (by omega)).trans ((pk_un (by omega)).trans (hz _ (fun p hp => by omega)))
  have e3 : ∀ z y, upd (upd (upd f1 (22 + 13 * k + 4) (-1)) (14 + 2 * w + 0) z) 3 y 4 = f 4 := fun z y => (pk_un (by omega)).trans ((pk_un (by omega)).trans ((pk_un (by omega)).trans (hz _ (fun p hp => by omega))))
  have e4 : ∀ z y x, upd (upd (upd (upd f1 (22 + 13 * k + 4) (-1)) (14 + 2 * w + 0) z) 3 y) 4 x 5 = f 5 := fun z y x => (pk_un (by omega)).trans ((pk_un (by omega)).trans ((pk_un (by omega)).trans ((pk_un (by omega)).trans (hz _ (fun p hp => by omega)))))
  unfold f_X8_settles_j167
  rw [e1, e2, e3, e4]
  unfold f_X8_settles_j222 f_X8_settles_j244 f_X8_settles_j255
  rw [hc]
  cases b <;> cases bld <;> rfl
theorem upd_m1 {G : GS} {k : Nat} (hb : gBld G k = -1) : upd (gBld G) k (-1) = gBld G := upd_same hb
abbrev gCx (G : GS) (k : Nat) : GS := mkG (gSuit G) (gTide G) (gP G) (gMon G) (gUsed G) (gS G) (gLo G) (gHi G) (gLen G) (gBld G) (upd (gFer G) k (-1)) (off4 (gOff G) k) (gIni G) (gBank G) (gSet G + 1) (gBlf G + 1)
theorem gSt_ff {G : GS} {k w : Nat} {u : Int32} (hb : gBld G k = -1) : gSt G k w u (bI false) (-1) (off4 (gOff G) k) = mkG (gSuit G) (gTide G) (gP G) (upd (gMon G) w (gMon G w - u)) (gUsed G) (gS G) (gLo G) (gHi G) (gLen G) (gBld G) (upd (gFer G) k (-1)) (off4 (gOff G) k) (gIni G) (gBank G + u) (gSet G + 1) (gBlf G) := by
  have e1 : upd (gBld G) k (-1) = gBld G := upd_same hb
  have e2 : gBlf G + bI false = gBlf G := Int32.add_zero _
  show mkG (gSuit G) (gTide G) (gP G) (upd (gMon G) w (gMon G w - u)) (gUsed G) (gS G) (gLo G) (gHi G) (gLen G) (upd (gBld G) k (-1)) (upd (gFer G) k (-1)) (off4 (gOff G) k) (gIni G) (gBank G + u) (gSet G + 1) (gBlf G + bI false) = _
  rw [e1, e2]
theorem gSt_ft {G : GS} {k w : Nat} {u v : Int32} : gSt G k w u (bI false) v (off4 (gOff G) k) = mkG (gSuit G) (gTide G) (gP G) (upd (gMon G) w (gMon G w - u)) (gUsed G) (gS G) (gLo G) (gHi G) (gLen G) (upd (gBld G) k v) (upd (gFer G) k (-1)) (off4 (gOff G) k) (gIni G) (gBank G + u) (gSet G + 1) (gBlf G) := by
  have e2 : gBlf G + bI false = gBlf G := Int32.add_zero _
  show mkG (gSuit G) (gTide G) (gP G) (upd (gMon G) w (gMon G w - u)) (gUsed G) (gS G) (gLo G) (gHi G) (gLen G) (upd (gBld G) k v) (upd (gFer G) k (-1)) (off4 (gOff G) k) (gIni G) (gBank G + u) (gSet G + 1) (gBlf G + bI false) = _
  rw [e2]
theorem gSt_tf {G : GS} {k w : Nat} {u : Int32} (hb : gBld G k = -1) : gSt G k w u (bI true) (-1) (off4 (gOff G) k) = mkG (gSuit G) (gTide G) (gP G) (upd (gMon G) w (gMon G w - u)) (gUsed G) (gS G) (gLo G) (gHi G) (gLen G) (gBld G) (upd (gFer G) k (-1)) (off4 (gOff G) k) (gIni G) (gBank G + u) (gSet G + 1) (gBlf G + 1) := by
  have e1 : upd (gBld G) k (-1) = gBld G := upd_same hb
  show mkG (gSuit G) (gTide G) (gP G) (upd (gMon G) w (gMon G w - u)) (gUsed G) (gS G) (gLo G) (gHi G) (gLen G) (upd (gBld G) k (-1)) (upd (gFer G) k (-1)) (off4 (gOff G) k) (gIni G) (gBank G + u) (gSet G + 1) (gBlf G + 1) = _
  rw [e1]
/-- the class's settling, with what is paid -/
theorem close_eq {G : GS} {k w : Nat} (hw : w < 4) (ew : f_X1_winnerOf G k = nI w) (hb : gBld G k = -1) : f_X1_close G k = (f_X1_buildsWith G w k, gSt G k w (if f_X1_hasBluff G w k = true then imin 5 (f_X1_availableTo (gSt G k w 0 0 (-1) (off4 (gOff G) k)) w) else f_X1_amountOf G w k) (bI (f_X1_hasBluff G w k)) (if f_X1_buildsWith G w k = true then nI w else -1) (off4 (gOff G) k)) := by
  have hc : (nI w).toNatClampNeg = w := nI_clamp (by omega)
  have ea : ∀ (G2 : GS), gMon G2 = gMon G → gS G2 = gS G → gOff G2 = off4 (gOff G) k → f_X1_availableTo G2 w = f_X1_availableTo (gSt G k w 0 0 (-1) (off4 (gOff G) k)) w := fun G2 h1 h2 h3 => by
    rw [avail_it, avail_it]
    show itF (fun k v => v - imax (gOff G2 (k * 4 + w)) 0) (gS G2) 0 (gMon G2 w) = itF (fun k' v => v - imax (off4 (gOff G) k (k' * 4 + w)) 0) (gS G) 0 (upd (gMon G) w (gMon G w - 0) w)
    rw [h1, h2, h3, pk_us, Int32.sub_zero]
  unfold f_X1_close lt_
  dsimp only
  rw [ew, hc, clear_eq]
  cases hbl : f_X1_hasBluff G w k
  · rw [ifB_f rfl, ifB_f rfl]
    cases hbd : f_X1_buildsWith G w k
    · rw [ifB_f rfl, gSt_ff hb]
      rfl
    · rw [if_pos rfl, gSt_ft]
      rfl
  · rw [if_pos rfl, if_pos rfl]
    show f_X1_close_j82 k (nI w) (f_X1_buildsWith G w k) (f_X1_pay (gCx G k) w (imin 5 (f_X1_availableTo (gCx G k) w))) = _
    rw [ea (gCx G k) rfl rfl rfl]
    cases hbd : f_X1_buildsWith G w k
    · rw [ifB_f rfl, gSt_tf hb]
      rfl
    · rw [if_pos rfl]
      rfl
theorem imin5 : ∀ n, n < 101 → (imin 5 (nI n)).toInt = min 5 n := by decide +kernel
theorem v_settles {G : GS} {f : Nat → Int32} (h : GI G) (r : NR G f) (x : Int32) : VR [1, 3, 5] (f_X1_judgeSettling G x) (bI (f_X1_close G x.toNatClampNeg).1) (f_X1_close G x.toNatClampNeg).2 (f_X8_settles f x) f := by
  have hG := GI_safe h
  have hP4 := hG.2.1
  have hS := hG.1
  have h1 := h.2.1
  rcases jS_c hG h1 (GI_fer h) r x with ⟨a, b⟩ | ⟨k, hk, rfl, e1, e, ⟨a, b⟩ | ⟨b, ⟨a, g⟩ | ⟨a, w, hw, ew, g⟩⟩⟩
  · have ed : f_X8_isDone f x = false := by simp only [f_X8_isDone, f_X8_isDone_j22, f_X8_isDone_j23, site_c hG r, b, Bool.false_eq_true, if_false]
    rw [a]
    simp only [f_X8_settles, f_X8_settles_j19, f_X8_settles_j39, f_X8_settles_j40, hOk, hThr, site_c hG r, b, ed, Bool.false_eq_true, Bool.false_and, if_false]
    exact VR_x (by decide) (by decide) (by decide +kernel)
  · rw [a]
    simp only [f_X8_settles, f_X8_settles_j19, f_X8_settles_j39, f_X8_settles_j40, hOk, hThr, site_c hG r, e, done_c hG r hk, b, Bool.false_eq_true, Bool.true_and, Bool.false_and, if_false, if_true]
    split <;> exact VR_x (by decide) (by decide) (by decide +kernel)
  · have h12 : k < 12 := by omega
    rw [a]
    simp only [f_X8_settles, f_X8_settles_j19, f_X8_settles_j39, f_X8_settles_j40, hOk, hThr, site_c hG r, e, done_c hG r hk, b, bids_c hG h1 r hk, nobid_le hG h1 h12 g, Bool.false_eq_true, Bool.true_and, Bool.false_and, if_false, if_true]
    exact VR_x (by decide) (by decide) (by decide +kernel)
  · have h12 : k < 12 := by omega
    have hw4 : w < 4 := by omega
    have hb : gBld G k = -1 := by
      rcases Classical.em (gBld G k = -1) with z | z
      · exact z
      · rw [hasBridge_t.mpr z] at b; cases b
    have hwin : f_X8_winner f (nI k) = nI w := (win_c hG h1 r hk ⟨w, hw4, g⟩).trans ew
    have hc : (nI w).toNatClampNeg = w := nI_clamp (by omega)
    have es : f_X8_settles f (nI k) = f_X8_settles_l94x (nI k) w (f_X1_hasBluff G w k) (f_X1_buildsWith G w k) (f_X1_amountOf G w k) (now4 f k) 0 := by
      unfold f_X8_settles f_X8_settles_j19
      rw [site_c hG r, e, done_c hG r hk, b, ifB_f rfl, if_pos rfl, bids_c hG h1 r hk, if_neg (bid_nle hG h1 h12 hw4 g)]
      unfold f_X8_settles_j40 f_X8_settles_j73
      rw [if_pos (show hOk true true true true = true from rfl), hwin, hc, ofBlf hG r hk hw4, ofAmt hG r hk hw4, build_c hG h.1 h1 r hk hw ew g, setl_eq f h12, setl_eq f h12]
      cases f_X1_hasBluff G w k
      · rw [if_neg (show ¬ bI false = 1 by decide)]; rfl
      · rw [if_pos (show bI true = 1 from rfl)]; rfl
    rw [a, e1, es, close_eq hw4 ew hb]
    unfold f_X8_settles_l94x
    rw [show (nI k).toNatClampNeg = k from e1]
    have ho := off4_k G k
    have av := h.2.2.1 w hw
    have avl := avI_le h hw
    have rb := resI_b h1 h12 hw4
    have ha := amt_int h1 h12 hw4
    have e0 : (0 : Int32).toInt = 0 := rfl
    have e5 : (5 : Int32).toInt = 5 := rfl
    have hv : (if f_X1_buildsWith G w k = true then nI w else (-1 : Int32)) = -1 ∨ (if f_X1_buildsWith G w k = true then nI w else (-1 : Int32)) = nI w := by
      split
      · exact Or.inr rfl
      · exact Or.inl rfl
    cases hbl : f_X1_hasBluff G w k
    · rw [ifB_f rfl, ifB_f rfl, setl_pay f (now4 f k) h12 hw4 (now4_o f k)]
      have hn : ¬ gOff G (k * 4 + w) < 0 := fun z => by rw [bluff_t.mpr z] at hbl; cases hbl
      rw [ilt, e0] at hn
      have eu : (f_X1_amountOf G w k).toInt = resI G w k := by rw [ha]; unfold resI; omega
      exact VR_0 rfl (st_NR hP4 r hk hw ho (now4_o f k) (now4_z f k)) (st_GI h hk hw ho hv (by rw [eu]; exact rb.1) (by rw [eu]; omega))
    · rw [if_pos rfl, if_pos rfl]
      have hn := bluff_t.mp hbl
      rw [ilt, e0] at hn
      have er : resI G w k = 0 := by unfold resI; omega
      -- what is free once the bids are gone
      have G0 := st_GI h hk hw (u := 0) (n := 0) (v := -1) ho (Or.inl rfl) (by rw [e0]; omega) (by rw [e0]; omega)
      have N0 := st_NR hP4 r hk hw (u := 0) (n := 0) (v := -1) ho (now4_o f k) (now4_z f k)
      have ef : upd (upd (upd (upd (upd (upd (now4 f k) (22 + 13 * k + 4) (-1)) (14 + 2 * w + 0) (f (14 + 2 * w) - 0)) 3 (f 3 + 0)) 4 (f 4 + 1)) 5 (f 5 + 0)) (22 + 13 * k + 3) (-1) = upd (upd (now4 f k) (22 + 13 * k + 4) (-1)) 4 (f 4 + 1) := by
        have lo : ∀ i, (∀ p, p < 4 → i ≠ 22 + 13 * k + 5 + p ∧ i ≠ 22 + 13 * k + 9 + p) → now4 f k i = f i := now4_o f k
        rw [Int32.sub_zero, Int32.add_zero, Int32.add_zero]
        rw [upd_same (f := upd (now4 f k) (22 + 13 * k + 4) (-1)) (k := 14 + 2 * w + 0) (x := f (14 + 2 * w)) ((pk_un (by omega)).trans (lo (14 + 2 * w) (fun p hp => by omega)))]
        rw [upd_same (f := upd (now4 f k) (22 + 13 * k + 4) (-1)) (k := 3) ((pk_un (by omega)).trans (lo _ (fun p hp => by omega)))]
        rw [upd_same (k := 5) ((pk_un (by omega)).trans ((pk_un (by omega)).trans (lo _ (fun p hp => by omega))))]
        exact upd_same ((pk_un (by omega)).trans ((pk_un (by omega)).trans ((lo _ (fun p hp => by omega)).trans ((r.2.2.2 k hk).1.2.2.2.1.trans hb))))
      rw [ef] at N0
      have eav : f_X8_available (upd (now4 f k) (22 + 13 * k + 4) (-1)) w = f_X1_availableTo (gSt G k w 0 0 (-1) (off4 (gOff G) k)) w := (avail_4 _ _ _).symm.trans (avail_c (GI_safe G0) G0.2.1 N0 hw)
      rw [eav, setl_pay f (now4 f k) h12 hw4 (now4_o f k)]
      have ei := avail_int (GI_safe G0) G0.2.1 hw4 (GI_mon G0 hw)
      have b0 := G0.2.2.1 w hw
      have b1 := avI_le G0 hw
      have e9 : avI (gSt G k w 0 0 (-1) (off4 (gOff G) k)) w = avI G w := by
        unfold avI
        show (upd (gMon G) w (gMon G w - 0) w).toInt - sumI (resI (gSt G k w 0 0 (-1) (off4 (gOff G) k)) w) (gS G) = _
        rw [pk_us, Int32.sub_zero, sumI_c (h := resI G w) (gS G) (fun k' hk' => ?_)]
        show max (off4 (gOff G) k (k' * 4 + w)).toInt 0 = resI G w k'
        by_cases c : k' = k
        · subst c
          rw [ho.1 w hw4, er]
          rfl
        · rw [ho.2 _ (fun q hq z => c (by omega))]
          rfl
      obtain ⟨n, hn2, en⟩ := vp_in_of (x := f_X1_availableTo (gSt G k w 0 0 (-1) (off4 (gOff G) k)) w) (n := 101) (vp_of_int (by rw [ei]; exact b0) (by rw [ei]; omega)) (by decide)
      have eu : (imin 5 (f_X1_availableTo (gSt G k w 0 0 (-1) (off4 (gOff G) k)) w)).toInt = min 5 (avI G w) := by
        rw [en, imin5 n hn2]
        rw [en, nI_toInt (by omega), e9] at ei
        omega
      exact VR_0 rfl (st_NR hP4 r hk hw ho (now4_o f k) (now4_z f k)) (st_GI h hk hw ho hv (by rw [eu]; omega) (by rw [eu]; omega))
