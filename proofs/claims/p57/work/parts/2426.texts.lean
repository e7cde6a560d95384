/-! texts put together, and the line of a site -/
def wA (S T : TX) : TX := (sb_cat T.1 T.2 S.1, T.2 + S.2)
def wS (w : Nat → Nat) (n : Nat) (T : TX) : TX := (sb_cat T.1 T.2 w, T.2 + n)
theorem wC_A (c : Nat) (T : TX) : wC c T = wA (fun _ => c, 1) T := rfl
theorem wN_A (k : Nat) (T : TX) : wN k T = wA (digs k, dl k) T := rfl
theorem wS_A (w : Nat → Nat) (n : Nat) (T : TX) : wS w n T = wA (w, n) T := rfl
theorem wA_as (S P T : TX) : wA (wA S P) T = wA S (wA P T) := by
  unfold wA
  refine Prod.ext ?_ (Nat.add_assoc _ _ _).symm
  funext j
  show (if j < T.2 then T.1 j else (if j - T.2 < P.2 then P.1 (j - T.2) else S.1 (j - T.2 - P.2))) = (if j < T.2 + P.2 then (if j < T.2 then T.1 j else P.1 (j - T.2)) else S.1 (j - (T.2 + P.2)))
  by_cases h : j < T.2
  · rw [if_pos h, if_pos (by omega), if_pos h]
  · rw [if_neg h]
    by_cases g : j - T.2 < P.2
    · rw [if_pos g, if_pos (by omega), if_neg h]
    · rw [if_neg g, if_neg (by omega)]
      exact congrArg S.1 (by omega)
/-- the same text, where it is text -/
def TE (T T' : TX) : Prop := T.2 = T'.2 ∧ ∀ j, j < T.2 → T.1 j = T'.1 j
theorem TE_rf (T : TX) : TE T T := ⟨rfl, fun _ _ => rfl⟩
theorem TE_tr {T T' T'' : TX} (h : TE T T') (g : TE T' T'') : TE T T'' := ⟨h.1.trans g.1, fun j hj => (h.2 j hj).trans (g.2 j (by rw [← h.1]; exact hj))⟩
theorem TE_A {S S' T T' : TX} (h : TE S S') (g : TE T T') : TE (wA S T) (wA S' T') := by
  obtain ⟨h1, h2⟩ := h
  obtain ⟨g1, g2⟩ := g
  refine ⟨by show T.2 + S.2 = T'.2 + S'.2; omega, fun j hj => ?_⟩
  have hj : j < T.2 + S.2 := hj
  show (if j < T.2 then T.1 j else S.1 (j - T.2)) = (if j < T'.2 then T'.1 j else S'.1 (j - T'.2))
  by_cases c : j < T.2
  · rw [if_pos c, if_pos (by omega)]
    exact g2 j c
  · rw [if_neg c, if_neg (by omega), g1]
    rw [← g1]
    exact h2 _ (by omega)
theorem TE_N {k : Nat} {T T' : TX} (g : TE T T') : TE (wN k T) (wN k T') := TE_A (TE_rf (digs k, dl k)) g
theorem TE_0 {S T : TX} (h : S.2 = 0) : TE (wA S T) T := ⟨by show T.2 + S.2 = T.2; omega, fun j hj => by
  have hj : j < T.2 + S.2 := hj
  show (if j < T.2 then T.1 j else _) = _
  rw [if_pos (by omega)]⟩
theorem TE_00 {S T : TX} (h : T.2 = 0) : TE (wA S T) S := ⟨by show T.2 + S.2 = S.2; omega, fun j hj => by
  show (if j < T.2 then T.1 j else S.1 (j - T.2)) = _
  rw [if_neg (by omega), h, Nat.sub_zero]⟩
abbrev litT (c n : Nat) : TX := (fun _ => c, n)
theorem lit_C (c : Nat) (T : TX) : wA (litT c 1) T = wC c T := rfl
/-- the marks behind a bid, the bid's piece, the head of a line -/
def marksT (bl fe : Bool) : TX := wA (if fe = true then litT 42 1 else litT 0 0) (wA (if bl = true then litT 63 1 else litT 0 0) (T0))
def pieceT (q b : Nat) (M : TX) : TX := wA M (wN b (wA (litT 58 1) (wN q (wA (litT 32 1) T0))))
def headT (lo hi len : Nat) (B : TX) : TX := wA B (wN len (wA (litT 47 1) (wN hi (wA (litT 45 1) (wN lo T0)))))
def builtT (w : Nat) : TX := wN w (wA (litT 61 1) T0)
theorem piece_e (q b : Nat) (bl fe : Bool) (T : TX) : TE (wA (pieceT q b (marksT bl fe)) T) ((fun T5 => if fe = true then wC 42 T5 else T5) ((fun T4 => if bl = true then wC 63 T4 else T4) (wN b (wC 58 (wN q (wC 32 T)))))) := by
  unfold pieceT
  rw [wA_as, wN_A, wA_as, wA_as, wN_A, wA_as, wA_as]
  have e0 : TE (wA T0 T) T := TE_0 rfl
  have e1 : TE (wA (litT 32 1) (wA T0 T)) (wC 32 T) := TE_A (TE_rf _) e0
  have e2 : TE (wA (digs q, dl q) (wA (litT 32 1) (wA T0 T))) (wN q (wC 32 T)) := TE_A (TE_rf _) e1
  have e3 : TE (wA (litT 58 1) (wA (digs q, dl q) (wA (litT 32 1) (wA T0 T)))) (wC 58 (wN q (wC 32 T))) := TE_A (TE_rf _) e2
  have e4 : TE (wA (digs b, dl b) (wA (litT 58 1) (wA (digs q, dl q) (wA (litT 32 1) (wA T0 T))))) (wN b (wC 58 (wN q (wC 32 T)))) := TE_A (TE_rf _) e3
  revert e4
  generalize wA (digs b, dl b) (wA (litT 58 1) (wA (digs q, dl q) (wA (litT 32 1) (wA T0 T)))) = Y
  generalize wN b (wC 58 (wN q (wC 32 T))) = Z
  intro e4
  unfold marksT
  rw [wA_as, wA_as]
  have f0 : TE (wA T0 Y) Z := TE_tr (TE_0 rfl) e4
  cases bl <;> cases fe
  · exact TE_tr (TE_0 rfl) (TE_tr (TE_0 rfl) f0)
  · exact TE_A (TE_rf _) (TE_tr (TE_0 rfl) f0)
  · exact TE_tr (TE_0 rfl) (TE_A (TE_rf _) f0)
  · exact TE_A (TE_rf _) (TE_A (TE_rf _) f0)
theorem head_e (lo hi len : Nat) (f : Nat → Nat) : TE (wN len (wA (litT 47 1) (wN hi (wA (litT 45 1) (wN lo T0))))) (wN len (wC 47 (wN hi (wC 45 (wN lo (f, 0)))))) :=
  TE_N (TE_A (TE_rf _) (TE_N (TE_A (TE_rf _) (TE_N ⟨rfl, fun j hj => absurd hj (Nat.not_lt_zero j)⟩))))
def bidT (G : GS) (k q : Nat) : TX := if f_X1_hasBid G q k = true then pieceT q (f_X1_amountOf G q k).toNatClampNeg (marksT (f_X1_hasBluff G q k) (decide (gFer G k = nI q))) else litT 0 0
theorem bids_e (G : GS) (k : Nat) : ∀ n j T T', TE T T' → TE (itF (fun q T => wA (bidT G k q) T) n j T) (dBids G k n j T') := by
  intro n
  induction n with
  | zero => intro j T T' h; exact h
  | succ n ih =>
    intro j T T' h
    show TE (itF (fun q T => wA (bidT G k q) T) n (j + 1) (wA (bidT G k j) T)) (dBids G k n (j + 1) (if f_X1_hasBid G j k = true then dBid G j k T' else T'))
    refine ih (j + 1) _ _ ?_
    unfold bidT
    by_cases c : f_X1_hasBid G j k = true
    · rw [if_pos c, if_pos c]
      refine TE_tr (TE_A (TE_rf _) h) (TE_tr (piece_e j _ (f_X1_hasBluff G j k) (decide (gFer G k = nI j)) T') ?_)
      unfold dBid lt_
      dsimp only
      by_cases d : gFer G k = nI j
      · rw [if_pos d, decide_eq_true d, if_pos rfl]; exact TE_rf _
      · rw [if_neg d, decide_eq_false d, if_neg (by decide)]; exact TE_rf _
    · rw [if_neg c, if_neg c]
      exact TE_tr (TE_0 rfl) h
/-- the law's line of a site is the class's -/
def lineT (G : GS) (k : Nat) : TX := itF (fun q T => wA (bidT G k q) T) (gP G) 0 (headT (gLo G k) (gHi G k) (gLen G k).toNatClampNeg (if f_X1_hasBridge G k = true then builtT (gBld G k).toNatClampNeg else litT 0 0))
theorem line_e {G : GS} (hI : GI G) {k : Nat} (hk : k < gS G) (f : Nat → Nat) : TE (lineT G k) (dSite G k (f, 0)) := by
  have hb := head_e (gLo G k) (gHi G k) (gLen G k).toNatClampNeg f
  unfold lineT dSite lt_ headT
  dsimp only
  by_cases c : f_X1_hasBridge G k = true
  · rw [if_pos c, if_pos c]
    have nb : gBld G k ≠ -1 := fun e => by
      unfold f_X1_hasBridge f_X1_hasBridge_j15 at c
      rw [if_pos e] at c
      cases c
    have no := (hI.2.1.2.2.1 k hk nb).2
    have h4 := (GI_safe hI).2.1
    have same : ∀ n j T T', n + j ≤ gP G → TE T T' → TE (itF (fun q T => wA (bidT G k q) T) n j T) T' := by
      intro n
      induction n with
      | zero => intro j T T' _ h; exact h
      | succ n ih =>
        intro j T T' hj h
        refine ih (j + 1) _ _ (by omega) ?_
        have nbid : f_X1_hasBid G j k = false := by
          unfold f_X1_hasBid f_X1_hasBid_j18
          rw [if_pos (no j (by omega))]
        show TE (wA (bidT G k j) T) T'
        unfold bidT
        rw [nbid, if_neg (by decide)]
        exact TE_tr (TE_0 rfl) h
    refine same (gP G) 0 _ _ (by omega) ?_
    unfold builtT
    rw [wN_A, wA_as, wA_as]
    refine TE_A (TE_rf _) (TE_A (TE_rf _) (TE_tr (TE_0 rfl) hb))
  · rw [if_neg c, if_neg c]
    exact bids_e G k (gP G) 0 _ _ (TE_tr (TE_0 rfl) hb)
