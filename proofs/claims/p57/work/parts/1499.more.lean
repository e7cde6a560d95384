/-! what a judge answers; a play leaves places as they are -/
theorem X1_judgePlayer_lt (G : GS) (x : Int32) : f_X1_judgePlayer G x < 6 := by
  simp only [f_X1_judgePlayer, f_X1_judgePlayer_j31, f_X1_judgePlayer_j10]
  repeat' split
  all_goals first | exact X1_judgeBluff_lt _ _ _ _ | decide
theorem X1_judgeSite_lt (G : GS) (x : Int32) (y : Int32) (w : Int32) : f_X1_judgeSite G x y w < 6 := by
  simp only [f_X1_judgeSite, f_X1_judgeSite_j77, f_X1_judgeSite_j34, f_X1_judgeSite_j14]
  repeat' split
  all_goals first | exact X1_judgeBluff_lt _ _ _ _ | decide
theorem X1_judgeSuit_lt (G : GS) (x : Int32) (y : Int32) : f_X1_judgeSuit G x y < 6 := by
  simp only [f_X1_judgeSuit, f_X1_judgeSuit_j29, f_X1_judgeSuit_j20]
  repeat' split
  all_goals first | exact X1_judgeBluff_lt _ _ _ _ | decide
theorem X1_judgeTide_lt (x : Int32) : f_X1_judgeTide x < 6 := by
  simp only [f_X1_judgeTide, f_X1_judgeTide_j19, f_X1_judgeTide_j10]
  repeat' split
  all_goals first | exact X1_judgeBluff_lt _ _ _ _ | decide
theorem X1_judgeBid_lt (G : GS) (x : Int32) (y : Int32) (w : Int32) : f_X1_judgeBid G x y w < 6 := by
  simp only [f_X1_judgeBid, f_X1_judgeBid_j49]
  repeat' split
  all_goals first | exact X1_judgeBluff_lt _ _ _ _ | decide
theorem X1_judgeFerry_lt (G : GS) (x : Int32) (y : Int32) : f_X1_judgeFerry G x y < 6 := by
  simp only [f_X1_judgeFerry, f_X1_judgeFerry_j104, f_X1_judgeFerry_j90, f_X1_judgeFerry_j85, f_X1_judgeFerry_j51, f_X1_judgeFerry_j16]
  repeat' split
  all_goals first | exact X1_judgeBluff_lt _ _ _ _ | decide
theorem X1_judgeDrop_lt (G : GS) (x : Int32) (y : Int32) : f_X1_judgeDrop G x y < 6 := by
  simp only [f_X1_judgeDrop, f_X1_judgeDrop_j52, f_X1_judgeDrop_j16]
  repeat' split
  all_goals first | exact X1_judgeBluff_lt _ _ _ _ | decide
theorem X1_judgeSettling_lt (G : GS) (x : Int32) : f_X1_judgeSettling G x < 6 := by
  simp only [f_X1_judgeSettling, f_X1_judgeSettling_j42]
  repeat' split
  all_goals first | exact X1_judgeBluff_lt _ _ _ _ | decide
theorem X1_judge_lt (G : GS) (n : Nat) (x y w : Int32) : f_X1_judge G n x y w < 6 := by
  unfold f_X1_judge
  split
  · exact X1_judgePlayer_lt _ _
  · split
    · exact X1_judgeSite_lt _ _ _ _
    · split
      · exact X1_judgeSuit_lt _ _ _
      · split
        · exact X1_judgeTide_lt _
        · split
          · exact X1_judgeBid_lt _ _ _ _
          · split
            · exact X1_judgeBluff_lt _ _ _ _
            · split
              · exact X1_judgeFerry_lt _ _ _
              · split
                · exact X1_judgeDrop_lt _ _ _
                · exact X1_judgeSettling_lt _ _
def GF (G : GS) : Prop := GSafe G ∧ FerOK G
theorem FerOK_upd {f : Nat → Int32} (h : ∀ k, k < 12 → f k = -1 ∨ vp_in (f k) 4) {j : Nat} {x : Int32} (hx : x = -1 ∨ vp_in x 4) : ∀ k, k < 12 → upd f j x k = -1 ∨ vp_in (upd f j x k) 4 := by
  intro k hk
  by_cases e : k = j
  · subst e; rw [upd_s]; exact hx
  · rw [upd_n e]; exact h k hk
theorem updN_all {f : Nat → Nat} {j x n : Nat} (h : ∀ k, f k < n) (hx : x < n) (k : Nat) : updN f j x k < n := by
  unfold updN
  split
  · exact hx
  · exact h k
theorem X1_pay_ok {G : GS} (h : GF G) (q : Nat) (x : Int32) : GF (f_X1_pay G q x) := h
theorem X1_clear_ok {G : GS} (h : GF G) (k : Nat) : GF (f_X1_clearBids G k) := by
  refine lpF_invN (step := f_X1_clearBids_l2s G k) (ex := f_X1_clearBids_l2e G k) 4 (fun _ s => ∀ k, k < 12 → s.1 k = -1 ∨ vp_in (s.1 k) 4) GF ?_ ?_ ?_ 4 0 _ rfl h.2
  · intro k1 s r _ _ h9
    simp only [f_X1_clearBids_l2s, f_X1_clearBids_l2b] at h9
    cases h9
  · intro k1 s s' _ hI h9
    simp only [f_X1_clearBids_l2s, f_X1_clearBids_l2b] at h9
    cases h9
    exact hI
  · intro s hI
    exact ⟨h.1, FerOK_upd hI (Or.inl rfl)⟩
theorem X1_close_ok {G : GS} (h : GF G) (k : Nat) : GF (f_X1_close G k).2 := by
  have h1 := X1_clear_ok h k
  simp only [f_X1_close, f_X1_close_j82, f_X1_close_j94, lt_]
  generalize f_X1_clearBids G k = y at h1 ⊢
  repeat' split
  all_goals exact h1
theorem X1_play_ok {G : GS} (h : GF G) {n : Nat} (hn : n < 9) {x y w : Int32} (hj : f_X1_judge G n x y w = 0) : GF (f_X1_play G n x y w).2 := by
  have hG := h.1
  have hF := h.2
  have hP4 := hG.2.1
  have hS12 := hG.1
  simp only [f_X1_play, f_X1_play_j149, lt_]
  split
  · rename_i c
    have q := X1_judgePlayer_0 hG ((X1_judge_1 c).symm.trans hj)
    exact ⟨⟨hG.1, q, hG.2.2.1, hG.2.2.2⟩, hF⟩
  · rename_i c1
    split
    · rename_i c
      have q := X1_judgeSite_0 hG ((X1_judge_2 c).symm.trans hj)
      obtain ⟨i, hi, rfl⟩ := vp_in_of q.1 (by decide)
      obtain ⟨j, hj8, rfl⟩ := vp_in_of q.2.1 (by decide)
      rw [nI_clamp (show i < 2 ^ 31 by omega), nI_clamp (show j < 2 ^ 31 by omega)]
      exact ⟨⟨q.2.2, hP4, fun k => updN_all hG.2.2.1 (nat_of (imin_in hi hj8) (by decide)).2 k, fun k => updN_all hG.2.2.2 (nat_of (imax_in hi hj8) (by decide)).2 k⟩, FerOK_upd hF (Or.inl rfl)⟩
    · rename_i c2
      split
      · exact h
      · rename_i c3
        split
        · exact h
        · rename_i c4
          split
          · exact h
          · rename_i c5
            split
            · exact h
            · rename_i c6
              split
              · rename_i c
                have q := X1_judgeFerry_0 hG ((X1_judge_7 c).symm.trans hj)
                have q1 := vp_mono q.1 hP4
                exact ⟨hG, FerOK_upd hF (Or.inr (by rw [← (nat_of q1 (by decide)).1]; exact q1))⟩
              · rename_i c7
                split
                · exact h
                · split
                  · exact X1_close_ok h _
                  · exact X1_close_ok h _
theorem nI_m1_ne {n : Nat} (h : n < 2 ^ 31) : ¬ nI n = -1 := fun e => by
  have := congrArg Int32.toInt e
  rw [nI_toInt h, show (-1 : Int32).toInt = -1 from by decide] at this
  omega
