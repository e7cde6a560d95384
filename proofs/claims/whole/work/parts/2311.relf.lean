/-! what the relation says, item by item -/
theorem REL_f {Q : QS} {G G1 G2 : GS} {Rr : GR} {S : HS} {Sc : SS} {T : TX} {M : MS} (h : REL Q G S Sc G1 G2 T Rr M) : GSafe G ∧ hNx S < 8 ∧ hCt S ≤ 8 ∧ FerOK G ∧ GSafe G1 ∧ GSafe G2 ∧ RSafe Rr ∧ sSiz Sc ≤ 60 ∧ sVb Sc < 9 ∧ MSafe M ∧ mRem M ≤ 8 ∧ mTyp M ≤ 60 ∧ mLnd M ≤ 60 ∧ GI G ∧ NR G (mNow M) ∧ RR G (mNow M) ∧ HR S (mHis M) (mRem M) := by
  obtain ⟨hR, hH, ⟨a1, a2, a3⟩, h2, ⟨b1, b2⟩, ⟨c1, c2, c3, c4⟩, ⟨d1, d2⟩, h7⟩ := h
  exact ⟨hR.1.1.1, hH.1, hH.2.1, hR.2.2.2, a3, h2, h7, by rw [c1]; exact c2, c4, hR.2.2.1, by rw [hH.2.2.1]; exact hH.2.1, c2, Nat.le_trans d2 (by decide), hR.1, hR.2.1, hR, hH⟩
theorem thr_z {L : List Nat} {c : Nat} (hl : L.length < 100) (h : thr L c = 0) : c = 0 := by
  unfold thr at h
  by_cases hc : c = 0
  · exact hc
  · rw [if_neg hc] at h
    have h1 : L.idxOf c ≤ L.length := List.idxOf_le_length
    have h2 := (nI_eq (a := L.idxOf c + 1) (b := 0) (by omega) (by decide)).mp h
    omega
theorem oF_v {c : Nat} {x : Int64} {F : Nat → Int64} (h : c = 0) : oF c x F 0 = x := by rw [h]; rfl
theorem oD_v {c : Nat} {x : UInt64} {F : Nat → UInt64} (h : c = 0) : oD c x F 0 = x := by rw [h]; rfl
