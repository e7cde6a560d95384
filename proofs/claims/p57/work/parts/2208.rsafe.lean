/-! the graph's rows stay safe -/
theorem kruskal_in {G : GS} (hG : GSafe G) (k8 : Nat) : ∀ n k v (R : GR), RSafe R → ∃ v' R', lpF (f_X2_kruskalLength_l17s G k8) (f_X2_kruskalLength_l17e G k8) n k (v, R) = Sum.inr (v', R') ∧ RSafe R' := by
  intro n
  induction n with
  | zero => intro k v R h; exact ⟨v, R, rfl, h⟩
  | succ n ih =>
    intro k v R h
    show ∃ v' R', sE id (lpF _ _ n (k + 1)) (f_X2_kruskalLength_l17b G k8 k v R) = _ ∧ _
    unfold f_X2_kruskalLength_l17b f_X2_kruskalLength_j60 lt_
    dsimp only
    split
    · split
      · split
        · exact ih (k + 1) _ _ (joinEnds_safe h hG k)
        · exact ih (k + 1) _ _ (joinEnds_safe h hG k)
      · exact ih (k + 1) _ _ h
    · exact ih (k + 1) _ _ h
theorem kruskal_safe {G : GS} (hG : GSafe G) {R : GR} (h : RSafe R) : RSafe (f_X2_kruskalLength R G).2 := by
  unfold f_X2_kruskalLength lt_ f_X2_kruskalLength_l8
  have key : ∀ n k v (R : GR), RSafe R → RSafe (lpF (f_X2_kruskalLength_l8s G) (f_X2_kruskalLength_l8e G) n k (v, R)).2 := by
    intro n
    induction n with
    | zero => intro k v R h; exact h
    | succ n ih =>
      intro k v R h
      obtain ⟨v', R', e, h'⟩ := kruskal_in hG k (gS G) 0 v R h
      show RSafe (sE id (lpF _ _ n (k + 1)) (f_X2_kruskalLength_l17 G k (gS G) 0 v R)).2
      unfold f_X2_kruskalLength_l17
      rw [e]
      exact ih (k + 1) v' R' h'
  exact key _ _ _ _ (separateAll_safe h)
theorem r_distance {G : GS} {f fr : Nat → Int32} (h : GI G) (r : NR G f) (Q : QS) {Rr : GR} (hR : RSafe Rr) (x y : Int32) : RSafe (f_X7_distance Q G Rr x y).2.2 := RSafe_of hR (b_distance (fr := fr) h r Q Rr x y).2
theorem r_distanceByRelaxation {G : GS} {f fr : Nat → Int32} (h : GI G) (r : NR G f) (Q : QS) {Rr : GR} (hR : RSafe Rr) (x y : Int32) : RSafe (f_X7_distanceByRelaxation Q G Rr x y).2.2 := RSafe_of hR (b_distanceByRelaxation (fr := fr) h r Q Rr x y).2
theorem r_componentCountByUnion {G : GS} (hG : GSafe G) (Q : QS) {Rr : GR} (hR : RSafe Rr) : RSafe (f_X7_componentCountByUnion Q G Rr).2.2 := joining_safe hR hG
theorem r_forestLength {G : GS} (hG : GSafe G) (Q : QS) {Rr : GR} (hR : RSafe Rr) : RSafe (f_X7_forestLength Q G Rr).2.2 := kruskal_safe hG hR
theorem r_isConsistent {G : GS} (hG : GSafe G) (Q : QS) {Rr : GR} (hR : RSafe Rr) : RSafe (f_X7_isConsistent Q G Rr).2 := by
  have s1 : RSafe (f_X2_distancesAgree Rr G).2 := RSafe_of hR (rPar_agree Rr G)
  have s2 : RSafe (f_X2_countByJoining (f_X2_distancesAgree Rr G).2 G).2 := joining_safe s1 hG
  have s3 : RSafe (f_X2_kruskalLength (f_X2_countByJoining (f_X2_distancesAgree Rr G).2 G).2 G).2 := kruskal_safe hG s2
  unfold f_X7_isConsistent f_X7_isConsistent_j80 f_X7_isConsistent_j81 lt_
  dsimp only
  split
  · split
    · split
      · split
        · split
          · exact s3
          · exact s3
        · exact s3
      · exact s3
    · exact s2
  · exact s1
