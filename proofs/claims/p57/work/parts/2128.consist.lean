/-! the counts by joining; the forests answered; consistency -/
theorem union_c {G : GS} (h : GI G) (Rr : GR) : (f_X2_countByJoining Rr G).1 = nI (cl (Conn (inL (eds G)))) := by
  have hG := GI_safe h
  unfold f_X2_countByJoining lt_ f_X2_countByJoining_l9
  dsimp only
  refine lpF_invN (step := f_X2_countByJoining_l9s G) (ex := f_X2_countByJoining_l9e G) (gS G) (fun k s => UF (rPar s.2) (inL (edsN G k)) ∧ s.1 = nI (cl (Conn (inL (edsN G k))))) (fun r => r.1 = nI (cl (Conn (inL (eds G))))) ?_ ?_ ?_ (gS G) 0 _ (Nat.zero_add _) ?_
  · rintro k ⟨v, R⟩ r hk _ e
    have e : f_X2_countByJoining_l9b G k v R = Sum.inl r := e
    unfold f_X2_countByJoining_l9b f_X2_countByJoining_j37 lt_ at e
    dsimp only at e
    split at e
    · split at e <;> cases e
    · cases e
  · rintro k ⟨v, R⟩ t' hk ⟨u, e1⟩ e
    have u : UF (rPar R) (inL (edsN G k)) := u
    have e1 : v = nI (cl (Conn (inL (edsN G k)))) := e1
    have e : f_X2_countByJoining_l9b G k v R = Sum.inr t' := e
    unfold f_X2_countByJoining_l9b f_X2_countByJoining_j37 lt_ at e
    dsimp only at e
    by_cases c : f_X1_hasBridge G k = true
    · rw [if_pos c] at e
      have ea : inL (edsN G (k + 1)) = eAdd (inL (edsN G k)) (edE G k) := set_eq fun e => by
        unfold eAdd
        show e ∈ edsN G (k + 1) ↔ _
        rw [edsN_succ, if_pos c, List.mem_append, List.mem_singleton]
      rw [ea]
      obtain ⟨j1, j2⟩ := join_UF hG u (k := k)
      cases q : (f_X2_joinEnds R G k).1
      · rw [q, if_neg (by decide)] at e
        have e := (Sum.inr.inj e).symm
        subst e
        refine ⟨j2, ?_⟩
        have cn : Conn (inL (edsN G k)) (gLo G k) (gHi G k) := Classical.not_not.mp (fun z => by have := j1.mpr z; rw [q] at this; cases this)
        rw [Conn_add0 (e0 := edE G k) cn]
        exact e1
      · rw [q, if_pos rfl] at e
        have e := (Sum.inr.inj e).symm
        subst e
        refine ⟨j2, ?_⟩
        have ca := cl_add (E := inL (edsN G k)) (e0 := edE G k) (hG.2.2.1 k) (hG.2.2.2 k) (j1.mp q)
        show v + (-1) = _
        rw [e1, ca]
        exact nI_mn1 (by omega)
    · rw [if_neg c] at e
      cases e
      have ea : inL (edsN G (k + 1)) = inL (edsN G k) := by
        rw [edsN_succ, if_neg c]
      rw [ea]
      exact ⟨u, e1⟩
  · rintro ⟨v, R⟩ ⟨_, e1⟩
    exact e1
  · have e0 : inL (edsN G 0) = fun _ => False := set_eq fun e => ⟨fun z => absurd z List.not_mem_nil, fun z => z.elim⟩
    rw [e0]
    exact ⟨UF_0 (sep_ok Rr).2, by rw [cl_no]; rfl⟩
theorem b_componentCountByUnion {G : GS} {f fr : Nat → Int32} (h : GI G) (r : NR G f) (Q : QS) (Rr : GR) : (f_X7_componentCountByUnion Q G Rr).1 = 0 ∧ (f_X7_componentCountByUnion Q G Rr).2.1 = (f_X8_componentCountByUnion f fr).1 ∧ (f_X8_componentCountByUnion f fr).2.1 = 0 := by
  obtain ⟨c1, c2⟩ := comps_c (fr := fr) h r
  exact ⟨rfl, (union_c h Rr).trans c1.symm, c2⟩
theorem b_forestLength {G : GS} {f gp : Nat → Int32} (h : GI G) (r : NR G f) (Q : QS) (Rr : GR) : (f_X7_forestLength Q G Rr).1 = 0 ∧ (f_X7_forestLength Q G Rr).2.1 = (f_X8_forestLength f gp).1 ∧ (f_X8_forestLength f gp).2.1 = 0 := by
  obtain ⟨c1, c2⟩ := forest_c (gp := gp) h r
  exact ⟨rfl, (kruskal_c h Rr).trans c1.symm, c2⟩
theorem b_forestLengthByPrim {G : GS} {f gp : Nat → Int32} (h : GI G) (r : NR G f) (Q : QS) (Rr : GR) : (f_X7_forestLengthByPrim Q G Rr).1 = 0 ∧ (f_X7_forestLengthByPrim Q G Rr).2 = (f_X8_forestLengthByPrim f gp).1 ∧ (f_X8_forestLengthByPrim f gp).2.1 = 0 := by
  obtain ⟨c1, c2⟩ := forest_c (gp := gp) h r
  exact ⟨rfl, (prim_c h Rr).trans c1.symm, c2⟩
theorem agree_c {G : GS} (h : GI G) (Rr : GR) : (f_X2_distancesAgree Rr G).1 = true := by
  unfold f_X2_distancesAgree f_X2_distancesAgree_l2
  have inner : ∀ (R : GR), (∀ x, x < 8 → rNear R x = rRlx R x) → f_X2_distancesAgree_l22 8 0 R = Sum.inr R := fun R hR => by
    have key : ∀ n k, k + n = 8 → f_X2_distancesAgree_l22 n k R = Sum.inr R := by
      intro n
      induction n with
      | zero => intro k _; rfl
      | succ n ih =>
        intro k hk
        show sE id (lpF _ _ n (k + 1)) (f_X2_distancesAgree_l22b k R) = Sum.inr R
        unfold f_X2_distancesAgree_l22b
        rw [if_pos (hR k (by omega))]
        exact ih (k + 1) (by omega)
    exact key 8 0 rfl
  refine lpF_invN (step := f_X2_distancesAgree_l2s G) (ex := f_X2_distancesAgree_l2e G) 8 (fun _ _ => True) (fun r => r.1 = true) ?_ (fun _ _ _ _ _ _ => trivial) (fun s _ => rfl) 8 0 _ (Nat.zero_add _) trivial
  intro k R r hk _ e
  have e : f_X2_distancesAgree_l2b G k R = Sum.inl r := e
  unfold f_X2_distancesAgree_l2b lt_ at e
  dsimp only at e
  obtain ⟨n1, n2, n3⟩ := search_ok h R hk
  obtain ⟨m1, m2, m3⟩ := relax_ok h (f_X2_searchNearest R G k) hk
  rw [inner _ (fun x hx => by rw [m2, n1 x hx, m1 x hx])] at e
  cases e
theorem b_isConsistent {G : GS} (h : GI G) (Q : QS) (Rr : GR) : (f_X7_isConsistent Q G Rr).1 = (f_X8_isConsistent).1 ∧ (f_X8_isConsistent).2 = 0 := by
  refine ⟨?_, rfl⟩
  show (f_X7_isConsistent Q G Rr).1 = true
  unfold f_X7_isConsistent f_X7_isConsistent_j81 lt_
  dsimp only
  rw [if_pos (agree_c h Rr), if_pos ((count_search h _).trans (union_c h _).symm), if_pos ((kruskal_c h _).trans (prim_c h _).symm), if_pos (solvent h), if_pos (moneyKept h)]
