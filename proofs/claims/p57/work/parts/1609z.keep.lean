theorem rPar_look (R : GR) (G : GS) (i : Nat) : rPar (f_X2_lookFurther R G i) = rPar R := by
  unfold f_X2_lookFurther f_X2_lookFurther_l2
  refine lpF_invN (step := f_X2_lookFurther_l2s R G i) (ex := f_X2_lookFurther_l2e R G i) (gS G) (fun _ _ => True) (fun r => rPar r = rPar R) ?_ ?_ ?_ (gS G) 0 _ (Nat.zero_add _) trivial
  · intro k s r _ _ h
    simp only [f_X2_lookFurther_l2s, f_X2_lookFurther_l2b, f_X2_lookFurther_j54] at h
    split at h <;> cases h
  · intros; trivial
  · intro s _; rfl
theorem rPar_search (R : GR) (G : GS) (i : Nat) : rPar (f_X2_searchNearest R G i) = rPar R := by
  unfold f_X2_searchNearest f_X2_searchNearest_l22
  simp only [lt_]
  generalize f_J7_fill_53178 (rNear R) 1000 = w
  refine lpF_invN (step := f_X2_searchNearest_l22s G) (ex := f_X2_searchNearest_l22e G) 8 (fun _ s => rPar s.2 = rPar R) (fun r => rPar r = rPar R) ?_ ?_ ?_ 8 0 _ rfl rfl
  · rintro k ⟨v, s⟩ r _ hI h
    simp only [f_X2_searchNearest_l22s, f_X2_searchNearest_l22b, lt_] at h
    split at h
    · cases h; exact hI
    · cases h
  · rintro k ⟨v, s⟩ s' _ hI h
    simp only [f_X2_searchNearest_l22s, f_X2_searchNearest_l22b, lt_] at h
    split at h
    · cases h
    · cases h; exact (rPar_look _ _ _).trans hI
  · rintro ⟨v, s⟩ hI; exact hI
theorem rPar_relaxAll (R : GR) (G : GS) : rPar (f_X2_relaxAll R G) = rPar R := by
  unfold f_X2_relaxAll f_X2_relaxAll_l2
  refine lpF_invN (step := f_X2_relaxAll_l2s R G) (ex := f_X2_relaxAll_l2e R G) (gS G) (fun _ _ => True) (fun r => rPar r = rPar R) ?_ ?_ ?_ (gS G) 0 _ (Nat.zero_add _) trivial
  · intro k s r _ _ h
    simp only [f_X2_relaxAll_l2s, f_X2_relaxAll_l2b, f_X2_relaxAll_j92] at h
    split at h <;> cases h
  · intros; trivial
  · intro s _; rfl
theorem rPar_relax_l (G : GS) : ∀ (n k : Nat) (R : GR), rPar (lpF (f_X2_relaxFrom_l19s G) (f_X2_relaxFrom_l19e G) n k R) = rPar R := by
  intro n
  induction n with
  | zero => intro k R; rfl
  | succ n ih =>
    intro k R
    have q := rPar_relaxAll R G
    have e : lpF (f_X2_relaxFrom_l19s G) (f_X2_relaxFrom_l19e G) (n + 1) k R = lpF (f_X2_relaxFrom_l19s G) (f_X2_relaxFrom_l19e G) n (k + 1) (f_X2_relaxAll R G) := rfl
    rw [e, ih]
    exact q
theorem lt_P {α β : Type} {P : β → Prop} {x : α} {f : α → β} (h : P (f x)) : P (lt_ x f) := h
theorem rPar_relax_g (G : GS) (n k : Nat) (w : Nat → Int32) (R : GR) : rPar (f_X2_relaxFrom_l19 G n k (mkR (rNear R) w (rPar R))) = rPar R := rPar_relax_l G n k _
theorem rPar_relax (R : GR) (G : GS) (i : Nat) : rPar (f_X2_relaxFrom R G i) = rPar R := by
  unfold f_X2_relaxFrom
  exact lt_P (P := fun r => rPar r = rPar R) (rPar_relax_g G (8 - 1) 1 _ R)
theorem rPar_agree (R : GR) (G : GS) : rPar (f_X2_distancesAgree R G).2 = rPar R := by
  unfold f_X2_distancesAgree f_X2_distancesAgree_l2
  refine lpF_invN (step := f_X2_distancesAgree_l2s G) (ex := f_X2_distancesAgree_l2e G) 8 (fun _ s => rPar s = rPar R) (fun r => rPar r.2 = rPar R) ?_ ?_ ?_ 8 0 _ rfl rfl
  · intro k s r hk hI h
    simp only [f_X2_distancesAgree_l2s, f_X2_distancesAgree_l2b, lt_] at h
    have q : rPar (f_X2_relaxFrom (f_X2_searchNearest s G k) G k) = rPar R := (rPar_relax _ _ _).trans ((rPar_search _ _ _).trans hI)
    generalize f_X2_relaxFrom (f_X2_searchNearest s G k) G k = y at q h
    have e : ∀ r, f_X2_distancesAgree_l22 8 0 y = .inl r → rPar r.2 = rPar R := by
      refine lpF_invN (step := f_X2_distancesAgree_l22s) (ex := f_X2_distancesAgree_l22e) 8 (fun _ s => rPar s = rPar R) (fun u => ∀ r, u = .inl r → rPar r.2 = rPar R) ?_ ?_ ?_ 8 0 y rfl q
      · intro k s r _ hI h r2 h2
        simp only [f_X2_distancesAgree_l22s, f_X2_distancesAgree_l22b] at h
        split at h
        · cases h
        · cases h; cases h2; exact hI
      · intro k s s' _ hI h
        simp only [f_X2_distancesAgree_l22s, f_X2_distancesAgree_l22b] at h
        split at h
        · cases h; exact hI
        · cases h
      · intro s hI r h; cases h
    exact e r h
  · intro k s s' hk hI h
    simp only [f_X2_distancesAgree_l2s, f_X2_distancesAgree_l2b, lt_] at h
    have q : rPar (f_X2_relaxFrom (f_X2_searchNearest s G k) G k) = rPar R := (rPar_relax _ _ _).trans ((rPar_search _ _ _).trans hI)
    generalize f_X2_relaxFrom (f_X2_searchNearest s G k) G k = y at q h
    have e : ∀ r, f_X2_distancesAgree_l22 8 0 y = .inr r → rPar r = rPar R := by
      refine lpF_invN (step := f_X2_distancesAgree_l22s) (ex := f_X2_distancesAgree_l22e) 8 (fun _ s => rPar s = rPar R) (fun u => ∀ r, u = .inr r → rPar r = rPar R) ?_ ?_ ?_ 8 0 y rfl q
      · intro k s r _ hI h r2 h2
        simp only [f_X2_distancesAgree_l22s, f_X2_distancesAgree_l22b] at h
        split at h
        · cases h
        · cases h; cases h2
      · intro k s s' _ hI h
        simp only [f_X2_distancesAgree_l22s, f_X2_distancesAgree_l22b] at h
        split at h
        · cases h; exact hI
        · cases h
      · intro s hI r h; cases h; exact hI
    exact e s' h
  · intro s hI; exact hI
theorem joining_safe {R : GR} {G : GS} (hR : RSafe R) (hG : GSafe G) : RSafe (f_X2_countByJoining R G).2 := by
  have q0 := separateAll_safe hR
  unfold f_X2_countByJoining f_X2_countByJoining_l9
  simp only [lt_]
  generalize f_X2_separateAll R = w at q0 ⊢
  refine lpF_invN (step := f_X2_countByJoining_l9s G) (ex := f_X2_countByJoining_l9e G) (gS G) (fun _ s => RSafe s.2) (fun r => RSafe r.2) ?_ ?_ ?_ (gS G) 0 _ (Nat.zero_add _) q0
  · rintro k ⟨v, s⟩ r _ hI h
    simp only [f_X2_countByJoining_l9s, f_X2_countByJoining_l9b, f_X2_countByJoining_j37, lt_] at h
    generalize f_X2_joinEnds s G k = y at h
    repeat' split at h
    all_goals cases h
  · rintro k ⟨v, s⟩ s' _ hI h
    have hI : RSafe s := hI
    have q := joinEnds_safe hI hG k
    simp only [f_X2_countByJoining_l9s, f_X2_countByJoining_l9b, f_X2_countByJoining_j37, lt_] at h
    generalize f_X2_joinEnds s G k = y at q h
    obtain ⟨yb, yr⟩ := y
    have q : RSafe yr := q
    split at h
    · split at h
      · have h := (Sum.inr.inj h).symm
        subst h
        exact q
      · have h := (Sum.inr.inj h).symm
        subst h
        exact q
    · have h := (Sum.inr.inj h).symm
      subst h
      exact hI
  · rintro ⟨v, s⟩ hI; exact hI
