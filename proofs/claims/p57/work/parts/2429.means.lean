/-! the means: no NaN; what the law adds up -/
theorem bridges_n (G : GS) (hS : gS G ≤ 12) : ∃ b, b ≤ 12 ∧ f_X1_bridges G = nI b := by
  unfold f_X1_bridges f_X1_bridges_l4
  rw [lpF_it (step := f_X1_bridges_l4s G) (ex := f_X1_bridges_l4e G) (fun k v => v + bI (f_X1_hasBridge G k)) (gS G) (fun k s hk => by
      show f_X1_bridges_l4b G k s = _
      unfold f_X1_bridges_l4b f_X1_bridges_j26
      cases f_X1_hasBridge G k <;> rfl) _ _ _ (Nat.zero_add _)]
  exact ⟨(List.range (gS G)).countP (f_X1_hasBridge G), Nat.le_trans (Nat.le_trans List.countP_le_length (Nat.le_of_eq List.length_range)) hS, cnt_int (f_X1_hasBridge G) (gS G) (by omega)⟩
theorem lens_it (G : GS) : f_X1_bridgeLengths G = itF (fun k v => v + (if f_X1_hasBridge G k = true then gLen G k else 0)) (gS G) 0 0 := by
  unfold f_X1_bridgeLengths f_X1_bridgeLengths_l4
  rw [lpF_it (step := f_X1_bridgeLengths_l4s G) (ex := f_X1_bridgeLengths_l4e G) (fun k v => v + (if f_X1_hasBridge G k = true then gLen G k else 0)) (gS G) (fun k s hk => by
      show f_X1_bridgeLengths_l4b G k s = _
      unfold f_X1_bridgeLengths_l4b f_X1_bridgeLengths_j31
      by_cases c : f_X1_hasBridge G k = true
      · rw [if_pos c, if_pos c]
      · rw [if_neg c, if_neg c, Int32.add_zero]) _ _ _ (Nat.zero_add _)]
  rfl
theorem lens_n {G : GS} (h : GI0 G) : ∃ t, t ≤ 108 ∧ f_X1_bridgeLengths G = nI t := by
  have hS := h.1.1
  rw [lens_it]
  have key : ∀ n, n ≤ gS G → ∃ t, t ≤ 9 * n ∧ itF (fun k v => v + (if f_X1_hasBridge G k = true then gLen G k else 0)) n 0 0 = nI t := by
    intro n
    induction n with
    | zero => intro _; exact ⟨0, Nat.le_refl _, rfl⟩
    | succ n ih =>
      intro hn
      obtain ⟨t, ht, e⟩ := ih (by omega)
      rw [itF_snoc, Nat.zero_add, e]
      obtain ⟨L, l1, l9, el⟩ := h.2.2.2.2.1 n (by omega)
      by_cases c : f_X1_hasBridge G n = true
      · exact ⟨t + L, by omega, by show nI t + (if f_X1_hasBridge G n = true then gLen G n else 0) = _; rw [if_pos c, el, nI_add]⟩
      · exact ⟨t, by omega, by show nI t + (if f_X1_hasBridge G n = true then gLen G n else 0) = _; rw [if_neg c, Int32.add_zero]⟩
  obtain ⟨t, ht, e⟩ := key (gS G) (Nat.le_refl _)
  exact ⟨t, by omega, e⟩
set_option maxRecDepth 100000 in
theorem mean_ok : ∀ t, t < 109 → ∀ b, b < 13 → b ≠ 0 → vf_n64 (FP.ddiv (FP.i2d (nI t)) (FP.i2d (nI b))) := by
  unfold vf_n64
  decide +kernel
set_option maxRecDepth 100000 in
theorem share_ok : ∀ t, t < 13 → ∀ b, b < 13 → b ≠ 0 → vf_n32 (FP.fdiv (FP.i2f (nI t)) (FP.i2f (nI b))) ∧ vf_n64 (FP.f2d (FP.fdiv (FP.i2f (nI t)) (FP.i2f (nI b)))) := by
  unfold vf_n32 vf_n64
  decide +kernel
theorem mean_hne {G : GS} (h : GI G) : f_X1_bridges G ≠ 0 → vf_n64 (FP.ddiv (FP.i2d (f_X1_bridgeLengths G)) (FP.i2d (f_X1_bridges G))) := by
  obtain ⟨b, hb, eb⟩ := bridges_n G (GI_safe h).1
  obtain ⟨t, ht, et⟩ := lens_n h.1
  rw [eb, et]
  intro n
  exact mean_ok t (by omega) b (by omega) (fun e => n (by rw [e]; rfl))
set_option maxRecDepth 100000 in
theorem fcmp_ok : ∀ t, t < 13 → ∀ b, b < 13 → b ≠ 0 → Op.cmpValue (FP.fcmp (FP.fdiv (FP.i2f (nI t)) (FP.i2f (nI b))) (FP.fdiv (FP.i2f (nI t)) (FP.i2f (nI b)))) .l = 0 := by
  decide +kernel
set_option maxRecDepth 100000 in
theorem dcmp_ok : ∀ t, t < 109 → ∀ b, b < 13 → b ≠ 0 → Op.cmpValue (FP.dcmp (FP.ddiv (FP.i2d (nI t)) (FP.i2d (nI b))) (FP.ddiv (FP.i2d (nI t)) (FP.i2d (nI b)))) .l = 0 := by
  decide +kernel
theorem built_it (G : GS) : f_X1_bridges G = itF (fun k v => v + bI (f_X1_hasBridge G k)) (gS G) 0 0 := by
  unfold f_X1_bridges f_X1_bridges_l4
  rw [lpF_it (step := f_X1_bridges_l4s G) (ex := f_X1_bridges_l4e G) (fun k v => v + bI (f_X1_hasBridge G k)) (gS G) (fun k s hk => by
      show f_X1_bridges_l4b G k s = _
      unfold f_X1_bridges_l4b f_X1_bridges_j26
      cases f_X1_hasBridge G k <;> rfl) _ _ _ (Nat.zero_add _)]
  rfl
