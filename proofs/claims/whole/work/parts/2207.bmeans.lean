/-! the means on both sides -/
theorem bridges_n (G : GS) (hS : gS G ≤ 12) : ∃ b, b ≤ 12 ∧ f_X1_bridges G = nI b := by
  unfold f_X1_bridges f_X1_bridges_l4
  rw [lpF_it (step := f_X1_bridges_l4s G) (ex := f_X1_bridges_l4e G) (fun k v => v + bI (f_X1_hasBridge G k)) (gS G) (fun k s hk => by
      show f_X1_bridges_l4b G k s = _
      unfold f_X1_bridges_l4b f_X1_bridges_j26
      cases f_X1_hasBridge G k <;> rfl) _ _ _ (Nat.zero_add _)]
  exact ⟨(List.range (gS G)).countP (f_X1_hasBridge G), Nat.le_trans (Nat.le_trans List.countP_le_length (Nat.le_of_eq List.length_range)) hS, cnt_int (f_X1_hasBridge G) (gS G) (by omega)⟩
theorem lens_it (G : GS) : f_X1_bridgeLengths G = itF (fun k v => v + (if f_X1_hasBridge G k = true then gLen G k else 0)) (gS G) 0 0 := by
  unfold f_X1_bridgeLengths f_X1_bridgeLengths_l4
  rw [lpF_it (step := f_X1_bridgeLengths_l4s G) (ex := f_X1_bridgeLengths_l4e G) (fun k v => v + (if f_X1_hasBridge G k = true then gLen G k else 0)) (gS G) (fun k s hk => by
      show f_X1_bridgeLengths_l4b G k s = _
      unfold f_X1_bridgeLengths_l4b f_X1_bridgeLengths_j31
      by_cases c : f_X1_hasBridge G k = true
      · rw [if_pos c, if_pos c]
      · rw [if_neg c, if_neg c, Int32.add_zero]) _ _ _ (Nat.zero_add _)]
  rfl
theorem lens_n {G : GS} (h : GI0 G) : ∃ t, t ≤ 108 ∧ f_X1_bridgeLengths G = nI t := by
  have hS := h.1.1
  rw [lens_it]
  have key : ∀ n, n ≤ gS G → ∃ t, t ≤ 9 * n ∧ itF (fun k v => v + (if f_X1_hasBridge G k = true then gLen G k else 0)) n 0 0 = nI t := by
    intro n
    induction n with
    | zero => intro _; exact ⟨0, Nat.le_refl _, rfl⟩
    | succ n ih =>
      intro hn
      obtain ⟨t, ht, e⟩ := ih (by omega)
      rw [itF_snoc, Nat.zero_add, e]
      obtain ⟨L, l1, l9, el⟩ := h.2.2.2.2.1 n (by omega)
      by_cases c : f_X1_hasBridge G n = true
      · exact ⟨t + L, by omega, by show nI t + (if f_X1_hasBridge G n = true then gLen G n else 0) = _; rw [if_pos c, el, nI_add]⟩
      · exact ⟨t, by omega, by show nI t + (if f_X1_hasBridge G n = true then gLen G n else 0) = _; rw [if_neg c, Int32.add_zero]⟩
  obtain ⟨t, ht, e⟩ := key (gS G) (Nat.le_refl _)
  exact ⟨t, by omega, e⟩
theorem mean_sum {G : GS} {f : Nat → Int32} (hG : GSafe G) (r : NR G f) : f_X8_meanSum f (mS f) = f_X1_bridgeLengths G := by
  rw [lens_it, mS_of hG r]
  unfold f_X8_meanSum
  exact itF_c (gS G) (fun k s hk => by rw [done_c hG r hk, ofLen hG r hk]) _ _ _ (Nat.zero_add _)
set_option maxRecDepth 100000 in
theorem mean_ok : ∀ t, t < 109 → ∀ b, b < 13 → b ≠ 0 → vf_n64 (FP.ddiv (FP.i2d (nI t)) (FP.i2d (nI b))) := by
  unfold vf_n64
  decide +kernel
set_option maxRecDepth 100000 in
theorem share_ok : ∀ t, t < 13 → ∀ b, b < 13 → b ≠ 0 → vf_n32 (FP.fdiv (FP.i2f (nI t)) (FP.i2f (nI b))) ∧ vf_n64 (FP.f2d (FP.fdiv (FP.i2f (nI t)) (FP.i2f (nI b)))) := by
  unfold vf_n32 vf_n64
  decide +kernel
theorem thr_6 : gThr false = thr [6] 6 := by decide +kernel
theorem mean_hne {G : GS} (h : GI G) : f_X1_bridges G ≠ 0 → vf_n64 (FP.ddiv (FP.i2d (f_X1_bridgeLengths G)) (FP.i2d (f_X1_bridges G))) := by
  obtain ⟨b, hb, eb⟩ := bridges_n G (GI_safe h).1
  obtain ⟨t, ht, et⟩ := lens_n h.1
  rw [eb, et]
  intro n
  exact mean_ok t (by omega) b (by omega) (fun e => n (by rw [e]; rfl))
theorem nI_le0 {b : Nat} (hb : b < 2 ^ 31) : nI b ≤ 0 ↔ nI b = 0 := by
  rw [ile, nI_toInt hb]
  show (b : Int) ≤ 0 ↔ _
  exact ⟨fun h => by rw [show b = 0 by omega]; rfl, fun h => by have := (nI_eq (b := 0) hb (by decide)).mp h; omega⟩
theorem b_mean {G : GS} {f : Nat → Int32} (h : GI G) (r : NR G f) : (f_X8_meanBridgeLength f).2 = thr [6] (f_X7_meanBridgeLength G).1 ∧ ((f_X7_meanBridgeLength G).1 = 0 ∨ (f_X7_meanBridgeLength G).1 ∈ [6]) ∧ ((f_X7_meanBridgeLength G).1 = 0 → (f_X8_meanBridgeLength f).1 = (f_X7_meanBridgeLength G).2) ∧ (¬ f_X8_builtSites f ≤ 0 → vf_n64 (FP.ddiv (FP.i2d (f_X8_meanSum f (mS f))) (FP.i2d (f_X8_builtSites f)))) := by
  have hG := GI_safe h
  obtain ⟨b, hb, eb⟩ := bridges_n G hG.1
  have hn := mean_hne h
  unfold f_X7_meanBridgeLength f_X8_meanBridgeLength
  rw [bridges_c hG r, mean_sum hG r]
  rw [eb] at hn ⊢
  have le := nI_le0 (b := b) (by omega)
  refine ⟨?_, ?_, ?_, fun z => hn (fun q => z (le.mpr q))⟩
  all_goals by_cases c : nI b = 0
  · rw [if_pos c, if_pos (le.mpr c)]; exact thr_6
  · rw [if_neg c, if_neg (fun z => c (le.mp z))]; rfl
  · rw [if_pos c]; exact Or.inr (List.mem_singleton.mpr rfl)
  · rw [if_neg c]; exact Or.inl rfl
  · rw [if_pos c]; exact fun h9 => absurd (show 6 = 0 from h9) (by decide)
  · rw [if_neg c, if_neg (fun z => c (le.mp z))]; exact fun _ => rfl
theorem share_hne {G : GS} (h : GI G) : nI (gS G) ≠ 0 → vf_n32 (FP.fdiv (FP.i2f (f_X1_bridges G)) (FP.i2f (nI (gS G)))) ∧ vf_n64 (FP.f2d (FP.fdiv (FP.i2f (f_X1_bridges G)) (FP.i2f (nI (gS G))))) := by
  have hS := (GI_safe h).1
  obtain ⟨b, hb, eb⟩ := bridges_n G hS
  rw [eb]
  intro n
  exact share_ok b (by omega) (gS G) (by omega) (fun e => n (by rw [e]; rfl))
theorem b_share {G : GS} {f : Nat → Int32} (h : GI G) (r : NR G f) : (f_X8_builtShare f).2 = thr [6] (f_X7_builtShare G).1 ∧ ((f_X7_builtShare G).1 = 0 ∨ (f_X7_builtShare G).1 ∈ [6]) ∧ ((f_X7_builtShare G).1 = 0 → (f_X8_builtShare f).1 = (f_X7_builtShare G).2) ∧ (¬ f 2 ≤ 0 → vf_n32 (FP.fdiv (FP.i2f (f_X8_builtSites f)) (FP.i2f (f 2)))) ∧ ((f_X7_builtShare G).1 = 0 → vf_n64 (FP.f2d (f_X7_builtShare G).2)) := by
  have hG := GI_safe h
  have hS := hG.1
  have hn := share_hne h
  have e2 : f 2 = nI (gS G) := r.1.2.2.1
  unfold f_X7_builtShare f_X8_builtShare
  rw [bridges_c hG r, e2]
  have le := nI_le0 (b := gS G) (by omega)
  refine ⟨?_, ?_, ?_, fun z => (hn (fun q => z (le.mpr q))).1, ?_⟩
  all_goals by_cases c : nI (gS G) = 0
  · rw [if_pos c, if_pos (le.mpr c)]; exact thr_6
  · rw [if_neg c, if_neg (fun z => c (le.mp z))]; rfl
  · rw [if_pos c]; exact Or.inr (List.mem_singleton.mpr rfl)
  · rw [if_neg c]; exact Or.inl rfl
  · rw [if_pos c]; exact fun h9 => absurd (show 6 = 0 from h9) (by decide)
  · rw [if_neg c, if_neg (fun z => c (le.mp z))]; exact fun _ => rfl
  · rw [if_pos c]; exact fun h9 => absurd (show 6 = 0 from h9) (by decide)
  · rw [if_neg c]; exact fun _ => (hn c).2
