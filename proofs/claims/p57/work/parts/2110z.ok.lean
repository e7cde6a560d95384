/-! what stands of the other game; a copy keeps its ferries -/
/-! what the reference's changes keep of its row -/
theorem NowOK_1 {f : Nat → Int32} (h : NowOK f) {n : Nat} (hn : n ≤ 4) : NowOK (upd f 1 (nI n)) := by
  have e : ∀ j, j ≠ 1 → upd f 1 (nI n) j = f j := fun j hj => upd_n hj
  have s1 : mP (upd f 1 (nI n)) = n := by unfold mP; rw [upd_s, nI_clamp (by omega)]
  have s2 : mS (upd f 1 (nI n)) = mS f := by unfold mS; rw [e 2 (by omega)]
  unfold NowOK at h ⊢
  rw [s1, s2, upd_s, e 2 (by omega)]
  refine ⟨h.1, ⟨rfl, hn⟩, fun q hq => ?_, fun q hq => ?_⟩
  · rw [e _ (by omega), e _ (by omega)]; exact h.2.2.1 q hq
  · rw [e _ (by omega)]; exact h.2.2.2 q hq
theorem NowOK_2 {f : Nat → Int32} (h : NowOK f) {n : Nat} (hn : n ≤ 12) : NowOK (upd f 2 (nI n)) := by
  have e : ∀ j, j ≠ 2 → upd f 2 (nI n) j = f j := fun j hj => upd_n hj
  have s1 : mP (upd f 2 (nI n)) = mP f := by unfold mP; rw [e 1 (by omega)]
  have s2 : mS (upd f 2 (nI n)) = n := by unfold mS; rw [upd_s, nI_clamp (by omega)]
  unfold NowOK at h ⊢
  rw [s1, s2, upd_s, e 1 (by omega)]
  refine ⟨⟨rfl, hn⟩, h.2.1, fun q hq => ?_, fun q hq => ?_⟩
  · rw [e _ (by omega), e _ (by omega)]; exact h.2.2.1 q hq
  · rw [e _ (by omega)]; exact h.2.2.2 q hq
theorem NowOK_lo {f : Nat → Int32} {i : Nat} {x : Int32} (h : NowOK f) (hi : i < 22) (h1 : i ≠ 1) (h2 : i ≠ 2) : NowOK (upd f i x) :=
  NowOK_ext h (fun q hq hc => upd_n (by rcases hc with r | r | ⟨k', hk', r | r | r⟩ <;> omega))
theorem NowOK_site {f : Nat → Int32} {i k j : Nat} {x : Int32} (h : NowOK f) (hk : k < 12) (hj : j < 13) (hi : i = 22 + 13 * k + j) (hx : (j = 0 ∨ j = 1 → vp_in x 8) ∧ (j = 4 → x = -1 ∨ vp_in x 4)) : NowOK (upd f i x) := by
  subst hi
  have e : ∀ q, q ≠ 22 + 13 * k + j → upd f (22 + 13 * k + j) x q = f q := fun q hq => upd_n hq
  have s1 : mP (upd f (22 + 13 * k + j) x) = mP f := by unfold mP; rw [e 1 (by omega)]
  have s2 : mS (upd f (22 + 13 * k + j) x) = mS f := by unfold mS; rw [e 2 (by omega)]
  unfold NowOK at h ⊢
  rw [s1, s2, e 1 (by omega), e 2 (by omega)]
  refine ⟨h.1, h.2.1, fun q hq => ⟨?_, ?_⟩, fun q hq => ?_⟩
  · by_cases c : 22 + 13 * q + 0 = 22 + 13 * k + j
    · rw [c, upd_s]; exact hx.1 (by omega)
    · rw [e _ c]; exact (h.2.2.1 q hq).1
  · by_cases c : 22 + 13 * q + 1 = 22 + 13 * k + j
    · rw [c, upd_s]; exact hx.1 (by omega)
    · rw [e _ c]; exact (h.2.2.1 q hq).2
  · by_cases c : 22 + 13 * q + 4 = 22 + 13 * k + j
    · rw [c, upd_s]; exact hx.2 (by omega)
    · rw [e _ c]; exact h.2.2.2 q hq
theorem X8_joins_ok {nw : Nat → Int32} (hM : NowOK nw) (x : Int32) : NowOK (f_X8_joins nw x).2.1 := by
  have h4 := hM.2.1.2
  have key : ∀ b, (b = true → mP nw < 4) → NowOK (f_X8_joins_j23 nw x b (f_X8_isIn x 0 99)).2.1 := by
    intro b hb
    simp only [f_X8_joins_j23]
    split
    · rename_i c
      have hlt := hb (hOk_1 c).2.1
      exact NowOK_1 (NowOK_lo (NowOK_lo hM (by omega) (by omega) (by omega)) (by omega) (by omega) (by omega)) (by omega)
    · exact hM
  simp only [f_X8_joins]
  split
  · exact key false (fun h => absurd h (by decide))
  · rename_i c
    exact key true (fun _ => ltN (n := 4) (by decide +kernel) (by omega) c)
theorem X8_adds_ok {nw : Nat → Int32} (hM : NowOK nw) (x y w : Int32) : NowOK (f_X8_adds nw x y w).2.1 := by
  have h12 := hM.1.2
  have k70 : ∀ s0 s1 s2 s3, (s0 = true → mS nw < 12) → (s3 = true → vp_in x 8 ∧ vp_in y 8) → NowOK (f_X8_adds_j70 nw x y w s0 s1 s2 s3).2.1 := by
    intro s0 s1 s2 s3 hs hi
    simp only [f_X8_adds_j70]
    split
    · rename_i c
      have q := hOk_1 c
      have hlt := hs q.2.2.2
      obtain ⟨hx, hy⟩ := hi q.1
      obtain ⟨i, hi8, rfl⟩ := vp_in_of hx (by decide)
      obtain ⟨j, hj8, rfl⟩ := vp_in_of hy (by decide)
      refine lpF_invN (step := f_X8_adds_l92s nw (nI i) (nI j) w) (ex := f_X8_adds_l92e nw (nI i) (nI j) w) 13 (fun _ s => s.1 = 22 + 13 * mS nw ∧ NowOK s.2.1) (fun r => NowOK r.2.1) ?_ ?_ ?_ 13 0 _ rfl ⟨rfl, hM⟩
      · intro k s r _ _ h
        simp only [f_X8_adds_l92s, f_X8_adds_l92b] at h
        cases h
      · intro k s s' hk hI h
        simp only [f_X8_adds_l92s, f_X8_adds_l92b] at h
        cases h
        exact ⟨hI.1, NowOK_site hI.2 hlt hk (by rw [hI.1]) ⟨fun _ => vp_in_nI (n := 0) (by decide) (by decide), fun _ => Or.inr (vp_in_nI (n := 0) (by decide) (by decide))⟩⟩
      · intro s hI
        simp only [f_X8_adds_l92e, f_X8_adds_l92x]
        rw [hI.1]
        refine NowOK_2 (NowOK_site (NowOK_site (NowOK_site (NowOK_site (NowOK_site hI.2 hlt (j := 0) (by decide) rfl ?_) hlt (j := 1) (by decide) rfl ?_) hlt (j := 2) (by decide) rfl ?_) hlt (j := 3) (by decide) rfl ?_) hlt (j := 4) (by decide) rfl ?_) (by omega)
        · exact ⟨fun _ => imin_in hi8 hj8, fun h => absurd h (by decide)⟩
        · exact ⟨fun _ => imax_in hi8 hj8, fun h => absurd h (by decide)⟩
        · exact ⟨fun h => by omega, fun h => absurd h (by decide)⟩
        · exact ⟨fun h => by omega, fun h => absurd h (by decide)⟩
        · exact ⟨fun h => by omega, fun _ => Or.inl rfl⟩
    · exact hM
  have k54 : ∀ s0 s1 s2, (s2 = true → vp_in x 8 ∧ vp_in y 8) → NowOK (f_X8_adds_j54 nw x y w s0 s1 s2).2.1 := by
    intro s0 s1 s2 hi
    simp only [f_X8_adds_j54]
    split
    · exact k70 _ _ _ _ (fun h => absurd h (by decide)) hi
    · rename_i c
      exact k70 _ _ _ _ (fun _ => ltN (n := 12) (by decide +kernel) (by omega) c) hi
  have k40 : ∀ s0 s1, (s1 = true → vp_in x 8 ∧ vp_in y 8) → NowOK (f_X8_adds_j40 nw x y w s0 s1).2.1 := by
    intro s0 s1 hi
    simp only [f_X8_adds_j40]
    split <;> exact k54 _ _ _ hi
  have k20 : ∀ s0, (s0 = true → vp_in x 8 ∧ vp_in y 8) → NowOK (f_X8_adds_j20 nw x y w s0).2.1 := by
    intro s0 hi
    simp only [f_X8_adds_j20, f_X8_adds_j39]
    repeat' split
    all_goals exact k40 _ _ hi
  simp only [f_X8_adds, f_X8_adds_j19]
  split
  · rename_i c1
    split
    · rename_i c2
      exact k20 _ (fun _ => ⟨X8_isIsland_in c1, X8_isIsland_in c2⟩)
    · exact k20 _ (fun h => absurd h (by decide))
  · exact k20 _ (fun h => absurd h (by decide))
theorem X8_dresses_ok {nw : Nat → Int32} (hM : NowOK nw) (x y : Int32) : NowOK (f_X8_dresses nw x y).2.1 := by
  simp only [f_X8_dresses]
  split
  · rename_i c
    have q := (nat_of (X8_isIsland_in (hOk_1 c).1) (by decide)).2
    exact NowOK_lo hM (by omega) (by omega) (by omega)
  · exact hM
theorem X8_floods_ok {nw : Nat → Int32} (hM : NowOK nw) (x : Int32) : NowOK (f_X8_floods nw x).2.1 := by
  simp only [f_X8_floods, f_X8_floods_j28]
  split
  · exact NowOK_lo hM (by omega) (by omega) (by omega)
  · exact hM
theorem X8_bids_ok {nw : Nat → Int32} (hM : NowOK nw) (x y w : Int32) (v : Bool) : NowOK (f_X8_bids nw x y w v).2.1 := by
  have hP4 := hM.2.1.2
  have hS12 := hM.1.2
  have k42 : ∀ s0 s1 s2, (s2 = true → x.toNatClampNeg < 4 ∧ y.toNatClampNeg < 12) → NowOK (f_X8_bids_j42 nw x y w v s0 s1 s2).2.1 := by
    intro s0 s1 s2 h9
    simp only [f_X8_bids_j42]
    split
    · rename_i c
      obtain ⟨q1, q2⟩ := h9 (hOk_1 c).1
      have k86 : ∀ b t, NowOK (f_X8_bids_j86 nw x y w v b t).2.1 := by
        intro b t
        have k139 : ∀ a t, NowOK (f_X8_bids_j139 x y v a (((22 + 13 * y.toNatClampNeg) + 9) + x.toNatClampNeg) (upd nw (((22 + 13 * y.toNatClampNeg) + 5) + x.toNatClampNeg) w) t).2.1 := by
          intro a t
          simp only [f_X8_bids_j139, f_X8_bids_j158]
          split <;> exact NowOK_upd (NowOK_upd hM (k := y.toNatClampNeg) (j := 5 + x.toNatClampNeg) q2 (by omega) (by omega)) (k := y.toNatClampNeg) (j := 9 + x.toNatClampNeg) q2 (by omega) (by omega)
        simp only [f_X8_bids_j86]
        repeat' split
        all_goals first | exact k139 _ _ | exact hM
      simp only [f_X8_bids_j85, f_X8_bids_j81]
      repeat' split
      all_goals exact k86 _ _
    · exact hM
  have k22 : ∀ s0, (s0 = true → x.toNatClampNeg < 4 ∧ y.toNatClampNeg < 12) → NowOK (f_X8_bids_j22 nw x y w v s0).2.1 := by
    intro s0 h9
    simp only [f_X8_bids_j22]
    split <;> exact k42 _ _ _ h9
  simp only [f_X8_bids, f_X8_bids_j21]
  split
  · rename_i c1
    split
    · rename_i c2
      exact k22 _ (fun _ => ⟨(nat_of (vp_mono (X8_isPlayer_in hM c1) hP4) (by decide)).2, (nat_of (vp_mono (X8_isSite_in hM c2) hS12) (by decide)).2⟩)
    · exact k22 _ (fun h => absurd h (by decide))
  · exact k22 _ (fun h => absurd h (by decide))
theorem X8_drops_ok {nw : Nat → Int32} (hM : NowOK nw) (x y : Int32) : NowOK (f_X8_drops nw x y).2.1 := by
  have hP4 := hM.2.1.2
  have hS12 := hM.1.2
  have k53 : ∀ v s0 s1 s2, (s2 = true → x.toNatClampNeg < 4 ∧ y.toNatClampNeg < 12) → NowOK (f_X8_drops_j53 nw x y v s0 s1 s2).2.1 := by
    intro v s0 s1 s2 h9
    simp only [f_X8_drops_j53]
    split
    · rename_i c
      obtain ⟨q1, q2⟩ := h9 (hOk_1 c).1
      exact NowOK_upd (NowOK_upd hM (k := y.toNatClampNeg) (j := 5 + x.toNatClampNeg) q2 (by omega) (by omega)) (k := y.toNatClampNeg) (j := 9 + x.toNatClampNeg) q2 (by omega) (by omega)
    · exact hM
  have k29 : ∀ v s0, (s0 = true → x.toNatClampNeg < 4 ∧ y.toNatClampNeg < 12) → NowOK (f_X8_drops_j29 nw x y v s0).2.1 := by
    intro v s0 h9
    simp only [f_X8_drops_j29, f_X8_drops_j38]
    repeat' split
    all_goals exact k53 _ _ _ _ h9
  simp only [f_X8_drops, f_X8_drops_j28]
  split
  · rename_i c1
    split
    · rename_i c2
      exact k29 _ _ (fun _ => ⟨(nat_of (vp_mono (X8_isPlayer_in hM c1) hP4) (by decide)).2, (nat_of (vp_mono (X8_isSite_in hM c2) hS12) (by decide)).2⟩)
    · exact k29 _ _ (fun h => absurd h (by decide))
  · exact k29 _ _ (fun h => absurd h (by decide))
theorem X8_ferries_ok {nw : Nat → Int32} (hM : NowOK nw) (x y : Int32) : NowOK (f_X8_ferries nw x y).2.1 := by
  have hP4 := hM.2.1.2
  have hS12 := hM.1.2
  have k126 : ∀ v3 v5 v6 s0 s1, (s1 = true → vp_in x 4 ∧ y.toNatClampNeg < 12) → NowOK (f_X8_ferries_j126 nw x y v3 v5 v6 s0 s1).2.1 := by
    intro v3 v5 v6 s0 s1 h9
    simp only [f_X8_ferries_j126]
    split
    · rename_i c
      obtain ⟨q0, q2⟩ := h9 (hOk_1 c).1
      have q1 := (nat_of q0 (by decide)).2
      refine lpF_invN (step := f_X8_ferries_l144s nw x y) (ex := f_X8_ferries_l144e nw x y) 4 (fun _ _ => True) (fun r => NowOK r.2.1) ?_ ?_ ?_ 4 0 _ rfl trivial
      · intro k s r _ _ h
        simp only [f_X8_ferries_l144s, f_X8_ferries_l144b, f_X8_ferries_j170] at h
        split at h
        all_goals cases h
      · intros; trivial
      · intro s _
        simp only [f_X8_ferries_l144e, f_X8_ferries_l144x]
        exact NowOK_fer (NowOK_lo hM (by omega) (by omega) (by omega)) q2 rfl (Or.inr q0)
    · exact hM
  have k112 : ∀ v3 v4 v5 s0, (v4 = true → vp_in x 4 ∧ y.toNatClampNeg < 12) → NowOK (f_X8_ferries_j112 nw x y v3 v4 v5 s0).2.1 := by
    intro v3 v4 v5 s0 h9
    simp only [f_X8_ferries_j112]
    split <;> exact k126 _ _ _ _ _ h9
  have k64 : ∀ v3 v4 s0, (v4 = true → vp_in x 4 ∧ y.toNatClampNeg < 12) → NowOK (f_X8_ferries_j64 nw x y v3 v4 s0).2.1 := by
    intro v3 v4 s0 h9
    simp only [f_X8_ferries_j64, f_X8_ferries_j107, f_X8_ferries_j111]
    repeat' split
    all_goals exact k112 _ _ _ _ h9
  have k28 : ∀ v3 s0, (s0 = true → vp_in x 4 ∧ y.toNatClampNeg < 12) → NowOK (f_X8_ferries_j28 nw x y v3 s0).2.1 := by
    intro v3 s0 h9
    simp only [f_X8_ferries_j28, f_X8_ferries_j63]
    repeat' split
    all_goals exact k64 _ _ _ h9
  simp only [f_X8_ferries, f_X8_ferries_j27]
  split
  · rename_i c1
    split
    · rename_i c2
      exact k28 _ _ (fun _ => ⟨vp_mono (X8_isPlayer_in hM c1) hP4, (nat_of (vp_mono (X8_isSite_in hM c2) hS12) (by decide)).2⟩)
    · exact k28 _ _ (fun h => absurd h (by decide))
  · exact k28 _ _ (fun h => absurd h (by decide))
theorem X8_settles_j255_ok {nn : Nat → Int32} (hN : NowOK nn) (s0 : Bool) (t : Int32) : NowOK (f_X8_settles_j255 s0 nn t).2.1 := hN
theorem X8_settles_j244_ok {nn : Nat → Int32} (hN : NowOK nn) (v4 : Bool) (s0 : Int32) {s1 k : Nat} (hk : k < 12) (h1 : s1 = 22 + 13 * k + 3) (t : Int32) : NowOK (f_X8_settles_j244 v4 s0 s1 nn t).2.1 := by
  have h := NowOK_site (x := s0) hN hk (j := 3) (by decide) h1 ⟨fun h => absurd h (by decide), fun h => absurd h (by decide)⟩
  unfold f_X8_settles_j244
  split
  · exact X8_settles_j255_ok h _ _
  · exact X8_settles_j255_ok h _ _
theorem X8_settles_j222_ok {nn : Nat → Int32} (hN : NowOK nn) (x : Int32) (hx : x.toNatClampNeg < 12) (v2 : Nat) (v4 s0 : Bool) (s1 t : Int32) : NowOK (f_X8_settles_j222 x v2 v4 s0 s1 nn t).2.1 := by
  have h := NowOK_lo (i := 5) (x := s1 + bI s0) hN (by omega) (by omega) (by omega)
  unfold f_X8_settles_j222
  split
  · exact X8_settles_j244_ok h _ _ hx rfl _
  · exact X8_settles_j244_ok h _ _ hx rfl _
theorem X8_settles_j167_ok {nn : Nat → Int32} (hN : NowOK nn) (x : Int32) (hx : x.toNatClampNeg < 12) (v2 : Nat) (h2 : v2 < 4) (v3 v4 : Bool) (s0 t : Int32) : NowOK (f_X8_settles_j167 x v2 v3 v4 s0 nn t).2.1 := by
  have h : ∀ a b c : Int32, NowOK (upd (upd (upd nn ((14 + 2 * v2) + 0) a) 3 b) 4 c) := fun a b c => NowOK_lo (NowOK_lo (NowOK_lo hN (by omega) (by omega) (by omega)) (by omega) (by omega) (by omega)) (by omega) (by omega) (by omega)
  unfold f_X8_settles_j167
  split
  · exact X8_settles_j222_ok (h _ _ _) x hx _ _ _ _ _
  · exact X8_settles_j222_ok (h _ _ _) x hx _ _ _ _ _
theorem X8_settles_l94x_ok {nn : Nat → Int32} (hN : NowOK nn) (x : Int32) (hx : x.toNatClampNeg < 12) (v2 : Nat) (h2 : v2 < 4) (v3 v4 : Bool) (v5 t : Int32) : NowOK (f_X8_settles_l94x x v2 v3 v4 v5 nn t).2.1 := by
  have h := NowOK_fer (x := -1) hN (k := x.toNatClampNeg) hx rfl (Or.inl rfl)
  unfold f_X8_settles_l94x
  split
  · exact X8_settles_j167_ok h x hx _ h2 _ _ _ _
  · exact X8_settles_j167_ok h x hx _ h2 _ _ _ _
theorem X8_settles_j73_ok {nw : Nat → Int32} (hM : NowOK nw) (x : Int32) (hx : x.toNatClampNeg < 12) (v2 : Nat) (h2 : v2 < 4) (b : Bool) (t : Int32) : NowOK (f_X8_settles_j73 nw x v2 b t).2.1 := by
  have key : ∀ (n k : Nat) (v3 v4 : Bool) (v5 : Int32) (nn : Nat → Int32) (tt : Int32), k + n = 4 → NowOK nn → NowOK (lpF (f_X8_settles_l94s x) (f_X8_settles_l94e x) n k (v2, v3, v4, v5, nn, tt)).2.1 := by
    intro n
    induction n with
    | zero =>
      intro k v3 v4 v5 nn tt hk hN
      exact X8_settles_l94x_ok hN x hx v2 h2 v3 v4 v5 tt
    | succ n ih =>
      intro k v3 v4 v5 nn tt hk hN
      exact ih (k + 1) v3 v4 v5 _ tt (by omega) (NowOK_upd (NowOK_upd hN (k := x.toNatClampNeg) (j := 5 + k) (x := 0) hx (by omega) (Nat.add_assoc _ _ _)) (k := x.toNatClampNeg) (j := 9 + k) (x := 0) hx (by omega) (Nat.add_assoc _ _ _))
  unfold f_X8_settles_j73 f_X8_settles_l94
  exact key 4 0 _ _ _ _ _ rfl hM
theorem X8_settles_j40_ok {nw : Nat → Int32} (hM : NowOK nw) (x : Int32) (s0 s1 s2 : Bool) (h9 : s2 = true → vp_in x (mS nw)) : NowOK (f_X8_settles_j40 nw x s0 s1 s2).2.1 := by
  have hS12 := hM.1.2
  have hw := (nat_of (X8_winner_in hM x) (by decide)).2
  unfold f_X8_settles_j40
  split
  · rename_i c
    have q0 := vp_mono (h9 (hOk_1 c).1) hS12
    have q2 := (nat_of q0 (by decide)).2
    split
    · exact X8_settles_j73_ok hM x q2 _ hw _ _
    · exact X8_settles_j73_ok hM x q2 _ hw _ _
  · exact hM
theorem X8_settles_j39_ok {nw : Nat → Int32} (hM : NowOK nw) (x : Int32) (s0 s1 : Bool) (h9 : s1 = true → vp_in x (mS nw)) : NowOK (f_X8_settles_j39 nw x s0 s1).2.1 := by
  unfold f_X8_settles_j39
  exact X8_settles_j40_ok hM x _ _ _ h9
theorem X8_settles_j19_ok {nw : Nat → Int32} (hM : NowOK nw) (x : Int32) (s0 s1 : Bool) (h9 : s1 = true → vp_in x (mS nw)) : NowOK (f_X8_settles_j19 nw x s0 s1).2.1 := by
  unfold f_X8_settles_j19
  split
  · split
    · exact X8_settles_j39_ok hM x _ _ h9
    · exact X8_settles_j40_ok hM x _ _ _ h9
  · exact X8_settles_j39_ok hM x _ _ h9
theorem X8_settles_ok {nw : Nat → Int32} (hM : NowOK nw) (x : Int32) : NowOK (f_X8_settles nw x).2.1 := by
  unfold f_X8_settles
  split
  · exact X8_settles_j19_ok hM x _ _ (fun h => X8_isSite_in hM h)
  · exact X8_settles_j19_ok hM x _ _ (fun h => X8_isSite_in hM h)
theorem copyFrom_fer {G G2 : GS} (h : FerOK G2) : FerOK (f_X1_copyFrom G G2) := by
  intro k hk
  have e : gFer (f_X1_copyFrom G G2) k = gFer G2 k := cpy_in hk
  rw [e]; exact h k hk
