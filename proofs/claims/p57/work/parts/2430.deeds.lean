/-! what a deed keeps: the sites' islands, the sum of all money -/
def KEEP (G G' : GS) : Prop := gS G' = gS G ∧ gLo G' = gLo G ∧ gHi G' = gHi G ∧ gP G' = gP G ∧ gIni G' = gIni G
theorem keep_clear (G : GS) (k : Nat) : KEEP G (f_X1_clearBids G k) := by
  unfold f_X1_clearBids f_X1_clearBids_l2
  refine lpF_inv (step := f_X1_clearBids_l2s G k) (ex := f_X1_clearBids_l2e G k) (fun _ _ => True) (fun r => KEEP G r) (fun j s r _ e => ?_) (fun _ _ _ _ _ => trivial) (fun j s _ => ⟨rfl, rfl, rfl, rfl, rfl⟩) 4 0 _ trivial
  have e : f_X1_clearBids_l2b G k j s.1 s.2 = .inl r := e
  unfold f_X1_clearBids_l2b at e
  cases e
theorem keep_82 {G X : GS} (h : KEEP G X) (k : Nat) (v : Int32) (b : Bool) : KEEP G (f_X1_close_j82 k v b X).2 := by
  unfold f_X1_close_j82 f_X1_close_j94
  cases b
  · rw [if_neg (by decide)]
    exact ⟨h.1, h.2.1, h.2.2.1, h.2.2.2.1, h.2.2.2.2⟩
  · rw [if_pos rfl]
    exact ⟨h.1, h.2.1, h.2.2.1, h.2.2.2.1, h.2.2.2.2⟩
theorem keep_pay {G X : GS} (h : KEEP G X) (q : Nat) (x : Int32) : KEEP G (f_X1_pay X q x) := ⟨h.1, h.2.1, h.2.2.1, h.2.2.2.1, h.2.2.2.2⟩
theorem keep_mk {G Y : GS} (c : KEEP G Y) (a b : Int32) : KEEP G (mkG (gSuit Y) (gTide Y) (gP Y) (gMon Y) (gUsed Y) (gS Y) (gLo Y) (gHi Y) (gLen Y) (gBld Y) (gFer Y) (gOff Y) (gIni Y) (gBank Y) a b) := ⟨c.1, c.2.1, c.2.2.1, c.2.2.2.1, c.2.2.2.2⟩
theorem keep_close (G : GS) (k : Nat) : KEEP G (f_X1_close G k).2 := by
  have c := keep_clear G k
  unfold f_X1_close lt_
  revert c
  generalize f_X1_clearBids G k = Y
  intro c
  by_cases h : f_X1_hasBluff G (f_X1_winnerOf G k).toNatClampNeg k = true
  · simp only [if_pos h]
    exact keep_82 (keep_pay (keep_mk c _ _) _ _) _ _ _
  · simp only [if_neg h]
    exact keep_82 (keep_pay (keep_mk c _ _) _ _) _ _ _
theorem keep_play (G : GS) {n : Nat} (hn : n < 9) (h2 : 2 ≤ n) (x y w : Int32) : KEEP G (f_X1_play G n x y w).2 := by
  rcases (by omega : n = 2 ∨ n = 3 ∨ n = 4 ∨ n = 5 ∨ n = 6 ∨ n = 7 ∨ n = 8) with r | r | r | r | r | r | r <;> subst r
  · exact ⟨rfl, rfl, rfl, rfl, rfl⟩
  · exact ⟨rfl, rfl, rfl, rfl, rfl⟩
  · exact ⟨rfl, rfl, rfl, rfl, rfl⟩
  · exact ⟨rfl, rfl, rfl, rfl, rfl⟩
  · exact ⟨rfl, rfl, rfl, rfl, rfl⟩
  · exact ⟨rfl, rfl, rfl, rfl, rfl⟩
  · rw [play_8]
    exact keep_close G _
theorem DS_keep {G G' : GS} (h : KEEP G G') (d : DS G) : DS G' := by
  obtain ⟨h1, h2, h3, -, -⟩ := h
  unfold DS
  rw [h1, h2, h3]
  exact d
theorem between_no {G : GS} {x y : Int32} (h : f_X1_hasSiteBetween G x y = false) : ∀ k, k < gS G → ¬ (nI (gLo G k) = x ∧ nI (gHi G k) = y) := by
  have key : f_X1_hasSiteBetween G x y = true ∨ ∀ k, k < gS G → ¬ (nI (gLo G k) = x ∧ nI (gHi G k) = y) := by
    unfold f_X1_hasSiteBetween f_X1_hasSiteBetween_l2
    refine lpF_invN (gS G) (fun n _ => ∀ k, k < n → ¬ (nI (gLo G k) = x ∧ nI (gHi G k) = y)) (fun r => r = true ∨ ∀ k, k < gS G → ¬ (nI (gLo G k) = x ∧ nI (gHi G k) = y)) ?_ ?_ ?_ _ 0 _ (Nat.zero_add _) (fun k hk => absurd hk (Nat.not_lt_zero k))
    · intro k s r hk _ e
      have e : f_X1_hasSiteBetween_l2b G x y k = .inl r := e
      unfold f_X1_hasSiteBetween_l2b f_X1_hasSiteBetween_j32 at e
      split at e
      · split at e
        · cases e; exact Or.inl rfl
        · cases e
      · cases e
    · intro k s s' hk i e j hj
      by_cases q : j = k
      · subst q
        rintro ⟨a, b⟩
        have e : f_X1_hasSiteBetween_l2b G x y j = .inr s' := e
        unfold f_X1_hasSiteBetween_l2b at e
        rw [if_pos a, if_pos b] at e
        cases e
      · exact i j (by omega)
    · intro s i
      exact Or.inr i
  rcases key with k | k
  · rw [h] at k; cases k
  · exact k
theorem site_ok {G : GS} {x y w : Int32} (h : f_X1_judge G 1 x y w = 0) : ∃ i j, i < 8 ∧ j < 8 ∧ i ≠ j ∧ x = nI i ∧ y = nI j ∧ f_X1_hasSiteBetween G (imin (nI i) (nI j)) (imax (nI i) (nI j)) = false := by
  rw [X1_judge_2 rfl] at h
  unfold f_X1_judgeSite f_X1_judgeSite_j77 f_X1_judgeSite_j34 f_X1_judgeSite_j14 at h
  rcases is_case x with e | ⟨i, hi, rfl, -, e⟩
  · rw [e, if_neg (by decide)] at h; cases h
  rw [e, if_pos rfl] at h
  rcases is_case y with e | ⟨j, hj, rfl, -, e⟩
  · rw [e, if_neg (by decide)] at h; cases h
  rw [e, if_pos rfl] at h
  refine ⟨i, j, hi, hj, ?_, rfl, rfl, ?_⟩
  · intro q
    rw [if_pos (congrArg nI q)] at h
    cases h
  · refine nt_f (fun q => ?_)
    split at h
    · cases h
    · split at h
      · cases h
      · split at h
        · first
            | cases h
            | (rw [if_pos q] at h; cases h)
        · cases h
theorem DS_open {G : GS} (hG : GSafe G) (d : DS G) {i j : Nat} (hi : i < 8) (hj : j < 8) (hn : i ≠ j) (hb : f_X1_hasSiteBetween G (imin (nI i) (nI j)) (imax (nI i) (nI j)) = false) (w : Int32) : DS (f_X1_play G 1 (nI i) (nI j) w).2 := by
  have nb := between_no hb
  have e1 : imin (nI i) (nI j) = nI (min i j) := imin_nI (by omega) (by omega)
  have e2 : imax (nI i) (nI j) = nI (max i j) := by
    unfold imax
    rw [Nat.max_def]
    by_cases c : nI i < nI j
    · rw [if_pos c]
      rw [ilt, nI_toInt (by omega), nI_toInt (by omega)] at c
      rw [if_pos (by omega)]
    · rw [if_neg c]
      rw [ilt, nI_toInt (by omega), nI_toInt (by omega)] at c
      rw [if_neg (by omega)]
  have lo : ∀ k, gLo (f_X1_play G 1 (nI i) (nI j) w).2 k = if k = gS G then min i j else gLo G k := fun k => by
    show updN (gLo G) (gS G) ((imin (nI (nI i).toNatClampNeg) (nI (nI j).toNatClampNeg))).toNatClampNeg k = _
    rw [nI_clamp (show i < 2 ^ 31 by omega), nI_clamp (show j < 2 ^ 31 by omega), e1, nI_clamp (by omega)]
    rfl
  have hi' : ∀ k, gHi (f_X1_play G 1 (nI i) (nI j) w).2 k = if k = gS G then max i j else gHi G k := fun k => by
    show updN (gHi G) (gS G) ((imax (nI (nI i).toNatClampNeg) (nI (nI j).toNatClampNeg))).toNatClampNeg k = _
    rw [nI_clamp (show i < 2 ^ 31 by omega), nI_clamp (show j < 2 ^ 31 by omega), e2, nI_clamp (by omega)]
    rfl
  have sz : gS (f_X1_play G 1 (nI i) (nI j) w).2 = gS G + 1 := rfl
  rw [e1, e2] at nb
  intro a ha
  rw [sz] at ha
  rw [lo, hi']
  constructor
  · split
    · omega
    · exact (d a (by omega)).1
  · intro b hb' p q
    rw [sz] at hb'
    rw [lo] at p
    rw [hi'] at q
    by_cases c : a = gS G
    · by_cases c' : b = gS G
      · omega
      · rw [if_pos c, if_neg c'] at p
        rw [if_pos c, if_neg c'] at q
        exact absurd ⟨congrArg nI p.symm, congrArg nI q.symm⟩ (nb b (by omega))
    · by_cases c' : b = gS G
      · rw [if_neg c, if_pos c'] at p
        rw [if_neg c, if_pos c'] at q
        exact absurd ⟨congrArg nI p, congrArg nI q⟩ (nb a (by omega))
      · rw [if_neg c, if_neg c'] at p
        rw [if_neg c, if_neg c'] at q
        exact (d a (by omega)).2 b (by omega) p q
/-- what is kept of the money that came in -/
def MREL (G G' : GS) : Prop := (gP G' = gP G ∧ gIni G' = gIni G) ∨ (gP G' = gP G + 1 ∧ gIni G' = gIni G + gMon G' (gP G))
theorem play_all {G : GS} (hG : GSafe G) (d : DS G) {n : Nat} (hn : n < 9) {x y w : Int32} (h : f_X1_judge G n x y w = 0) : DS (f_X1_play G n x y w).2 ∧ MREL G (f_X1_play G n x y w).2 := by
  by_cases c0 : n = 0
  · subst c0
    rw [play_0]
    refine ⟨d, Or.inr ⟨rfl, ?_⟩⟩
    show gIni G + x = gIni G + upd (gMon G) (gP G) x (gP G)
    rw [pk_us]
  · by_cases c1 : n = 1
    · subst c1
      obtain ⟨i, j, hi, hj, hne, rfl, rfl, hb⟩ := site_ok h
      exact ⟨DS_open hG d hi hj hne hb w, Or.inl ⟨rfl, rfl⟩⟩
    · have k := keep_play G hn (by omega) x y w
      exact ⟨DS_keep k d, Or.inl ⟨k.2.2.2.1, k.2.2.2.2⟩⟩
theorem change_all {Q : QS} {G : GS} {S : HS} (hG : GSafe G) (d : DS G) {n : Nat} (hn : n < 9) {x y w : Int32} : DS (f_X7_change Q G S n x y w).2.2.1 ∧ MREL G (f_X7_change Q G S n x y w).2.2.1 := by
  unfold f_X7_change lt_
  rw [fine_eq (X1_judge_lt G n x y w)]
  dsimp only
  by_cases c : f_X1_judge G n x y w = 0
  · rw [if_pos c]
    exact play_all hG d hn c
  · rw [if_neg c]
    exact ⟨d, Or.inl ⟨rfl, rfl⟩⟩
/-- the law's plain deed: the code of what is thrown (0: nothing), the answer, the game and the history then -/
def plF (K : CT) (n : Nat) (a b c : Int32) : Nat × Int32 × GS × HS := match n with
  | 0 => f_X7_addPlayer (kQ K) (kG K) (kS K) a
  | 1 => f_X7_addSite (kQ K) (kG K) (kS K) a b c
  | 2 => f_X7_setSuit (kQ K) (kG K) (kS K) a b
  | 3 => f_X7_setTide (kQ K) (kG K) (kS K) a
  | 4 => f_X7_placeBid (kQ K) (kG K) (kS K) a b c
  | 5 => f_X7_placeBluff (kQ K) (kG K) (kS K) a b c
  | 6 => f_X7_withdrawBid (kQ K) (kG K) (kS K) a b
  | 7 => f_X7_playFerry (kQ K) (kG K) (kS K) a b
  | _ => ((f_X7_settle (kQ K) (kG K) (kS K) a).1, bI (f_X7_settle (kQ K) (kG K) (kS K) a).2.1, (f_X7_settle (kQ K) (kG K) (kS K) a).2.2)
abbrev kG' (K : CT) (G : GS) (S : HS) : CT := (kQ K, G, kG1 K, kG2 K, S, kSc K)
abbrev plK (K : CT) (n : Nat) (a b c : Int32) : CT := kG' K (plF K n a b c).2.2.1 (plF K n a b c).2.2.2
/-- a game that is kept: by the rules, its history too; no two sites alike -/
def DI (K : CT) : Prop := (∃ nw hs rm, RR (kG K) nw ∧ HR (kS K) hs rm) ∧ DS (kG K) ∧ FerOK (kG K)
theorem DI_I {K : CT} (h : DI K) : GI (kG K) := by
  obtain ⟨⟨nw, hs, rm, r, -⟩, -⟩ := h
  exact r.1
theorem MREL_rf (G : GS) : MREL G G := Or.inl ⟨rfl, rfl⟩
theorem ifG {A : Nat × Int32 × GS × HS} : (lt_ A (fun y7 => (if y7.1 = 0 then (0, y7.2.1, y7.2.2.1, y7.2.2.2) else (y7.1, 0, y7.2.2.1, y7.2.2.2)))).2.2.1 = A.2.2.1 := by
  unfold lt_
  dsimp only
  split <;> rfl
theorem settle_G (Q : QS) (G : GS) (S : HS) (a : Int32) : (f_X7_settle Q G S a).2.2.1 = (f_X7_change Q G S 8 a 0 0).2.2.1 := by
  unfold f_X7_settle lt_
  generalize f_X7_change Q G S 8 a 0 0 = Z
  dsimp only
  unfold f_X7_settle_j19
  by_cases c : Z.1 = 0
  · rw [if_pos c]
    by_cases d : Z.2.1 = 1
    · rw [if_pos d]
    · rw [if_neg d]
  · rw [if_neg c]
theorem settle_all {K : CT} {nw hs : Nat → Int32} {rm : Nat} (r : RR (kG K) nw) (hr : HR (kS K) hs rm) (d : DS (kG K)) (a : Int32) : DI (kG' K (f_X7_settle (kQ K) (kG K) (kS K) a).2.2.1 (f_X7_settle (kQ K) (kG K) (kS K) a).2.2.2) ∧ (f_X7_settle (kQ K) (kG K) (kS K) a).1 < 6 ∧ MREL (kG K) (f_X7_settle (kQ K) (kG K) (kS K) a).2.2.1 := by
  have ca := change_all (Q := kQ K) (S := kS K) (GI_safe r.1) d (n := 8) (by decide) (x := a) (y := 0) (w := 0)
  have b := b_settle (Q := kQ K) (bf := nw) r hr a
  rw [← settle_G] at ca
  revert ca
  revert b
  generalize f_X7_settle (kQ K) (kG K) (kS K) a = Z
  intro b ca
  obtain ⟨-, h2, -, h4, h5⟩ := b
  refine ⟨⟨⟨_, _, _, h4, h5⟩, ca.1, h4.2.2.2⟩, ?_, ca.2⟩
  rcases h2 with e | e
  · omega
  · have : ∀ j, j ∈ ([1, 3, 5] : List Nat) → j < 6 := by decide
    exact this _ e
theorem deed_all {K : CT} (h : DI K) {n : Nat} (hn : n < 9) (a b c : Int32) : DI (plK K n a b c) ∧ (plF K n a b c).1 < 6 ∧ MREL (kG K) (kG (plK K n a b c)) := by
  obtain ⟨⟨nw, hs, rm, r, hr⟩, d, -⟩ := h
  have hG := GI_safe r.1
  have mk : ∀ {L : List Nat} {A : Nat × Int32 × GS × HS} {B : Int32 × (Nat → Int32) × (Nat → Int32) × (Nat → Int32) × Nat × Int32}, CH L A B → (∀ j, j ∈ L → j < 6) → DS A.2.2.1 → MREL (kG K) A.2.2.1 → DI (kG' K A.2.2.1 A.2.2.2) ∧ A.1 < 6 ∧ MREL (kG K) A.2.2.1 := by
    intro L A B ch hL dd mm
    obtain ⟨-, h2, -, h4, h5⟩ := ch
    refine ⟨⟨⟨_, _, _, h4, h5⟩, dd, h4.2.2.2⟩, ?_, mm⟩
    rcases h2 with e | e
    · omega
    · exact hL _ e
  rcases (by omega : n = 0 ∨ n = 1 ∨ n = 2 ∨ n = 3 ∨ n = 4 ∨ n = 5 ∨ n = 6 ∨ n = 7 ∨ n = 8) with q | q | q | q | q | q | q | q | q <;> subst q
  · have ca := change_all (Q := kQ K) (S := kS K) hG d (n := 0) (by decide) (x := a) (y := 0) (w := 0)
    have g0 : (f_X7_addPlayer (kQ K) (kG K) (kS K) a).2.2.1 = (f_X7_change (kQ K) (kG K) (kS K) 0 a 0 0).2.2.1 := ifG
    rw [← g0] at ca
    exact mk (b_addPlayer (Q := kQ K) (bf := nw) r hr a) (by decide) ca.1 ca.2
  · have ca := change_all (Q := kQ K) (S := kS K) hG d (n := 1) (by decide) (x := a) (y := b) (w := c)
    have g0 : (f_X7_addSite (kQ K) (kG K) (kS K) a b c).2.2.1 = (f_X7_change (kQ K) (kG K) (kS K) 1 a b c).2.2.1 := ifG
    rw [← g0] at ca
    exact mk (b_addSite (Q := kQ K) (bf := nw) r hr a b c) (by decide) ca.1 ca.2
  · have ca := change_all (Q := kQ K) (S := kS K) hG d (n := 2) (by decide) (x := a) (y := b) (w := 0)
    have g0 : (f_X7_setSuit (kQ K) (kG K) (kS K) a b).2.2.1 = (f_X7_change (kQ K) (kG K) (kS K) 2 a b 0).2.2.1 := ifG
    rw [← g0] at ca
    exact mk (b_setSuit (Q := kQ K) (bf := nw) r hr a b) (by decide) ca.1 ca.2
  · have ca := change_all (Q := kQ K) (S := kS K) hG d (n := 3) (by decide) (x := a) (y := 0) (w := 0)
    have g0 : (f_X7_setTide (kQ K) (kG K) (kS K) a).2.2.1 = (f_X7_change (kQ K) (kG K) (kS K) 3 a 0 0).2.2.1 := ifG
    rw [← g0] at ca
    exact mk (b_setTide (Q := kQ K) (bf := nw) r hr a) (by decide) ca.1 ca.2
  · have ca := change_all (Q := kQ K) (S := kS K) hG d (n := 4) (by decide) (x := a) (y := b) (w := c)
    have g0 : (f_X7_placeBid (kQ K) (kG K) (kS K) a b c).2.2.1 = (f_X7_change (kQ K) (kG K) (kS K) 4 a b c).2.2.1 := ifG
    rw [← g0] at ca
    exact mk (b_placeBid (Q := kQ K) (bf := nw) r hr a b c) (by decide) ca.1 ca.2
  · have ca := change_all (Q := kQ K) (S := kS K) hG d (n := 5) (by decide) (x := a) (y := b) (w := c)
    have g0 : (f_X7_placeBluff (kQ K) (kG K) (kS K) a b c).2.2.1 = (f_X7_change (kQ K) (kG K) (kS K) 5 a b c).2.2.1 := ifG
    rw [← g0] at ca
    exact mk (b_placeBluff (Q := kQ K) (bf := nw) r hr a b c) (by decide) ca.1 ca.2
  · have ca := change_all (Q := kQ K) (S := kS K) hG d (n := 7) (by decide) (x := a) (y := b) (w := 0)
    have g0 : (f_X7_withdrawBid (kQ K) (kG K) (kS K) a b).2.2.1 = (f_X7_change (kQ K) (kG K) (kS K) 7 a b 0).2.2.1 := ifG
    rw [← g0] at ca
    exact mk (b_withdrawBid (Q := kQ K) (bf := nw) r hr a b) (by decide) ca.1 ca.2
  · have ca := change_all (Q := kQ K) (S := kS K) hG d (n := 6) (by decide) (x := a) (y := b) (w := 0)
    have g0 : (f_X7_playFerry (kQ K) (kG K) (kS K) a b).2.2.1 = (f_X7_change (kQ K) (kG K) (kS K) 6 a b 0).2.2.1 := ifG
    rw [← g0] at ca
    exact mk (b_playFerry (Q := kQ K) (bf := nw) r hr a b) (by decide) ca.1 ca.2
  · exact settle_all r hr d a
/-- at the start the sum is what the law counts -/
theorem initial_it {G : GS} (h : GI G) : itF (fun p v => v + gMon G p) (gP G) 0 (gBank G) = gIni G := h.2.2.2.symm
