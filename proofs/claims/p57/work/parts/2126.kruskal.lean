/-! the shortest forest, by joining -/
theorem set_eq {p q : Edg → Prop} (h : ∀ e, p e ↔ q e) : p = q := funext fun e => propext (h e)
/-- the edges that were looked at: all shorter ones, and of this length those of the first sites -/
def seen (G : GS) (L k : Nat) : Edg → Prop := fun e => (e ∈ eds G ∧ e.2.2 < L) ∨ (e ∈ edsN G k ∧ e.2.2 = L)
theorem sub_eds {G : GS} {k : Nat} (hk : k ≤ gS G) {e : Edg} (h : e ∈ edsN G k) : e ∈ eds G := by
  obtain ⟨j, hj, hb, rfl⟩ := mem_eds h
  exact eds_mem (by omega) hb
theorem seen_yes {G : GS} {L k : Nat} (hb : f_X1_hasBridge G k = true) (hl : (edE G k).2.2 = L) : seen G L (k + 1) = eAdd (seen G L k) (edE G k) := set_eq fun e => by
  unfold seen eAdd
  rw [edsN_succ, if_pos hb, List.mem_append, List.mem_singleton]
  constructor
  · rintro (h | ⟨h | h, h2⟩)
    · exact Or.inl (Or.inl h)
    · exact Or.inl (Or.inr ⟨h, h2⟩)
    · exact Or.inr h
  · rintro ((h | ⟨h, h2⟩) | h)
    · exact Or.inl h
    · exact Or.inr ⟨Or.inl h, h2⟩
    · exact Or.inr ⟨Or.inr h, by rw [h]; exact hl⟩
theorem seen_no {G : GS} {L k : Nat} (h : f_X1_hasBridge G k = true → (edE G k).2.2 ≠ L) : seen G L (k + 1) = seen G L k := set_eq fun e => by
  unfold seen
  rw [edsN_succ]
  by_cases hb : f_X1_hasBridge G k = true
  · rw [if_pos hb, List.mem_append, List.mem_singleton]
    constructor
    · rintro (q | ⟨q | q, q2⟩)
      · exact Or.inl q
      · exact Or.inr ⟨q, q2⟩
      · exact absurd (by rw [q] at q2; exact q2) (h hb)
    · rintro (q | ⟨q, q2⟩)
      · exact Or.inl q
      · exact Or.inr ⟨Or.inl q, q2⟩
  · rw [if_neg hb]
theorem seen_next (G : GS) (L : Nat) : seen G L (gS G) = seen G (L + 1) 0 := set_eq fun e => by
  unfold seen
  constructor
  · rintro (⟨q, q2⟩ | ⟨q, q2⟩)
    · exact Or.inl ⟨q, by omega⟩
    · exact Or.inl ⟨q, by omega⟩
  · rintro (⟨q, q2⟩ | ⟨q, q2⟩)
    · by_cases c : e.2.2 = L
      · exact Or.inr ⟨q, c⟩
      · exact Or.inl ⟨q, by omega⟩
    · exact absurd q List.not_mem_nil
theorem seen_0 {G : GS} (h : GI0 G) : seen G 1 0 = fun _ => False := set_eq fun e => by
  unfold seen
  constructor
  · rintro (⟨q, q2⟩ | ⟨q, q2⟩)
    · have := (wf_eds h e q).2.2.1
      omega
    · exact absurd q List.not_mem_nil
  · intro q; exact q.elim
theorem seen_10 {G : GS} (h : GI0 G) : ∀ e, seen G 10 0 e ↔ e ∈ eds G := fun e => by
  unfold seen
  constructor
  · rintro (⟨q, q2⟩ | ⟨q, q2⟩)
    · exact q
    · exact absurd q List.not_mem_nil
  · intro q
    have := (wf_eds h e q).2.2.2
    exact Or.inl ⟨q, by omega⟩
theorem sum_b {K : List Edg} {p : Edg → Prop} (h : KI p K) : sumL K ≤ 63 := by
  have l : K.length ≤ 7 := by
    have h1 := h.1 9
    have h2 : cntT K 9 = K.length := by
      unfold cntT
      exact List.countP_eq_length.mpr (fun e he => decide_eq_true (h.2 e he).2)
    have h3 := cl_pos (pl p 9)
    omega
  have : ∀ K : List Edg, (∀ e, e ∈ K → 1 ≤ e.2.2 ∧ e.2.2 ≤ 9) → sumL K ≤ 9 * K.length := by
    intro K
    induction K with
    | nil => intro _; exact Nat.zero_le _
    | cons e K ih =>
      intro hK
      have a1 := ih (fun e he => hK e (List.mem_cons_of_mem _ he))
      have a2 := hK e List.mem_cons_self
      show e.2.2 + sumL K ≤ 9 * (K.length + 1)
      omega
  have := this K h.2
  omega
/-- one site of one length, whatever keeps the groups -/
def krS {σ : Type} (G : GS) (jn : σ → Nat → Bool × σ) (L k : Nat) (s : Int32 × σ) : Int32 × σ := if f_X1_hasBridge G k = true ∧ gLen G k = nI L then ((if (jn s.2 k).1 = true then s.1 + nI L else s.1), (jn s.2 k).2) else s
def JN {σ : Type} (G : GS) (jn : σ → Nat → Bool × σ) (T : σ → (Edg → Prop) → Prop) : Prop := ∀ s p k, k < gS G → T s p → ((jn s k).1 = true ↔ ¬ Conn p (gLo G k) (gHi G k)) ∧ T (jn s k).2 (eAdd p (edE G k))
def KS {σ : Type} (T : σ → (Edg → Prop) → Prop) (s : Int32 × σ) (p : Edg → Prop) : Prop := T s.2 p ∧ ∃ K, KI p K ∧ s.1 = nI (sumL K)
theorem kr_step {σ : Type} {G : GS} (h : GI0 G) {jn : σ → Nat → Bool × σ} {T : σ → (Edg → Prop) → Prop} (hj : JN G jn T) {L k : Nat} (hk : k < gS G) (h1 : 1 ≤ L) (h9 : L ≤ 9) {s : Int32 × σ} (i : KS T s (seen G L k)) : KS T (krS G jn L k s) (seen G L (k + 1)) := by
  obtain ⟨L', l1, l9, el, el2⟩ := len_nat h hk
  have eq : gLen G k = nI L ↔ (edE G k).2.2 = L := by
    rw [el, el2]
    exact nI_eq (by omega) (by omega)
  unfold krS
  by_cases c : f_X1_hasBridge G k = true ∧ gLen G k = nI L
  · rw [if_pos c]
    have e2 := eq.mp c.2
    rw [seen_yes c.1 e2]
    obtain ⟨i1, K, i2, i3⟩ := i
    obtain ⟨j1, j2⟩ := hj _ _ k hk i1
    refine ⟨j2, ?_⟩
    have w : ∀ e', seen G L k e' → e'.2.2 ≤ (edE G k).2.2 := fun e' q => by
      rcases q with ⟨_, q⟩ | ⟨_, q⟩ <;> omega
    by_cases d : Conn (seen G L k) (gLo G k) (gHi G k)
    · have jf : ¬ (jn s.2 k).1 = true := fun z => j1.mp z d
      exact ⟨K, KI_skip i2 w d, by dsimp only; rw [if_neg jf]; exact i3⟩
    · have kj := KI_join i2 w ⟨h.1.2.2.1 k, h.1.2.2.2 k, by omega, by omega⟩ d
      refine ⟨K ++ [edE G k], kj, ?_⟩
      dsimp only
      rw [if_pos (j1.mpr d), i3, nI_add, sumL_app, e2]
  · rw [if_neg c, seen_no (fun hb e => c ⟨hb, eq.mpr e⟩)]
    exact i
theorem kr_in {σ : Type} {G : GS} (h : GI0 G) {jn : σ → Nat → Bool × σ} {T : σ → (Edg → Prop) → Prop} (hj : JN G jn T) {L : Nat} (h1 : 1 ≤ L) (h9 : L ≤ 9) {s : Int32 × σ} (i : KS T s (seen G L 0)) : ∀ n, n ≤ gS G → KS T (itF (krS G jn L) n 0 s) (seen G L n) := by
  intro n
  induction n with
  | zero => intro _; exact i
  | succ n ih =>
    intro hn
    rw [itF_snoc, Nat.zero_add]
    exact kr_step h hj (by omega) h1 h9 (ih (by omega))
theorem kr_out {σ : Type} {G : GS} (h : GI0 G) {jn : σ → Nat → Bool × σ} {T : σ → (Edg → Prop) → Prop} (hj : JN G jn T) {s : Int32 × σ} (i : KS T s (seen G 1 0)) : ∀ n, n ≤ 9 → KS T (itF (fun L s => itF (krS G jn L) (gS G) 0 s) n 1 s) (seen G (1 + n) 0) := by
  intro n
  induction n with
  | zero => intro _; exact i
  | succ n ih =>
    intro hn
    rw [itF_snoc]
    have := kr_in h hj (L := 1 + n) (by omega) (by omega) (ih (by omega)) (gS G) (Nat.le_refl _)
    rw [seen_next] at this
    exact this
theorem kr_end {σ : Type} {G : GS} (h : GI0 G) {jn : σ → Nat → Bool × σ} {T : σ → (Edg → Prop) → Prop} (hj : JN G jn T) {s : σ} (i : T s (fun _ => False)) : (itF (fun L s => itF (krS G jn L) (gS G) 0 s) 9 1 (0, s)).1 = nI (forestW (eds G)) := by
  have i0 : KS T (((0 : Int32), s)) (seen G 1 0) := by
    rw [seen_0 h]
    exact ⟨i, [], KI_0, rfl⟩
  obtain ⟨_, K, k1, k2⟩ := kr_out h hj i0 9 (Nat.le_refl _)
  rw [k2, KI_end k1 (seen_10 h)]
theorem sep_ok (Rr : GR) : rNear (f_X2_separateAll Rr) = rNear Rr ∧ ∀ v, v < 8 → rPar (f_X2_separateAll Rr) v = v := by
  unfold f_X2_separateAll f_X2_separateAll_l2
  rw [lpF_it (step := f_X2_separateAll_l2s Rr) (ex := f_X2_separateAll_l2e Rr) (fun k s => updN s k k) 8 (fun k s hk => rfl) _ _ _ (Nat.zero_add _)]
  refine ⟨rfl, ?_⟩
  show ∀ v, v < 8 → itF (fun k s => updN s k k) 8 0 (rPar Rr) v = v
  have key : ∀ n, n ≤ 8 → ∀ y, y < n → itF (fun k s => updN s k k) n 0 (rPar Rr) y = y := by
    intro n
    induction n with
    | zero => intro _ y hy; exact absurd hy (Nat.not_lt_zero y)
    | succ n ih =>
      intro hn y hy
      rw [itF_snoc, Nat.zero_add]
      by_cases c : y = n
      · subst c; exact updN_s
      · exact (updN_n c).trans (ih (by omega) y (by omega))
  exact key 8 (Nat.le_refl _)
theorem kruskal_c {G : GS} (h : GI G) (Rr : GR) : (f_X2_kruskalLength Rr G).1 = nI (forestW (eds G)) := by
  have hG := GI_safe h
  unfold f_X2_kruskalLength lt_ f_X2_kruskalLength_l8
  dsimp only
  rw [lpF_it (step := f_X2_kruskalLength_l8s G) (ex := f_X2_kruskalLength_l8e G) (fun L s => itF (krS G (fun R k => f_X2_joinEnds R G k) L) (gS G) 0 s) 10 (fun L s hL => by
    show f_X2_kruskalLength_l8b G L s.1 s.2 = _
    unfold f_X2_kruskalLength_l8b f_X2_kruskalLength_l17
    rw [lpF_it (step := f_X2_kruskalLength_l17s G L) (ex := f_X2_kruskalLength_l17e G L) (krS G (fun R k => f_X2_joinEnds R G k) L) (gS G) (fun k s hk => by
      show f_X2_kruskalLength_l17b G L k s.1 s.2 = _
      unfold f_X2_kruskalLength_l17b f_X2_kruskalLength_j60 lt_
      dsimp only
      by_cases c : f_X1_hasBridge G k = true ∧ gLen G k = nI L
      · have ky : krS G (fun R k => f_X2_joinEnds R G k) L k s = _ := if_pos c
        rw [if_pos c.1, if_pos c.2, ky]
        cases e : (f_X2_joinEnds s.2 G k).1
        · rw [if_neg (show ¬ false = true by decide)]
          rfl
        · rw [if_pos rfl]
          rfl
      · have ky : krS G (fun R k => f_X2_joinEnds R G k) L k s = _ := if_neg c
        rw [ky]
        by_cases d : f_X1_hasBridge G k = true
        · rw [if_pos d, if_neg (fun z => c ⟨d, z⟩)]
        · rw [if_neg d]) _ _ _ (Nat.zero_add _)]
    rfl) _ _ _ (by omega)]
  exact kr_end h.1 (T := fun R p => UF (rPar R) p) (fun s p k _ u => join_UF hG u) (UF_0 (sep_ok Rr).2)
theorem forest_c {G : GS} {f gp : Nat → Int32} (h : GI G) (r : NR G f) : (f_X8_forest f gp).1 = nI (forestW (eds G)) ∧ (f_X8_forest f gp).2.1 = 0 := by
  have hG := GI_safe h
  unfold f_X8_forest f_X8_forest_l7
  rw [lpF_it (step := f_X8_forest_l7s f) (ex := f_X8_forest_l7e f) (fun k (s : Int32 × (Nat → Int32)) => (s.1, upd s.2 k (nI k))) 8 (fun k s hk => rfl) _ _ _ (Nat.zero_add _)]
  have key : ∀ n, n ≤ 8 → (itF (fun k (s : Int32 × (Nat → Int32)) => (s.1, upd s.2 k (nI k))) n 0 (0, gp)).1 = 0 ∧ ∀ y, y < n → (itF (fun k (s : Int32 × (Nat → Int32)) => (s.1, upd s.2 k (nI k))) n 0 (0, gp)).2 y = nI y := by
    intro n
    induction n with
    | zero => intro _; exact ⟨rfl, fun y hy => absurd hy (Nat.not_lt_zero y)⟩
    | succ n ih =>
      intro hn
      rw [itF_snoc, Nat.zero_add]
      obtain ⟨i1, i2⟩ := ih (by omega)
      refine ⟨i1, fun y hy => ?_⟩
      by_cases c : y = n
      · subst c; exact pk_us
      · exact (pk_un c).trans (i2 y (by omega))
  obtain ⟨k1, k2⟩ := key 8 (Nat.le_refl _)
  generalize itF (fun k (s : Int32 × (Nat → Int32)) => (s.1, upd s.2 k (nI k))) 8 0 (0, gp) = s0 at k1 k2 ⊢
  obtain ⟨th, gp0⟩ := s0
  have k1 : th = 0 := k1
  subst k1
  show (f_X8_forest_l30 f (10 - 1) 1 0 0 gp0).1 = _ ∧ (f_X8_forest_l30 f (10 - 1) 1 0 0 gp0).2.1 = 0
  have u0 : GU gp0 (fun _ => False) := fun x y hx hy => by
    have k2 : ∀ y, y < 8 → gp0 y = nI y := k2
    rw [k2 x hx, k2 y hy, Conn_no]
    exact nI_eq (by omega) (by omega)
  unfold f_X8_forest_l30
  rw [lpF_it (step := f_X8_forest_l30s f) (ex := f_X8_forest_l30e f) (fun L (s : Int32 × Int32 × (Nat → Int32)) => ((itF (krS G (fun g k => f_X8_joinsGroups g (gLo G k) (gHi G k)) L) (gS G) 0 (s.1, s.2.2)).1, s.2.1, (itF (krS G (fun g k => f_X8_joinsGroups g (gLo G k) (gHi G k)) L) (gS G) 0 (s.1, s.2.2)).2)) 10 (fun L s hL => by
    show f_X8_forest_l30b f L s.1 s.2.1 s.2.2 = _
    unfold f_X8_forest_l30b f_X8_forest_l38
    rw [mS_of hG r]
    rw [lpF_it (step := f_X8_forest_l38s f L) (ex := f_X8_forest_l38e f L) (fun k (s : Int32 × Int32 × (Nat → Int32)) => ((krS G (fun g k => f_X8_joinsGroups g (gLo G k) (gHi G k)) L k (s.1, s.2.2)).1, s.2.1, (krS G (fun g k => f_X8_joinsGroups g (gLo G k) (gHi G k)) L k (s.1, s.2.2)).2)) (gS G) (fun k s hk => by
      have a1 := hG.2.2.1 k
      have a2 := hG.2.2.2 k
      show f_X8_forest_l38b f L k s.1 s.2.1 s.2.2 = _
      unfold f_X8_forest_l38b f_X8_forest_j89 f_X8_forest_j90 f_X8_forest_j103 lt_
      dsimp only
      rw [done_c hG r hk, ofLo hG r hk, ofHi hG r hk, ofLen hG r hk, nI_clamp (by omega), nI_clamp (by omega)]
      by_cases c : f_X1_hasBridge G k = true ∧ gLen G k = nI L
      · have ky : krS G (fun g k => f_X8_joinsGroups g (gLo G k) (gHi G k)) L k (s.1, s.2.2) = _ := if_pos c
        rw [if_pos c.1, if_pos c.2, ky]
        cases e : (f_X8_joinsGroups s.2.2 (gLo G k) (gHi G k)).1
        · rw [if_neg (show ¬ false = true by decide), Int32.add_zero]
          rfl
        · rw [if_pos rfl]
          rfl
      · have ky : krS G (fun g k => f_X8_joinsGroups g (gLo G k) (gHi G k)) L k (s.1, s.2.2) = _ := if_neg c
        rw [ky]
        by_cases d : f_X1_hasBridge G k = true
        · rw [if_pos d, if_neg (fun z => c ⟨d, z⟩), if_neg (show ¬ false = true by decide), Int32.add_zero]
        · rw [if_neg d, if_neg (show ¬ false = true by decide), Int32.add_zero]) _ _ _ (Nat.zero_add _)]
    have pr : ∀ n, itF (fun k (s : Int32 × Int32 × (Nat → Int32)) => ((krS G (fun g k => f_X8_joinsGroups g (gLo G k) (gHi G k)) L k (s.1, s.2.2)).1, s.2.1, (krS G (fun g k => f_X8_joinsGroups g (gLo G k) (gHi G k)) L k (s.1, s.2.2)).2)) n 0 s = ((itF (krS G (fun g k => f_X8_joinsGroups g (gLo G k) (gHi G k)) L) n 0 (s.1, s.2.2)).1, s.2.1, (itF (krS G (fun g k => f_X8_joinsGroups g (gLo G k) (gHi G k)) L) n 0 (s.1, s.2.2)).2) := by
      intro n
      induction n with
      | zero => rfl
      | succ n ih => rw [itF_snoc, itF_snoc, ih]
    show f_X8_forest_l38e f L (itF _ _ _ (s.1, s.2.1, s.2.2)) = _
    rw [pr]
    rfl) _ _ _ (by omega)]
  have pr2 : ∀ n, itF (fun L (s : Int32 × Int32 × (Nat → Int32)) => ((itF (krS G (fun g k => f_X8_joinsGroups g (gLo G k) (gHi G k)) L) (gS G) 0 (s.1, s.2.2)).1, s.2.1, (itF (krS G (fun g k => f_X8_joinsGroups g (gLo G k) (gHi G k)) L) (gS G) 0 (s.1, s.2.2)).2)) n 1 (0, 0, gp0) = ((itF (fun L s => itF (krS G (fun g k => f_X8_joinsGroups g (gLo G k) (gHi G k)) L) (gS G) 0 s) n 1 (0, gp0)).1, 0, (itF (fun L s => itF (krS G (fun g k => f_X8_joinsGroups g (gLo G k) (gHi G k)) L) (gS G) 0 s) n 1 (0, gp0)).2) := by
    intro n
    induction n with
    | zero => rfl
    | succ n ih => rw [itF_snoc, itF_snoc, ih]
  rw [show (10 - 1 : Nat) = 9 from rfl, pr2]
  exact ⟨kr_end h.1 (jn := fun g k => f_X8_joinsGroups g (gLo G k) (gHi G k)) (T := GU) (fun s p k _ u => join_GU (e := edE G k) u (hG.2.2.1 k) (hG.2.2.2 k)) u0, rfl⟩
