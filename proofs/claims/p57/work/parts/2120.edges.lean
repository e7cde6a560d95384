/-! the graph of built sites: its edges; distances of both ways and of the reference -/
def edE (G : GS) (k : Nat) : Edg := (gLo G k, gHi G k, (gLen G k).toNatClampNeg)
def edsN (G : GS) (n : Nat) : List Edg := ((List.range n).filter (f_X1_hasBridge G)).map (edE G)
def eds (G : GS) : List Edg := edsN G (gS G)
theorem edsN_succ (G : GS) (n : Nat) : edsN G (n + 1) = if f_X1_hasBridge G n = true then edsN G n ++ [edE G n] else edsN G n := by
  unfold edsN
  rw [List.range_succ, List.filter_append, List.map_append]
  by_cases c : f_X1_hasBridge G n = true
  · rw [if_pos c]
    have : List.filter (f_X1_hasBridge G) [n] = [n] := by simp [c]
    rw [this]
    rfl
  · rw [if_neg c]
    have : List.filter (f_X1_hasBridge G) [n] = [] := by simp [c]
    rw [this]
    exact List.append_nil _
theorem edsN_fold {σ : Type} (G : GS) (stp : σ → Edg → σ) : ∀ (n : Nat) (s : σ), itF (fun k s => if f_X1_hasBridge G k = true then stp s (edE G k) else s) n 0 s = (edsN G n).foldl stp s := by
  intro n
  induction n with
  | zero => intro s; rfl
  | succ n ih =>
    intro s
    rw [itF_snoc, Nat.zero_add, ih, edsN_succ]
    by_cases c : f_X1_hasBridge G n = true
    · rw [if_pos c, if_pos c, List.foldl_append]
      rfl
    · rw [if_neg c, if_neg c]
theorem mem_eds {G : GS} {n : Nat} {e : Edg} (h : e ∈ edsN G n) : ∃ k, k < n ∧ f_X1_hasBridge G k = true ∧ e = edE G k := by
  unfold edsN at h
  obtain ⟨k, hk, e1⟩ := List.mem_map.mp h
  obtain ⟨h1, h2⟩ := List.mem_filter.mp hk
  exact ⟨k, List.mem_range.mp h1, h2, e1.symm⟩
theorem eds_mem {G : GS} {n k : Nat} (hk : k < n) (h : f_X1_hasBridge G k = true) : edE G k ∈ edsN G n := List.mem_map.mpr ⟨k, List.mem_filter.mpr ⟨List.mem_range.mpr hk, h⟩, rfl⟩
theorem len_nat {G : GS} (h : GI0 G) {k : Nat} (hk : k < gS G) : ∃ L, 1 ≤ L ∧ L ≤ 9 ∧ gLen G k = nI L ∧ (edE G k).2.2 = L := by
  obtain ⟨L, h1, h9, e⟩ := h.2.2.2.2.1 k hk
  refine ⟨L, h1, h9, e, ?_⟩
  show (gLen G k).toNatClampNeg = L
  rw [e, nI_clamp (by omega)]
theorem wf_eds {G : GS} (h : GI0 G) : wfE (eds G) := by
  intro e he
  obtain ⟨k, hk, hb, rfl⟩ := mem_eds he
  obtain ⟨L, h1, h9, _, eL⟩ := len_nat h hk
  exact ⟨h.1.2.2.1 k, h.1.2.2.2 k, by omega, by omega⟩
/-- a row of distances -/
def AR (B : Nat) (a : Nat → Int32) (d : Nat → Nat) : Prop := (∀ x, x < 8 → a x = nI (d x)) ∧ ∀ x, d x ≤ B
theorem rel1_B {a b l B : Nat} {d : Nat → Nat} (h : ∀ x, d x ≤ B) (x : Nat) : rel1 a b l d x ≤ B := Nat.le_trans (rel1_le a b l d x) (h x)
theorem AR_rel {B : Nat} (hB : B ≤ 1000000) {f : Nat → Int32} {d : Nat → Nat} (h : AR B f d) {a b l : Nat} (ha : a < 8) (hb : b < 8) (hl : l ≤ 9) : AR B (upd f b (imin (f b) (f a + nI l))) (rel1 a b l d) := by
  refine ⟨fun x hx => ?_, rel1_B h.2⟩
  have ba := h.2 a
  have bb := h.2 b
  by_cases c : x = b
  · subst c
    rw [pk_us, h.1 _ hb, h.1 _ ha, nI_add, imin_nI (by omega) (by omega)]
    unfold rel1
    rw [updN_s]
  · rw [pk_un c, h.1 _ hx, rel1_o c]
theorem AR_relE {B : Nat} (hB : B ≤ 1000000) {f : Nat → Int32} {d : Nat → Nat} (h : AR B f d) {a b l : Nat} (ha : a < 8) (hb : b < 8) (hl : l ≤ 9) : AR B (upd (upd f b (imin (f b) (f a + nI l))) a (imin ((upd f b (imin (f b) (f a + nI l))) a) ((upd f b (imin (f b) (f a + nI l))) b + nI l))) (relE (a, b, l) d) := AR_rel hB (AR_rel hB h ha hb hl) hb ha hl
/-- the loops over the sites, with the row of distances -/
theorem AR_pass {G : GS} (h0 : GI0 G) {B : Nat} (hB : B ≤ 1000000) {stp : Nat → (Nat → Int32) → (Nat → Int32)} {stpD : (Nat → Nat) → Edg → (Nat → Nat)} (hs : ∀ k f d, k < gS G → f_X1_hasBridge G k = true → AR B f d → AR B (stp k f) (stpD d (edE G k))) (hn : ∀ k f, k < gS G → ¬ f_X1_hasBridge G k = true → stp k f = f) : ∀ n, n ≤ gS G → ∀ f d, AR B f d → AR B (itF stp n 0 f) ((edsN G n).foldl stpD d) := by
  intro n
  induction n with
  | zero => intro _ f d h; exact h
  | succ n ih =>
    intro hn2 f d h
    rw [itF_snoc, Nat.zero_add, edsN_succ]
    have i1 := ih (by omega) f d h
    by_cases c : f_X1_hasBridge G n = true
    · rw [if_pos c, List.foldl_append]
      exact hs n _ _ (by omega) c i1
    · rw [if_neg c, hn n _ (by omega) c]
      exact i1
/-! the reference's distances -/
theorem meas_pass {G : GS} {f : Nat → Int32} (h : GI G) (r : NR G f) {fr : Nat → Int32} {d : Nat → Nat} (a : AR 1000000 fr d) : ∃ fr', f_X8_measures_l41 f (mS f) 0 fr = Sum.inr fr' ∧ AR 1000000 fr' (pass (eds G) d) := by
  have hG := GI_safe h
  have hS := hG.1
  unfold f_X8_measures_l41
  rw [mS_of hG r]
  rw [lpF_it (step := f_X8_measures_l41s f) (ex := f_X8_measures_l41e f) (fun k s => if f_X1_hasBridge G k = true then upd (upd s (gHi G k) (imin (s (gHi G k)) (s (gLo G k) + gLen G k))) (gLo G k) (imin ((upd s (gHi G k) (imin (s (gHi G k)) (s (gLo G k) + gLen G k))) (gLo G k)) ((upd s (gHi G k) (imin (s (gHi G k)) (s (gLo G k) + gLen G k))) (gHi G k) + gLen G k)) else s) (gS G) (fun k s hk => by
    show f_X8_measures_l41b f k s = _
    unfold f_X8_measures_l41b f_X8_measures_j137 lt_
    have a1 := hG.2.2.1 k
    have a2 := hG.2.2.2 k
    rw [done_c hG r hk, ofLo hG r hk, ofHi hG r hk, ofLen hG r hk, nI_clamp (by omega), nI_clamp (by omega)]
    split <;> rfl) _ _ _ (Nat.zero_add _)]
  refine ⟨_, rfl, ?_⟩
  refine AR_pass h.1 (Nat.le_refl _) (stpD := fun d e => relE e d) (fun k s d hk hb a => ?_) (fun k s hk hb => if_neg hb) (gS G) (Nat.le_refl _) _ _ a
  obtain ⟨L, l1, l9, el, el2⟩ := len_nat h.1 hk
  rw [if_pos hb, el]
  have := AR_relE (Nat.le_refl _) a (hG.2.2.1 k) (hG.2.2.2 k) (show L ≤ 9 from l9)
  have e2 : edE G k = (gLo G k, gHi G k, L) := by
    rw [← el2]
    rfl
  rw [e2]
  exact this
theorem meas_at {G : GS} {f fr : Nat → Int32} (h : GI G) (r : NR G f) {s : Nat} (hs : s < 8) : ∀ x, x < 8 → f_X8_measures f fr (nI s) x = nI (dist (eds G) s 1000000 x) := by
  have hG := GI_safe h
  have hS := hG.1
  unfold f_X8_measures f_X8_measures_l2
  rw [lpF_it (step := f_X8_measures_l2s f (nI s)) (ex := f_X8_measures_l2e f (nI s)) (fun k t => upd t k (nI (d0 s 1000000 k))) 8 (fun k t hk => by
    show f_X8_measures_l2b f (nI s) k t = _
    unfold f_X8_measures_l2b f_X8_measures_j24 d0
    by_cases c : k = s
    · rw [if_pos (by rw [c]), if_pos c]; rfl
    · rw [if_neg (fun e => c ((nI_eq (by omega) (by omega)).mp e)), if_neg c]; rfl) _ _ _ (Nat.zero_add _)]
  have i0 : AR 1000000 (itF (fun k t => upd t k (nI (d0 s 1000000 k))) 8 0 fr) (d0 s 1000000) := by
    refine ⟨fun x hx => ?_, fun x => by unfold d0; split <;> omega⟩
    have key : ∀ n, n ≤ 8 → ∀ y, y < n → itF (fun k t => upd t k (nI (d0 s 1000000 k))) n 0 fr y = nI (d0 s 1000000 y) := by
      intro n
      induction n with
      | zero => intro _ y hy; exact absurd hy (Nat.not_lt_zero y)
      | succ n ih =>
        intro hn y hy
        rw [itF_snoc, Nat.zero_add]
        by_cases c : y = n
        · subst c; exact pk_us
        · exact (pk_un c).trans (ih (by omega) y (by omega))
    exact key 8 (Nat.le_refl _) x hx
  generalize itF (fun k t => upd t k (nI (d0 s 1000000 k))) 8 0 fr = f1 at i0 ⊢
  show ∀ x, x < 8 → f_X8_measures_l33 f 8 0 f1 x = _
  have key : ∀ n k g d, AR 1000000 g d → AR 1000000 (f_X8_measures_l33 f n k g) (passes (eds G) n d) := by
    intro n
    induction n with
    | zero => intro k g d a; exact a
    | succ n ih =>
      intro k g d a
      obtain ⟨g1, e1, a1⟩ := meas_pass h r a
      show AR 1000000 (sE id (lpF (f_X8_measures_l33s f) (f_X8_measures_l33e f) n (k + 1)) (f_X8_measures_l41 f (mS f) 0 g)) _
      rw [e1]
      exact ih (k + 1) g1 _ a1
  intro x hx
  rw [(key 8 0 f1 _ i0).1 x hx, bf_ok (wf_eds h.1) (by decide) (by decide) hx]
