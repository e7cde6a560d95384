/-! groups that are joined: parents, and the reference's names -/
def UF (par : Nat → Nat) (p : Edg → Prop) : Prop := ∃ (dep rt : Nat → Nat) (N : Nat), N + cl (Conn p) = 8 ∧ (∀ v, v < 8 → par v < 8 ∧ dep v ≤ N ∧ rt v < 8 ∧ par (rt v) = rt v ∧ (par v = v → rt v = v ∧ dep v = 0) ∧ (par v ≠ v → rt v = rt (par v) ∧ dep v = dep (par v) + 1)) ∧ ∀ x y, x < 8 → y < 8 → (rt x = rt y ↔ Conn p x y)
theorem cl_pos (E : Edg → Prop) : 1 ≤ cl (Conn E) := by
  unfold cl c8
  have h : lowB (Conn E) 0 = true := lowB_t.mpr (fun y hy => absurd hy (Nat.not_lt_zero y))
  exact List.countP_pos_iff.mpr ⟨0, List.mem_range.mpr (by decide), h⟩
theorem UF_0 {par : Nat → Nat} (h : ∀ v, v < 8 → par v = v) : UF par (fun _ => False) := by
  refine ⟨fun _ => 0, fun v => v, 0, by rw [cl_no], fun v hv => ⟨by rw [h v hv]; exact hv, Nat.le_refl _, hv, h v hv, fun _ => ⟨rfl, rfl⟩, fun q => absurd (h v hv) q⟩, fun x y hx hy => Conn_no.symm⟩
theorem root_at {Rr : GR} {dep rt : Nat → Nat} {N : Nat} (h : ∀ v, v < 8 → rPar Rr v < 8 ∧ dep v ≤ N ∧ rt v < 8 ∧ rPar Rr (rt v) = rt v ∧ (rPar Rr v = v → rt v = v ∧ dep v = 0) ∧ (rPar Rr v ≠ v → rt v = rt (rPar Rr v) ∧ dep v = dep (rPar Rr v) + 1)) (hN : N ≤ 8) {i : Nat} (hi : i < 8) : f_X2_rootOf Rr i = rt i := by
  unfold f_X2_rootOf f_X2_rootOf_l4
  have key : ∀ n k v, v < 8 → dep v ≤ n → lpF (f_X2_rootOf_l4s Rr) (f_X2_rootOf_l4e Rr) n k v = rt v := by
    intro n
    induction n with
    | zero =>
      intro k v hv hd
      show v = rt v
      obtain ⟨h1, h2, h3, h4, h5, h6⟩ := h v hv
      by_cases c : rPar Rr v = v
      · exact (h5 c).1.symm
      · have := (h6 c).2
        omega
    | succ n ih =>
      intro k v hv hd
      show sE id (lpF _ _ n (k + 1)) (f_X2_rootOf_l4b Rr k v) = rt v
      unfold f_X2_rootOf_l4b f_X2_rootOf_j33
      obtain ⟨h1, h2, h3, h4, h5, h6⟩ := h v hv
      by_cases c : rPar Rr v = v
      · rw [if_pos (by rw [c])]
        exact (h5 c).1.symm
      · rw [if_neg (fun e => c ((nI_eq (by omega) (by omega)).mp e))]
        obtain ⟨q1, q2⟩ := h6 c
        rw [q1]
        exact ih (k + 1) (rPar Rr v) h1 (by omega)
  exact key 8 0 i hi (by have := (h i hi).2.1; omega)
theorem join_UF {G : GS} (hG : GSafe G) {Rr : GR} {p : Edg → Prop} (u : UF (rPar Rr) p) {k : Nat} : ((f_X2_joinEnds Rr G k).1 = true ↔ ¬ Conn p (gLo G k) (gHi G k)) ∧ UF (rPar (f_X2_joinEnds Rr G k).2) (eAdd p (edE G k)) := by
  obtain ⟨dep, rt, N, hN, h, hr⟩ := u
  have lo8 := hG.2.2.1 k
  have hi8 := hG.2.2.2 k
  have cp := cl_pos p
  unfold f_X2_joinEnds f_X2_joinEnds_j42
  rw [root_at h (by omega) lo8, root_at h (by omega) hi8]
  have ra8 := (h _ lo8).2.2.1
  have rb8 := (h _ hi8).2.2.1
  have rra := (h _ lo8).2.2.2.1
  have rrb := (h _ hi8).2.2.2.1
  by_cases c : rt (gLo G k) = rt (gHi G k)
  · have cn := (hr _ _ lo8 hi8).mp c
    rw [if_pos (by rw [c])]
    refine ⟨⟨fun z => absurd (show false = true from z) (by decide), fun z => absurd cn z⟩, ?_⟩
    have e1 : Conn (eAdd p (edE G k)) = Conn p := Conn_add0 cn
    have e2 : updN (rPar Rr) (rt (gLo G k)) (rt (gHi G k)) = rPar Rr := by
      funext v
      by_cases z : v = rt (gLo G k)
      · rw [z, updN_s, ← c, rra]
      · rw [updN_n z]
    show UF (updN (rPar Rr) (rt (gLo G k)) (rt (gHi G k))) (eAdd p (edE G k))
    rw [e2]
    exact ⟨dep, rt, N, by rw [e1]; exact hN, h, fun x y hx hy => by rw [e1]; exact hr x y hx hy⟩
  · have cn : ¬ Conn p (gLo G k) (gHi G k) := fun z => c ((hr _ _ lo8 hi8).mpr z)
    rw [if_neg (fun e => c ((nI_eq (by omega) (by omega)).mp e))]
    refine ⟨⟨fun _ => cn, fun _ => rfl⟩, ?_⟩
    have ca : cl (Conn p) = cl (Conn (eAdd p (edE G k))) + 1 := cl_add (e0 := edE G k) lo8 hi8 cn
    have r0 : rt (rt (gLo G k)) = rt (gLo G k) := ((h _ ra8).2.2.2.2.1 rra).1
    have r1 : rt (rt (gHi G k)) = rt (gHi G k) := ((h _ rb8).2.2.2.2.1 rrb).1
    show UF (updN (rPar Rr) (rt (gLo G k)) (rt (gHi G k))) (eAdd p (edE G k))
    refine ⟨fun v => if rt v = rt (gLo G k) then dep v + 1 else dep v, fun v => if rt v = rt (gLo G k) then rt (gHi G k) else rt v, N + 1, by omega, ?_, ?_⟩
    · intro v hv
      obtain ⟨h1, h2, h3, h4, h5, h6⟩ := h v hv
      have d1 := ((h _ rb8).2.2.2.2.1 rrb).2
      have d0 := ((h _ ra8).2.2.2.2.1 rra).2
      show updN (rPar Rr) (rt (gLo G k)) (rt (gHi G k)) v < 8 ∧ _
      generalize rt (gLo G k) = a at *
      generalize rt (gHi G k) = b at *
      dsimp only
      by_cases z : v = a
      · subst z
        have f1 : ¬ b = v := fun e => c e.symm
        rw [updN_s, r0, if_pos rfl, if_pos rfl]
        refine ⟨rb8, by omega, rb8, by rw [updN_n f1, rrb], fun e => absurd e f1, fun _ => ⟨by rw [r1, if_neg f1], by rw [r1, if_neg f1, d0, d1]⟩⟩
      · rw [updN_n z]
        refine ⟨h1, by split <;> omega, by split <;> omega, ?_, fun e => ?_, fun e => ?_⟩
        · by_cases y : rt v = a
          · rw [if_pos y, updN_n (fun e => c e.symm), rrb]
          · rw [if_neg y, updN_n y, h4]
        · obtain ⟨g1, g2⟩ := h5 e
          rw [if_neg (by rw [g1]; exact z), if_neg (by rw [g1]; exact z)]
          exact ⟨g1, g2⟩
        · obtain ⟨g1, g2⟩ := h6 e
          rw [← g1]
          refine ⟨rfl, ?_⟩
          split <;> omega
    · intro x y hx hy
      have q : Conn (eAdd p (edE G k)) x y ↔ _ := Conn_add (E := p) (e0 := edE G k)
      rw [q, ← hr x y hx hy]
      show _ ↔ _ ∨ (Conn p x (gLo G k) ∧ Conn p (gHi G k) y) ∨ (Conn p x (gHi G k) ∧ Conn p (gLo G k) y)
      rw [← hr x _ hx lo8, ← hr _ y hi8 hy, ← hr x _ hx hi8, ← hr _ y lo8 hy]
      dsimp only
      generalize rt (gLo G k) = a at *
      generalize rt (gHi G k) = b at *
      split <;> split <;> omega
/-! the reference's names of groups -/
def GU (gp : Nat → Int32) (p : Edg → Prop) : Prop := ∀ x y, x < 8 → y < 8 → (gp x = gp y ↔ Conn p x y)
theorem groups_it (gp : Nat → Int32) (v3 v4 : Int32) : f_X8_joinsGroups_l18 8 0 v3 v4 gp = f_X8_joinsGroups_l18x v3 v4 (itF (fun k s => upd s k (if s k = v3 then v4 else s k)) 8 0 gp) := by
  unfold f_X8_joinsGroups_l18
  rw [lpF_it (step := f_X8_joinsGroups_l18s) (ex := f_X8_joinsGroups_l18e) (fun k (s : Int32 × Int32 × (Nat → Int32)) => (s.1, s.2.1, upd s.2.2 k (if s.2.2 k = s.1 then s.2.1 else s.2.2 k))) 8 (fun k s hk => by
    show f_X8_joinsGroups_l18b k s.1 s.2.1 s.2.2 = _
    unfold f_X8_joinsGroups_l18b f_X8_joinsGroups_j54
    split <;> rfl) _ _ _ (Nat.zero_add _)]
  have key : ∀ n, itF (fun k (s : Int32 × Int32 × (Nat → Int32)) => (s.1, s.2.1, upd s.2.2 k (if s.2.2 k = s.1 then s.2.1 else s.2.2 k))) n 0 (v3, v4, gp) = (v3, v4, itF (fun k s => upd s k (if s k = v3 then v4 else s k)) n 0 gp) := by
    intro n
    induction n with
    | zero => rfl
    | succ n ih => rw [itF_snoc, itF_snoc, ih]
  rw [key]
  rfl
theorem relabel_at (gp : Nat → Int32) (v3 v4 : Int32) : ∀ n, (∀ y, y < n → itF (fun k s => upd s k (if s k = v3 then v4 else s k)) n 0 gp y = if gp y = v3 then v4 else gp y) ∧ ∀ y, n ≤ y → itF (fun k s => upd s k (if s k = v3 then v4 else s k)) n 0 gp y = gp y := by
  intro n
  induction n with
  | zero => exact ⟨fun y hy => absurd hy (Nat.not_lt_zero y), fun y _ => rfl⟩
  | succ n ih =>
    obtain ⟨i1, i2⟩ := ih
    rw [itF_snoc, Nat.zero_add]
    generalize itF (fun k s => upd s k (if s k = v3 then v4 else s k)) n 0 gp = g at i1 i2 ⊢
    refine ⟨fun y hy => ?_, fun y hy => (pk_un (by omega)).trans (i2 y (by omega))⟩
    by_cases c : y = n
    · subst c
      exact pk_us.trans (by rw [i2 y (Nat.le_refl _)])
    · exact (pk_un c).trans (i1 y (by omega))
theorem join_GU {gp : Nat → Int32} {p : Edg → Prop} (u : GU gp p) {e : Edg} (ha : e.1 < 8) (hb : e.2.1 < 8) : ((f_X8_joinsGroups gp e.1 e.2.1).1 = true ↔ ¬ Conn p e.1 e.2.1) ∧ GU (f_X8_joinsGroups gp e.1 e.2.1).2 (eAdd p e) := by
  unfold f_X8_joinsGroups
  rw [groups_it]
  unfold f_X8_joinsGroups_l18x f_X8_joinsGroups_j72
  obtain ⟨i1, i2⟩ := relabel_at gp (gp e.2.1) (gp e.1) 8
  generalize itF (fun k s => upd s k (if s k = gp e.2.1 then gp e.1 else s k)) 8 0 gp = g at i1 ⊢
  have gu : GU g (eAdd p e) := by
    intro x y hx hy
    rw [Conn_add, ← u x y hx hy, ← u x _ hx ha, ← u _ y hb hy, ← u x _ hx hb, ← u _ y ha hy, i1 x hx, i1 y hy]
    generalize gp e.1 = a
    generalize gp e.2.1 = b
    generalize gp x = c
    generalize gp y = d
    by_cases h1 : c = b
    · rw [if_pos h1]
      by_cases h2 : d = b
      · rw [if_pos h2]
        exact ⟨fun _ => Or.inl (h1.trans h2.symm), fun _ => rfl⟩
      · rw [if_neg h2]
        constructor
        · intro h3; exact Or.inr (Or.inr ⟨h1, h3⟩)
        · rintro (h3 | ⟨h3, h4⟩ | ⟨h3, h4⟩)
          · exact absurd (h3.symm.trans h1) h2
          · exact absurd h4.symm h2
          · exact h4
    · rw [if_neg h1]
      by_cases h2 : d = b
      · rw [if_pos h2]
        constructor
        · intro h3; exact Or.inr (Or.inl ⟨h3, h2.symm⟩)
        · rintro (h3 | ⟨h3, h4⟩ | ⟨h3, h4⟩)
          · exact absurd (h3.trans h2) h1
          · exact h3
          · exact absurd h3 h1
      · rw [if_neg h2]
        constructor
        · intro h3; exact Or.inl h3
        · rintro (h3 | ⟨h3, h4⟩ | ⟨h3, h4⟩)
          · exact h3
          · exact absurd h4.symm h2
          · exact absurd h3 h1
  by_cases c : gp e.2.1 = gp e.1
  · have cn := (u _ _ ha hb).mp c.symm
    rw [if_pos c]
    exact ⟨⟨fun z => absurd (show false = true from z) (by decide), fun z => absurd cn z⟩, gu⟩
  · rw [if_neg c]
    exact ⟨⟨fun _ z => c ((u _ _ ha hb).mpr z).symm, fun _ => rfl⟩, gu⟩
