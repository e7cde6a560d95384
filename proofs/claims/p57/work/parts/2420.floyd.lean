/-! Floyd and Warshall, in place -/
def fwS (k a b : Nat) (F : Nat → Nat → Nat) : Nat → Nat → Nat := fun x y => if x = a ∧ y = b then min (F a b) (F a k + F k b) else F x y
def fwP (k t : Nat) (F : Nat → Nat → Nat) : Nat → Nat → Nat := fun x y => if x < 8 ∧ y < 8 ∧ x * 8 + y < t then min (F x y) (F x k + F k y) else F x y
theorem fwP_0 (k : Nat) (F : Nat → Nat → Nat) : fwP k 0 F = F := by
  funext x y
  unfold fwP
  rw [if_neg (by omega)]
theorem fwP_step {k t : Nat} {F : Nat → Nat → Nat} (ht : t < 64) (h0 : F k k = 0) : fwS k (t / 8) (t % 8) (fwP k t F) = fwP k (t + 1) F := by
  obtain ⟨a, b, ha, hb, et, ea, eb⟩ : ∃ a b, a < 8 ∧ b < 8 ∧ a * 8 + b = t ∧ t / 8 = a ∧ t % 8 = b := ⟨t / 8, t % 8, by omega, by omega, by omega, rfl, rfl⟩
  rw [ea, eb]
  have r1 : fwP k t F a b = F a b := by
    unfold fwP
    rw [if_neg (by omega)]
  have r2 : fwP k t F a k = F a k := by
    unfold fwP
    split
    · rw [h0, Nat.add_zero, Nat.min_self]
    · rfl
  have r3 : fwP k t F k b = F k b := by
    unfold fwP
    split
    · rw [h0, Nat.zero_add, Nat.min_self]
    · rfl
  funext x y
  show (if x = a ∧ y = b then min (fwP k t F a b) (fwP k t F a k + fwP k t F k b) else fwP k t F x y) = fwP k (t + 1) F x y
  rw [r1, r2, r3]
  by_cases c : x = a ∧ y = b
  · rw [if_pos c]
    obtain ⟨rfl, rfl⟩ := c
    unfold fwP
    rw [if_pos (by omega)]
  · rw [if_neg c]
    unfold fwP
    by_cases d : x < 8 ∧ y < 8 ∧ x * 8 + y < t
    · rw [if_pos d, if_pos (by omega)]
    · rw [if_neg d, if_neg (by omega)]
theorem fwP_in {k x y : Nat} {F : Nat → Nat → Nat} (hx : x < 8) (hy : y < 8) : fwP k 64 F x y = min (F x y) (F x k + F k y) := by
  unfold fwP
  rw [if_pos (by omega)]
theorem fwP_out {k x y t : Nat} {F : Nat → Nat → Nat} (h : 8 ≤ x ∨ 8 ≤ y) : fwP k t F x y = F x y := by
  unfold fwP
  rw [if_neg (by omega)]
theorem fwP_le {k x y t : Nat} {F : Nat → Nat → Nat} : fwP k t F x y ≤ F x y := by
  unfold fwP
  split
  · exact Nat.min_le_left _ _
  · exact Nat.le_refl _
/-- nothing is farther by an edge than the edge is long, and no more than the table says -/
def Lip (E : List Edg) (f : Nat → Nat) : Prop := (∀ x, f x ≤ 100000) ∧ ∀ a b l, Adj E a b l → f b ≤ f a + l
def FI (E : List Edg) (F : Nat → Nat → Nat) : Prop := (∀ a, F a a = 0) ∧ (∀ a b, F a b ≤ 100000) ∧ (∀ a b, a < 8 → 8 ≤ b → F a b = 100000) ∧ (∀ f, Lip E f → ∀ a b, f b ≤ f a + F a b) ∧ ∀ a b l, Adj E a b l → F a b ≤ l
def FT (F : Nat → Nat → Nat) (k : Nat) : Prop := ∀ j, j < k → ∀ a b, a < 8 → b < 8 → F a b ≤ F a j + F j b
theorem fw_phase {E : List Edg} {F : Nat → Nat → Nat} {k : Nat} (h : FI E F) (t : FT F k) (hk : k < 8) : FI E (fwP k 64 F) ∧ FT (fwP k 64 F) (k + 1) := by
  obtain ⟨h1, h2, h3, h4, h5⟩ := h
  refine ⟨⟨fun a => ?_, fun a b => Nat.le_trans fwP_le (h2 a b), fun a b ha hb => ?_, fun f hf a b => ?_, fun a b l g => Nat.le_trans fwP_le (h5 a b l g)⟩, ?_⟩
  · have := @fwP_le k a a 64 F
    rw [h1 a] at this
    omega
  · rw [fwP_out (Or.inr hb)]
    exact h3 a b ha hb
  · have u1 := h4 f hf a b
    have u2 := h4 f hf a k
    have u3 := h4 f hf k b
    unfold fwP
    split
    · rw [Nat.min_def]
      split <;> omega
    · exact u1
  · intro j hj a b ha hb
    have hj8 : j < 8 := by omega
    rw [fwP_in ha hb, fwP_in ha hj8, fwP_in hj8 hb]
    have kk := h1 k
    by_cases c : j = k
    · subst c
      rw [kk, Nat.add_zero, Nat.zero_add, Nat.min_self, Nat.min_self]
      exact Nat.min_le_right _ _
    · have t1 := t j (by omega) a b ha hb
      have t2 := t j (by omega) k b hk hb
      have t3 := t j (by omega) a k ha hk
      rw [Nat.min_def, Nat.min_def, Nat.min_def]
      repeat' split
      all_goals omega
theorem fw_end {E : List Edg} (hE : wfE E) {F : Nat → Nat → Nat} (h : FI E F) (t : FT F 8) {s : Nat} (hs : s < 8) (x : Nat) : F s x = dist E s 100000 x := by
  obtain ⟨h1, h2, h3, h4, h5⟩ := h
  refine dist_uniq (d := fun x => F s x) ⟨h1 s, h2 s, fun a b l g => ?_⟩ (fun f hf x => ?_) x
  · have w := Adj_wf hE g
    have t1 := t a w.1 s b hs w.2.1
    have t2 := h5 a b l g
    show F s b ≤ F s a + l
    omega
  · have t1 := h4 f ⟨hf.2.1, hf.2.2⟩ s x
    rw [hf.1, Nat.zero_add] at t1
    exact t1
/-- the table of ints shows the table of numbers -/
def AF (A : Nat → Nat → Int32) (F : Nat → Nat → Nat) : Prop := (∀ x y, x < 8 → y < 8 → A x y = nI (F x y)) ∧ ∀ x y, F x y ≤ 100000
theorem updT_at (A : Nat → Nat → Int32) (a b : Nat) (v : Int32) (x y : Nat) : updT A a b v x y = if x = a ∧ y = b then v else A x y := by
  unfold updT
  by_cases c : x = a
  · subst c
    by_cases d : y = b
    · subst d
      rw [if_pos rfl, pk_us, if_pos ⟨rfl, rfl⟩]
    · rw [if_pos rfl, pk_un d, if_neg (fun e => d e.2)]
  · rw [if_neg c, if_neg (fun e => c e.1)]
theorem AF_step {A : Nat → Nat → Int32} {F : Nat → Nat → Nat} (h : AF A F) {k a b : Nat} (hk : k < 8) (ha : a < 8) (hb : b < 8) : AF (updT A a b (imin (A a b) (A a k + A k b))) (fwS k a b F) := by
  refine ⟨fun x y hx hy => ?_, fun x y => ?_⟩
  · have b1 := h.2 a b
    have b2 := h.2 a k
    have b3 := h.2 k b
    rw [updT_at]
    unfold fwS
    by_cases c : x = a ∧ y = b
    · rw [if_pos c, if_pos c, h.1 a b ha hb, h.1 a k ha hk, h.1 k b hk hb, nI_add, imin_nI (by omega) (by omega)]
    · rw [if_neg c, if_neg c]
      exact h.1 x y hx hy
  · unfold fwS
    split
    · exact Nat.le_trans (Nat.min_le_left _ _) (h.2 a b)
    · exact h.2 x y
def fwI (K : Nat) (A : Nat → Nat → Int32) : Nat → Nat → Int32 := updT A (K / 8 % 8) (K % 8) (imin (A (K / 8 % 8) (K % 8)) (A (K / 8 % 8) (K / 64) + A (K / 64) (K % 8)))
theorem fwI_phase {A : Nat → Nat → Int32} {F : Nat → Nat → Nat} (h : AF A F) {k : Nat} (hk : k < 8) (h0 : F k k = 0) : ∀ t, t ≤ 64 → AF (itF fwI t (64 * k) A) (fwP k t F) := by
  intro t
  induction t with
  | zero => intro _; rw [fwP_0]; exact h
  | succ t ih =>
    intro ht
    have i := ih (by omega)
    rw [itF_snoc, ← fwP_step (by omega) h0]
    have e1 : (64 * k + t) / 8 % 8 = t / 8 := by omega
    have e2 : (64 * k + t) % 8 = t % 8 := by omega
    have e3 : (64 * k + t) / 64 = k := by omega
    show AF (fwI (64 * k + t) (itF fwI t (64 * k) A)) _
    unfold fwI
    rw [e1, e2, e3]
    exact AF_step i hk (by omega) (by omega)
theorem fwI_all {E : List Edg} {A : Nat → Nat → Int32} {F : Nat → Nat → Nat} (h : AF A F) (f : FI E F) : ∀ k, k ≤ 8 → ∃ F', AF (itF fwI (64 * k) 0 A) F' ∧ FI E F' ∧ FT F' k := by
  intro k
  induction k with
  | zero => intro _; exact ⟨F, h, f, fun j hj => absurd hj (Nat.not_lt_zero j)⟩
  | succ k ih =>
    intro hk
    obtain ⟨F', i1, i2, i3⟩ := ih (by omega)
    obtain ⟨p1, p2⟩ := fw_phase i2 i3 (by omega)
    refine ⟨fwP k 64 F', ?_, p1, p2⟩
    have e : 64 * (k + 1) = 64 * k + 64 := by omega
    rw [e, itF_add, Nat.zero_add]
    exact fwI_phase i1 (by omega) (i2.1 k) 64 (Nat.le_refl _)
/-- the table at the start, and with the edges -/
def f0 (a b : Nat) : Nat := if a = b then 0 else 100000
def set2 (F : Nat → Nat → Nat) (a b v : Nat) : Nat → Nat → Nat := fun x y => if x = a ∧ y = b then v else F x y
/-- every two sites join other islands -/
def DS (G : GS) : Prop := ∀ j, j < gS G → gLo G j < gHi G j ∧ ∀ k, k < gS G → gLo G j = gLo G k → gHi G j = gHi G k → j = k
def NE (E : List Edg) (F : Nat → Nat → Nat) : Prop := (∀ a b, F a b = f0 a b ∨ Adj E a b (F a b)) ∧ ∀ a b l, Adj E a b l → a ≠ b ∧ F a b = l
theorem NE_FI {E : List Edg} (hE : wfE E) {F : Nat → Nat → Nat} (h : NE E F) : FI E F := by
  refine ⟨fun a => ?_, fun a b => ?_, fun a b ha hb => ?_, fun f hf a b => ?_, fun a b l g => Nat.le_of_eq (h.2 a b l g).2⟩
  · rcases h.1 a a with e | g
    · rw [e]; unfold f0; rw [if_pos rfl]
    · exact absurd rfl (h.2 a a _ g).1
  · rcases h.1 a b with e | g
    · rw [e]; unfold f0; split <;> omega
    · have := (Adj_wf hE g).2.2.2
      omega
  · rcases h.1 a b with e | g
    · rw [e]; unfold f0; rw [if_neg (by omega)]
    · have := (Adj_wf hE g).2.1
      omega
  · rcases h.1 a b with e | g
    · rw [e]; unfold f0
      split
      · rename_i q; rw [q]; omega
      · have := hf.1 b; omega
    · exact hf.2 a b _ g
theorem NE_0 : NE [] f0 := ⟨fun a b => Or.inl rfl, fun a b l g => by rcases g with g | g <;> cases g⟩
theorem edges_it {G : GS} (h : GI0 G) (d : DS G) : ∀ n, n ≤ gS G → ∀ A0, AF A0 f0 → ∃ F, AF (itF (fun k A => if f_X1_hasBridge G k = true then updT (updT A (gLo G k) (gHi G k) (gLen G k)) (gHi G k) (gLo G k) (gLen G k) else A) n 0 A0) F ∧ NE (edsN G n) F := by
  intro n
  induction n with
  | zero => intro _ A0 a; exact ⟨f0, a, NE_0⟩
  | succ n ih =>
    intro hn A0 a
    obtain ⟨F, i1, i2⟩ := ih (by omega) A0 a
    rw [itF_snoc, Nat.zero_add, edsN_succ]
    by_cases c : f_X1_hasBridge G n = true
    · rw [if_pos c, if_pos c]
      obtain ⟨L, l1, l9, lL, lE⟩ := len_nat h (show n < gS G by omega)
      have hlo : gLo G n < 8 := h.1.2.2.1 n
      have hhi : gHi G n < 8 := h.1.2.2.2 n
      have hlt := (d n (by omega)).1
      have eE : edE G n = (gLo G n, gHi G n, L) := by
        show (gLo G n, gHi G n, (edE G n).2.2) = _
        rw [lE]
      have old : ∀ a b l, Adj (edsN G n) a b l → ¬ (a = gLo G n ∧ b = gHi G n) ∧ ¬ (a = gHi G n ∧ b = gLo G n) := by
        intro a b l g
        rcases g with g | g
        · obtain ⟨j, hj, -, ej⟩ := mem_eds g
          have e1 : a = gLo G j := congrArg (fun e => e.1) ej
          have e2 : b = gHi G j := congrArg (fun e => e.2.1) ej
          have dj := (d j (by omega))
          refine ⟨fun q => ?_, fun q => ?_⟩
          · have := dj.2 n (by omega) (e1.symm.trans q.1) (e2.symm.trans q.2)
            omega
          · have := dj.1
            omega
        · obtain ⟨j, hj, -, ej⟩ := mem_eds g
          have e1 : b = gLo G j := congrArg (fun e => e.1) ej
          have e2 : a = gHi G j := congrArg (fun e => e.2.1) ej
          have dj := (d j (by omega))
          refine ⟨fun q => ?_, fun q => ?_⟩
          · have := dj.1
            omega
          · have := dj.2 n (by omega) (e1.symm.trans q.2) (e2.symm.trans q.1)
            omega
      refine ⟨set2 (set2 F (gLo G n) (gHi G n) L) (gHi G n) (gLo G n) L, ⟨fun x y hx hy => ?_, fun x y => ?_⟩, fun x y => ?_, fun x y l g => ?_⟩
      · rw [updT_at, updT_at, lL]
        unfold set2
        split
        · rfl
        · split
          · rfl
          · exact i1.1 x y hx hy
      · unfold set2
        split
        · omega
        · split
          · omega
          · exact i1.2 x y
      · unfold set2
        by_cases c1 : x = gHi G n ∧ y = gLo G n
        · rw [if_pos c1, c1.1, c1.2]
          refine Or.inr (Or.inr (List.mem_append.mpr (Or.inr ?_)))
          rw [← eE]
          exact List.mem_singleton.mpr rfl
        · rw [if_neg c1]
          by_cases c2 : x = gLo G n ∧ y = gHi G n
          · rw [if_pos c2, c2.1, c2.2]
            refine Or.inr (Or.inl (List.mem_append.mpr (Or.inr ?_)))
            rw [← eE]
            exact List.mem_singleton.mpr rfl
          · rw [if_neg c2]
            rcases i2.1 x y with e | g
            · exact Or.inl e
            · exact Or.inr (g.elim (fun g => Or.inl (List.mem_append.mpr (Or.inl g))) (fun g => Or.inr (List.mem_append.mpr (Or.inl g))))
      · have sp : Adj (edsN G n) x y l ∨ ((x, y, l) = edE G n ∨ (y, x, l) = edE G n) := by
          rcases g with g | g
          · rcases List.mem_append.mp g with g | g
            · exact Or.inl (Or.inl g)
            · exact Or.inr (Or.inl (List.mem_singleton.mp g))
          · rcases List.mem_append.mp g with g | g
            · exact Or.inl (Or.inr g)
            · exact Or.inr (Or.inr (List.mem_singleton.mp g))
        rcases sp with g | g | g
        · have o := old x y l g
          have i := i2.2 x y l g
          refine ⟨i.1, ?_⟩
          unfold set2
          rw [if_neg o.2, if_neg o.1]
          exact i.2
        · rw [eE] at g
          have e1 : x = gLo G n := congrArg (fun e => e.1) g
          have e2 : y = gHi G n := congrArg (fun e => e.2.1) g
          have e3 : l = L := congrArg (fun e => e.2.2) g
          refine ⟨by omega, ?_⟩
          unfold set2
          rw [if_neg (by omega), if_pos ⟨e1, e2⟩, e3]
        · rw [eE] at g
          have e1 : y = gLo G n := congrArg (fun e => e.1) g
          have e2 : x = gHi G n := congrArg (fun e => e.2.1) g
          have e3 : l = L := congrArg (fun e => e.2.2) g
          refine ⟨by omega, ?_⟩
          unfold set2
          rw [if_pos ⟨e2, e1⟩, e3]
    · rw [if_neg c, if_neg c]
      exact ⟨F, i1, i2⟩
