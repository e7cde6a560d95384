/-! relaxing: both searches come to the distances -/
theorem updN_s {f : Nat → Nat} {k v : Nat} : updN f k v k = v := if_pos rfl
theorem updN_n {f : Nat → Nat} {k v j : Nat} (h : j ≠ k) : updN f k v j = f j := if_neg h
def rel1 (a b l : Nat) (d : Nat → Nat) : Nat → Nat := updN d b (min (d b) (d a + l))
theorem rel1_le (a b l : Nat) (d : Nat → Nat) (x : Nat) : rel1 a b l d x ≤ d x := by
  unfold rel1
  by_cases h : x = b
  · subst h; rw [updN_s]; exact Nat.min_le_left _ _
  · rw [updN_n h]; exact Nat.le_refl _
theorem rel1_b (a b l : Nat) (d : Nat → Nat) : rel1 a b l d b ≤ d a + l := by
  unfold rel1; rw [updN_s]; exact Nat.min_le_right _ _
theorem rel1_o {a b l : Nat} {d : Nat → Nat} {x : Nat} (h : x ≠ b) : rel1 a b l d x = d x := updN_n h
theorem rel1_ge {E : List Edg} {s F : Nat} {f : Nat → Nat} (hf : Feas E s F f) {a b l : Nat} (g : Adj E a b l) {d : Nat → Nat} (h : ∀ x, f x ≤ d x) (x : Nat) : f x ≤ rel1 a b l d x := by
  by_cases e : x = b
  · subst e
    unfold rel1
    rw [updN_s]
    have h1 := hf.2.2 a x l g
    have h2 := h a
    have h3 := h x
    omega
  · rw [rel1_o e]; exact h x
theorem rel1_0 {a b l s : Nat} {d : Nat → Nat} (h : d s = 0) : rel1 a b l d s = 0 := by
  have := rel1_le a b l d s
  omega
def relE (e : Edg) (d : Nat → Nat) : Nat → Nat := rel1 e.2.1 e.1 e.2.2 (rel1 e.1 e.2.1 e.2.2 d)
theorem relE_le (e : Edg) (d : Nat → Nat) (x : Nat) : relE e d x ≤ d x := Nat.le_trans (rel1_le _ _ _ _ x) (rel1_le _ _ _ _ x)
theorem relE_ge {E : List Edg} {s F : Nat} {f : Nat → Nat} (hf : Feas E s F f) {e : Edg} (he : e ∈ E) {d : Nat → Nat} (h : ∀ x, f x ≤ d x) (x : Nat) : f x ≤ relE e d x :=
  rel1_ge hf (Or.inr he) (rel1_ge hf (Or.inl he) h) x
def pass (L : List Edg) (d : Nat → Nat) : Nat → Nat := L.foldl (fun d e => relE e d) d
theorem pass_le : ∀ (L : List Edg) (d : Nat → Nat) (x : Nat), pass L d x ≤ d x := by
  intro L
  induction L with
  | nil => intro d x; exact Nat.le_refl _
  | cons e L ih => intro d x; exact Nat.le_trans (ih (relE e d) x) (relE_le e d x)
theorem pass_ge {E : List Edg} {s F : Nat} {f : Nat → Nat} (hf : Feas E s F f) : ∀ (L : List Edg) (d : Nat → Nat), (∀ e, e ∈ L → e ∈ E) → (∀ x, f x ≤ d x) → ∀ x, f x ≤ pass L d x := by
  intro L
  induction L with
  | nil => intro d _ h x; exact h x
  | cons e L ih =>
    intro d hL h x
    exact ih (relE e d) (fun e' h' => hL e' (List.mem_cons_of_mem _ h')) (relE_ge hf (hL e List.mem_cons_self) h) x
theorem pass_b {y x l : Nat} : ∀ (L : List Edg) (d : Nat → Nat), Adj L y x l → pass L d x ≤ d y + l := by
  intro L
  induction L with
  | nil => intro d g; rcases g with g | g <;> exact absurd g List.not_mem_nil
  | cons e L ih =>
    intro d g
    show pass L (relE e d) x ≤ d y + l
    by_cases c : Adj L y x l
    · have h1 := ih (relE e d) c
      have h2 := relE_le e d y
      omega
    · have h1 := pass_le L (relE e d) x
      rcases g with g | g
      · have e1 : (y, x, l) = e := (List.mem_cons.mp g).resolve_right (fun q => c (Or.inl q))
        subst e1
        have h2 := rel1_le x y l (rel1 y x l d) x
        have h3 := rel1_b y x l d
        have h4 : relE (y, x, l) d x = rel1 x y l (rel1 y x l d) x := rfl
        omega
      · have e1 : (x, y, l) = e := (List.mem_cons.mp g).resolve_right (fun q => c (Or.inr q))
        subst e1
        have h2 := rel1_b y x l (rel1 x y l d)
        have h3 := rel1_le x y l d y
        have h4 : relE (x, y, l) d x = rel1 y x l (rel1 x y l d) x := rfl
        omega
def d0 (s F : Nat) : Nat → Nat := fun x => if x = s then 0 else F
theorem d0_dom (E : List Edg) (s F : Nat) : Dom E s F (d0 s F) := by
  intro f hf x
  unfold d0
  split
  · rename_i h; rw [h, hf.1]; exact Nat.le_refl _
  · exact hf.2.1 x
def passes (E : List Edg) : Nat → (Nat → Nat) → Nat → Nat
  | 0, d => d
  | k + 1, d => passes E k (pass E d)
theorem passes_succ (E : List Edg) : ∀ (k : Nat) (d : Nat → Nat), passes E (k + 1) d = pass E (passes E k d) := by
  intro k
  induction k with
  | zero => intro d; rfl
  | succ k ih => intro d; show passes E (k + 1) (pass E d) = pass E (passes E k (pass E d)); rw [ih]
theorem bf_inv {E : List Edg} (hE : wfE E) {s F : Nat} (hF : 0 < F) : ∀ k, (∀ x, dist E s F x ≤ passes E k (d0 s F) x) ∧ (∀ x, x < 8 → rk (dist E s F) (dist E s F x) ≤ k → passes E k (d0 s F) x = dist E s F x) ∧ (∀ x, passes E k (d0 s F) x ≤ d0 s F x) := by
  have hf := dist_feas E s F
  intro k
  induction k with
  | zero =>
    refine ⟨fun x => d0_dom E s F _ hf x, fun x hx hr => ?_, fun x => Nat.le_refl _⟩
    show d0 s F x = dist E s F x
    by_cases c : x = s
    · unfold d0; rw [if_pos c, c, hf.1]
    · by_cases q : dist E s F x < F
      · exfalso
        obtain ⟨y, l, g, h⟩ := dist_tight E s F x c q
        obtain ⟨hy, _, hl1, hl9⟩ := Adj_wf hE g
        have := rk_lt (D := dist E s F) hy (v := dist E s F x) (by omega)
        omega
      · unfold d0
        rw [if_neg c]
        have := hf.2.1 x
        omega
  | succ k ih =>
    obtain ⟨i1, i2, i3⟩ := ih
    rw [passes_succ]
    have g1 := pass_ge hf E (passes E k (d0 s F)) (fun _ h => h) i1
    have g3 : ∀ x, pass E (passes E k (d0 s F)) x ≤ d0 s F x := fun x => Nat.le_trans (pass_le E _ x) (i3 x)
    refine ⟨g1, fun x hx hr => ?_, g3⟩
    refine Nat.le_antisymm ?_ (g1 x)
    by_cases c : x = s
    · have h1 := g3 x
      have h0 : d0 s F x = 0 := if_pos c
      rw [h0] at h1
      exact Nat.le_trans h1 (Nat.zero_le _)
    · by_cases q : dist E s F x < F
      · obtain ⟨y, l, g, h⟩ := dist_tight E s F x c q
        obtain ⟨hy, _, hl1, hl9⟩ := Adj_wf hE g
        have h2 := rk_lt (D := dist E s F) hy (v := dist E s F x) (by omega)
        have h3 := i2 y hy (by omega)
        have h4 := pass_b E (passes E k (d0 s F)) g
        omega
      · have h1 := g3 x
        have h0 : d0 s F x = F := if_neg c
        rw [h0] at h1
        omega
theorem bf_ok {E : List Edg} (hE : wfE E) {s F k : Nat} (hF : 0 < F) (hk : 7 ≤ k) {x : Nat} (hx : x < 8) : passes E k (d0 s F) x = dist E s F x :=
  (bf_inv hE hF k).2.1 x hx (Nat.le_trans (rk_7 hx) hk)
/-! Dijkstra's way -/
def lkE (u : Nat) (d : Nat → Nat) (e : Edg) : Nat → Nat := if e.1 = u then rel1 u e.2.1 e.2.2 d else if e.2.1 = u then rel1 u e.1 e.2.2 d else d
def LQ (E : List Edg) (s F u : Nat) (d d' : Nat → Nat) : Prop := (∀ v, d' v ≤ d v) ∧ Dom E s F d' ∧ d' u = d u ∧ (∀ v, d v ≤ d u → d' v = d v) ∧ ∀ v, d u ≤ d v → d u ≤ d' v
theorem LQ_1 {E : List Edg} {s F u b l : Nat} {d d' : Nat → Nat} (h : LQ E s F u d d') (g : Adj E u b l) : LQ E s F u d (rel1 u b l d') := by
  obtain ⟨h1, h2, h3, h4, h5⟩ := h
  refine ⟨fun v => Nat.le_trans (rel1_le _ _ _ _ v) (h1 v), fun f hf x => rel1_ge hf g (h2 f hf) x, ?_, fun v hv => ?_, fun v hv => ?_⟩
  · by_cases c : u = b
    · subst c; unfold rel1; rw [updN_s, h3]; omega
    · rw [rel1_o c]; exact h3
  · by_cases c : v = b
    · subst c; unfold rel1; rw [updN_s, h3, h4 v hv]; omega
    · rw [rel1_o c]; exact h4 v hv
  · by_cases c : v = b
    · subst c; unfold rel1; rw [updN_s, h3]; have := h5 v hv; omega
    · rw [rel1_o c]; exact h5 v hv
theorem LQ_E {E : List Edg} {s F u : Nat} {d d' : Nat → Nat} (h : LQ E s F u d d') {e : Edg} (he : e ∈ E) : LQ E s F u d (lkE u d' e) := by
  unfold lkE
  split
  · rename_i c; exact LQ_1 h (Or.inl (c ▸ he))
  · split
    · rename_i c; exact LQ_1 h (Or.inr (c ▸ he))
    · exact h
theorem lkE_le (u : Nat) (d : Nat → Nat) (e : Edg) (x : Nat) : lkE u d e x ≤ d x := by
  unfold lkE
  repeat' split
  all_goals first | exact rel1_le _ _ _ _ _ | exact Nat.le_refl _
theorem lk_le (u : Nat) : ∀ (L : List Edg) (d : Nat → Nat) (x : Nat), L.foldl (lkE u) d x ≤ d x := by
  intro L
  induction L with
  | nil => intro d x; exact Nat.le_refl _
  | cons e L ih => intro d x; exact Nat.le_trans (ih (lkE u d e) x) (lkE_le u d e x)
theorem lk_ok {E : List Edg} {s F u : Nat} {d : Nat → Nat} : ∀ (L : List Edg) (d' : Nat → Nat), (∀ e, e ∈ L → e ∈ E) → LQ E s F u d d' → LQ E s F u d (L.foldl (lkE u) d') ∧ ∀ v l, Adj L u v l → L.foldl (lkE u) d' v ≤ d u + l := by
  intro L
  induction L with
  | nil => intro d' _ h; exact ⟨h, fun v l g => by rcases g with g | g <;> exact absurd g List.not_mem_nil⟩
  | cons e L ih =>
    intro d' hL h
    have h2 := LQ_E h (hL e List.mem_cons_self)
    have h3 := ih (lkE u d' e) (fun e' h' => hL e' (List.mem_cons_of_mem _ h')) h2
    refine ⟨h3.1, fun v l g => ?_⟩
    show L.foldl (lkE u) (lkE u d' e) v ≤ d u + l
    by_cases c : Adj L u v l
    · exact h3.2 v l c
    · have h4 := lk_le u L (lkE u d' e) v
      have h5 : lkE u d' e v ≤ d u + l := by
        rcases g with g | g
        · have e1 : (u, v, l) = e := (List.mem_cons.mp g).resolve_right (fun q => c (Or.inl q))
          subst e1
          unfold lkE
          rw [if_pos rfl]
          have := rel1_b u v l d'
          rw [h.2.2.1] at this
          exact this
        · have e1 : (v, u, l) = e := (List.mem_cons.mp g).resolve_right (fun q => c (Or.inr q))
          subst e1
          unfold lkE
          by_cases q : v = u
          · subst q
            rw [if_pos rfl]
            have h6 := rel1_le v v l d' v
            have h7 := h.2.2.1
            show rel1 v v l d' v ≤ d v + l
            omega
          · rw [if_neg q, if_pos rfl]
            have := rel1_b u v l d'
            rw [h.2.2.1] at this
            exact this
      omega
/-- what a round of the search keeps: distances d, the set c of final islands -/
def DJ (E : List Edg) (s F : Nat) (d : Nat → Nat) (c : Nat → Bool) : Prop := d s = 0 ∧ (∀ x, d x ≤ F) ∧ Dom E s F d ∧ (∀ a b l, Adj E a b l → c a = true → d b ≤ d a + l) ∧ ∀ u v, c u = true → c v = false → d u ≤ d v
theorem DJ_0 (E : List Edg) (s F : Nat) : DJ E s F (d0 s F) (fun _ => false) :=
  ⟨if_pos rfl, fun x => by unfold d0; split <;> omega, d0_dom E s F, fun _ _ _ _ h => absurd h Bool.false_ne_true, fun _ _ h => absurd h Bool.false_ne_true⟩
theorem DJ_step {E : List Edg} {s F u : Nat} {d : Nat → Nat} {c : Nat → Bool} (h : DJ E s F d c) (hu : c u = false) (hm : ∀ v, c v = false → d u ≤ d v) : DJ E s F (E.foldl (lkE u) d) (fun x => c x || x == u) := by
  obtain ⟨h1, h2, h3, h4, h5⟩ := h
  obtain ⟨⟨q1, q2, q3, q4, q5⟩, q6⟩ := lk_ok (E := E) (s := s) (F := F) (u := u) (d := d) E d (fun _ h => h) ⟨fun _ => Nat.le_refl _, h3, rfl, fun _ _ => rfl, fun _ h => h⟩
  generalize E.foldl (lkE u) d = d' at q1 q2 q3 q4 q5 q6 ⊢
  refine ⟨?_, fun x => Nat.le_trans (q1 x) (h2 x), q2, fun a b l g hc => ?_, fun a v ha hv => ?_⟩
  · have := q1 s; omega
  · have hc : (c a || a == u) = true := hc
    by_cases e : a = u
    · subst e; rw [q3]; exact q6 b l g
    · have hca : c a = true := by
        cases h9 : c a with
        | true => rfl
        | false => rw [h9] at hc; simp [e] at hc
      have h6 := h4 a b l g hca
      have h7 := q4 a (h5 a u hca hu)
      have h8 := q1 b
      omega
  · have ha : (c a || a == u) = true := ha
    have hv : (c v || v == u) = false := hv
    have hcv : c v = false := (Bool.or_eq_false_iff.mp hv).1
    have h6 := q5 v (hm v hcv)
    by_cases e : a = u
    · subst e; rw [q3]; exact h6
    · have hca : c a = true := by
        cases h9 : c a with
        | true => rfl
        | false => rw [h9] at ha; simp [e] at ha
      have h7 := q4 a (h5 a u hca hu)
      have h8 := h5 a u hca hu
      omega
theorem DJ_end {E : List Edg} (hE : wfE E) {s F : Nat} {d : Nat → Nat} {c : Nat → Bool} (h : DJ E s F d c) (hc : ∀ x, x < 8 → c x = false → d x = F) (x : Nat) : d x = dist E s F x := by
  obtain ⟨h1, h2, h3, h4, h5⟩ := h
  refine dist_uniq ⟨h1, h2, fun a b l g => ?_⟩ h3 x
  cases e : c a with
  | true => exact h4 a b l g e
  | false =>
    have h6 := hc a (Adj_wf hE g).1 e
    have h7 := h2 b
    omega
