/-! forests: what is chosen by either way has the same length -/
def pl (p : Edg → Prop) (t : Nat) : Edg → Prop := fun e => p e ∧ e.2.2 ≤ t
def cntT (K : List Edg) (t : Nat) : Nat := K.countP (fun e => decide (e.2.2 ≤ t))
def sumL (K : List Edg) : Nat := (K.map (fun e => e.2.2)).sum
def wsum (g : Nat → Nat) : Nat := (g 9 - g 0) + ((g 9 - g 1) + ((g 9 - g 2) + ((g 9 - g 3) + ((g 9 - g 4) + ((g 9 - g 5) + ((g 9 - g 6) + ((g 9 - g 7) + (g 9 - g 8))))))))
theorem cntT_cons (e : Edg) (K : List Edg) (t : Nat) : cntT (e :: K) t = cntT K t + (if e.2.2 ≤ t then 1 else 0) := by
  unfold cntT
  rw [List.countP_cons]
  by_cases h : e.2.2 ≤ t
  · simp [h]
  · simp [h]
theorem cntT_mono (K : List Edg) {t u : Nat} (h : t ≤ u) : cntT K t ≤ cntT K u := by
  induction K with
  | nil => exact Nat.le_refl _
  | cons e K ih =>
    rw [cntT_cons, cntT_cons]
    split <;> split <;> omega
theorem cntT_app (K : List Edg) (e : Edg) (t : Nat) : cntT (K ++ [e]) t = cntT K t + (if e.2.2 ≤ t then 1 else 0) := by
  induction K with
  | nil => rw [List.nil_append, cntT_cons]
  | cons a K ih => rw [List.cons_append, cntT_cons, cntT_cons, ih]; omega
theorem sumL_app (K : List Edg) (e : Edg) : sumL (K ++ [e]) = sumL K + e.2.2 := by
  unfold sumL
  rw [List.map_append, List.sum_append]
  rfl
theorem sumL_w : ∀ (K : List Edg), (∀ e, e ∈ K → 1 ≤ e.2.2 ∧ e.2.2 ≤ 9) → sumL K = wsum (cntT K) := by
  intro K
  induction K with
  | nil => intro _; rfl
  | cons e K ih =>
    intro h
    have h1 := ih (fun e he => h e (List.mem_cons_of_mem _ he))
    obtain ⟨h2, h3⟩ := h e List.mem_cons_self
    have m0 := cntT_mono K (t := 0) (u := 9) (by omega)
    have m1 := cntT_mono K (t := 1) (u := 9) (by omega)
    have m2 := cntT_mono K (t := 2) (u := 9) (by omega)
    have m3 := cntT_mono K (t := 3) (u := 9) (by omega)
    have m4 := cntT_mono K (t := 4) (u := 9) (by omega)
    have m5 := cntT_mono K (t := 5) (u := 9) (by omega)
    have m6 := cntT_mono K (t := 6) (u := 9) (by omega)
    have m7 := cntT_mono K (t := 7) (u := 9) (by omega)
    have m8 := cntT_mono K (t := 8) (u := 9) (by omega)
    have hs : sumL (e :: K) = e.2.2 + sumL K := rfl
    rw [hs, h1]
    unfold wsum
    simp only [cntT_cons]
    generalize cntT K 0 = g0 at *
    generalize cntT K 1 = g1 at *
    generalize cntT K 2 = g2 at *
    generalize cntT K 3 = g3 at *
    generalize cntT K 4 = g4 at *
    generalize cntT K 5 = g5 at *
    generalize cntT K 6 = g6 at *
    generalize cntT K 7 = g7 at *
    generalize cntT K 8 = g8 at *
    generalize cntT K 9 = g9 at *
    generalize e.2.2 = l at h2 h3 ⊢
    rcases (by omega : l = 1 ∨ l = 2 ∨ l = 3 ∨ l = 4 ∨ l = 5 ∨ l = 6 ∨ l = 7 ∨ l = 8 ∨ l = 9) with r | r | r | r | r | r | r | r | r <;> subst r <;> simp <;> omega
/-- the length of a shortest forest, by how many groups are left at each length -/
noncomputable def forestW (E : List Edg) : Nat := wsum (fun t => 8 - cl (Conn (pl (inL E) t)))
def KI (p : Edg → Prop) (K : List Edg) : Prop := (∀ t, cntT K t + cl (Conn (pl p t)) = 8) ∧ ∀ e, e ∈ K → 1 ≤ e.2.2 ∧ e.2.2 ≤ 9
theorem KI_end {E : List Edg} {p : Edg → Prop} {K : List Edg} (h : KI p K) (hp : ∀ e, p e ↔ e ∈ E) : sumL K = forestW E := by
  rw [sumL_w K h.2]
  unfold forestW
  congr 1
  funext t
  have h1 := h.1 t
  have h2 : Conn (pl p t) = Conn (pl (inL E) t) := Conn_cg (fun e => by unfold pl; rw [hp e])
  rw [h2] at h1
  omega
theorem KI_0 : KI (fun _ => False) [] := ⟨fun t => by
  have h : Conn (pl (fun _ => False) t) = Conn (fun _ => False) := Conn_cg (fun e => ⟨fun h => h.1, fun h => h.elim⟩)
  rw [h, cl_no]
  rfl, fun e h => absurd h List.not_mem_nil⟩
theorem pl_lo {p : Edg → Prop} {e0 : Edg} {t : Nat} (h : t < e0.2.2) : Conn (pl (eAdd p e0) t) = Conn (pl p t) := Conn_cg (fun e => by
  constructor
  · rintro ⟨h1 | h1, h2⟩
    · exact ⟨h1, h2⟩
    · rw [h1] at h2; omega
  · rintro ⟨h1, h2⟩; exact ⟨Or.inl h1, h2⟩)
theorem pl_hi {p : Edg → Prop} {e0 : Edg} {t : Nat} (h : e0.2.2 ≤ t) : Conn (pl (eAdd p e0) t) = Conn (eAdd (pl p t) e0) := Conn_cg (fun e => by
  constructor
  · rintro ⟨h1 | h1, h2⟩
    · exact Or.inl ⟨h1, h2⟩
    · exact Or.inr h1
  · rintro (h1 | h1)
    · exact ⟨Or.inl h1.1, h1.2⟩
    · rw [h1]; exact ⟨Or.inr rfl, h⟩)
theorem pl_all {p : Edg → Prop} {w t : Nat} (hw : ∀ e, p e → e.2.2 ≤ w) (h : w ≤ t) : Conn (pl p t) = Conn p := Conn_cg (fun e => ⟨fun h1 => h1.1, fun h1 => ⟨h1, Nat.le_trans (hw e h1) h⟩⟩)
theorem KI_join {p : Edg → Prop} {K : List Edg} {e : Edg} (h : KI p K) (hw : ∀ e', p e' → e'.2.2 ≤ e.2.2) (h8 : e.1 < 8 ∧ e.2.1 < 8 ∧ 1 ≤ e.2.2 ∧ e.2.2 ≤ 9) (hn : ¬ Conn p e.1 e.2.1) : KI (eAdd p e) (K ++ [e]) := by
  refine ⟨fun t => ?_, fun e' he => ?_⟩
  · have h1 := h.1 t
    rw [cntT_app]
    by_cases c : e.2.2 ≤ t
    · rw [if_pos c, pl_hi c]
      rw [pl_all hw c] at h1
      have h2 : Conn (eAdd (pl p t) e) = Conn (eAdd p e) := Conn_cg (fun e' => ⟨fun g => g.elim (fun g => Or.inl g.1) Or.inr, fun g => g.elim (fun g => Or.inl ⟨g, Nat.le_trans (hw e' g) c⟩) Or.inr⟩)
      rw [h2]
      have h3 := cl_add h8.1 h8.2.1 hn
      omega
    · rw [if_neg c, pl_lo (by omega)]
      exact h1
  · rcases List.mem_append.mp he with g | g
    · exact h.2 e' g
    · rw [List.mem_singleton.mp g]; exact h8.2.2
theorem KI_skip {p : Edg → Prop} {K : List Edg} {e : Edg} (h : KI p K) (hw : ∀ e', p e' → e'.2.2 ≤ e.2.2) (hc : Conn p e.1 e.2.1) : KI (eAdd p e) K := by
  refine ⟨fun t => ?_, h.2⟩
  have h1 := h.1 t
  by_cases c : e.2.2 ≤ t
  · rw [pl_hi c]
    rw [pl_all hw c] at h1
    have h2 : Conn (eAdd (pl p t) e) = Conn (eAdd p e) := Conn_cg (fun e' => ⟨fun g => g.elim (fun g => Or.inl g.1) Or.inr, fun g => g.elim (fun g => Or.inl ⟨g, Nat.le_trans (hw e' g) c⟩) Or.inr⟩)
    rw [h2, Conn_add0 hc]
    exact h1
  · rw [pl_lo (by omega)]
    exact h1
theorem KI_cg {p q : Edg → Prop} {K : List Edg} (h : KI p K) (g : ∀ e, p e ↔ q e) : KI q K := ⟨fun t => by
  have h1 := h.1 t
  have h2 : Conn (pl p t) = Conn (pl q t) := Conn_cg (fun e => by unfold pl; rw [g e])
  rw [h2] at h1
  exact h1, h.2⟩
/-! Prim's way: the chosen edges T, the reached islands R -/
def lv (E : List Edg) (R : Nat → Bool) (x t : Nat) : Prop := ∃ v l, Adj E x v l ∧ R v = false ∧ l ≤ t
def PI (E T : List Edg) (R : Nat → Bool) : Prop := (∀ e, e ∈ T → e ∈ E ∧ R e.1 = true ∧ R e.2.1 = true) ∧ (∀ t, cntT T t + cl (Conn (pl (inL T) t)) = 8) ∧ (∀ t x y, R x = true → R y = true → lv E R x t → lv E R y t → Conn (pl (inL T) t) x y) ∧ ∀ e, e ∈ E → R e.1 = true → R e.2.1 = true → Conn (pl (inL T) e.2.2) e.1 e.2.1
theorem PI_0 (E : List Edg) : PI E [] (fun _ => false) := ⟨fun e h => absurd h List.not_mem_nil, fun t => by
  have h : Conn (pl (inL []) t) = Conn (fun _ => False) := Conn_cg (fun e => ⟨fun h => absurd h.1 List.not_mem_nil, fun h => h.elim⟩)
  rw [h, cl_no]; rfl, fun _ _ _ h => absurd h Bool.false_ne_true, fun _ _ h => absurd h Bool.false_ne_true⟩
/-- no edge leaves -/
def shut (E : List Edg) (R : Nat → Bool) : Prop := ∀ e, e ∈ E → R e.1 = R e.2.1
theorem shut_lv {E : List Edg} {R : Nat → Bool} (h : shut E R) {x t : Nat} (hx : R x = true) : ¬ lv E R x t := by
  rintro ⟨v, l, g, hv, _⟩
  rcases g with g | g
  · have := h _ g; simp only at this; rw [hx, hv] at this; cases this
  · have := h _ g; simp only at this; rw [hx, hv] at this; cases this
theorem PI_start {E T : List Edg} {R : Nat → Bool} (h : PI E T R) (hs : shut E R) (s : Nat) : PI E T (fun x => R x || x == s) := by
  by_cases c : R s = true
  · have e : (fun x => R x || x == s) = R := by
      funext x
      by_cases q : x = s
      · subst q; rw [c]; rfl
      · simp [q]
    rw [e]; exact h
  · have c : R s = false := by cases q : R s with | true => exact absurd q c | false => rfl
    obtain ⟨h1, h2, h3, h4⟩ := h
    have up : ∀ {x}, R x = true → (R x || x == s) = true := fun h => by rw [h]; rfl
    have out : ∀ {x}, (R x || x == s) = true → R x = true ∨ x = s := fun {x} h => by
      cases q : R x with
      | true => exact Or.inl rfl
      | false => rw [q] at h; exact Or.inr (by simpa using h)
    have no : ∀ {x t}, R x = true → ¬ lv E (fun x => R x || x == s) x t := by
      rintro x t hx ⟨v, l, g, hv, hl⟩
      exact shut_lv hs hx ⟨v, l, g, (Bool.or_eq_false_iff.mp hv).1, hl⟩
    refine ⟨fun e he => ⟨(h1 e he).1, up (h1 e he).2.1, up (h1 e he).2.2⟩, h2, fun t x y hx hy lx ly => ?_, fun e he g1 g2 => ?_⟩
    · have ex := (out hx).resolve_left (fun q => no q lx)
      have ey := (out hy).resolve_left (fun q => no q ly)
      rw [ex, ey]; exact Conn_rf _ s
    · have q := hs e he
      rcases out g1 with a | a
      · exact h4 e he a (q ▸ a)
      · rcases out g2 with b | b
        · exact h4 e he (q.trans b) b
        · rw [a, b]; exact Conn_rf _ s
theorem PI_step {E T : List Edg} {R : Nat → Bool} (hE : wfE E) (h : PI E T R) {e : Edg} (he : e ∈ E) {u v : Nat} (huv : (e.1 = u ∧ e.2.1 = v) ∨ (e.1 = v ∧ e.2.1 = u)) (hu : R u = true) (hv : R v = false) (hm : ∀ e', e' ∈ E → R e'.1 ≠ R e'.2.1 → e.2.2 ≤ e'.2.2) : PI E (T ++ [e]) (fun x => R x || x == v) := by
  obtain ⟨h1, h2, h3, h4⟩ := h
  have hw := hE e he
  have up : ∀ {x}, R x = true → (R x || x == v) = true := fun h => by rw [h]; rfl
  have upv : (R v || v == v) = true := by simp
  have out : ∀ {x}, (R x || x == v) = true → R x = true ∨ x = v := fun {x} h => by
    cases q : R x with
    | true => exact Or.inl rfl
    | false => rw [q] at h; exact Or.inr (by simpa using h)
  have gE : Adj E u v e.2.2 := by
    rcases huv with ⟨a, b⟩ | ⟨a, b⟩
    · left; rw [← a, ← b]; exact he
    · right; rw [← a, ← b]; exact he
  have iso : ∀ t x, Conn (pl (inL T) t) x v → x = v := by
    intro t x c
    refine (c (fun z => z = v) (fun e' h' => ?_)).2 rfl
    have q := h1 e' h'.1
    constructor
    · intro q2; have q2 : e'.1 = v := q2; rw [q2, hv] at q; exact absurd q.2.1 (by decide)
    · intro q2; have q2 : e'.2.1 = v := q2; rw [q2, hv] at q; exact absurd q.2.2 (by decide)
  have huv2 : u ≠ v := fun q => by rw [q, hv] at hu; cases hu
  have cT : ∀ t, pl (inL (T ++ [e])) t = pl (eAdd (inL T) e) t := by
    intro t
    funext e'
    refine propext ⟨fun g => ⟨(List.mem_append.mp g.1).elim Or.inl (fun q => Or.inr (List.mem_singleton.mp q)), g.2⟩, fun g => ⟨List.mem_append.mpr (g.1.elim Or.inl (fun q => Or.inr (List.mem_singleton.mpr q))), g.2⟩⟩
  have mo : ∀ {t t' x y}, t ≤ t' → Conn (pl (inL T) t) x y → Conn (pl (inL (T ++ [e])) t') x y := fun hl c => Conn_mo c (fun e' h' => Conn_ed (E := pl (inL (T ++ [e])) _) ⟨List.mem_append.mpr (Or.inl h'.1), Nat.le_trans h'.2 hl⟩)
  have new : ∀ {t}, e.2.2 ≤ t → Conn (pl (inL (T ++ [e])) t) u v := by
    intro t ht
    have c : Conn (pl (inL (T ++ [e])) t) e.1 e.2.1 := Conn_ed (E := pl (inL (T ++ [e])) t) ⟨List.mem_append.mpr (Or.inr (List.mem_singleton.mpr rfl)), ht⟩
    rcases huv with ⟨a, b⟩ | ⟨a, b⟩
    · rw [← a, ← b]; exact c
    · rw [← a, ← b]; exact Conn_sy c
  have lvo : ∀ {x t}, R x = true → lv E (fun x => R x || x == v) x t → lv E R x t := by
    rintro x t hx ⟨z, l, g, hz, hl⟩
    exact ⟨z, l, g, (Bool.or_eq_false_iff.mp hz).1, hl⟩
  have lvm : ∀ {x t}, R x = true → lv E R x t → e.2.2 ≤ t := by
    rintro x t hx ⟨z, l, g, hz, hl⟩
    rcases g with g | g
    · exact Nat.le_trans (hm _ g (by show R x ≠ R z; rw [hx, hz]; decide)) hl
    · exact Nat.le_trans (hm _ g (by show R z ≠ R x; rw [hx, hz]; decide)) hl
  have lvu : ∀ {t}, e.2.2 ≤ t → lv E R u t := fun ht => ⟨v, e.2.2, gE, hv, ht⟩
  have cxv : ∀ {x t}, R x = true → lv E R x t → Conn (pl (inL (T ++ [e])) t) x v := fun hx lx => Conn_tr (mo (Nat.le_refl _) (h3 _ _ _ hx hu lx (lvu (lvm hx lx)))) (new (lvm hx lx))
  refine ⟨fun e' he' => ?_, fun t => ?_, fun t x y hx hy lx ly => ?_, fun e' he' g1 g2 => ?_⟩
  · rcases List.mem_append.mp he' with g | g
    · exact ⟨(h1 e' g).1, up (h1 e' g).2.1, up (h1 e' g).2.2⟩
    · rw [List.mem_singleton.mp g]
      rcases huv with ⟨a, b⟩ | ⟨a, b⟩
      · exact ⟨he, by rw [a]; exact up hu, by rw [b]; exact upv⟩
      · exact ⟨he, by rw [a]; exact upv, by rw [b]; exact up hu⟩
  · have q := h2 t
    rw [cntT_app, cT]
    by_cases c : e.2.2 ≤ t
    · rw [if_pos c, pl_hi c]
      have hn : ¬ Conn (pl (inL T) t) e.1 e.2.1 := by
        rcases huv with ⟨a, b⟩ | ⟨a, b⟩
        · rw [a, b]; exact fun g => huv2 (iso t u g)
        · rw [a, b]; exact fun g => huv2 (iso t u (Conn_sy g))
      have q2 := cl_add hw.1 hw.2.1 hn
      omega
    · rw [if_neg c, pl_lo (by omega)]
      exact q
  · rcases out hx with a | a
    · rcases out hy with b | b
      · exact mo (Nat.le_refl _) (h3 t x y a b (lvo a lx) (lvo b ly))
      · rw [b]; exact cxv a (lvo a lx)
    · rcases out hy with b | b
      · rw [a]; exact Conn_sy (cxv b (lvo b ly))
      · rw [a, b]; exact Conn_rf _ v
  · rcases out g1 with a | a
    · rcases out g2 with b | b
      · exact mo (Nat.le_refl _) (h4 e' he' a b)
      · have := cxv (t := e'.2.2) a ⟨v, e'.2.2, Or.inl (b ▸ he'), hv, Nat.le_refl _⟩
        rw [b]; exact this
    · rcases out g2 with b | b
      · have := cxv (t := e'.2.2) b ⟨v, e'.2.2, Or.inr (a ▸ he'), hv, Nat.le_refl _⟩
        rw [a]; exact Conn_sy this
      · rw [a, b]; exact Conn_rf _ v
theorem PI_end {E T : List Edg} {R : Nat → Bool} (hE : wfE E) (h : PI E T R) (hR : ∀ x, x < 8 → R x = true) : sumL T = forestW E := by
  obtain ⟨h1, h2, h3, h4⟩ := h
  rw [sumL_w T (fun e he => (hE e (h1 e he).1).2.2)]
  unfold forestW
  congr 1
  funext t
  have q := h2 t
  have e : Conn (pl (inL T) t) = Conn (pl (inL E) t) := Conn_same (fun e he => Conn_ed (E := pl (inL E) t) ⟨(h1 e he.1).1, he.2⟩) (fun e he => by
    have hw := hE e he.1
    exact Conn_mo (h4 e he.1 (hR _ hw.1) (hR _ hw.2.1)) (fun e' h' => Conn_ed (E := pl (inL T) t) ⟨h'.1, Nat.le_trans h'.2 he.2⟩))
  rw [e] at q
  omega
theorem c8_add {R : Nat → Bool} {v : Nat} (hv : v < 8) (h : R v = false) : c8 (fun x => R x || x == v) = c8 R + 1 := c8_one hv (by simp) h (fun x hx => by simp [hx])
