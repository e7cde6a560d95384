/-! graphs: connection, counts of groups, distances -/
abbrev Edg : Type := Nat × Nat × Nat
def Conn (E : Edg → Prop) (x y : Nat) : Prop := ∀ P : Nat → Prop, (∀ e, E e → (P e.1 ↔ P e.2.1)) → (P x ↔ P y)
theorem Conn_rf (E : Edg → Prop) (x : Nat) : Conn E x x := fun _ _ => Iff.rfl
theorem Conn_sy {E : Edg → Prop} {x y : Nat} (h : Conn E x y) : Conn E y x := fun P hP => (h P hP).symm
theorem Conn_tr {E : Edg → Prop} {x y z : Nat} (h : Conn E x y) (g : Conn E y z) : Conn E x z := fun P hP => (h P hP).trans (g P hP)
theorem Conn_ed {E : Edg → Prop} {e : Edg} (h : E e) : Conn E e.1 e.2.1 := fun _ hP => hP e h
theorem Conn_mo {E F : Edg → Prop} {x y : Nat} (h : Conn E x y) (s : ∀ e, E e → Conn F e.1 e.2.1) : Conn F x y := fun P hP => h P (fun e he => s e he P hP)
theorem Conn_same {E F : Edg → Prop} (h : ∀ e, E e → Conn F e.1 e.2.1) (g : ∀ e, F e → Conn E e.1 e.2.1) : Conn E = Conn F := by
  funext x y
  exact propext ⟨fun c => Conn_mo c h, fun c => Conn_mo c g⟩
theorem Conn_cg {E F : Edg → Prop} (h : ∀ e, E e ↔ F e) : Conn E = Conn F := Conn_same (fun e he => Conn_ed ((h e).mp he)) (fun e he => Conn_ed ((h e).mpr he))
/-- one edge more -/
def eAdd (E : Edg → Prop) (e0 : Edg) : Edg → Prop := fun e => E e ∨ e = e0
theorem Conn_add {E : Edg → Prop} {e0 : Edg} {x y : Nat} : Conn (eAdd E e0) x y ↔ Conn E x y ∨ (Conn E x e0.1 ∧ Conn E e0.2.1 y) ∨ (Conn E x e0.2.1 ∧ Conn E e0.1 y) := by
  obtain ⟨a, b, l⟩ := e0
  show Conn (eAdd E (a, b, l)) x y ↔ Conn E x y ∨ (Conn E x a ∧ Conn E b y) ∨ (Conn E x b ∧ Conn E a y)
  constructor
  · intro h
    have h9 := h (fun z => Conn E x z ∨ (Conn E x a ∧ Conn E b z) ∨ (Conn E x b ∧ Conn E a z)) (by
      intro e he
      rcases he with h1 | h1
      · have c := Conn_ed h1
        constructor
        · rintro (g | ⟨g1, g2⟩ | ⟨g1, g2⟩)
          · exact Or.inl (Conn_tr g c)
          · exact Or.inr (Or.inl ⟨g1, Conn_tr g2 c⟩)
          · exact Or.inr (Or.inr ⟨g1, Conn_tr g2 c⟩)
        · have c := Conn_sy c
          rintro (g | ⟨g1, g2⟩ | ⟨g1, g2⟩)
          · exact Or.inl (Conn_tr g c)
          · exact Or.inr (Or.inl ⟨g1, Conn_tr g2 c⟩)
          · exact Or.inr (Or.inr ⟨g1, Conn_tr g2 c⟩)
      · rw [h1]
        constructor
        · rintro (g | ⟨g1, _⟩ | ⟨g1, _⟩)
          · exact Or.inr (Or.inl ⟨g, Conn_rf E b⟩)
          · exact Or.inr (Or.inl ⟨g1, Conn_rf E b⟩)
          · exact Or.inl g1
        · rintro (g | ⟨g1, _⟩ | ⟨g1, _⟩)
          · exact Or.inr (Or.inr ⟨g, Conn_rf E a⟩)
          · exact Or.inl g1
          · exact Or.inr (Or.inr ⟨g1, Conn_rf E a⟩))
    exact h9.1 (Or.inl (Conn_rf E x))
  · have up : ∀ {u v : Nat}, Conn E u v → Conn (eAdd E (a, b, l)) u v := fun h => Conn_mo h (fun e he => Conn_ed (Or.inl he))
    have ab : Conn (eAdd E (a, b, l)) a b := Conn_ed (e := (a, b, l)) (Or.inr rfl)
    rintro (g | ⟨g1, g2⟩ | ⟨g1, g2⟩)
    · exact up g
    · exact Conn_tr (up g1) (Conn_tr ab (up g2))
    · exact Conn_tr (up g1) (Conn_tr (Conn_sy ab) (up g2))
theorem Conn_add0 {E : Edg → Prop} {e0 : Edg} (h : Conn E e0.1 e0.2.1) : Conn (eAdd E e0) = Conn E :=
  Conn_same (fun e he => by
    rcases he with h1 | h1
    · exact Conn_ed h1
    · rw [h1]; exact h) (fun e he => Conn_ed (Or.inl he))
theorem Conn_no {x y : Nat} : Conn (fun _ => False) x y ↔ x = y := by
  constructor
  · intro h
    exact ((h (fun z => x = z) (fun e he => he.elim)).1 rfl)
  · rintro rfl
    exact Conn_rf _ x
/-! counts -/
theorem cnt_eq {p q : Nat → Bool} : ∀ (l : List Nat), (∀ x, x ∈ l → p x = q x) → l.countP p = l.countP q := by
  intro l
  induction l with
  | nil => intro _; rfl
  | cons a l ih =>
    intro h
    rw [List.countP_cons, List.countP_cons, ih (fun x hx => h x (List.mem_cons_of_mem _ hx)), h a List.mem_cons_self]
theorem cnt_one {p q : Nat → Bool} {m : Nat} (hp : p m = true) (hq : q m = false) (hx : ∀ x, x ≠ m → p x = q x) : ∀ (l : List Nat), l.Nodup → m ∈ l → l.countP p = l.countP q + 1 := by
  intro l
  induction l with
  | nil => intro _ h; exact absurd h List.not_mem_nil
  | cons a l ih =>
    intro hn hm
    rw [List.countP_cons, List.countP_cons]
    have hn' := List.nodup_cons.mp hn
    by_cases e : a = m
    · subst e
      rw [cnt_eq l (fun x hxl => hx x (fun e => hn'.1 (e ▸ hxl))), hp, hq]
      rfl
    · have hml : m ∈ l := (List.mem_cons.mp hm).resolve_left (fun h => e h.symm)
      rw [ih hn'.2 hml, hx a e]
      omega
theorem cnt_le {p q : Nat → Bool} : ∀ (l : List Nat), (∀ x, x ∈ l → p x = true → q x = true) → l.countP p ≤ l.countP q := by
  intro l
  induction l with
  | nil => intro _; exact Nat.le_refl _
  | cons a l ih =>
    intro h
    have h1 := ih (fun x hx => h x (List.mem_cons_of_mem _ hx))
    have h2 := h a List.mem_cons_self
    rw [List.countP_cons, List.countP_cons]
    cases e : p a with
    | false => simp only [Bool.false_eq_true, if_false]; omega
    | true => rw [h2 e]; simp only [if_true]; omega
theorem cnt_lt {p q : Nat → Bool} {m : Nat} (hp : p m = false) (hq : q m = true) : ∀ (l : List Nat), (∀ x, x ∈ l → p x = true → q x = true) → m ∈ l → l.countP p < l.countP q := by
  intro l
  induction l with
  | nil => intro _ h; exact absurd h List.not_mem_nil
  | cons a l ih =>
    intro h hm
    have h0 := cnt_le l (fun x hx => h x (List.mem_cons_of_mem _ hx))
    have h2 := h a List.mem_cons_self
    rw [List.countP_cons, List.countP_cons]
    by_cases e : a = m
    · subst e
      rw [hp, hq]
      simp only [Bool.false_eq_true, if_false, if_true]
      omega
    · have h1 := ih (fun x hx => h x (List.mem_cons_of_mem _ hx)) ((List.mem_cons.mp hm).resolve_left (fun h => e h.symm))
      cases e2 : p a with
      | false => simp only [Bool.false_eq_true, if_false]; omega
      | true => rw [h2 e2]; simp only [if_true]; omega
def c8 (p : Nat → Bool) : Nat := (List.range 8).countP p
theorem c8_le8 (p : Nat → Bool) : c8 p ≤ 8 := Nat.le_trans List.countP_le_length (Nat.le_of_eq List.length_range)
theorem c8_all {p : Nat → Bool} (h : ∀ x, x < 8 → p x = true) : c8 p = 8 := by
  have : c8 p = c8 (fun _ => true) := cnt_eq _ (fun x hx => h x (List.mem_range.mp hx))
  rw [this]; rfl
theorem c8_full {p : Nat → Bool} (h : 8 ≤ c8 p) : ∀ x, x < 8 → p x = true := by
  intro x hx
  cases e : p x with
  | true => rfl
  | false =>
    have h1 : c8 p < c8 (fun _ => true) := cnt_lt (m := x) e rfl _ (fun _ _ _ => rfl) (List.mem_range.mpr hx)
    have h2 := c8_le8 (fun _ => true)
    omega
theorem c8_one {p q : Nat → Bool} {m : Nat} (hm : m < 8) (hp : p m = true) (hq : q m = false) (hx : ∀ x, x ≠ m → p x = q x) : c8 p = c8 q + 1 := cnt_one hp hq hx _ List.nodup_range (List.mem_range.mpr hm)
/-! how many groups -/
noncomputable def lowB (R : Nat → Nat → Prop) (x : Nat) : Bool := @decide (∀ y, y < x → ¬ R y x) (Classical.propDecidable _)
theorem lowB_t {R : Nat → Nat → Prop} {x : Nat} : lowB R x = true ↔ ∀ y, y < x → ¬ R y x := @decide_eq_true_iff _ (Classical.propDecidable _)
theorem lowB_f {R : Nat → Nat → Prop} {x : Nat} (h : ¬ ∀ y, y < x → ¬ R y x) : lowB R x = false := by
  cases e : lowB R x with
  | false => rfl
  | true => exact absurd (lowB_t.mp e) h
theorem lowB_c {R S : Nat → Nat → Prop} {x : Nat} (h : (∀ y, y < x → ¬ R y x) ↔ ∀ y, y < x → ¬ S y x) : lowB R x = lowB S x := by
  cases e : lowB S x with
  | true => exact lowB_t.mpr (h.mpr (lowB_t.mp e))
  | false => exact lowB_f (fun g => by have := lowB_t.mpr (h.mp g); rw [e] at this; cases this)
noncomputable def cl (R : Nat → Nat → Prop) : Nat := c8 (lowB R)
theorem cl_no : cl (Conn (fun _ => False)) = 8 := c8_all (fun x _ => lowB_t.mpr (fun y hy c => by have := Conn_no.mp c; omega))
theorem cl_merge1 {R S : Nat → Nat → Prop} (hs : ∀ x y, R x y → R y x) (ht : ∀ x y z, R x y → R y z → R x z) {a b ma mb : Nat} (hb : mb < 8) (h1 : R ma a) (h2 : R mb b) (h3 : ∀ j, j < ma → ¬ R j a) (h4 : ∀ j, j < mb → ¬ R j b) (hlt : ma < mb) (h : ∀ x y, S x y ↔ R x y ∨ (R x a ∧ R b y) ∨ (R x b ∧ R a y)) : cl R = cl S + 1 := by
  refine c8_one hb (lowB_t.mpr (fun y hy c => h4 y hy (ht _ _ _ c h2))) (lowB_f (fun g => g ma hlt ((h ma mb).mpr (Or.inr (Or.inl ⟨h1, hs _ _ h2⟩))))) (fun x hx => lowB_c ⟨fun g y hy c => ?_, fun g y hy c => g y hy ((h y x).mpr (Or.inl c))⟩)
  rcases (h y x).mp c with c | ⟨c1, c2⟩ | ⟨c1, c2⟩
  · exact g y hy c
  · rcases Nat.lt_trichotomy x mb with q | q | q
    · exact h4 x q (hs _ _ c2)
    · exact hx q
    · exact g mb q (ht _ _ _ h2 c2)
  · have q1 : ¬ ma < x := fun q => g ma q (ht _ _ _ h1 c2)
    exact h4 y (by omega) c1
theorem cl_merge {R S : Nat → Nat → Prop} (hr : ∀ x, R x x) (hs : ∀ x y, R x y → R y x) (ht : ∀ x y z, R x y → R y z → R x z) {a b : Nat} (ha : a < 8) (hb : b < 8) (hn : ¬ R a b) (h : ∀ x y, S x y ↔ R x y ∨ (R x a ∧ R b y) ∨ (R x b ∧ R a y)) : cl R = cl S + 1 := by
  obtain ⟨ma, h1, h3⟩ := pk_least (fun k => R k a) ⟨a, hr a⟩
  obtain ⟨mb, h2, h4⟩ := pk_least (fun k => R k b) ⟨b, hr b⟩
  have la : ma ≤ a := Nat.le_of_not_lt (fun q => h3 a q (hr a))
  have lb : mb ≤ b := Nat.le_of_not_lt (fun q => h4 b q (hr b))
  rcases Nat.lt_trichotomy ma mb with q | q | q
  · exact cl_merge1 hs ht (by omega) h1 h2 h3 h4 q h
  · subst q
    exact absurd (ht _ _ _ (hs _ _ h1) h2) hn
  · exact cl_merge1 hs ht (a := b) (b := a) (by omega) h2 h1 h4 h3 q (fun x y => by rw [h x y]; constructor <;> (rintro (g | g | g); exact Or.inl g; exact Or.inr (Or.inr g); exact Or.inr (Or.inl g)))
theorem cl_add {E : Edg → Prop} {e0 : Edg} (ha : e0.1 < 8) (hb : e0.2.1 < 8) (hn : ¬ Conn E e0.1 e0.2.1) : cl (Conn E) = cl (Conn (eAdd E e0)) + 1 :=
  cl_merge (Conn_rf E) (fun _ _ => Conn_sy) (fun _ _ _ => Conn_tr) ha hb hn (fun _ _ => Conn_add)
abbrev inL (E : List Edg) : Edg → Prop := fun e => e ∈ E
/-! distances -/
def wfE (E : List Edg) : Prop := ∀ e, e ∈ E → e.1 < 8 ∧ e.2.1 < 8 ∧ 1 ≤ e.2.2 ∧ e.2.2 ≤ 9
def Adj (E : List Edg) (a b l : Nat) : Prop := (a, b, l) ∈ E ∨ (b, a, l) ∈ E
theorem Adj_wf {E : List Edg} (h : wfE E) {a b l : Nat} (g : Adj E a b l) : a < 8 ∧ b < 8 ∧ 1 ≤ l ∧ l ≤ 9 := by
  rcases g with g | g
  · exact h _ g
  · have := h _ g; exact ⟨this.2.1, this.1, this.2.2⟩
theorem Adj_sy {E : List Edg} {a b l : Nat} (g : Adj E a b l) : Adj E b a l := Or.symm g
theorem Adj_cn {E : List Edg} {a b l : Nat} (g : Adj E a b l) : Conn (inL E) a b := by
  rcases g with g | g
  · exact Conn_ed (E := inL E) (e := (a, b, l)) g
  · exact Conn_sy (Conn_ed (E := inL E) (e := (b, a, l)) g)
def Feas (E : List Edg) (s F : Nat) (f : Nat → Nat) : Prop := f s = 0 ∧ (∀ x, f x ≤ F) ∧ ∀ a b l, Adj E a b l → f b ≤ f a + l
def Dom (E : List Edg) (s F : Nat) (d : Nat → Nat) : Prop := ∀ f, Feas E s F f → ∀ x, f x ≤ d x
theorem max_ex (P : Nat → Prop) : ∀ (F n0 : Nat), P n0 → (∀ n, P n → n ≤ F) → ∃ m, P m ∧ ∀ n, P n → n ≤ m := by
  intro F
  induction F with
  | zero => intro n0 h0 hb; exact ⟨n0, h0, fun n hn => by have := hb n hn; omega⟩
  | succ F ih =>
    intro n0 h0 hb
    by_cases c : P (F + 1)
    · exact ⟨F + 1, c, hb⟩
    · exact ih n0 h0 (fun n hn => by
        have h1 := hb n hn
        rcases Nat.lt_or_ge F n with h2 | h2
        · have e : n = F + 1 := by omega
          exact absurd (e ▸ hn) c
        · exact h2)
theorem dist_ex (E : List Edg) (s F : Nat) : ∃ D, Feas E s F D ∧ Dom E s F D := by
  have h : ∀ x, ∃ m, (∃ f, Feas E s F f ∧ f x = m) ∧ ∀ n, (∃ f, Feas E s F f ∧ f x = n) → n ≤ m := fun x =>
    max_ex (fun m => ∃ f, Feas E s F f ∧ f x = m) F 0 ⟨fun _ => 0, ⟨rfl, fun _ => Nat.zero_le _, fun _ _ _ _ => Nat.zero_le _⟩, rfl⟩ (fun n ⟨f, hf, e⟩ => e ▸ hf.2.1 x)
  have hm : ∀ x f, Feas E s F f → f x ≤ Classical.choose (h x) := fun x f hf => (Classical.choose_spec (h x)).2 _ ⟨f, hf, rfl⟩
  refine ⟨fun x => Classical.choose (h x), ⟨?_, fun x => ?_, fun a b l g => ?_⟩, fun f hf x => hm x f hf⟩
  · obtain ⟨f, hf, e⟩ := (Classical.choose_spec (h s)).1
    exact e.symm.trans hf.1
  · obtain ⟨f, hf, e⟩ := (Classical.choose_spec (h x)).1
    exact Nat.le_trans (Nat.le_of_eq e.symm) (hf.2.1 x)
  · obtain ⟨f, hf, e⟩ := (Classical.choose_spec (h b)).1
    have h1 := hf.2.2 a b l g
    have h2 := hm a f hf
    show Classical.choose (h b) ≤ Classical.choose (h a) + l
    omega
noncomputable def dist (E : List Edg) (s F : Nat) : Nat → Nat := Classical.choose (dist_ex E s F)
theorem dist_feas (E : List Edg) (s F : Nat) : Feas E s F (dist E s F) := (Classical.choose_spec (dist_ex E s F)).1
theorem dist_dom (E : List Edg) (s F : Nat) : Dom E s F (dist E s F) := (Classical.choose_spec (dist_ex E s F)).2
theorem dist_uniq {E : List Edg} {s F : Nat} {d : Nat → Nat} (h1 : Feas E s F d) (h2 : Dom E s F d) (x : Nat) : d x = dist E s F x := Nat.le_antisymm (dist_dom E s F d h1 x) (h2 _ (dist_feas E s F) x)
theorem dist_tight (E : List Edg) (s F x : Nat) (hx : x ≠ s) (hF : dist E s F x < F) : ∃ y l, Adj E y x l ∧ dist E s F y + l ≤ dist E s F x := by
  have hf := dist_feas E s F
  have hd := dist_dom E s F
  generalize dist E s F = D at hf hd hF ⊢
  by_cases c : ∃ y l, Adj E y x l ∧ D y + l ≤ D x
  · exact c
  · exfalso
    have hn : ∀ y l, Adj E y x l → D x < D y + l := fun y l g => Nat.lt_of_not_le (fun q => c ⟨y, l, g, q⟩)
    have h9 := hd (fun z => if z = x then D x + 1 else D z) ⟨?_, fun z => ?_, fun a b l g => ?_⟩ x
    · simp only [if_true] at h9; omega
    · show (if s = x then D x + 1 else D s) = 0
      rw [if_neg (fun e => hx e.symm)]; exact hf.1
    · show (if z = x then D x + 1 else D z) ≤ F
      split
      · exact hF
      · exact hf.2.1 z
    · show (if b = x then D x + 1 else D b) ≤ (if a = x then D x + 1 else D a) + l
      have h1 := hf.2.2 a b l g
      by_cases eb : b = x
      · subst eb
        rw [if_pos rfl]
        by_cases ea : a = b
        · rw [if_pos ea]; omega
        · rw [if_neg ea]; exact hn a l g
      · rw [if_neg eb]
        by_cases ea : a = x
        · subst ea; rw [if_pos rfl]; omega
        · rw [if_neg ea]; exact h1
/-! ranks -/
def rk (D : Nat → Nat) (v : Nat) : Nat := c8 (fun y => decide (D y < v))
theorem rk_lt {D : Nat → Nat} {y v : Nat} (hy : y < 8) (h : D y < v) : rk D (D y) < rk D v := by
  refine cnt_lt (p := fun z => decide (D z < D y)) (q := fun z => decide (D z < v)) (m := y) (by simp) (by simpa using h) _ (fun x _ hx => ?_) (List.mem_range.mpr hy)
  have := of_decide_eq_true hx
  exact decide_eq_true (by omega)
theorem rk_7 {D : Nat → Nat} {x : Nat} (hx : x < 8) : rk D (D x) ≤ 7 := by
  have h : rk D (D x) < c8 (fun _ => true) := cnt_lt (m := x) (by simp) rfl _ (fun _ _ _ => rfl) (List.mem_range.mpr hx)
  have h2 := c8_le8 (fun _ => true)
  omega
theorem dist_small {E : List Edg} (hE : wfE E) {s F : Nat} : ∀ (n x : Nat), x < 8 → dist E s F x = n → n < F → n ≤ 9 * rk (dist E s F) n := by
  intro n
  induction n using Nat.strongRecOn with
  | _ n ih =>
    intro x hx e hF
    by_cases c : x = s
    · rw [c, (dist_feas E s F).1] at e
      omega
    · obtain ⟨y, l, g, h⟩ := dist_tight E s F x c (by omega)
      obtain ⟨hy, _, hl1, hl9⟩ := Adj_wf hE g
      have h1 := ih (dist E s F y) (by omega) y hy rfl (by omega)
      have h2 := rk_lt (D := dist E s F) hy (v := n) (by omega)
      have h3 := (dist_feas E s F).2.2 y x l g
      omega
theorem dist_63 {E : List Edg} (hE : wfE E) {s F x : Nat} (hx : x < 8) (hF : dist E s F x < F) : dist E s F x ≤ 63 := by
  have h1 := dist_small hE (s := s) (F := F) _ x hx rfl hF
  have h2 := rk_7 (D := dist E s F) hx
  omega
theorem dist_conn {E : List Edg} (hE : wfE E) {s F x : Nat} (hs : s < 8) (hx : x < 8) (hF : 72 < F) : dist E s F x < F ↔ Conn (inL E) s x := by
  constructor
  · have key : ∀ (n x : Nat), dist E s F x = n → n < F → Conn (inL E) s x := by
      intro n
      induction n using Nat.strongRecOn with
      | _ n ih =>
        intro x e hn
        by_cases c : x = s
        · rw [c]; exact Conn_rf _ s
        · obtain ⟨y, l, g, h⟩ := dist_tight E s F x c (by omega)
          have hl := (Adj_wf hE g).2.2.1
          exact Conn_tr (ih (dist E s F y) (by omega) y rfl (by omega)) (Adj_cn g)
    exact fun h => key _ x rfl h
  · intro c
    have hf := dist_feas E s F
    refine (c (fun z => dist E s F z < F) (fun e he => ?_)).1 (by show dist E s F s < F; rw [hf.1]; omega)
    have hw := hE e he
    have h1 := hf.2.2 e.1 e.2.1 e.2.2 (Or.inl he)
    have h2 := hf.2.2 e.2.1 e.1 e.2.2 (Or.inr he)
    constructor
    · intro h
      have h3 := dist_63 hE hw.1 h
      show dist E s F e.2.1 < F
      omega
    · intro h
      have h3 := dist_63 hE hw.2.1 h
      show dist E s F e.1 < F
      omega
theorem dist_far {E : List Edg} (hE : wfE E) {s F G x : Nat} (hs : s < 8) (hx : x < 8) (hF : 72 < F) (hG : F ≤ G) : dist E s F x = if dist E s G x = G then F else dist E s G x := by
  have f1 := dist_feas E s F
  have f2 := dist_feas E s G
  have le1 : dist E s F x ≤ dist E s G x := dist_dom E s G _ ⟨f1.1, fun z => Nat.le_trans (f1.2.1 z) hG, f1.2.2⟩ x
  have le2 : (if dist E s G x = G then F else dist E s G x) ≤ dist E s F x := by
    have h9 := dist_dom E s F (fun z => if z < 8 then (if dist E s G z = G then F else dist E s G z) else 0) ⟨?_, fun z => ?_, fun a b l g => ?_⟩ x
    · simp only [if_pos hx] at h9; exact h9
    · simp only [if_pos hs, f2.1]
      rw [if_neg (by omega)]
    · show (if z < 8 then (if dist E s G z = G then F else dist E s G z) else 0) ≤ F
      split
      · rename_i hz
        split
        · exact Nat.le_refl _
        · rename_i h
          have := dist_63 hE hz (Nat.lt_of_le_of_ne (f2.2.1 z) h)
          omega
      · exact Nat.zero_le _
    · obtain ⟨ha, hb, hl1, hl9⟩ := Adj_wf hE g
      show (if b < 8 then (if dist E s G b = G then F else dist E s G b) else 0) ≤ (if a < 8 then (if dist E s G a = G then F else dist E s G a) else 0) + l
      rw [if_pos ha, if_pos hb]
      have h1 := f2.2.2 a b l g
      have h2 := f2.2.2 b a l (Adj_sy g)
      by_cases ca : dist E s G a = G
      · rw [if_pos ca]
        by_cases cb : dist E s G b = G
        · rw [if_pos cb]; omega
        · have := dist_63 hE hb (Nat.lt_of_le_of_ne (f2.2.1 b) cb)
          omega
      · have := dist_63 hE ha (Nat.lt_of_le_of_ne (f2.2.1 a) ca)
        rw [if_neg ca, if_neg (by omega)]
        exact h1
  have le3 := f1.2.1 x
  split
  · rename_i c
    rw [if_pos c] at le2
    omega
  · rename_i c
    rw [if_neg c] at le2
    omega
