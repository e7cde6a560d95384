/-! leaving out the longest that can be left out: the same length -/
def kL (G : GS) (b : Nat → Bool) : Nat → List Edg
  | 0 => []
  | n + 1 => if b n = true then kL G b n ++ [edE G n] else kL G b n
theorem kL_cg {G : GS} {b c : Nat → Bool} : ∀ n, (∀ k, k < n → b k = c k) → kL G b n = kL G c n := by
  intro n
  induction n with
  | zero => intro _; rfl
  | succ n ih =>
    intro h
    show (if b n = true then kL G b n ++ [edE G n] else kL G b n) = (if c n = true then kL G c n ++ [edE G n] else kL G c n)
    rw [ih (fun k hk => h k (by omega)), h n (by omega)]
theorem kL_mem {G : GS} {b : Nat → Bool} {e : Edg} : ∀ n, e ∈ kL G b n ↔ bN G b n e := by
  intro n
  induction n with
  | zero => exact ⟨fun h => absurd h List.not_mem_nil, fun ⟨k, hk, _⟩ => absurd hk (Nat.not_lt_zero k)⟩
  | succ n ih =>
    show e ∈ (if b n = true then kL G b n ++ [edE G n] else kL G b n) ↔ _
    by_cases c : b n = true
    · rw [if_pos c, List.mem_append, ih, List.mem_singleton]
      constructor
      · rintro (⟨k, h1, h2⟩ | h)
        · exact ⟨k, by omega, h2⟩
        · exact ⟨n, by omega, c, h⟩
      · rintro ⟨k, h1, h2, h3⟩
        by_cases q : k = n
        · subst q; exact Or.inr h3
        · exact Or.inl ⟨k, by omega, h2, h3⟩
    · rw [if_neg c, ih]
      constructor
      · rintro ⟨k, h1, h2⟩
        exact ⟨k, by omega, h2⟩
      · rintro ⟨k, h1, h2, h3⟩
        by_cases q : k = n
        · subst q; exact absurd h2 c
        · exact ⟨k, by omega, h2, h3⟩
theorem updB_s (b : Nat → Bool) (k : Nat) (x : Bool) : updB b k x k = x := if_pos rfl
theorem updB_n {b : Nat → Bool} {k j : Nat} {x : Bool} (h : j ≠ k) : updB b k x j = b j := if_neg h
theorem kL_del {G : GS} {b : Nat → Bool} {k : Nat} (hb : b k = true) : ∀ n, k < n → sumL (kL G b n) = sumL (kL G (updB b k false) n) + (edE G k).2.2 := by
  intro n
  induction n with
  | zero => intro h; omega
  | succ n ih =>
    intro h
    show sumL (if b n = true then kL G b n ++ [edE G n] else kL G b n) = sumL (if updB b k false n = true then kL G (updB b k false) n ++ [edE G n] else kL G (updB b k false) n) + _
    by_cases q : k = n
    · subst q
      rw [if_pos hb, updB_s, if_neg (by decide), sumL_app, kL_cg k (fun j hj => (updB_n (x := false) (by omega : j ≠ k)).symm)]
    · have i := ih (by omega)
      rw [updB_n (by omega : n ≠ k)]
      by_cases c : b n = true
      · rw [if_pos c, if_pos c, sumL_app, sumL_app, i]
        omega
      · rw [if_neg c, if_neg c, i]
theorem edE_inj {G : GS} (d : DS G) {j k : Nat} (hj : j < gS G) (hk : k < gS G) (e : edE G j = edE G k) : j = k := (d j hj).2 k hk (congrArg (fun e => e.1) e) (congrArg (fun e => e.2.1) e)
/-- what stays where no edge is needless -/
def Need (G : GS) (b : Nat → Bool) (j : Nat) : Prop := ¬ Conn (fun x => bE G b x ∧ x ≠ edE G j) (gLo G j) (gHi G j)
theorem forest_cnt {G : GS} (h : GI0 G) (d : DS G) {b : Nat → Bool} (hf : ∀ k, k < gS G → b k = true → Need G b k) (t : Nat) : ∀ n, n ≤ gS G → cntT (kL G b n) t + cl (Conn (pl (bN G b n) t)) = 8 := by
  intro n
  induction n with
  | zero =>
    intro _
    have e : Conn (pl (bN G b 0) t) = Conn (fun _ => False) := Conn_cg (fun e => ⟨fun ⟨⟨k, hk, _⟩, _⟩ => absurd hk (Nat.not_lt_zero k), fun z => z.elim⟩)
    rw [e, cl_no]
    rfl
  | succ n ih =>
    intro hn
    have i := ih (by omega)
    show cntT (if b n = true then kL G b n ++ [edE G n] else kL G b n) t + _ = 8
    have sp : ∀ e, bN G b (n + 1) e ↔ bN G b n e ∨ (b n = true ∧ e = edE G n) := fun e => by
      constructor
      · rintro ⟨k, h1, h2, h3⟩
        by_cases q : k = n
        · subst q; exact Or.inr ⟨h2, h3⟩
        · exact Or.inl ⟨k, by omega, h2, h3⟩
      · rintro (⟨k, h1, h2⟩ | ⟨h1, h2⟩)
        · exact ⟨k, by omega, h2⟩
        · exact ⟨n, by omega, h1, h2⟩
    by_cases c : b n = true
    · rw [if_pos c, cntT_app]
      by_cases w : (edE G n).2.2 ≤ t
      · rw [if_pos w]
        have e : Conn (pl (bN G b (n + 1)) t) = Conn (eAdd (pl (bN G b n) t) (edE G n)) := Conn_cg (fun e => by
          constructor
          · rintro ⟨h1, h2⟩
            rcases (sp e).mp h1 with g | g
            · exact Or.inl ⟨g, h2⟩
            · exact Or.inr g.2
          · rintro (⟨h1, h2⟩ | h1)
            · exact ⟨(sp e).mpr (Or.inl h1), h2⟩
            · exact ⟨(sp e).mpr (Or.inr ⟨c, h1⟩), by rw [h1]; exact w⟩)
        have nc : ¬ Conn (pl (bN G b n) t) (edE G n).1 (edE G n).2.1 := fun g => hf n (by omega) c (Conn_mo g (fun e he => Conn_ed (by
          obtain ⟨⟨k, h1, h2, h3⟩, _⟩ := he
          refine ⟨⟨k, by omega, h2, h3⟩, fun q => ?_⟩
          have := edE_inj d (by omega) (by omega) (h3.symm.trans q)
          omega)))
        have ca := cl_add (E := pl (bN G b n) t) (e0 := edE G n) (h.1.2.2.1 n) (h.1.2.2.2 n) nc
        rw [e]
        omega
      · rw [if_neg w]
        have e : Conn (pl (bN G b (n + 1)) t) = Conn (pl (bN G b n) t) := Conn_cg (fun e => by
          constructor
          · rintro ⟨h1, h2⟩
            rcases (sp e).mp h1 with g | g
            · exact ⟨g, h2⟩
            · rw [g.2] at h2; exact absurd h2 w
          · rintro ⟨h1, h2⟩
            exact ⟨(sp e).mpr (Or.inl h1), h2⟩)
        rw [e]
        omega
    · rw [if_neg c]
      have e : Conn (pl (bN G b (n + 1)) t) = Conn (pl (bN G b n) t) := Conn_cg (fun e => by
        constructor
        · rintro ⟨h1, h2⟩
          rcases (sp e).mp h1 with g | g
          · exact ⟨g, h2⟩
          · exact absurd g.1 c
        · rintro ⟨h1, h2⟩
          exact ⟨(sp e).mpr (Or.inl h1), h2⟩)
      rw [e]
      exact i
theorem strip {e0 : Edg} : ∀ (Ls : List Edg) (E : Edg → Prop), (∀ x, E x → x ∉ Ls) → e0 ∉ Ls → (∀ f, f ∈ Ls → ¬ Conn (fun x => (E x ∨ x = e0 ∨ x ∈ Ls) ∧ x ≠ f) f.1 f.2.1) → Conn (fun x => E x ∨ x ∈ Ls) e0.1 e0.2.1 → Conn E e0.1 e0.2.1 := by
  intro Ls
  induction Ls with
  | nil =>
    intro E _ _ _ c
    exact Conn_mo c (fun e he => Conn_ed (he.resolve_right List.not_mem_nil))
  | cons f T ih =>
    intro E hE h0 hf c
    by_cases q : f ∈ T
    · refine ih E (fun x hx hT => hE x hx (List.mem_cons_of_mem _ hT)) (fun hT => h0 (List.mem_cons_of_mem _ hT)) (fun g hg z => hf g (List.mem_cons_of_mem _ hg) (Conn_mo z (fun e he => Conn_ed ?_))) (Conn_mo c (fun e he => Conn_ed ?_))
      · exact ⟨he.1.elim Or.inl (fun he => Or.inr (he.elim Or.inl (fun he => Or.inr (List.mem_cons_of_mem _ he)))), he.2⟩
      · rcases he with he | he
        · exact Or.inl he
        · rcases List.mem_cons.mp he with he | he
          · rw [he]; exact Or.inr q
          · exact Or.inr he
    · have k := ih (eAdd E f) (fun x hx hT => by
          rcases hx with hx | hx
          · exact hE x hx (List.mem_cons_of_mem _ hT)
          · rw [hx] at hT; exact q hT) (fun hT => h0 (List.mem_cons_of_mem _ hT)) (fun g hg z => hf g (List.mem_cons_of_mem _ hg) (Conn_mo z (fun e he => Conn_ed (by
            refine ⟨?_, he.2⟩
            rcases he.1 with (h1 | h1) | h1 | h1
            · exact Or.inl h1
            · rw [h1]; exact Or.inr (Or.inr List.mem_cons_self)
            · exact Or.inr (Or.inl h1)
            · exact Or.inr (Or.inr (List.mem_cons_of_mem _ h1)))))) (Conn_mo c (fun e he => Conn_ed (by
            rcases he with he | he
            · exact Or.inl (Or.inl he)
            · rcases List.mem_cons.mp he with he | he
              · exact Or.inl (Or.inr he)
              · exact Or.inr he)))
      have up : ∀ {u v : Nat}, Conn E u v → Conn (fun x => (E x ∨ x = e0 ∨ x ∈ f :: T) ∧ x ≠ f) u v := fun g => Conn_mo g (fun e he => Conn_ed ⟨Or.inl he, fun z => hE e he (by rw [z]; exact List.mem_cons_self)⟩)
      have m0 : Conn (fun x => (E x ∨ x = e0 ∨ x ∈ f :: T) ∧ x ≠ f) e0.1 e0.2.1 := Conn_ed (e := e0) ⟨Or.inr (Or.inl rfl), fun z => h0 (by rw [z]; exact List.mem_cons_self)⟩
      rcases Conn_add.mp k with g | ⟨g1, g2⟩ | ⟨g1, g2⟩
      · exact g
      · exact absurd (Conn_tr (Conn_sy (up g1)) (Conn_tr m0 (Conn_sy (up g2)))) (hf f List.mem_cons_self)
      · exact absurd (Conn_tr (up g2) (Conn_tr (Conn_sy m0) (up g1))) (hf f List.mem_cons_self)
def RD (G : GS) (L k : Nat) (b : Nat → Bool) (v : Int32) : Prop := (∀ j, b j = true → j < gS G ∧ f_X1_hasBridge G j = true) ∧ (∀ t, Conn (pl (bE G b) t) = Conn (pl (inL (eds G)) t)) ∧ (∀ j, b j = true → (L < (edE G j).2.2 ∨ ((edE G j).2.2 = L ∧ j < k)) → Need G b j) ∧ v = nI (sumL (kL G b (gS G)))
theorem rd_step {K : CT} (h : GI0 (kG K)) (d : DS (kG K)) {L k k60 : Nat} (hL : L = 9 - k60) (h6 : k60 < 9) (hk : k < gS (kG K)) {b : Nat → Bool} {v : Int32} (i : RD (kG K) L k b v) : ∃ b' v', f_L_isForestRight_l68b K k60 k v b = .inr (v', b') ∧ RD (kG K) L (k + 1) b' v' := by
  obtain ⟨i1, i2, i3, i4⟩ := i
  obtain ⟨L', l1, l9, el, el2⟩ := len_nat h hk
  have hlo : gLo (kG K) k < 8 := h.1.2.2.1 k
  have hhi : gHi (kG K) k < 8 := h.1.2.2.2 k
  have eq : gLen (kG K) k = nI (9 - k60) ↔ (edE (kG K) k).2.2 = L := by
    rw [el, el2, hL]
    exact nI_eq (by omega) (by omega)
  have stay : (b k = true → (edE (kG K) k).2.2 ≠ L) → RD (kG K) L (k + 1) b v := fun hn => ⟨i1, i2, fun j bj o => i3 j bj (o.imp id (fun o => ⟨o.1, by
    have : j ≠ k := fun q => by subst q; exact hn bj o.1
    omega⟩)), i4⟩
  unfold f_L_isForestRight_l68b f_L_isForestRight_j129 f_L_isForestRight_j142 f_L_isForestRight_j144
  by_cases c : b k = true
  · rw [if_pos c]
    by_cases w : gLen (kG K) k = nI (9 - k60)
    · rw [if_pos w]
      have wL := eq.mp w
      have jc := joined_c h (updB b k false) hlo hhi
      have set0 : ∀ e, bE (kG K) (updB b k false) e ↔ bE (kG K) b e ∧ e ≠ edE (kG K) k := fun e => by
        constructor
        · rintro ⟨j, h1, h2, h3⟩
          have hj : j ≠ k := fun q => by subst q; rw [updB_s] at h2; cases h2
          rw [updB_n hj] at h2
          exact ⟨⟨j, h1, h2, h3⟩, fun q => hj (edE_inj d h1 hk (h3.symm.trans q))⟩
        · rintro ⟨⟨j, h1, h2, h3⟩, h4⟩
          have hj : j ≠ k := fun q => by subst q; exact h4 h3
          exact ⟨j, h1, by rw [updB_n hj]; exact h2, h3⟩
      by_cases n : f_L_isJoined K (updB b k false) (gLo (kG K) k) (gHi (kG K) k) = true
      · -- it is left out
        rw [if_pos n, if_pos n]
        have e0 : updB (updB b k false) k false = updB b k false := by
          funext j
          by_cases q : j = k
          · subst q; rw [updB_s, updB_s]
          · rw [updB_n q]
        rw [e0]
        refine ⟨_, _, rfl, fun j bj => ?_, fun t => ?_, fun j bj o => ?_, ?_⟩
        · have hj : j ≠ k := fun q => by subst q; rw [updB_s] at bj; cases bj
          rw [updB_n hj] at bj
          exact i1 j bj
        · -- by shorter ones
          have cl : Conn (pl (bE (kG K) (updB b k false)) L) (edE (kG K) k).1 (edE (kG K) k).2.1 := by
            refine strip ((kL (kG K) b (gS (kG K))).filter (fun e => decide (L < e.2.2))) _ (fun x hx hm => ?_) (fun hm => ?_) (fun f hf z => ?_) (Conn_mo (jc.mp n) (fun e he => Conn_ed ?_))
            · have := of_decide_eq_true (List.mem_filter.mp hm).2
              have := hx.2
              omega
            · have := of_decide_eq_true (List.mem_filter.mp hm).2
              omega
            · obtain ⟨f1, f2⟩ := List.mem_filter.mp hf
              have f2 := of_decide_eq_true f2
              obtain ⟨j, h1, h2, h3⟩ := (kL_mem _).mp f1
              subst h3
              refine i3 j h2 (Or.inl f2) (Conn_mo z (fun e he => Conn_ed ⟨?_, he.2⟩))
              rcases he.1 with g | g | g
              · exact ((set0 e).mp g.1).1
              · exact ⟨k, hk, c, g⟩
              · exact (kL_mem _).mp (List.mem_filter.mp g).1
            · by_cases q : e.2.2 ≤ L
              · exact Or.inl ⟨he, q⟩
              · exact Or.inr (List.mem_filter.mpr ⟨(kL_mem _).mpr ((set0 e).mp he).1, decide_eq_true (by omega)⟩)
          rw [← i2 t]
          by_cases q : L ≤ t
          · have e1 : Conn (pl (bE (kG K) b) t) = Conn (eAdd (pl (bE (kG K) (updB b k false)) t) (edE (kG K) k)) := Conn_cg (fun e => by
              constructor
              · rintro ⟨g1, g2⟩
                by_cases z : e = edE (kG K) k
                · exact Or.inr z
                · exact Or.inl ⟨(set0 e).mpr ⟨g1, z⟩, g2⟩
              · rintro (⟨g1, g2⟩ | g)
                · exact ⟨((set0 e).mp g1).1, g2⟩
                · rw [g]; exact ⟨⟨k, hk, c, rfl⟩, by omega⟩)
            rw [e1]
            exact (Conn_add0 (Conn_mo cl (fun e he => Conn_ed ⟨he.1, Nat.le_trans he.2 q⟩))).symm
          · exact Conn_cg (fun e => by
              constructor
              · rintro ⟨g1, g2⟩
                exact ⟨((set0 e).mp g1).1, g2⟩
              · rintro ⟨g1, g2⟩
                refine ⟨(set0 e).mpr ⟨g1, fun z => ?_⟩, g2⟩
                rw [z] at g2
                omega)
        · have hj : j ≠ k := fun q => by subst q; rw [updB_s] at bj; cases bj
          rw [updB_n hj] at bj
          refine fun z => i3 j bj (o.imp id (fun o => ⟨o.1, by omega⟩)) (Conn_mo z (fun e he => Conn_ed ⟨((set0 e).mp he.1).1, he.2⟩))
        · have dl := kL_del (G := kG K) c (gS (kG K)) hk
          rw [i4, dl, wL, ← nI_add, hL]
          exact Int32.add_sub_cancel _ _
      · -- it stays
        rw [if_neg n, if_neg n]
        have e0 : updB (updB b k false) k true = b := by
          funext j
          by_cases q : j = k
          · subst q; rw [updB_s, c]
          · rw [updB_n q, updB_n q]
        rw [e0]
        refine ⟨_, _, rfl, i1, i2, fun j bj o => ?_, ?_⟩
        · by_cases q : j = k
          · subst q
            exact fun z => n (jc.mpr (Conn_mo z (fun e he => Conn_ed ((set0 e).mpr he))))
          · exact i3 j bj (o.imp id (fun o => ⟨o.1, by omega⟩))
        · rw [Int32.sub_zero]
          exact i4
    · rw [if_neg w]
      exact ⟨_, _, rfl, stay (fun _ q => w (eq.mpr q))⟩
  · rw [if_neg c]
    exact ⟨_, _, rfl, stay (fun q => absurd q c)⟩
theorem rd_in {K : CT} (h : GI0 (kG K)) (d : DS (kG K)) {k60 : Nat} (h6 : k60 < 9) {b : Nat → Bool} {v : Int32} (i : RD (kG K) (9 - k60) 0 b v) : ∃ b' v', f_L_isForestRight_l68 K k60 (gS (kG K)) 0 v b = .inr (v', b') ∧ RD (kG K) (9 - k60) (gS (kG K)) b' v' := by
  unfold f_L_isForestRight_l68
  refine lpF_invN (gS (kG K)) (fun n (s : Int32 × (Nat → Bool)) => RD (kG K) (9 - k60) n s.2 s.1) (fun (z : Sum Bool (Int32 × (Nat → Bool))) => ∃ b' v', z = .inr (v', b') ∧ RD (kG K) (9 - k60) (gS (kG K)) b' v') ?_ ?_ ?_ _ 0 _ (Nat.zero_add _) i
  · rintro k ⟨v, b⟩ z hk r e
    obtain ⟨b', v', q1, _⟩ := rd_step h d rfl h6 hk r
    have e : f_L_isForestRight_l68b K k60 k v b = .inl z := e
    rw [q1] at e
    cases e
  · rintro k ⟨v, b⟩ t hk r e
    obtain ⟨b', v', q1, q2⟩ := rd_step h d rfl h6 hk r
    have e : f_L_isForestRight_l68b K k60 k v b = .inr t := e
    rw [q1] at e
    have et := (Sum.inr.inj e).symm
    subst et
    exact q2
  · rintro ⟨v, b⟩ r
    exact ⟨b, v, rfl, r⟩
theorem forest_right {K : CT} (hI : GI (kG K)) (d : DS (kG K)) : f_L_isForestRight K = true := by
  have h := hI.1
  unfold f_L_isForestRight f_L_isForestRight_l14
  -- the bridges stand
  refine lpF_invN (gS (kG K)) (fun n (s : Int32 × (Nat → Bool)) => (∀ j, s.2 j = (decide (j < n) && f_X1_hasBridge (kG K) j)) ∧ s.1 = nI (sumL (kL (kG K) (f_X1_hasBridge (kG K)) n))) (fun z => z = true) ?_ ?_ ?_ _ 0 _ (Nat.zero_add _) ⟨fun j => by simp, rfl⟩
  · rintro k ⟨v, b⟩ z hk _ e
    have e : f_L_isForestRight_l14b K k v b = .inl z := e
    unfold f_L_isForestRight_l14b f_L_isForestRight_j48 at e
    split at e <;> cases e
  · rintro k ⟨v, b⟩ t hk ⟨e1, e2⟩ e
    have e1 : ∀ j, b j = (decide (j < k) && f_X1_hasBridge (kG K) j) := e1
    have e2 : v = nI (sumL (kL (kG K) (f_X1_hasBridge (kG K)) k)) := e2
    have e : f_L_isForestRight_l14b K k v b = .inr t := e
    obtain ⟨L, l1, l9, el, el2⟩ := len_nat h hk
    have up : ∀ j, updB b k (f_X1_hasBridge (kG K) k) j = (decide (j < k + 1) && f_X1_hasBridge (kG K) j) := fun j => by
      by_cases q : j = k
      · subst q; rw [updB_s]; simp
      · rw [updB_n q, e1 j]
        congr 1
        exact decide_eq_decide.mpr (by omega)
    unfold f_L_isForestRight_l14b f_L_isForestRight_j48 at e
    rw [updB_s] at e
    by_cases c : f_X1_hasBridge (kG K) k = true
    · rw [if_pos c] at e
      have et := (Sum.inr.inj e).symm
      subst et
      refine ⟨up, ?_⟩
      show v + gLen (kG K) k = nI (sumL (if f_X1_hasBridge (kG K) k = true then kL (kG K) (f_X1_hasBridge (kG K)) k ++ [edE (kG K) k] else kL (kG K) (f_X1_hasBridge (kG K)) k))
      rw [if_pos c, sumL_app, el2, ← nI_add, e2, el]
    · rw [if_neg c] at e
      have et := (Sum.inr.inj e).symm
      subst et
      refine ⟨up, ?_⟩
      show v + 0 = nI (sumL (if f_X1_hasBridge (kG K) k = true then kL (kG K) (f_X1_hasBridge (kG K)) k ++ [edE (kG K) k] else kL (kG K) (f_X1_hasBridge (kG K)) k))
      rw [if_neg c, Int32.add_zero, e2]
  · rintro ⟨v, b⟩ ⟨e1, e2⟩
    have e1 : ∀ j, b j = (decide (j < gS (kG K)) && f_X1_hasBridge (kG K) j) := e1
    have e2 : v = nI (sumL (kL (kG K) (f_X1_hasBridge (kG K)) (gS (kG K)))) := e2
    show f_L_isForestRight_l60 K 9 0 v b = true
    unfold f_L_isForestRight_l60
    have b1 : ∀ j, b j = true → j < gS (kG K) ∧ f_X1_hasBridge (kG K) j = true := fun j bj => by
      rw [e1 j, Bool.and_eq_true, decide_eq_true_iff] at bj
      exact bj
    have r0 : RD (kG K) 9 0 b v := by
      refine ⟨b1, fun t => Conn_cg (fun e => ?_), fun j bj o => ?_, ?_⟩
      · constructor
        · rintro ⟨⟨k, h1, h2, h3⟩, h4⟩
          refine ⟨?_, h4⟩
          rw [h3]
          exact eds_mem h1 (b1 k h2).2
        · rintro ⟨h1, h2⟩
          obtain ⟨k, k1, k2, k3⟩ := mem_eds h1
          refine ⟨⟨k, k1, ?_, k3⟩, h2⟩
          rw [e1 k, k2, decide_eq_true k1]
          rfl
      · obtain ⟨L, l1, l9, _, el2⟩ := len_nat h (b1 j bj).1
        omega
      · rw [e2]
        congr 2
        exact kL_cg _ (fun k hk => by rw [e1 k, decide_eq_true hk, Bool.true_and])
    refine lpF_invN 9 (fun n (s : Int32 × (Nat → Bool)) => RD (kG K) (9 - n) 0 s.2 s.1 ∧ n ≤ 9) (fun z => z = true) ?_ ?_ ?_ 9 0 _ (Nat.zero_add _) ⟨r0, by omega⟩
    · rintro n ⟨v, b⟩ z hn ⟨r1, _⟩ e
      obtain ⟨b', v', q1, _⟩ := rd_in h d hn r1
      have e : f_L_isForestRight_l68 K n (gS (kG K)) 0 v b = .inl z := e
      rw [q1] at e
      cases e
    · rintro n ⟨v, b⟩ t hn ⟨r1, _⟩ e
      obtain ⟨b', v', q1, q2⟩ := rd_in h d hn r1
      have e : f_L_isForestRight_l68 K n (gS (kG K)) 0 v b = .inr t := e
      rw [q1] at e
      have et := (Sum.inr.inj e).symm
      subst et
      refine ⟨?_, by omega⟩
      obtain ⟨p1, p2, p3, p4⟩ := q2
      exact ⟨p1, p2, fun j bj o => p3 j bj (by have := (p1 j bj).1; omega), p4⟩
    · rintro ⟨v, b⟩ ⟨⟨r1, r2, r3, r4⟩, _⟩
      have r4 : v = nI (sumL (kL (kG K) b (gS (kG K)))) := r4
      have nd : ∀ k, k < gS (kG K) → b k = true → Need (kG K) b k := fun k hk bk => r3 k bk (by
        obtain ⟨L, l1, l9, _, el2⟩ := len_nat h hk
        omega)
      have kf : sumL (kL (kG K) b (gS (kG K))) = forestW (eds (kG K)) := KI_end (p := inL (eds (kG K))) ⟨fun t => by
        have q := forest_cnt h d nd t (gS (kG K)) (Nat.le_refl _)
        have r2 : Conn (pl (bN (kG K) b (gS (kG K))) t) = Conn (pl (inL (eds (kG K))) t) := r2 t
        rw [r2] at q
        exact q, fun e he => by
          obtain ⟨k, k1, _, k3⟩ := (kL_mem _).mp he
          obtain ⟨L, l1, l9, _, el2⟩ := len_nat h k1
          rw [k3]
          omega⟩ (fun e => Iff.rfl)
      show f_L_isForestRight_l60x K v b = true
      unfold f_L_isForestRight_l60x f_L_isForestRight_j177
      rw [kf] at r4
      rw [if_pos ((kruskal_c hI R0).trans r4.symm), if_pos ((prim_c hI R0).trans r4.symm)]
