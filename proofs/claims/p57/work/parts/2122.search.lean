theorem fill_at (F : Nat → Int32) (x : Int32) : ∀ y, y < 8 → f_J7_fill_53178 F x y = x := by
  unfold f_J7_fill_53178 f_J7_fill_53178_l5
  rw [lpF_it (step := f_J7_fill_53178_l5s x) (ex := f_J7_fill_53178_l5e x) (fun k s => upd s k x) 8 (fun k s hk => rfl) _ _ _ (Nat.zero_add _)]
  have key : ∀ n, n ≤ 8 → ∀ y, y < n → itF (fun k s => upd s k x) n 0 F y = x := by
    intro n
    induction n with
    | zero => intro _ y hy; exact absurd hy (Nat.not_lt_zero y)
    | succ n ih =>
      intro hn y hy
      rw [itF_snoc, Nat.zero_add]
      by_cases c : y = n
      · subst c; exact pk_us
      · exact (pk_un c).trans (ih (by omega) y (by omega))
  exact key 8 (Nat.le_refl _)
theorem start_AR {F : Nat → Int32} {s : Nat} (hs : s < 8) : AR 1000 (upd (f_J7_fill_53178 F 1000) s 0) (d0 s 1000) := by
  refine ⟨fun x hx => ?_, fun x => by unfold d0; split <;> omega⟩
  unfold d0
  by_cases c : x = s
  · subst c; rw [pk_us, if_pos rfl]; rfl
  · rw [pk_un c, fill_at F 1000 x hx, if_neg c]; rfl
/-- what lies beyond the islands stays far -/
theorem lk_out {G : GS} (h : GI G) {u : Nat} {d : Nat → Nat} {x : Nat} (hx : 8 ≤ x) : (eds G).foldl (lkE u) d x = d x := by
  have key : ∀ (L : List Edg) (d : Nat → Nat), (∀ e, e ∈ L → e ∈ eds G) → L.foldl (lkE u) d x = d x := by
    intro L
    induction L with
    | nil => intro d _; rfl
    | cons e L ih =>
      intro d hL
      have w := wf_eds h.1 e (hL e List.mem_cons_self)
      show L.foldl (lkE u) (lkE u d e) x = d x
      rw [ih _ (fun e he => hL e (List.mem_cons_of_mem _ he))]
      unfold lkE
      split
      · exact rel1_o (by omega)
      · split
        · exact rel1_o (by omega)
        · rfl
  exact key _ d (fun e he => he)
theorem search_ok {G : GS} (h : GI G) (Rr : GR) {s : Nat} (hs : s < 8) : (∀ x, x < 8 → rNear (f_X2_searchNearest Rr G s) x = nI (dist (eds G) s 1000 x)) ∧ rRlx (f_X2_searchNearest Rr G s) = rRlx Rr ∧ rPar (f_X2_searchNearest Rr G s) = rPar Rr := by
  have hE := wf_eds h.1
  unfold f_X2_searchNearest lt_ f_X2_searchNearest_l22
  refine lpF_invN (step := f_X2_searchNearest_l22s G) (ex := f_X2_searchNearest_l22e G) 8 (fun k t => rRlx t.2 = rRlx Rr ∧ rPar t.2 = rPar Rr ∧ ∃ c d, BM t.1 c ∧ AR 1000 (rNear t.2) d ∧ DJ (eds G) s 1000 d c ∧ k ≤ c8 c ∧ ∀ x, 8 ≤ x → d x = 1000) (fun R => (∀ x, x < 8 → rNear R x = nI (dist (eds G) s 1000 x)) ∧ rRlx R = rRlx Rr ∧ rPar R = rPar Rr) ?_ ?_ ?_ 8 0 _ (Nat.zero_add _) ⟨rfl, rfl, fun _ => false, d0 s 1000, BM_0, start_AR hs, DJ_0 _ _ _, Nat.zero_le _, fun x hx => by unfold d0; rw [if_neg (by omega)]⟩
  · rintro k ⟨m, R⟩ r hk ⟨i1, i2, c, d, bm, ar, dj, ck, out⟩ e
    have i1 : rRlx R = rRlx Rr := i1
    have i2 : rPar R = rPar Rr := i2
    have bm : BM m c := bm
    have ar : AR 1000 (rNear R) d := ar
    have e : f_X2_searchNearest_l22b G k m R = Sum.inl r := e
    unfold f_X2_searchNearest_l22b lt_ at e
    rcases open_ok bm ar with ⟨o1, o2⟩ | ⟨u, hu, o1, o2, o3, o4⟩
    · rw [if_pos o1] at e
      cases e
      refine ⟨fun x hx => ?_, i1, i2⟩
      rw [ar.1 x hx, DJ_end hE dj o2 x]
    · rw [o1, if_neg (nI_m1_ne (by omega))] at e
      cases e
  · rintro k ⟨m, R⟩ t' hk ⟨i1, i2, c, d, bm, ar, dj, ck, out⟩ e
    have i1 : rRlx R = rRlx Rr := i1
    have i2 : rPar R = rPar Rr := i2
    have bm : BM m c := bm
    have ar : AR 1000 (rNear R) d := ar
    have e : f_X2_searchNearest_l22b G k m R = Sum.inr t' := e
    unfold f_X2_searchNearest_l22b lt_ at e
    rcases open_ok bm ar with ⟨o1, o2⟩ | ⟨u, hu, o1, o2, o3, o4⟩
    · rw [if_pos o1] at e
      cases e
    · rw [o1, if_neg (nI_m1_ne (by omega)), nI_clamp (by omega)] at e
      cases e
      obtain ⟨l1, l2, l3⟩ := look_ok h hu ar
      have hm : ∀ v, c v = false → d u ≤ d v := fun v hv => by
        by_cases q : v < 8
        · exact o4 v q hv
        · rw [out v (by omega)]
          omega
      have step := DJ_step dj o2 hm
      refine ⟨l1.trans i1, l2.trans i2, _, _, BM_add bm hu, l3, step, ?_, fun x hx => (lk_out h hx).trans (out x hx)⟩
      rw [c8_add hu o2]
      omega
  · rintro ⟨m, R⟩ ⟨i1, i2, c, d, bm, ar, dj, ck, out⟩
    have full := c8_full ck
    refine ⟨fun x hx => ?_, i1, i2⟩
    have ar : AR 1000 (rNear R) d := ar
    show rNear R x = _
    rw [ar.1 x hx, DJ_end hE dj (fun y hy cy => by rw [full y hy] at cy; cases cy) x]
theorem relaxAll_ok {G : GS} (h : GI G) {Rr : GR} {d : Nat → Nat} (a : AR 1000 (rRlx Rr) d) : rNear (f_X2_relaxAll Rr G) = rNear Rr ∧ rPar (f_X2_relaxAll Rr G) = rPar Rr ∧ AR 1000 (rRlx (f_X2_relaxAll Rr G)) (pass (eds G) d) := by
  have hG := GI_safe h
  unfold f_X2_relaxAll f_X2_relaxAll_l2
  rw [lpF_it (step := f_X2_relaxAll_l2s Rr G) (ex := f_X2_relaxAll_l2e Rr G) (fun k s => if f_X1_hasBridge G k = true then upd (upd s (gHi G k) (imin (s (gHi G k)) (s (gLo G k) + gLen G k))) (gLo G k) (imin ((upd s (gHi G k) (imin (s (gHi G k)) (s (gLo G k) + gLen G k))) (gLo G k)) ((upd s (gHi G k) (imin (s (gHi G k)) (s (gLo G k) + gLen G k))) (gHi G k) + gLen G k)) else s) (gS G) (fun k s hk => by
    show f_X2_relaxAll_l2b Rr G k s = _
    unfold f_X2_relaxAll_l2b f_X2_relaxAll_j92
    split <;> rfl) _ _ _ (Nat.zero_add _)]
  refine ⟨rfl, rfl, ?_⟩
  refine AR_pass h.1 (by decide) (stpD := fun d e => relE e d) (fun k s d hk hb a => ?_) (fun k s hk hb => if_neg hb) (gS G) (Nat.le_refl _) _ _ a
  obtain ⟨L, l1, l9, el, el2⟩ := len_nat h.1 hk
  rw [if_pos hb, el]
  have := AR_relE (by decide) a (hG.2.2.1 k) (hG.2.2.2 k) (show L ≤ 9 from l9)
  have e2 : edE G k = (gLo G k, gHi G k, L) := by
    rw [← el2]
    rfl
  rw [e2]
  exact this
theorem relax_ok {G : GS} (h : GI G) (Rr : GR) {s : Nat} (hs : s < 8) : (∀ x, x < 8 → rRlx (f_X2_relaxFrom Rr G s) x = nI (dist (eds G) s 1000 x)) ∧ rNear (f_X2_relaxFrom Rr G s) = rNear Rr ∧ rPar (f_X2_relaxFrom Rr G s) = rPar Rr := by
  unfold f_X2_relaxFrom lt_ f_X2_relaxFrom_l19
  have key : ∀ n k (R : GR) d, AR 1000 (rRlx R) d → AR 1000 (rRlx (lpF (f_X2_relaxFrom_l19s G) (f_X2_relaxFrom_l19e G) n k R)) (passes (eds G) n d) ∧ rNear (lpF (f_X2_relaxFrom_l19s G) (f_X2_relaxFrom_l19e G) n k R) = rNear R ∧ rPar (lpF (f_X2_relaxFrom_l19s G) (f_X2_relaxFrom_l19e G) n k R) = rPar R := by
    intro n
    induction n with
    | zero => intro k R d a; exact ⟨a, rfl, rfl⟩
    | succ n ih =>
      intro k R d a
      obtain ⟨p1, p2, p3⟩ := relaxAll_ok h a
      obtain ⟨q1, q2, q3⟩ := ih (k + 1) _ _ p3
      exact ⟨q1, q2.trans p1, q3.trans p2⟩
  obtain ⟨q1, q2, q3⟩ := key (8 - 1) 1 (mkR (rNear Rr) (upd (f_J7_fill_53178 (rRlx Rr) 1000) s 0) (rPar Rr)) _ (start_AR hs)
  refine ⟨fun x hx => ?_, q2, q3⟩
  rw [q1.1 x hx, bf_ok (wf_eds h.1) (by decide) (Nat.le_refl _) hx]
/-! distances, answered -/
theorem far_eq {G : GS} (h : GI G) {s x : Nat} (hs : s < 8) (hx : x < 8) : (dist (eds G) s 1000 x = 1000 ∧ dist (eds G) s 1000000 x = 1000000) ∨ (dist (eds G) s 1000 x < 1000 ∧ dist (eds G) s 1000000 x = dist (eds G) s 1000 x) := by
  have hE := wf_eds h.1
  have e := dist_far hE (F := 1000) (G := 1000000) hs hx (by decide) (by decide)
  have l1 := (dist_feas (eds G) s 1000).2.1 x
  have l2 := (dist_feas (eds G) s 1000000).2.1 x
  by_cases c : dist (eds G) s 1000000 x = 1000000
  · rw [if_pos c] at e
    exact Or.inl ⟨e, c⟩
  · rw [if_neg c] at e
    have := dist_63 hE hx (show dist (eds G) s 1000000 x < 1000000 by omega)
    exact Or.inr ⟨by omega, e.symm⟩
theorem near_of {G : GS} (h : GI G) {s x : Nat} (hs : s < 8) (hx : x < 8) : f_X7_requireNear (nI (dist (eds G) s 1000 x)) = if 1000000 ≤ nI (dist (eds G) s 1000000 x) then (5, 0) else (0, nI (dist (eds G) s 1000000 x)) := by
  have t : (1000000 : Int32).toInt = 1000000 := rfl
  unfold f_X7_requireNear
  rcases far_eq h hs hx with ⟨a, b⟩ | ⟨a, b⟩
  · rw [a, b, if_pos (show nI 1000 = 1000 from rfl), if_pos (show (1000000 : Int32) ≤ nI 1000000 from Int32.le_refl _)]
  · rw [b, if_neg (fun e => by have := (nI_eq (b := 1000) (by omega) (by decide)).mp e; omega), if_neg (by rw [ile, t, nI_toInt (by omega)]; omega)]
