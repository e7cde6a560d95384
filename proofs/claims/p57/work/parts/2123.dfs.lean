/-! distances answered; what the class reaches -/
theorem thr15_1 : gThr false = thr [1, 5] 1 := by decide +kernel
theorem thr15_5 : hThr true false true true = thr [1, 5] 5 := by decide +kernel
theorem b_distance {G : GS} {f fr : Nat → Int32} (h : GI G) (r : NR G f) (Q : QS) (Rr : GR) (x y : Int32) : EQI [1, 5] ((f_X7_distance Q G Rr x y).1, (f_X7_distance Q G Rr x y).2.1) ((f_X8_distance f fr x y).1, (f_X8_distance f fr x y).2.1) ∧ rPar (f_X7_distance Q G Rr x y).2.2 = rPar Rr := by
  unfold f_X7_distance f_X8_distance f_X8_distanceOf f_X8_distanceOf_j19 f_X8_distanceOf_j20 f_X8_distanceOf_j51 f_X8_distanceOf_j69 f_X7_requireIsland lt_
  dsimp only
  rw [island_c, island_c]
  rcases is_case x with e | ⟨s, hs, rfl, e1, e⟩
  · rw [e, if_neg (by decide), if_neg (by decide), if_neg (by decide), if_neg (by decide)]
    exact ⟨EQI_x (c := 1) (by decide) (by decide) thr15_1, rfl⟩
  · rw [e, e1, if_pos rfl, if_pos rfl, if_pos rfl]
    rcases is_case y with g | ⟨z, hz, rfl, g1, g⟩
    · rw [g, if_neg (by decide), if_neg (by decide), if_neg (by decide), if_neg (by decide)]
      exact ⟨EQI_x (c := 1) (by decide) (by decide) thr15_1, rfl⟩
    · rw [g, g1, if_pos rfl, if_pos rfl, if_pos rfl, if_pos rfl]
      obtain ⟨n1, n2, n3⟩ := search_ok h Rr hs
      rw [n1 z hz, near_of h hs hz, meas_at h r hs z hz]
      by_cases c : 1000000 ≤ nI (dist (eds G) s 1000000 z)
      · rw [if_pos c, if_pos c, if_neg (by decide), if_neg (by decide)]
        exact ⟨EQI_x (c := 5) (by decide) (by decide) thr15_5, n3⟩
      · rw [if_neg c, if_neg c, if_pos rfl, if_pos (show hOk true true true true = true from rfl)]
        exact ⟨EQI_0 rfl, n3⟩
theorem b_distanceByRelaxation {G : GS} {f fr : Nat → Int32} (h : GI G) (r : NR G f) (Q : QS) (Rr : GR) (x y : Int32) : EQI [1, 5] ((f_X7_distanceByRelaxation Q G Rr x y).1, (f_X7_distanceByRelaxation Q G Rr x y).2.1) ((f_X8_distanceByRelaxation f fr x y).1, (f_X8_distanceByRelaxation f fr x y).2.1) ∧ rPar (f_X7_distanceByRelaxation Q G Rr x y).2.2 = rPar Rr := by
  unfold f_X7_distanceByRelaxation f_X8_distanceByRelaxation f_X8_distanceOf f_X8_distanceOf_j19 f_X8_distanceOf_j20 f_X8_distanceOf_j51 f_X8_distanceOf_j69 f_X7_requireIsland lt_
  dsimp only
  rw [island_c, island_c]
  rcases is_case x with e | ⟨s, hs, rfl, e1, e⟩
  · rw [e, if_neg (by decide), if_neg (by decide), if_neg (by decide), if_neg (by decide)]
    exact ⟨EQI_x (c := 1) (by decide) (by decide) thr15_1, rfl⟩
  · rw [e, e1, if_pos rfl, if_pos rfl, if_pos rfl]
    rcases is_case y with g | ⟨z, hz, rfl, g1, g⟩
    · rw [g, if_neg (by decide), if_neg (by decide), if_neg (by decide), if_neg (by decide)]
      exact ⟨EQI_x (c := 1) (by decide) (by decide) thr15_1, rfl⟩
    · rw [g, g1, if_pos rfl, if_pos rfl, if_pos rfl, if_pos rfl]
      obtain ⟨n1, n2, n3⟩ := relax_ok h Rr hs
      rw [n1 z hz, near_of h hs hz, meas_at h r hs z hz]
      by_cases c : 1000000 ≤ nI (dist (eds G) s 1000000 z)
      · rw [if_pos c, if_pos c, if_neg (by decide), if_neg (by decide)]
        exact ⟨EQI_x (c := 5) (by decide) (by decide) thr15_5, n3⟩
      · rw [if_neg c, if_neg c, if_pos rfl, if_pos (show hOk true true true true = true from rfl)]
        exact ⟨EQI_0 rfl, n3⟩
/-! the search that goes deep -/
def visL (G : GS) (v : Int32 → Int32 → Int32) (i m : Int32) : Int32 := itF (fun k m => if f_X1_bridgedFrom G i k = -1 then m else if f_X2_contains m (f_X1_bridgedFrom G i k) = true then m else v (f_X1_bridgedFrom G i k) m) (gS G) 0 (m ||| (1 <<< (i &&& 31)))
theorem vis1 (G : GS) (i m : Int32) : f_X2_visit1 G i m = m ||| (1 <<< (i &&& 31)) := by
  unfold f_X2_visit1 f_X2_visit1_l9
  rw [lpF_it (step := f_X2_visit1_l9s G i) (ex := f_X2_visit1_l9e G i) (fun k m => m) (gS G) (fun k s hk => by
    show f_X2_visit1_l9b G i k s = _
    unfold f_X2_visit1_l9b f_X2_visit1_j50
    split <;> rfl) _ _ _ (Nat.zero_add _), itF_id _ _ _ (fun j s _ _ => rfl)]
  rfl
theorem vis2 (G : GS) (i m : Int32) : f_X2_visit2 G i m = visL G (f_X2_visit1 G) i m := by
  unfold f_X2_visit2 f_X2_visit2_l9 visL
  rw [lpF_it (step := f_X2_visit2_l9s G i) (ex := f_X2_visit2_l9e G i) (fun k m => if f_X1_bridgedFrom G i k = -1 then m else if f_X2_contains m (f_X1_bridgedFrom G i k) = true then m else f_X2_visit1 G (f_X1_bridgedFrom G i k) m) (gS G) (fun k s hk => by
    show f_X2_visit2_l9b G i k s = _
    unfold f_X2_visit2_l9b f_X2_visit2_j50
    split
    · rfl
    · split <;> rfl) _ _ _ (Nat.zero_add _)]
  rfl
theorem vis3 (G : GS) (i m : Int32) : f_X2_visit3 G i m = visL G (f_X2_visit2 G) i m := by
  unfold f_X2_visit3 f_X2_visit3_l9 visL
  rw [lpF_it (step := f_X2_visit3_l9s G i) (ex := f_X2_visit3_l9e G i) (fun k m => if f_X1_bridgedFrom G i k = -1 then m else if f_X2_contains m (f_X1_bridgedFrom G i k) = true then m else f_X2_visit2 G (f_X1_bridgedFrom G i k) m) (gS G) (fun k s hk => by
    show f_X2_visit3_l9b G i k s = _
    unfold f_X2_visit3_l9b f_X2_visit3_j50
    split
    · rfl
    · split <;> rfl) _ _ _ (Nat.zero_add _)]
  rfl
theorem vis4 (G : GS) (i m : Int32) : f_X2_visit4 G i m = visL G (f_X2_visit3 G) i m := by
  unfold f_X2_visit4 f_X2_visit4_l9 visL
  rw [lpF_it (step := f_X2_visit4_l9s G i) (ex := f_X2_visit4_l9e G i) (fun k m => if f_X1_bridgedFrom G i k = -1 then m else if f_X2_contains m (f_X1_bridgedFrom G i k) = true then m else f_X2_visit3 G (f_X1_bridgedFrom G i k) m) (gS G) (fun k s hk => by
    show f_X2_visit4_l9b G i k s = _
    unfold f_X2_visit4_l9b f_X2_visit4_j50
    split
    · rfl
    · split <;> rfl) _ _ _ (Nat.zero_add _)]
  rfl
theorem vis5 (G : GS) (i m : Int32) : f_X2_visit5 G i m = visL G (f_X2_visit4 G) i m := by
  unfold f_X2_visit5 f_X2_visit5_l9 visL
  rw [lpF_it (step := f_X2_visit5_l9s G i) (ex := f_X2_visit5_l9e G i) (fun k m => if f_X1_bridgedFrom G i k = -1 then m else if f_X2_contains m (f_X1_bridgedFrom G i k) = true then m else f_X2_visit4 G (f_X1_bridgedFrom G i k) m) (gS G) (fun k s hk => by
    show f_X2_visit5_l9b G i k s = _
    unfold f_X2_visit5_l9b f_X2_visit5_j50
    split
    · rfl
    · split <;> rfl) _ _ _ (Nat.zero_add _)]
  rfl
theorem vis6 (G : GS) (i m : Int32) : f_X2_visit6 G i m = visL G (f_X2_visit5 G) i m := by
  unfold f_X2_visit6 f_X2_visit6_l9 visL
  rw [lpF_it (step := f_X2_visit6_l9s G i) (ex := f_X2_visit6_l9e G i) (fun k m => if f_X1_bridgedFrom G i k = -1 then m else if f_X2_contains m (f_X1_bridgedFrom G i k) = true then m else f_X2_visit5 G (f_X1_bridgedFrom G i k) m) (gS G) (fun k s hk => by
    show f_X2_visit6_l9b G i k s = _
    unfold f_X2_visit6_l9b f_X2_visit6_j50
    split
    · rfl
    · split <;> rfl) _ _ _ (Nat.zero_add _)]
  rfl
theorem vis7 (G : GS) (i m : Int32) : f_X2_visit7 G i m = visL G (f_X2_visit6 G) i m := by
  unfold f_X2_visit7 f_X2_visit7_l9 visL
  rw [lpF_it (step := f_X2_visit7_l9s G i) (ex := f_X2_visit7_l9e G i) (fun k m => if f_X1_bridgedFrom G i k = -1 then m else if f_X2_contains m (f_X1_bridgedFrom G i k) = true then m else f_X2_visit6 G (f_X1_bridgedFrom G i k) m) (gS G) (fun k s hk => by
    show f_X2_visit7_l9b G i k s = _
    unfold f_X2_visit7_l9b f_X2_visit7_j50
    split
    · rfl
    · split <;> rfl) _ _ _ (Nat.zero_add _)]
  rfl
theorem vis8 (G : GS) (i m : Int32) : f_X2_visit8 G i m = visL G (f_X2_visit7 G) i m := by
  unfold f_X2_visit8 f_X2_visit8_l9 visL
  rw [lpF_it (step := f_X2_visit8_l9s G i) (ex := f_X2_visit8_l9e G i) (fun k m => if f_X1_bridgedFrom G i k = -1 then m else if f_X2_contains m (f_X1_bridgedFrom G i k) = true then m else f_X2_visit7 G (f_X1_bridgedFrom G i k) m) (gS G) (fun k s hk => by
    show f_X2_visit8_l9b G i k s = _
    unfold f_X2_visit8_l9b f_X2_visit8_j50
    split
    · rfl
    · split <;> rfl) _ _ _ (Nat.zero_add _)]
  rfl
/-- what a deep search marks -/
def VS (E : List Edg) (n : Nat) (v : Int32 → Int32 → Int32) : Prop := ∀ i m c, i < 8 → BM m c → c i = false → 8 ≤ c8 c + n → ∃ c', BM (v (nI i) m) c' ∧ (∀ x, c x = true → c' x = true) ∧ c' i = true ∧ (∀ x, x < 8 → c' x = true → c x = true ∨ Conn (inL E) i x) ∧ ∀ a b l, Adj E a b l → c' a = true → c a = false → c' b = true
theorem c8_mono {p q : Nat → Bool} (h : ∀ x, p x = true → q x = true) : c8 p ≤ c8 q := cnt_le _ (fun x _ hx => h x hx)
theorem VS_1 {G : GS} (h : GI G) : VS (eds G) 1 (f_X2_visit1 G) := by
  intro i m c hi bm ci hc
  have bm2 := BM_add bm hi
  have full := c8_full (p := fun x => c x || x == i) (by rw [c8_add hi ci]; exact hc)
  refine ⟨fun x => c x || x == i, by rw [vis1]; exact bm2, fun x hx => by simp [hx], by simp, fun x hx hxc => ?_, fun a b l ad _ _ => full b (Adj_wf (wf_eds h.1) ad).2.1⟩
  rcases Bool.or_eq_true_iff.mp hxc with q | q
  · exact Or.inl q
  · rw [beq_iff_eq.mp q]
    exact Or.inr (Conn_rf _ _)
theorem VS_s {G : GS} (h : GI G) {n : Nat} {v w : Int32 → Int32 → Int32} (hv : VS (eds G) n v) (hw : ∀ i m, w i m = visL G v i m) : VS (eds G) (n + 1) w := by
  intro i m c hi bm ci hc
  have hG := GI_safe h
  have hE := wf_eds h.1
  rw [hw]
  have key : ∀ k, k ≤ gS G → ∃ c', BM (itF (fun k m => if f_X1_bridgedFrom G (nI i) k = -1 then m else if f_X2_contains m (f_X1_bridgedFrom G (nI i) k) = true then m else v (f_X1_bridgedFrom G (nI i) k) m) k 0 (m ||| bt i)) c' ∧ (∀ x, (c x || x == i) = true → c' x = true) ∧ (∀ x, x < 8 → c' x = true → c x = true ∨ Conn (inL (eds G)) i x) ∧ (∀ a b l, Adj (eds G) a b l → c' a = true → c a = false → a ≠ i → c' b = true) ∧ ∀ j, j < k → f_X1_hasBridge G j = true → (gLo G j = i → c' (gHi G j) = true) ∧ (gHi G j = i → c' (gLo G j) = true) := by
    intro k
    induction k with
    | zero =>
      intro _
      refine ⟨fun x => c x || x == i, BM_add bm hi, fun x hx => hx, fun x hx hxc => ?_, fun a b l ad ha ca ne => ?_, fun j hj => absurd hj (Nat.not_lt_zero j)⟩
      · rcases Bool.or_eq_true_iff.mp hxc with q | q
        · exact Or.inl q
        · rw [beq_iff_eq.mp q]
          exact Or.inr (Conn_rf _ _)
      · rcases Bool.or_eq_true_iff.mp ha with q | q
        · rw [ca] at q; cases q
        · exact absurd (beq_iff_eq.mp q) ne
    | succ k ih =>
      intro hk
      obtain ⟨c1, b1, s1, n1, a1, p1⟩ := ih (by omega)
      rw [itF_snoc, Nat.zero_add]
      generalize itF (fun k m => if f_X1_bridgedFrom G (nI i) k = -1 then m else if f_X2_contains m (f_X1_bridgedFrom G (nI i) k) = true then m else v (f_X1_bridgedFrom G (nI i) k) m) k 0 (m ||| bt i) = m1 at b1 ⊢
      have lo8 := hG.2.2.1 k
      have hi8 := hG.2.2.2 k
      have c1i : c1 i = true := s1 i (by simp)
      -- one more site whose other end is o
      have one : ∀ o, o < 8 → Conn (inL (eds G)) i o → f_X1_bridgedFrom G (nI i) k = nI o → (gLo G k = i → o = gHi G k) → (gHi G k = i → gLo G k ≠ i → o = gLo G k) → ∃ c', BM (if f_X1_bridgedFrom G (nI i) k = -1 then m1 else if f_X2_contains m1 (f_X1_bridgedFrom G (nI i) k) = true then m1 else v (f_X1_bridgedFrom G (nI i) k) m1) c' ∧ (∀ x, (c x || x == i) = true → c' x = true) ∧ (∀ x, x < 8 → c' x = true → c x = true ∨ Conn (inL (eds G)) i x) ∧ (∀ a b l, Adj (eds G) a b l → c' a = true → c a = false → a ≠ i → c' b = true) ∧ ∀ j, j < k + 1 → f_X1_hasBridge G j = true → (gLo G j = i → c' (gHi G j) = true) ∧ (gHi G j = i → c' (gLo G j) = true) := by
        intro o ho co eo q1 q2
        rw [eo, if_neg (nI_m1_ne (by omega)), b1 o ho]
        cases g : c1 o
        · rw [if_neg (by decide)]
          have lt : c8 c + 1 ≤ c8 c1 := by
            rw [← c8_add hi ci]
            exact c8_mono s1
          obtain ⟨c2, b2, s2, o2, n2, a2⟩ := hv o m1 c1 ho b1 g (by omega)
          refine ⟨c2, b2, fun x hx => s2 x (s1 x hx), fun x hx hxc => ?_, fun a b l ad ha ca ne => ?_, fun j hj hb => ?_⟩
          · rcases n2 x hx hxc with z | z
            · exact n1 x hx z
            · exact Or.inr (Conn_tr co z)
          · cases z : c1 a
            · exact a2 a b l ad ha z
            · exact s2 b (a1 a b l ad z ca ne)
          · by_cases z : j = k
            · subst z
              refine ⟨fun e => by rw [← q1 e]; exact o2, fun e => ?_⟩
              by_cases y : gLo G j = i
              · rw [y]; exact s2 i c1i
              · rw [← q2 e y]; exact o2
            · obtain ⟨y1, y2⟩ := p1 j (by omega) hb
              exact ⟨fun e => s2 _ (y1 e), fun e => s2 _ (y2 e)⟩
        · rw [if_pos rfl]
          refine ⟨c1, b1, s1, n1, a1, fun j hj hb => ?_⟩
          by_cases z : j = k
          · subst z
            refine ⟨fun e => by rw [← q1 e]; exact g, fun e => ?_⟩
            by_cases y : gLo G j = i
            · rw [y]; exact c1i
            · rw [← q2 e y]; exact g
          · exact p1 j (by omega) hb
      have none : f_X1_bridgedFrom G (nI i) k = -1 → (f_X1_hasBridge G k = true → gLo G k ≠ i ∧ gHi G k ≠ i) → ∃ c', BM (if f_X1_bridgedFrom G (nI i) k = -1 then m1 else if f_X2_contains m1 (f_X1_bridgedFrom G (nI i) k) = true then m1 else v (f_X1_bridgedFrom G (nI i) k) m1) c' ∧ (∀ x, (c x || x == i) = true → c' x = true) ∧ (∀ x, x < 8 → c' x = true → c x = true ∨ Conn (inL (eds G)) i x) ∧ (∀ a b l, Adj (eds G) a b l → c' a = true → c a = false → a ≠ i → c' b = true) ∧ ∀ j, j < k + 1 → f_X1_hasBridge G j = true → (gLo G j = i → c' (gHi G j) = true) ∧ (gHi G j = i → c' (gLo G j) = true) := by
        intro eo nb
        rw [if_pos eo]
        refine ⟨c1, b1, s1, n1, a1, fun j hj hb => ?_⟩
        by_cases z : j = k
        · subst z
          obtain ⟨y1, y2⟩ := nb hb
          exact ⟨fun e => absurd e y1, fun e => absurd e y2⟩
        · exact p1 j (by omega) hb
      have bc := bridged_c hG (k := k) hi
      by_cases hb : f_X1_hasBridge G k = true
      · have ed : edE G k ∈ eds G := eds_mem (by omega) hb
        have cn : Conn (inL (eds G)) (gLo G k) (gHi G k) := Conn_ed (E := inL (eds G)) ed
        rw [if_pos hb] at bc
        by_cases el : gLo G k = i
        · rw [if_pos el] at bc
          exact one (gHi G k) hi8 (by rw [← el]; exact cn) bc (fun _ => rfl) (fun _ ne => absurd el ne)
        · rw [if_neg el] at bc
          by_cases eh : gHi G k = i
          · rw [if_pos eh] at bc
            exact one (gLo G k) lo8 (by rw [← eh]; exact Conn_sy cn) bc (fun e => absurd e el) (fun _ _ => rfl)
          · rw [if_neg eh] at bc
            exact none bc (fun _ => ⟨el, eh⟩)
      · rw [if_neg hb] at bc
        exact none bc (fun z => absurd z hb)
  obtain ⟨c', b1, s1, n1, a1, p1⟩ := key (gS G) (Nat.le_refl _)
  refine ⟨c', b1, fun x hx => s1 x (by simp [hx]), s1 i (by simp), n1, fun a b l ad ha ca => ?_⟩
  by_cases z : a = i
  · subst z
    rcases ad with q | q
    · obtain ⟨k, hk, hb, ee⟩ := mem_eds q
      have e1 : a = gLo G k := congrArg (fun e : Edg => e.1) ee
      have e2 : b = gHi G k := congrArg (fun e : Edg => e.2.1) ee
      rw [e2]
      exact (p1 k hk hb).1 e1.symm
    · obtain ⟨k, hk, hb, ee⟩ := mem_eds q
      have e1 : b = gLo G k := congrArg (fun e : Edg => e.1) ee
      have e2 : a = gHi G k := congrArg (fun e : Edg => e.2.1) ee
      rw [e1]
      exact (p1 k hk hb).2 e2.symm
  · exact a1 a b l ad ha ca z
theorem VS_8 {G : GS} (h : GI G) : VS (eds G) 8 (f_X2_visit8 G) := VS_s h (VS_s h (VS_s h (VS_s h (VS_s h (VS_s h (VS_s h (VS_1 h) (vis2 G)) (vis3 G)) (vis4 G)) (vis5 G)) (vis6 G)) (vis7 G)) (vis8 G)
