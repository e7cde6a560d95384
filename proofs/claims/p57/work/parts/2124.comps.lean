/-! connected; components, counted by search and by the reference -/
theorem shut_conn {E : List Edg} {c : Nat → Bool} (h : ∀ a b l, Adj E a b l → c a = true → c b = true) {x y : Nat} (g : Conn (inL E) x y) : c x = true → c y = true := by
  refine (g (fun z => c z = true) (fun e he => ?_)).mp
  have he : (e.1, e.2.1, e.2.2) ∈ E := he
  exact ⟨h e.1 e.2.1 e.2.2 (Or.inl he), h e.2.1 e.1 e.2.2 (Or.inr he)⟩
theorem reach_c {G : GS} (h : GI G) {x y : Nat} (hx : x < 8) (hy : y < 8) : f_X2_contains (f_X2_visit8 G (nI x) 0) (nI y) = true ↔ Conn (inL (eds G)) x y := by
  obtain ⟨c, b, s, ci, n, a⟩ := VS_8 h x 0 (fun _ => false) hx BM_0 rfl (by omega)
  rw [b y hy]
  refine ⟨fun hc => (n y hy hc).resolve_left (by decide), fun g => shut_conn (fun p q l ad hp => a p q l ad hp rfl) g ci⟩
theorem far_conn {G : GS} (h : GI G) {x y : Nat} (hx : x < 8) (hy : y < 8) : 1000000 ≤ nI (dist (eds G) x 1000000 y) ↔ ¬ Conn (inL (eds G)) x y := by
  have t : (1000000 : Int32).toInt = 1000000 := rfl
  have d := dist_conn (wf_eds h.1) hx hy (show 72 < 1000000 by decide)
  have l := (dist_feas (eds G) x 1000000).2.1 y
  rw [← d, ile, t, nI_toInt (by omega)]
  omega
theorem b_isConnected {G : GS} {f fr : Nat → Int32} (h : GI G) (r : NR G f) (Q : QS) (Rr : GR) (x y : Int32) : EQB [1] (f_X7_isConnected Q G Rr x y) ((f_X8_isConnected f fr x y).1, (f_X8_isConnected f fr x y).2.1) := by
  unfold f_X7_isConnected f_X8_isConnected f_X8_isConnected_j19 f_X8_isConnected_j20 f_X8_isConnected_j49 f_X7_requireIsland f_X2_reaches lt_
  dsimp only
  have t1 : gThr false = thr [1] 1 := by decide +kernel
  rw [island_c, island_c]
  rcases is_case x with e | ⟨s, hs, rfl, e1, e⟩
  · rw [e, if_neg (by decide), if_neg (by decide), if_neg (by decide), if_neg (by decide)]
    exact EQB_x (c := 1) (by decide) (by decide) t1
  · rw [e, if_pos rfl, if_pos rfl, if_pos rfl]
    rcases is_case y with g | ⟨z, hz, rfl, g1, g⟩
    · rw [g, if_neg (by decide), if_neg (by decide), if_neg (by decide), if_neg (by decide)]
      exact EQB_x (c := 1) (by decide) (by decide) t1
    · rw [g, g1, if_pos rfl, if_pos rfl, if_pos rfl, if_pos rfl]
      rw [meas_at h r hs z hz]
      by_cases c : 1000000 ≤ nI (dist (eds G) s 1000000 z)
      · rw [if_pos c]
        refine EQB_0 ?_
        have := (far_conn h hs hz).mp c
        cases q : f_X2_contains (f_X2_visit8 G (nI s) 0) (nI z)
        · rfl
        · exact absurd ((reach_c h hs hz).mp q) this
      · rw [if_neg c]
        refine EQB_0 ?_
        refine ((reach_c h hs hz).mpr ?_).symm
        exact Classical.not_not.mp (fun w => c ((far_conn h hs hz).mpr w))
theorem cl_it (R : Nat → Nat → Prop) : itF (fun q v => v + bI (lowB R q)) 8 0 0 = nI (cl R) := cnt_int (lowB R) 8 (by decide)
theorem count_search {G : GS} (h : GI G) (Rr : GR) : f_X2_countBySearch Rr G = nI (cl (Conn (inL (eds G)))) := by
  unfold f_X2_countBySearch f_X2_countBySearch_l6
  rw [← cl_it]
  refine lpF_invN (step := f_X2_countBySearch_l6s G) (ex := f_X2_countBySearch_l6e G) 8 (fun k t => t.1 = itF (fun q v => v + bI (lowB (Conn (inL (eds G))) q)) k 0 0 ∧ ∃ c, BM t.2 c ∧ ∀ x, x < 8 → (c x = true ↔ ∃ j, j < k ∧ Conn (inL (eds G)) j x)) (fun v => v = itF (fun q v => v + bI (lowB (Conn (inL (eds G))) q)) 8 0 0) ?_ ?_ ?_ 8 0 _ (Nat.zero_add _) ⟨rfl, fun _ => false, BM_0, fun x _ => ⟨fun z => (by cases z), fun ⟨j, hj, _⟩ => absurd hj (Nat.not_lt_zero j)⟩⟩
  · rintro k ⟨v, m⟩ r hk _ e
    have e : f_X2_countBySearch_l6b G k v m = Sum.inl r := e
    unfold f_X2_countBySearch_l6b f_X2_countBySearch_j30 at e
    split at e <;> cases e
  · rintro k ⟨v, m⟩ t' hk ⟨i1, c, bm, cc⟩ e
    have e : f_X2_countBySearch_l6b G k v m = Sum.inr t' := e
    have i1 : v = itF (fun q v => v + bI (lowB (Conn (inL (eds G))) q)) k 0 0 := i1
    have bm : BM m c := bm
    unfold f_X2_countBySearch_l6b f_X2_countBySearch_j30 at e
    rw [bm k hk] at e
    have lowk : lowB (Conn (inL (eds G))) k = !(c k) := by
      cases q : c k
      · refine lowB_t.mpr (fun y hy g => ?_)
        rw [(cc k hk).mpr ⟨y, hy, g⟩] at q
        cases q
      · refine lowB_f (fun g => ?_)
        obtain ⟨j, hj, g2⟩ := (cc k hk).mp q
        exact g j hj g2
    rw [itF_snoc, Nat.zero_add, ← i1, lowk]
    cases q : c k
    · rw [q, if_neg (by decide)] at e
      cases e
      obtain ⟨c', b', s', k', n', a'⟩ := VS_8 h k m c hk bm q (by omega)
      refine ⟨rfl, c', b', fun x hx => ⟨fun hc => ?_, fun ⟨j, hj, g⟩ => ?_⟩⟩
      · rcases n' x hx hc with z | z
        · obtain ⟨j, hj, g⟩ := (cc x hx).mp z
          exact ⟨j, by omega, g⟩
        · exact ⟨k, by omega, z⟩
      · by_cases z : j = k
        · subst z
          refine shut_conn (fun p q l ad hp => ?_) g k'
          have w := Adj_wf (wf_eds h.1) ad
          cases y : c p
          · exact a' p q l ad hp y
          · obtain ⟨i, hi, g2⟩ := (cc p w.1).mp y
            exact s' q ((cc q w.2.1).mpr ⟨i, hi, Conn_tr g2 (Adj_cn ad)⟩)
        · exact s' x ((cc x hx).mpr ⟨j, by omega, g⟩)
    · rw [q, if_pos rfl] at e
      cases e
      refine ⟨(Int32.add_zero v).symm, c, bm, fun x hx => ⟨fun hc => ?_, fun ⟨j, hj, g⟩ => ?_⟩⟩
      · obtain ⟨j, hj, g⟩ := (cc x hx).mp hc
        exact ⟨j, by omega, g⟩
      · by_cases z : j = k
        · subst z
          obtain ⟨i, hi, g2⟩ := (cc j hk).mp q
          exact (cc x hx).mpr ⟨i, hi, Conn_tr g2 g⟩
        · exact (cc x hx).mpr ⟨j, by omega, g⟩
  · rintro ⟨v, m⟩ ⟨i1, _⟩
    exact i1
theorem comps_c {G : GS} {f fr : Nat → Int32} (h : GI G) (r : NR G f) : (f_X8_components f fr).1 = nI (cl (Conn (inL (eds G)))) ∧ (f_X8_components f fr).2.1 = 0 := by
  have t : (1000000 : Int32).toInt = 1000000 := rfl
  unfold f_X8_components f_X8_components_l9
  rw [← cl_it]
  refine lpF_invN (step := f_X8_components_l9s f) (ex := f_X8_components_l9e f) 8 (fun k s => s.1 = itF (fun q v => v + bI (lowB (Conn (inL (eds G))) q)) k 0 0 ∧ s.2.1 = 0) (fun v => v.1 = itF (fun q v => v + bI (lowB (Conn (inL (eds G))) q)) 8 0 0 ∧ v.2.1 = 0) ?_ ?_ (fun s hs => hs) 8 0 _ (Nat.zero_add _) ⟨rfl, rfl⟩
  · rintro k ⟨v, th, g⟩ r2 hk _ e
    have e : f_X8_components_l9b f k v th g = Sum.inl r2 := e
    unfold f_X8_components_l9b lt_ f_X8_components_l25 at e
    dsimp only at e
    rw [lpF_it (step := f_X8_components_l25s) (ex := f_X8_components_l25e) (fun j s => (s.1, s.2.1 && !decide (s.2.2.2 j < 1000000), s.2.2.1, s.2.2.2)) k (fun j s hj => by
      show f_X8_components_l25b j s.1 s.2.1 s.2.2.1 s.2.2.2 = _
      unfold f_X8_components_l25b f_X8_components_j51 f_X8_components_j52
      cases s.2.1
      · rfl
      · by_cases q : s.2.2.2 j < 1000000
        · rw [if_pos rfl, if_pos q, decide_eq_true q]; rfl
        · rw [if_pos rfl, if_neg q, decide_eq_false q]; rfl) _ _ _ (Nat.zero_add _)] at e
    unfold f_X8_components_l25e f_X8_components_l25x f_X8_components_j69 at e
    split at e <;> cases e
  · rintro k ⟨v, th, g⟩ t' hk ⟨i1, i2⟩ e
    have i1 : v = itF (fun q v => v + bI (lowB (Conn (inL (eds G))) q)) k 0 0 := i1
    have i2 : th = 0 := i2
    have e : f_X8_components_l9b f k v th g = Sum.inr t' := e
    unfold f_X8_components_l9b lt_ f_X8_components_l25 at e
    dsimp only at e
    rw [lpF_it (step := f_X8_components_l25s) (ex := f_X8_components_l25e) (fun j s => (s.1, s.2.1 && !decide (s.2.2.2 j < 1000000), s.2.2.1, s.2.2.2)) k (fun j s hj => by
      show f_X8_components_l25b j s.1 s.2.1 s.2.2.1 s.2.2.2 = _
      unfold f_X8_components_l25b f_X8_components_j51 f_X8_components_j52
      cases s.2.1
      · rfl
      · by_cases q : s.2.2.2 j < 1000000
        · rw [if_pos rfl, if_pos q, decide_eq_true q]; rfl
        · rw [if_pos rfl, if_neg q, decide_eq_false q]; rfl) _ _ _ (Nat.zero_add _)] at e
    have key : ∀ n, n ≤ k → itF (fun j (s : Int32 × Bool × Int32 × (Nat → Int32)) => (s.1, s.2.1 && !decide (s.2.2.2 j < 1000000), s.2.2.1, s.2.2.2)) n 0 (v, true, th, f_X8_measures f g (nI k)) = (v, @decide (∀ y, y < n → ¬ Conn (inL (eds G)) y k) (Classical.propDecidable _), th, f_X8_measures f g (nI k)) := by
      intro n
      induction n with
      | zero =>
        intro _
        show (v, true, th, _) = _
        rw [@decide_eq_true _ (Classical.propDecidable _) (fun y hy => absurd hy (Nat.not_lt_zero y))]
      | succ n ih =>
        intro hn
        rw [itF_snoc, Nat.zero_add, ih (by omega)]
        have fc := far_conn h hk (show n < 8 by omega)
        rw [ile, t] at fc
        have ea : f_X8_measures f g (nI k) n < 1000000 ↔ Conn (inL (eds G)) n k := by
          rw [meas_at h r hk n (by omega), ilt, t]
          constructor
          · intro q
            exact Conn_sy (Classical.not_not.mp (fun w => by have := fc.mpr w; omega))
          · intro q
            have w : ¬ (1000000 : Int) ≤ (nI (dist (eds G) k 1000000 n)).toInt := fun w => fc.mp w (Conn_sy q)
            omega
        have eb : (@decide (∀ y, y < n → ¬ Conn (inL (eds G)) y k) (Classical.propDecidable _) && !decide (f_X8_measures f g (nI k) n < 1000000)) = @decide (∀ y, y < n + 1 → ¬ Conn (inL (eds G)) y k) (Classical.propDecidable _) := by
          refine bool_c ?_
          rw [Bool.and_eq_true, @decide_eq_true_iff _ (Classical.propDecidable _), @decide_eq_true_iff _ (Classical.propDecidable _), Bool.not_eq_true', decide_eq_false_iff_not, ea]
          exact ⟨fun ⟨q1, q2⟩ y hy => if z : y = n then z ▸ q2 else q1 y (by omega), fun q => ⟨fun y hy => q y (by omega), q n (by omega)⟩⟩
        show (v, _ && _, th, _) = _
        rw [← eb]
    rw [key k (Nat.le_refl _)] at e
    unfold f_X8_components_l25e f_X8_components_l25x f_X8_components_j69 at e
    rw [itF_snoc, Nat.zero_add, ← i1]
    have lw : lowB (Conn (inL (eds G))) k = @decide (∀ y, y < k → ¬ Conn (inL (eds G)) y k) (Classical.propDecidable _) := rfl
    rw [lw]
    dsimp only at e
    cases q : @decide (∀ y, y < k → ¬ Conn (inL (eds G)) y k) (Classical.propDecidable _)
    · rw [q, if_neg (by decide)] at e
      cases e
      exact ⟨rfl, i2⟩
    · rw [q, if_pos rfl] at e
      cases e
      exact ⟨rfl, i2⟩
theorem b_componentCount {G : GS} {f fr : Nat → Int32} (h : GI G) (r : NR G f) (Q : QS) (Rr : GR) : f_X7_componentCount Q G Rr = (f_X8_componentCount f fr).1 ∧ (f_X8_componentCount f fr).2.1 = 0 := by
  obtain ⟨c1, c2⟩ := comps_c (fr := fr) h r
  exact ⟨(count_search h Rr).trans c1.symm, c2⟩
