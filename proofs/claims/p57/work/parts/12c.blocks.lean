/-! worlds in blocks -/
def wj : List va_W → va_W
  | [] => []
  | [x] => x
  | x :: y :: r => x ++ wj (y :: r)
theorem wj_fl : ∀ bs : List va_W, wj bs = bs.flatten
  | [] => rfl
  | [x] => by show x = [x].flatten; simp
  | x :: y :: r => by show x ++ wj (y :: r) = _; rw [wj_fl (y :: r), List.flatten_cons (l := x)]
theorem wj_mem {bs : List va_W} {q : Nat × va_E} : q ∈ wj bs ↔ ∃ b, b ∈ bs ∧ q ∈ b := by rw [wj_fl]; exact List.mem_flatten
theorem va_P_m {D : va_G} {ws : va_W} {H : Heap} : va_P D vwCl ws H ↔ ∀ q, q ∈ ws → va_at D vwCl q H :=
  ⟨fun h q hq => by obtain ⟨k, hk⟩ := List.mem_iff_getElem?.mp hq; exact h k q hk, fun h k q hk => h q (List.mem_of_getElem? hk)⟩
def apt (p q : Nat × va_E) : Prop := p.1 ≠ q.1
theorem va_D_m {A : Nat → Prop} {ws : va_W} : va_D A ws ↔ ws.Pairwise apt ∧ ∀ q, q ∈ ws → A q.1 := by
  constructor
  · intro h
    refine ⟨List.pairwise_iff_getElem.mpr (fun i j hi hj hij e => ?_), fun q hq => ?_⟩
    · have := h.1 i j _ _ (List.getElem?_eq_getElem hi) (List.getElem?_eq_getElem hj) e
      omega
    · obtain ⟨k, hk⟩ := List.mem_iff_getElem?.mp hq
      exact h.2 k q hk
  · rintro ⟨h, h2⟩
    refine ⟨fun i j p q hi hj e => ?_, fun k q hk => h2 q (List.mem_of_getElem? hk)⟩
    obtain ⟨hi1, e1⟩ := List.getElem?_eq_some_iff.mp hi
    obtain ⟨hj1, e2⟩ := List.getElem?_eq_some_iff.mp hj
    have h3 := List.pairwise_iff_getElem.mp h
    rcases Nat.lt_trichotomy i j with q1 | q1 | q1
    · exact absurd (by rw [e1, e2]; exact e) (h3 i j hi1 hj1 q1)
    · exact q1
    · exact absurd (by rw [e1, e2]; exact e.symm) (h3 j i hj1 hi1 q1)
def apb (b c : va_W) : Prop := ∀ p, p ∈ b → ∀ q, q ∈ c → apt p q
theorem apb_sy {b c : va_W} (h : apb b c) : apb c b := fun p hp q hq e => h q hq p hp e.symm
theorem wj_Dm {A : Nat → Prop} {bs : List va_W} : va_D A (wj bs) ↔ (∀ b, b ∈ bs → b.Pairwise apt) ∧ bs.Pairwise apb ∧ ∀ b, b ∈ bs → ∀ q, q ∈ b → A q.1 := by
  rw [va_D_m, wj_fl, List.pairwise_flatten]
  constructor
  · rintro ⟨⟨h1, h2⟩, h3⟩
    exact ⟨h1, h2, fun b hb q hq => h3 q (List.mem_flatten.mpr ⟨b, hb, hq⟩)⟩
  · rintro ⟨h1, h2, h3⟩
    refine ⟨⟨h1, h2⟩, fun q hq => ?_⟩
    obtain ⟨b, hb, hq⟩ := List.mem_flatten.mp hq
    exact h3 b hb q hq
theorem pick_mem {bs cs : List va_W} {is : List Nat} (hc : is.filterMap (fun i => bs[i]?) = cs) {c : va_W} (h : c ∈ cs) : c ∈ bs := by
  rw [← hc] at h
  obtain ⟨i, _, hi⟩ := List.mem_filterMap.mp h
  exact List.mem_of_getElem? hi
theorem wj_P {D : va_G} {bs cs : List va_W} {H : Heap} (h : va_P D vwCl (wj bs) H) (is : List Nat) (hc : is.filterMap (fun i => bs[i]?) = cs) : va_P D vwCl (wj cs) H :=
  va_P_m.mpr (fun q hq => by
    obtain ⟨b, hb, hqb⟩ := wj_mem.mp hq
    exact va_P_m.mp h q (wj_mem.mpr ⟨b, pick_mem hc hb, hqb⟩))
theorem pick_pw {bs : List va_W} (h : bs.Pairwise apb) : ∀ (is : List Nat), is.Nodup → (is.filterMap (fun i => bs[i]?)).Pairwise apb := by
  have h3 := List.pairwise_iff_getElem.mp h
  intro is
  induction is with
  | nil => intro _; exact List.Pairwise.nil
  | cons i is ih =>
    intro hn
    have hn' := List.nodup_cons.mp hn
    cases e : bs[i]? with
    | none => rw [List.filterMap_cons_none e]; exact ih hn'.2
    | some b =>
      rw [List.filterMap_cons_some e]
      refine List.pairwise_cons.mpr ⟨fun c hc => ?_, ih hn'.2⟩
      obtain ⟨j, hj, ej⟩ := List.mem_filterMap.mp hc
      have hij : i ≠ j := fun q => hn'.1 (q ▸ hj)
      obtain ⟨hi1, e1⟩ := List.getElem?_eq_some_iff.mp e
      obtain ⟨hj1, e2⟩ := List.getElem?_eq_some_iff.mp ej
      rcases Nat.lt_or_gt_of_ne hij with q | q
      · rw [← e1, ← e2]; exact h3 i j hi1 hj1 q
      · rw [← e1, ← e2]; exact apb_sy (h3 j i hj1 hi1 q)
theorem wj_D {A : Nat → Prop} {bs cs : List va_W} (h : va_D A (wj bs)) (is : List Nat) (hn : is.Nodup) (hc : is.filterMap (fun i => bs[i]?) = cs) : va_D A (wj cs) := by
  obtain ⟨h1, h2, h3⟩ := wj_Dm.mp h
  exact wj_Dm.mpr ⟨fun b hb => h1 b (pick_mem hc hb), hc ▸ pick_pw h2 is hn, fun b hb => h3 b (pick_mem hc hb)⟩
theorem wj_F {A0 : Nat → Prop} {bs cs : List va_W} {H0 H : Heap} {locs : List Loc} (hD : va_D A0 (wj bs)) (hS : va_S A0 H0 H locs) (hA : ∀ q, H0.size ≤ q → A0 q) (is : List Nat) (hc : is.filterMap (fun i => bs[i]?) = cs) : ∀ q, va_A (wj cs) H.size q → A0 q := by
  rintro q (⟨k, e, hk⟩ | h)
  · obtain ⟨b, hb, hq⟩ := wj_mem.mp (List.mem_of_getElem? hk)
    exact (wj_Dm.mp hD).2.2 b (pick_mem hc hb) _ hq
  · exact hA q (Nat.le_trans hS.1 h)
theorem bsP {bs cs : List va_W} (n : Nat) (is : List Nat) (hn : bs.length = n) (h : (List.range n).Perm is) (e : is.filterMap (fun i => bs[i]?) = cs) : bs.Perm cs := by
  subst hn
  rw [← e]
  have h2 : ∀ (l : List va_W), (List.range l.length).filterMap (fun i => l[i]?) = l := by
    intro l
    apply List.ext_getElem?
    intro i
    have : (List.range l.length).filterMap (fun i => l[i]?) = l := by
      induction l with
      | nil => rfl
      | cons a l ih =>
        rw [List.length_cons, List.range_succ_eq_map, List.filterMap_cons_some (by rfl : (a :: l)[0]? = some a), List.filterMap_map]
        congr 1
    rw [this]
  exact (List.Perm.of_eq (h2 bs).symm).trans (h.filterMap _)
theorem va_P_pm {D : va_G} {ws ws' : va_W} {H : Heap} (hp : ws.Perm ws') (h : va_P D vwCl ws H) : va_P D vwCl ws' H := va_P_m.mpr (fun q hq => va_P_m.mp h q (hp.mem_iff.mpr hq))
theorem va_D_pm {A : Nat → Prop} {ws ws' : va_W} (hp : ws.Perm ws') (h : va_D A ws) : va_D A ws' := by
  obtain ⟨h1, h2⟩ := va_D_m.mp h
  exact va_D_m.mpr ⟨(hp.pairwise_iff (fun h e => h e.symm)).mp h1, fun q hq => h2 q (hp.mem_iff.mpr hq)⟩
theorem va_A_pm {ws ws' : va_W} (hp : ws.Perm ws') {sz q : Nat} (h : va_A ws sz q) : va_A ws' sz q := by
  rcases h with ⟨k, e, hk⟩ | h
  · obtain ⟨k', hk'⟩ := List.mem_iff_getElem?.mp (hp.mem_iff.mp (List.mem_of_getElem? hk))
    exact Or.inl ⟨k', e, hk'⟩
  · exact Or.inr h
/-- what a callee left alone, beside what it gives back -/
theorem fr_P {A0 : Nat → Prop} {D : va_G} {wc wr wc' : va_W} {H H1 : Heap} (hP : va_P D vwCl (wc ++ wr) H) (hD : va_D A0 (wc ++ wr)) (hk : ∀ q : Nat, q < H.size → ¬ va_A wc H.size q → H1[q]? = H[q]?) (hP1 : va_P D vwCl wc' H1) : va_P D vwCl (wc' ++ wr) H1 := by
  refine va_P_m.mpr (fun q hq => ?_)
  rcases List.mem_append.mp hq with h | h
  · exact va_P_m.mp hP1 q h
  · have h1 := va_P_m.mp hP q (List.mem_append.mpr (Or.inr h))
    refine va_at.kept h1 (hk q.1 (va_at.lt h1) ?_)
    rintro (⟨k, e, hk⟩ | h2)
    · have h3 := List.pairwise_append.mp (va_D_m.mp hD).1
      exact h3.2.2 _ (List.mem_of_getElem? hk) q h rfl
    · have := va_at.lt h1
      omega
theorem wj_app {bs cs : List va_W} : (wj (bs ++ cs)).Perm (wj bs ++ wj cs) := by rw [wj_fl, wj_fl, wj_fl, List.flatten_append]
theorem wj_pm {bs cs : List va_W} (h : bs.Perm cs) : (wj bs).Perm (wj cs) := by rw [wj_fl, wj_fl]; exact h.flatten
theorem jb {A0 : Nat → Prop} {D : va_G} {bs cs rs cs' bs' : List va_W} {H H1 : Heap} (hP : va_P D vwCl (wj bs) H) (hD : va_D A0 (wj bs)) (hp : bs.Perm (cs ++ rs)) (hp' : (cs' ++ rs).Perm bs') (hk : ∀ q : Nat, q < H.size → ¬ va_A (wj cs) H.size q → H1[q]? = H[q]?) (hP1 : va_P D vwCl (wj cs') H1) : va_P D vwCl (wj bs') H1 := by
  have e := (wj_pm hp).trans wj_app
  exact va_P_pm (wj_app.symm.trans (wj_pm hp')) (fr_P (va_P_pm e hP) (va_D_pm e hD) hk hP1)
theorem Met_mono {l : Launch} {y : MethodName} {W : List Cond} {rm : Room} {P P' : Array Value → State → Prop} {Q Q' : Array Value → State → Outcome → State → Prop} {mc ms : Nat} {free free' : Addr → Prop} (h : Met l y W rm P Q mc ms free) (hP : ∀ a s, P' a s → P a s) (hQ : ∀ a s o t, P' a s → Q a s o t → Q' a s o t) (hF : ∀ q, free q → free' q) : Met l y W rm P' Q' mc ms free' :=
  MetFree.mono h hP (fun _ _ _ _ _ h => h) (fun a s o t hp ⟨hq, L, hL, hf⟩ => ⟨hQ a s o t hp hq, L, hL, fun q hq => hF _ (hf q hq)⟩)
/-- a contract with more cells beside its own -/
theorem Met_fr {l : Launch} {y : MethodName} {W : List Cond} {rm : Room} {av : List Value} {D : va_G} {C : Nat → ClassId} {v : Option Value} {wc wc' wr ws ws' : va_W} {sz mc ms : Nat} (h : Met l y W rm (rwP av D C wc sz) (rwO v D wc' (va_A wc sz)) mc ms (va_A wc sz)) (hp : ws.Perm (wc ++ wr)) (hp' : (wc' ++ wr).Perm ws') : Met l y W rm (rwP av D C ws sz) (rwO v D ws' (va_A ws sz)) mc ms (va_A ws sz) := by
  have hA : ∀ q, va_A wc sz q → va_A ws sz q := fun q hq => va_A_pm hp.symm (by
    rcases hq with ⟨k, e, hk⟩ | hq
    · obtain ⟨k', hk'⟩ := List.mem_iff_getElem?.mp (List.mem_append.mpr (Or.inl (List.mem_of_getElem? hk)))
      exact Or.inl ⟨k', e, hk'⟩
    · exact Or.inr hq)
  refine Met_mono h (fun a s hv => ?_) (fun a s o t hv hq => ?_) hA
  · obtain ⟨h0, h1, h2, h3, h4, h5⟩ := hv
    exact ⟨h0, h1, va_P_m.mpr (fun q hq => va_P_m.mp (va_P_pm hp h2) q (List.mem_append.mpr (Or.inl hq))), h3, va_D_m.mpr ⟨(List.pairwise_append.mp (va_D_m.mp (va_D_pm hp h4)).1).1, fun _ _ => trivial⟩, h5⟩
  · obtain ⟨h0, h1, h2, h3, h4, h5⟩ := hv
    obtain ⟨e, hP1, hF⟩ := hq
    refine ⟨e, va_P_pm hp' (fr_P (va_P_pm hp h2) (va_D_pm hp h4) (fun q hq hn => hF.2 q hq (by rw [h1] at hn; exact hn)) hP1), hF.1, fun q hq hn => hF.2 q hq (fun hc => hn (hA q hc))⟩
