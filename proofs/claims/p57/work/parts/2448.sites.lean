/-! the sites' own sums, as the law makes them -/
def brS (G : GS) (n : Nat) : Int32 := itF (fun k v => v + bI (f_X1_hasBridge G k)) n 0 0
def lnS (G : GS) (n : Nat) : Int32 := itF (fun k v => v + (if f_X1_hasBridge G k = true then gLen G k else 0)) n 0 0
theorem brS_s {G : GS} {k : Nat} {x : Int32} {b : Bool} (h : x = brS G k) (e : b = f_X1_hasBridge G k) : x + bI b = brS G (k + 1) := by
  unfold brS
  rw [itF_snoc, Nat.zero_add, h, e]
  rfl
theorem lnS_s {G : GS} {k : Nat} {x y : Int32} (h : x = lnS G k) (e : y = if f_X1_hasBridge G k = true then gLen G k else 0) : x + y = lnS G (k + 1) := by
  unfold lnS
  rw [itF_snoc, Nat.zero_add, h, e]
  rfl
theorem brS_all (G : GS) : brS G (gS G) = f_X1_bridges G := (built_it G).symm
theorem lnS_all (G : GS) : lnS G (gS G) = f_X1_bridgeLengths G := (lens_it G).symm
theorem brS_n (G : GS) : ∀ k, ∃ t, t ≤ k ∧ brS G k = nI t := by
  intro k
  induction k with
  | zero => exact ⟨0, Nat.le_refl _, rfl⟩
  | succ k ih =>
    obtain ⟨t, ht, e⟩ := ih
    rw [← brS_s (G := G) (k := k) (x := nI t) e.symm rfl]
    cases f_X1_hasBridge G k
    · exact ⟨t, by omega, by show nI t + 0 = nI t; exact (nI_add t 0)⟩
    · exact ⟨t + 1, by omega, nI_add t 1⟩
theorem share_n {G : GS} (hS : gS G ≤ 12) {k : Nat} (hk : k ≤ gS G) {x : Int32} (e : x = brS G k) (h : ¬ nI (gS G) = 0) : vf_n32 (FP.fdiv (FP.i2f x) (FP.i2f (nI (gS G)))) := by
  obtain ⟨t, ht, et⟩ := brS_n G k
  rw [e, et]
  exact (share_ok t (by omega) (gS G) (by omega) (fun c => h (by rw [c]; rfl))).1
theorem mean_n {G : GS} (hI : GI G) {x y : Int32} (e : x = brS G (gS G)) (d : y = lnS G (gS G)) (h : ¬ x = 0) : vf_n64 (FP.ddiv (FP.i2d y) (FP.i2d x)) := by
  rw [brS_all] at e
  rw [lnS_all] at d
  rw [e] at h ⊢
  rw [d]
  exact mean_hne hI h
def chI (x : Int32) (n : Nat) : Prop := x < 0 ∨ vp_in x n
theorem len_in {K : CT} (hI : GI (kG K)) {k : Nat} (hk : k < gS (kG K)) : vp_in (gLen (kG K) k) 10 := by
  obtain ⟨L, -, h, e⟩ := hI.1.2.2.2.2.1 k hk
  rw [e]
  exact vp_in_nI (by omega) (by decide)
theorem bld_in {K : CT} (hI : GI (kG K)) {k : Nat} (hk : k < gS (kG K)) (h : f_X1_hasBridge (kG K) k = true) : vp_in (gBld (kG K) k) 10 := by
  have h4 := (GI_safe hI).2.1
  rcases hI.1.2.2.2.2.2.1 k hk with c | c
  · exact absurd c (hasBridge_t.mp h)
  · have := vp_in_iff.mp c
    exact vp_in_iff.mpr ⟨this.1, by omega⟩
theorem bid_in {K : CT} (hI : GI (kG K)) {q s : Nat} (hq : q < gP (kG K)) (hs : s < gS (kG K)) : vp_in (f_L_bid K (nI q) (nI s)) 100 := by
  have hG := GI_safe hI
  have b := hI.2.1.1 s (by have := hG.1; omega) q (by have := hG.2.1; omega)
  rw [bid_v hI hq hs]
  have n := amt_int hI.2.1 (q := q) (k := s) (by have := hG.1; omega) (by have := hG.2.1; omega)
  exact vp_in_iff.mpr ⟨by omega, by omega⟩
/-- how long a site's line can be -/
def TI (b : Bool) (T : TX) (k : Nat) : Prop := (b = true → T.2 ≤ 7) ∧ (b = false → T.2 ≤ 5 + 7 * k)
theorem TI_le {b : Bool} {T : TX} {k : Nat} (h : TI b T k) (hk : k ≤ 4) : T.2 ≤ 33 := by
  cases b
  · have := h.2 rfl; omega
  · have := h.1 rfl; omega
theorem TI_b {b : Bool} {T : TX} (e : b = true) (h : T.2 ≤ 7) : TI b T 0 := ⟨fun _ => h, fun c => absurd (e.symm.trans c) (by decide)⟩
theorem TI_n {b : Bool} {T : TX} (e : b = false) (h : T.2 ≤ 5) : TI b T 0 := ⟨fun c => absurd (e.symm.trans c) (by decide), fun _ => h⟩
theorem TI_e {b : Bool} {T : TX} {k : Nat} (h : TI b T k) : TI b (wA (litT 0 0) (wA T T0)) (k + 1) := by
  have e : (wA (litT 0 0) (wA T T0)).2 = T.2 := by
    show 0 + T.2 + 0 = T.2
    omega
  refine ⟨fun c => ?_, fun c => ?_⟩
  · rw [e]; exact h.1 c
  · rw [e]; have := h.2 c; omega
theorem TI_s {b : Bool} {T : TX} {k : Nat} (e : b = false) (h : T.2 ≤ 5 + 7 * (k + 1)) : TI b T (k + 1) := ⟨fun c => absurd (e.symm.trans c) (by decide), fun _ => h⟩
/-- what stands behind a line is of no matter -/
theorem lnB_c {t t' w : Nat → Nat} : ∀ m k, (∀ j, j < k + m → t j = t' j) → lnB t w m k = lnB t' w m k := by
  intro m
  induction m with
  | zero => intro k _; rfl
  | succ m ih =>
    intro k h
    show (decide (t k = w k) && lnB t w m (k + 1)) = (decide (t' k = w k) && lnB t' w m (k + 1))
    rw [h k (by omega), ih (k + 1) (fun j hj => h j (by omega))]
theorem isL_c {T T' w : TX} (h : TE T T') : f_L_isLine T w = f_L_isLine T' w := by
  unfold f_L_isLine
  rw [← h.1]
  by_cases c : T.2 = w.2
  · rw [lnB_c (t := T.1) (t' := T'.1) w.2 0 (fun j hj => h.2 j (by omega))]
  · rw [decide_eq_false c]
    rfl
theorem line_T {K : CT} (hI : GI (kG K)) {k : Nat} (hk : k < gS (kG K)) (f : Nat → Nat) (w : TX) : f_L_isLine (dSite (kG K) k (f, 0)) w = f_L_isLine (lineT (kG K) k) w := (isL_c (dSite_T hI hk f)).symm
/-! the means as the law asks them -/
section
variable {l : Launch} {D : va_G} {C : Nat → ClassId} {ev u : Nat → Nat} {K : CT} {T : TX}
theorem k_builtShare (hl9 : l.stackTraces = false) (hI : GI (kG K)) (h : ¬ nI (gS (kG K)) = 0) : KM l yX7_builtShare wsX7_builtShare ({ frames := 7, cells := 1, slots := 6, locals := 103 } : Room) [.ref (u 0)] D C ev u K T T (some (.float (FP.fdiv (FP.i2f (f_X1_bridges (kG K))) (FP.i2f (nI (gS (kG K))))))) 1 6 := by
  have hG := GI_safe hI
  refine KM_vx (cs := fun x => [acells C u (kQ K), gcells C (uA u) (kG K)]) (cs' := fun x => [acells C u (kQ K), gcells C (uA u) (kG K)]) (rs := fun x => [gcells C (uB u) (kG1 K), gcells C (uC u) (kG2 K), grcells C (uG u) x.1, hcells C (uH u) (kS K), scells C ev (uS u) (kSc K), ocells C (uO u) x.2]) (nx := fun x => x.1) (fun x sz hx => c_X7_builtShare l D C ev u (kQ K) (kG K) sz hG hl9 (fun n => share_n hG.1 (Nat.le_refl _) (brS_all (kG K)).symm n)) (fun x hx => ?_) (fun x => bsP 8 [0, 1, 2, 3, 4, 5, 6, 7] rfl (by decide) rfl) (fun x => bsP 8 [0, 1, 2, 3, 4, 5, 6, 7] rfl (by decide) rfl) (fun x h => h)
  have e : f_X7_builtShare (kG K) = (0, FP.fdiv (FP.i2f (f_X1_bridges (kG K))) (FP.i2f (nI (gS (kG K))))) := if_neg h
  rw [e]; exact ⟨rfl, rfl⟩
theorem k_meanBridgeLength (hl9 : l.stackTraces = false) (hI : GI (kG K)) (h : ¬ f_X1_bridges (kG K) = 0) : KM l yX7_meanBridgeLength wsX7_meanBridgeLength ({ frames := 7, cells := 1, slots := 6, locals := 103 } : Room) [.ref (u 0)] D C ev u K T T (some (.double (FP.ddiv (FP.i2d (f_X1_bridgeLengths (kG K))) (FP.i2d (f_X1_bridges (kG K)))))) 1 6 := by
  have hG := GI_safe hI
  refine KM_vx (cs := fun x => [acells C u (kQ K), gcells C (uA u) (kG K)]) (cs' := fun x => [acells C u (kQ K), gcells C (uA u) (kG K)]) (rs := fun x => [gcells C (uB u) (kG1 K), gcells C (uC u) (kG2 K), grcells C (uG u) x.1, hcells C (uH u) (kS K), scells C ev (uS u) (kSc K), ocells C (uO u) x.2]) (nx := fun x => x.1) (fun x sz hx => c_X7_meanBridgeLength l D C ev u (kQ K) (kG K) sz hG hl9 (mean_hne hI)) (fun x hx => ?_) (fun x => bsP 8 [0, 1, 2, 3, 4, 5, 6, 7] rfl (by decide) rfl) (fun x => bsP 8 [0, 1, 2, 3, 4, 5, 6, 7] rfl (by decide) rfl) (fun x h => h)
  have e : f_X7_meanBridgeLength (kG K) = (0, FP.ddiv (FP.i2d (f_X1_bridgeLengths (kG K))) (FP.i2d (f_X1_bridges (kG K)))) := if_neg h
  rw [e]; exact ⟨rfl, rfl⟩
end
/-! a law method that leaves the output text as it may be -/
def KMe (l : Launch) (y : MethodName) (W : List Cond) (rm : Room) (av : List Value) (D : va_G) (C : Nat → ClassId) (ev u : Nat → Nat) (K : CT) (T : TX) (v : Option Value) (mc ms : Nat) : Prop :=
  ∀ (x : KX) (sz : Nat), kF T x → Met l y W rm (hloP av D C ev (kW C ev u K x) sz) (eO (fun _ : KX => v) D (fun x => ∃ T9, kF T9 x) (kW C ev u K) (va_A (kW C ev u K x) sz)) mc ms (va_A (kW C ev u K x) sz)
section
variable {p : Program} {l : Launch} {e : Env} {R : Room} {s : State} {m : MethodId} {args : Array Value} {below : List Frame} {meth : Method} {c : Code} {H : Heap} {locs : List Loc} {cells slots mc ms : Nat} {cc : ByteArray} {pc : Nat} {ls : Array Slot} {A : Nat → Prop} {D : va_G} {C : Nat → ClassId} {ev u : Nat → Nat} {K : CT} {T : TX} {x : KX} {owns : List va_W}
theorem k_retBe {b z : Bool} (hx : p.tables.exec = Jvm.exec) (hb : c.code = cc) (hr : meth.sig.returnType = some .boolean) (hF : kF T x) (hP : va_P D vwCl (wj (kW C ev u K x :: owns)) H) (hD : va_D A (wj (kW C ev u K x :: owns))) (hS : va_S A s.heap H locs) (hz : z = b) (h1 : cells ≤ mc) (h2 : slots ≤ ms) (hdg : decode cc pc = .ok (.ireturn, 1)) (hlocks : meth.locks = false) : W p l e R s m args below meth c H locs cells slots (MQ below (eO (fun _ : KX => some (.int (bI z))) D (fun x => ∃ T9, kF T9 x) (kW C ev u K) A) args s mc ms A) (F0 m pc ls [.int (bI b)]) :=
  W.widen h1 h2 (W.zret (v := bI b) hx hb hr (bI_nar b) (fun t ht hW => ⟨⟨x, by rw [hz], ⟨T, hF⟩, by rw [ht]; exact kP hP, kD hD⟩, hS.F ht⟩) hS.2.2 hdg hlocks)
end
