/-! sums of integers; money that is free -/
theorem bmod_id {x : Int} (h1 : -1000000 ≤ x) (h2 : x ≤ 1000000) : x.bmod (2 ^ 32) = x := by
  rw [Int.bmod_def]
  omega
theorem add_int {a b : Int32} (h1 : -1000000 ≤ a.toInt + b.toInt) (h2 : a.toInt + b.toInt ≤ 1000000) : (a + b).toInt = a.toInt + b.toInt := by
  rw [Int32.toInt_add]
  exact bmod_id h1 h2
theorem sub_int {a b : Int32} (h1 : -1000000 ≤ a.toInt - b.toInt) (h2 : a.toInt - b.toInt ≤ 1000000) : (a - b).toInt = a.toInt - b.toInt := by
  rw [Int32.toInt_sub]
  exact bmod_id h1 h2
theorem neg_int {a : Int32} (h1 : -1000000 ≤ a.toInt) (h2 : a.toInt ≤ 1000000) : (-a).toInt = -a.toInt := by
  rw [Int32.toInt_neg]
  exact bmod_id (by omega) (by omega)
def sumI (g : Nat → Int) : Nat → Int
  | 0 => 0
  | n + 1 => sumI g n + g n
theorem sumI_c {g h : Nat → Int} : ∀ n, (∀ k, k < n → g k = h k) → sumI g n = sumI h n := by
  intro n
  induction n with
  | zero => intro _; rfl
  | succ n ih =>
    intro e
    show sumI g n + g n = sumI h n + h n
    rw [ih (fun k hk => e k (by omega)), e n (by omega)]
theorem sumI_1 {g h : Nat → Int} {i : Nat} : ∀ n, i < n → (∀ k, k < n → k ≠ i → g k = h k) → sumI g n = sumI h n - h i + g i := by
  intro n
  induction n with
  | zero => intro h; exact absurd h (Nat.not_lt_zero i)
  | succ n ih =>
    intro hi e
    show sumI g n + g n = sumI h n + h n - h i + g i
    by_cases q : n = i
    · subst q
      rw [sumI_c n (fun k hk => e k (by omega) (by omega))]
      omega
    · rw [ih (by omega) (fun k hk hn => e k (by omega) hn), e n (by omega) q]
      omega
theorem sumI_nn {g : Nat → Int} {B : Int} : ∀ n, (∀ k, k < n → 0 ≤ g k ∧ g k ≤ B) → 0 ≤ sumI g n ∧ sumI g n ≤ n * B := by
  intro n
  induction n with
  | zero => intro _; exact ⟨Int.le_refl _, by rw [Int.natCast_zero, Int.zero_mul]; exact Int.le_refl _⟩
  | succ n ih =>
    intro h
    obtain ⟨h1, h2⟩ := ih (fun k hk => h k (by omega))
    obtain ⟨h3, h4⟩ := h n (by omega)
    refine ⟨by show 0 ≤ sumI g n + g n; omega, ?_⟩
    show sumI g n + g n ≤ ((n + 1 : Nat) : Int) * B
    rw [Int.natCast_add, Int.add_mul]
    show sumI g n + g n ≤ (n : Int) * B + ((1 : Nat) : Int) * B
    rw [show ((1 : Nat) : Int) * B = B by rw [Int.natCast_one, Int.one_mul]]
    omega
theorem sumI_ge {g : Nat → Int} {i : Nat} : ∀ n, i < n → (∀ k, k < n → 0 ≤ g k) → g i ≤ sumI g n := by
  intro n
  induction n with
  | zero => intro h; exact absurd h (Nat.not_lt_zero i)
  | succ n ih =>
    intro hi h
    show g i ≤ sumI g n + g n
    have h0 : 0 ≤ sumI g n := by
      clear ih hi
      induction n with
      | zero => exact Int.le_refl _
      | succ n ih =>
        have := ih (fun k hk => h k (by omega))
        have := h n (by omega)
        show 0 ≤ sumI g n + g n
        omega
    by_cases q : n = i
    · subst q; omega
    · have := ih (by omega) (fun k hk => h k (by omega))
      have := h n (by omega)
      omega
/-- what a player's bids hold back, and what is free -/
def resI (G : GS) (q k : Nat) : Int := max (gOff G (k * 4 + q)).toInt 0
def avI (G : GS) (q : Nat) : Int := (gMon G q).toInt - sumI (resI G q) (gS G)
theorem resI_b {G : GS} (h1 : GI1 G) {q k : Nat} (hk : k < 12) (hq : q < 4) : 0 ≤ resI G q k ∧ resI G q k ≤ 99 := by
  have := h1.1 k hk q hq
  unfold resI
  omega
theorem vp_int {x : Int32} {n : Nat} (h : vp_in x n) : 0 ≤ x.toInt ∧ x.toInt < n := vp_in_iff.mp h
theorem avail_it (G : GS) (q : Nat) : f_X1_availableTo G q = itF (fun k v => v - f_X1_reservedBy G q k) (gS G) 0 (gMon G q) := by
  unfold f_X1_availableTo f_X1_availableTo_l9
  rw [lpF_it (step := f_X1_availableTo_l9s G q) (fun k v => v - f_X1_reservedBy G q k) (gS G) (fun k s hk => rfl) _ _ _ (Nat.zero_add _)]
  rfl
theorem avail_int {G : GS} (hG : GSafe G) (h1 : GI1 G) {q : Nat} (hq : q < 4) (hm : 0 ≤ (gMon G q).toInt ∧ (gMon G q).toInt < 100) : (f_X1_availableTo G q).toInt = avI G q := by
  have hS := hG.1
  rw [avail_it]
  have key : ∀ n, n ≤ 12 → (itF (fun k v => v - f_X1_reservedBy G q k) n 0 (gMon G q)).toInt = (gMon G q).toInt - sumI (resI G q) n := by
    intro n
    induction n with
    | zero => intro _; show (gMon G q).toInt = (gMon G q).toInt - 0; omega
    | succ n ih =>
      intro hn
      rw [itF_snoc, Nat.zero_add]
      have e := ih (by omega)
      have r := res_int h1 (show n < 12 by omega) hq
      have r2 : (f_X1_reservedBy G q n).toInt = resI G q n := r
      have b1 := resI_b h1 (show n < 12 by omega) hq
      have b2 := sumI_nn (g := resI G q) (B := 99) n (fun k hk => resI_b h1 (show k < 12 by omega) hq)
      show (itF (fun k v => v - f_X1_reservedBy G q k) n 0 (gMon G q) - f_X1_reservedBy G q n).toInt = (gMon G q).toInt - (sumI (resI G q) n + resI G q n)
      rw [sub_int (by rw [e, r2]; omega) (by rw [e, r2]; omega), e, r2]
      omega
  exact key _ hS
/-- no one owes, and no money is lost -/
def GI2 (G : GS) : Prop := (∀ q, q < gP G → 0 ≤ avI G q) ∧ gIni G = itF (fun p v => v + gMon G p) (gP G) 0 (gBank G)
def GI (G : GS) : Prop := GI0 G ∧ GI1 G ∧ GI2 G
theorem GI_safe {G : GS} (h : GI G) : GSafe G := h.1.1
theorem GI_fer {G : GS} (h : GI G) : FerB G := h.1.2.2.2.2.2.2
theorem GI_mon {G : GS} (h : GI G) {q : Nat} (hq : q < gP G) : 0 ≤ (gMon G q).toInt ∧ (gMon G q).toInt < 100 := vp_int (h.1.2.2.2.1 q hq)
theorem avI_le {G : GS} (h : GI G) {q : Nat} (hq : q < gP G) : avI G q ≤ 99 := by
  have hP4 := (GI_safe h).2.1
  have hS := (GI_safe h).1
  have h1 := GI_mon h hq
  have b2 := sumI_nn (g := resI G q) (B := 99) (gS G) (fun k hk => resI_b h.2.1 (show k < 12 by omega) (show q < 4 by omega))
  unfold avI
  omega
theorem solvent {G : GS} (h : GI G) : f_X1_isEveryPlayerSolvent G = true := by
  unfold f_X1_isEveryPlayerSolvent f_X1_isEveryPlayerSolvent_l2
  have hP4 := (GI_safe h).2.1
  refine lpF_invN (step := f_X1_isEveryPlayerSolvent_l2s G) (ex := f_X1_isEveryPlayerSolvent_l2e G) (gP G) (fun _ _ => True) (fun r => r = true) ?_ ?_ ?_ (gP G) 0 _ (Nat.zero_add _) trivial
  · intro k s r hk _ e
    simp only [f_X1_isEveryPlayerSolvent_l2s, f_X1_isEveryPlayerSolvent_l2b] at e
    rw [if_pos (by rw [ile, avail_int (GI_safe h) h.2.1 (by omega) (GI_mon h hk)]; exact h.2.2.1 k hk)] at e
    cases e
  · intros; trivial
  · intro s _; rfl
theorem moneyKept {G : GS} (h : GI G) : f_X1_isMoneyKept G = true := by
  unfold f_X1_isMoneyKept f_X1_isMoneyKept_l7
  rw [lpF_it (step := f_X1_isMoneyKept_l7s G) (fun p v => v + gMon G p) (gP G) (fun k s hk => rfl) _ _ _ (Nat.zero_add _)]
  unfold f_X1_isMoneyKept_l7e f_X1_isMoneyKept_l7x
  rw [if_pos h.2.2.2.symm]
  rfl
/-- a change's answers side by side -/
def VR (L : List Nat) (j : Nat) (v : Int32) (G1 : GS) (r : Int32 × (Nat → Int32) × Int32) (f : Nat → Int32) : Prop :=
  r.2.2 = thr L j ∧ (j = 0 ∨ j ∈ L) ∧ (j ≠ 0 → r.2.1 = f) ∧ (j = 0 → r.1 = v ∧ NR G1 r.2.1 ∧ GI G1)
theorem VR_x {L : List Nat} {j : Nat} {v w t : Int32} {G1 : GS} {f : Nat → Int32} (h : j ≠ 0) (hm : j ∈ L) (ht : t = thr L j) : VR L j v G1 (w, f, t) f := ⟨ht, Or.inr hm, fun _ => rfl, fun h9 => absurd h9 h⟩
theorem VR_0 {L : List Nat} {v w : Int32} {G1 : GS} {f f1 : Nat → Int32} (h1 : w = v) (h2 : NR G1 f1) (h3 : GI G1) : VR L 0 v G1 (w, f1, 0) f := ⟨rfl, Or.inl rfl, fun h9 => absurd rfl h9, fun _ => ⟨h1, h2, h3⟩⟩
