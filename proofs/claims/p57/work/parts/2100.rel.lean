/-! the game's state against the reference's row -/
theorem isIn_t {x y w : Int32} : f_X8_isIn x y w = true ↔ y ≤ x ∧ x ≤ w := by
  unfold f_X8_isIn f_X8_isIn_j14 f_X8_isIn_j15
  by_cases h1 : x < y
  · rw [if_pos h1]
    exact ⟨fun h => absurd h (by decide), fun h => absurd h1 (Int32.not_lt.mpr h.1)⟩
  · rw [if_neg h1]
    by_cases h2 : w < x
    · rw [if_pos h2]
      exact ⟨fun h => absurd h (by decide), fun h => absurd h2 (Int32.not_lt.mpr h.2)⟩
    · rw [if_neg h2]
      exact ⟨fun _ => ⟨Int32.not_lt.mp h1, Int32.not_lt.mp h2⟩, fun _ => rfl⟩
theorem isIn_n {x : Int32} {n : Nat} (hn : n < 2 ^ 30) : f_X8_isIn x 0 (nI n - 1) = true ↔ vp_in x n := ⟨X8_isIn_of hn, X8_isIn_on hn⟩
theorem bool_c {a b : Bool} (h : a = true ↔ b = true) : a = b := by
  cases a <;> cases b
  · rfl
  · exact absurd (h.mpr rfl) (by decide)
  · exact absurd (h.mp rfl) (by decide)
  · rfl
theorem X1_isSite_t {G : GS} (hG : GSafe G) {x : Int32} : f_X1_isSite G x = true ↔ vp_in x (gS G) := by
  refine ⟨X1_isSite_in hG, fun h => ?_⟩
  have h12 := hG.1
  obtain ⟨j, hj, rfl⟩ := vp_in_of h (by omega)
  unfold f_X1_isSite
  rw [if_neg (nI_pos (by omega)), if_neg (nI_ge hj (by omega))]
  rfl
theorem X1_isPlayer_t {G : GS} (hG : GSafe G) {x : Int32} : f_X1_isPlayer G x = true ↔ vp_in x (gP G) := by
  refine ⟨X1_isPlayer_in hG, fun h => ?_⟩
  have h12 := hG.2.1
  obtain ⟨j, hj, rfl⟩ := vp_in_of h (by omega)
  unfold f_X1_isPlayer
  rw [if_neg (nI_pos (by omega)), if_neg (nI_ge hj (by omega))]
  rfl
theorem X1_isIsland_t {x : Int32} : f_X1_isIsland x = true ↔ vp_in x 8 := by
  refine ⟨X1_isIsland_in, fun h => ?_⟩
  obtain ⟨j, hj, rfl⟩ := vp_in_of h (by decide)
  unfold f_X1_isIsland
  rw [if_neg (nI_pos (by omega)), if_neg (show ¬ (8 : Int32) ≤ nI j from nI_ge (b := 8) hj (by decide))]
  rfl
theorem island_c (x : Int32) : f_X8_isIsland x = f_X1_isIsland x := bool_c ((isIn_n (n := 8) (by decide)).trans X1_isIsland_t.symm)
/-- the reference's row f shows the game G -/
def NR (G : GS) (f : Nat → Int32) : Prop :=
  (f 0 = gTide G ∧ f 1 = nI (gP G) ∧ f 2 = nI (gS G) ∧ f 3 = gBank G ∧ f 4 = gSet G ∧ f 5 = gBlf G) ∧
  (∀ i, i < 8 → f (6 + i) = gSuit G i) ∧
  (∀ p, p < gP G → f (14 + 2 * p) = gMon G p ∧ f (14 + 2 * p + 1) = bI (f_X1_hasUsedFerry G p)) ∧
  ∀ k, k < gS G → (f (22 + 13 * k) = nI (gLo G k) ∧ f (22 + 13 * k + 1) = nI (gHi G k) ∧ f (22 + 13 * k + 2) = gLen G k ∧ f (22 + 13 * k + 3) = gBld G k ∧ f (22 + 13 * k + 4) = gFer G k) ∧
    ∀ q, q < 4 → f (22 + 13 * k + (5 + q)) = f_X1_amountOf G q k ∧ f (22 + 13 * k + (9 + q)) = bI (f_X1_hasBluff G q k)
/-- what holds of every game that is played by the rules -/
def GI0 (G : GS) : Prop := GSafe G ∧ (∃ t, t ≤ 9 ∧ gTide G = nI t) ∧ (∀ i, i < 8 → vp_in (gSuit G i) 4) ∧ (∀ p, p < gP G → vp_in (gMon G p) 100) ∧
  (∀ k, k < gS G → ∃ L, 1 ≤ L ∧ L ≤ 9 ∧ gLen G k = nI L) ∧ (∀ k, k < gS G → gBld G k = -1 ∨ vp_in (gBld G k) (gP G)) ∧
  (∀ k, k < gS G → gFer G k = -1 ∨ (vp_in (gFer G k) (gP G) ∧ gOff G (k * 4 + (gFer G k).toNatClampNeg) ≠ 0))
def GI1 (G : GS) : Prop := (∀ k, k < 12 → ∀ q, q < 4 → -99 ≤ (gOff G (k * 4 + q)).toInt ∧ (gOff G (k * 4 + q)).toInt ≤ 99) ∧
  (∀ k, k < 12 → ∀ q, q < 4 → (gS G ≤ k ∨ gP G ≤ q) → gOff G (k * 4 + q) = 0) ∧
  (∀ k, k < gS G → gBld G k ≠ -1 → (gFer G k = -1 ∧ ∀ q, q < 4 → gOff G (k * 4 + q) = 0)) ∧
  (∀ q, q < 4 → gP G ≤ q → f_X1_hasUsedFerry G q = false)
theorem mS_of {G : GS} {f : Nat → Int32} (hG : GSafe G) (h : NR G f) : mS f = gS G := by
  unfold mS
  rw [h.1.2.2.1, nI_clamp (by have := hG.1; omega)]
theorem mP_of {G : GS} {f : Nat → Int32} (hG : GSafe G) (h : NR G f) : mP f = gP G := by
  unfold mP
  rw [h.1.2.1, nI_clamp (by have := hG.2.1; omega)]
theorem site_c {G : GS} {f : Nat → Int32} (hG : GSafe G) (h : NR G f) (x : Int32) : f_X8_isSite f x = f_X1_isSite G x := by
  refine bool_c (Iff.trans ?_ (X1_isSite_t hG).symm)
  unfold f_X8_isSite
  rw [mS_of hG h]
  exact isIn_n (by have := hG.1; omega)
theorem player_c {G : GS} {f : Nat → Int32} (hG : GSafe G) (h : NR G f) (x : Int32) : f_X8_isPlayer f x = f_X1_isPlayer G x := by
  refine bool_c (Iff.trans ?_ (X1_isPlayer_t hG).symm)
  unfold f_X8_isPlayer
  rw [mP_of hG h]
  exact isIn_n (by have := hG.2.1; omega)
theorem isS_n {G : GS} (hG : GSafe G) {k : Nat} (hk : k < gS G) : f_X1_isSite G (nI k) = true := (X1_isSite_t hG).mpr (vp_in_nI hk (by have := hG.1; omega))
theorem isP_n {G : GS} (hG : GSafe G) {k : Nat} (hk : k < gP G) : f_X1_isPlayer G (nI k) = true := (X1_isPlayer_t hG).mpr (vp_in_nI hk (by have := hG.2.1; omega))
theorem of_c {G : GS} {f : Nat → Int32} (hG : GSafe G) (h : NR G f) {k : Nat} (hk : k < gS G) (j : Nat) : f_X8_of f (nI k) j = f (22 + 13 * k + j) := by
  unfold f_X8_of f_X8_of_j17
  rw [site_c hG h, isS_n hG hk, if_pos rfl, nI_clamp (by have := hG.1; omega)]
theorem ofLo {G : GS} {f : Nat → Int32} (hG : GSafe G) (h : NR G f) {k : Nat} (hk : k < gS G) : f_X8_of f (nI k) 0 = nI (gLo G k) := (of_c hG h hk 0).trans (h.2.2.2 k hk).1.1
theorem ofHi {G : GS} {f : Nat → Int32} (hG : GSafe G) (h : NR G f) {k : Nat} (hk : k < gS G) : f_X8_of f (nI k) 1 = nI (gHi G k) := (of_c hG h hk 1).trans (h.2.2.2 k hk).1.2.1
theorem ofLen {G : GS} {f : Nat → Int32} (hG : GSafe G) (h : NR G f) {k : Nat} (hk : k < gS G) : f_X8_of f (nI k) 2 = gLen G k := (of_c hG h hk 2).trans (h.2.2.2 k hk).1.2.2.1
theorem ofBld {G : GS} {f : Nat → Int32} (hG : GSafe G) (h : NR G f) {k : Nat} (hk : k < gS G) : f_X8_of f (nI k) 3 = gBld G k := (of_c hG h hk 3).trans (h.2.2.2 k hk).1.2.2.2.1
theorem ofFer {G : GS} {f : Nat → Int32} (hG : GSafe G) (h : NR G f) {k : Nat} (hk : k < gS G) : f_X8_of f (nI k) 4 = gFer G k := (of_c hG h hk 4).trans (h.2.2.2 k hk).1.2.2.2.2
theorem ofAmt {G : GS} {f : Nat → Int32} (hG : GSafe G) (h : NR G f) {k q : Nat} (hk : k < gS G) (hq : q < 4) : f_X8_of f (nI k) (5 + q) = f_X1_amountOf G q k := (of_c hG h hk _).trans ((h.2.2.2 k hk).2 q hq).1
theorem ofBlf {G : GS} {f : Nat → Int32} (hG : GSafe G) (h : NR G f) {k q : Nat} (hk : k < gS G) (hq : q < 4) : f_X8_of f (nI k) (9 + q) = bI (f_X1_hasBluff G q k) := (of_c hG h hk _).trans ((h.2.2.2 k hk).2 q hq).2
theorem hasBridge_t {G : GS} {k : Nat} : f_X1_hasBridge G k = true ↔ gBld G k ≠ -1 := by
  unfold f_X1_hasBridge f_X1_hasBridge_j15
  by_cases h : gBld G k = -1
  · rw [if_pos h]; exact ⟨fun h9 => absurd h9 (by decide), fun h9 => absurd h h9⟩
  · rw [if_neg h]; exact ⟨fun _ => h, fun _ => rfl⟩
theorem done_c {G : GS} {f : Nat → Int32} (hG : GSafe G) (h : NR G f) {k : Nat} (hk : k < gS G) : f_X8_isDone f (nI k) = f_X1_hasBridge G k := by
  unfold f_X8_isDone f_X8_isDone_j22 f_X8_isDone_j23
  rw [site_c hG h, isS_n hG hk, if_pos rfl, ofBld hG h hk]
  rfl
theorem cost_c {G : GS} {f : Nat → Int32} (hG : GSafe G) (h : NR G f) {k : Nat} (hk : k < gS G) : f_X8_costOf f (nI k) = f_X1_costOf G k := by
  unfold f_X8_costOf f_X1_costOf
  rw [ofLen hG h hk, h.1.1]
/-! offers -/
theorem bluff_t {G : GS} {q k : Nat} : f_X1_hasBluff G q k = true ↔ gOff G (k * 4 + q) < 0 := by
  unfold f_X1_hasBluff f_X1_hasBluff_j18
  by_cases h : 0 ≤ gOff G (k * 4 + q)
  · rw [if_pos h]; exact ⟨fun h9 => absurd h9 (by decide), fun h9 => absurd h9 (Int32.not_lt.mpr h)⟩
  · rw [if_neg h]; exact ⟨fun _ => Int32.not_le.mp h, fun _ => rfl⟩
theorem bid_t {G : GS} {q k : Nat} : f_X1_hasBid G q k = true ↔ gOff G (k * 4 + q) ≠ 0 := by
  unfold f_X1_hasBid f_X1_hasBid_j18
  by_cases h : gOff G (k * 4 + q) = 0
  · rw [if_pos h]; exact ⟨fun h9 => absurd h9 (by decide), fun h9 => absurd h h9⟩
  · rw [if_neg h]; exact ⟨fun _ => h, fun _ => rfl⟩
theorem i32_99 {x : Int32} (h1 : -99 ≤ x.toInt) (h2 : x.toInt ≤ 99) : ∃ n, n < 199 ∧ x = nI n - 99 := by
  refine ⟨(x.toInt + 99).toNat, by omega, ?_⟩
  apply Int32.toInt_inj.mp
  have := pk_sub_toInt (a := (x.toInt + 99).toNat) (b := 99) (by omega) (by decide)
  show x.toInt = (nI _ - nI 99).toInt
  rw [this]
  omega
theorem abs_all : ∀ n, n < 199 → (iabs (nI n - 99)).toInt = (nI n - 99).toInt.natAbs ∧ (imax (nI n - 99) 0).toInt = max (nI n - 99).toInt 0 ∧ ((nI n - 99 = 0) ↔ (nI n - 99).toInt = 0) := by decide +kernel
theorem abs_int {x : Int32} (h1 : -99 ≤ x.toInt) (h2 : x.toInt ≤ 99) : (iabs x).toInt = x.toInt.natAbs ∧ (imax x 0).toInt = max x.toInt 0 := by
  obtain ⟨n, hn, rfl⟩ := i32_99 h1 h2
  exact ⟨(abs_all n hn).1, (abs_all n hn).2.1⟩
theorem i0 {x : Int32} : x = 0 ↔ x.toInt = 0 := ⟨fun h => by rw [h]; rfl, fun h => Int32.toInt_inj.mp h⟩
theorem ilt {x y : Int32} : x < y ↔ x.toInt < y.toInt := Int32.lt_iff_toInt_lt
theorem ile {x y : Int32} : x ≤ y ↔ x.toInt ≤ y.toInt := Int32.le_iff_toInt_le
theorem amt_int {G : GS} (h : GI1 G) {q k : Nat} (hk : k < 12) (hq : q < 4) : (f_X1_amountOf G q k).toInt = (gOff G (k * 4 + q)).toInt.natAbs := (abs_int (h.1 k hk q hq).1 (h.1 k hk q hq).2).1
theorem res_int {G : GS} (h : GI1 G) {q k : Nat} (hk : k < 12) (hq : q < 4) : (f_X1_reservedBy G q k).toInt = max (gOff G (k * 4 + q)).toInt 0 := (abs_int (h.1 k hk q hq).1 (h.1 k hk q hq).2).2
theorem res_c {G : GS} {f : Nat → Int32} (hG : GSafe G) (h1 : GI1 G) (h : NR G f) {k q : Nat} (hk : k < gS G) (hq : q < 4) : f_X8_reservedOn f q (nI k) = f_X1_reservedBy G q k := by
  have hk12 : k < 12 := Nat.lt_of_lt_of_le hk hG.1
  have ha := amt_int h1 hk12 hq
  have hr := res_int h1 hk12 hq
  unfold f_X8_reservedOn f_X8_reservedOn_j24
  rw [ofBlf hG h hk hq, ofAmt hG h hk hq]
  cases hb : f_X1_hasBluff G q k
  · rw [if_pos (show bI false = 0 from rfl)]
    apply Int32.toInt_inj.mp
    rw [ha, hr]
    have : ¬ gOff G (k * 4 + q) < 0 := fun h9 => by rw [bluff_t.mpr h9] at hb; cases hb
    have := (Int32.not_lt.mp this)
    rw [ile] at this
    have e0 : (0 : Int32).toInt = 0 := rfl
    omega
  · rw [if_neg (by decide)]
    apply Int32.toInt_inj.mp
    rw [hr]
    have := bluff_t.mp hb
    rw [ilt] at this
    have e0 : (0 : Int32).toInt = 0 := rfl
    omega
theorem amt_pos {G : GS} (h : GI1 G) {q k : Nat} (hk : k < 12) (hq : q < 4) : (f_X1_amountOf G q k ≤ 0) ↔ f_X1_hasBid G q k = false := by
  have ha := amt_int h hk hq
  rw [ile, ha]
  have e0 : (0 : Int32).toInt = 0 := rfl
  cases hb : f_X1_hasBid G q k
  · have : gOff G (k * 4 + q) = 0 := by
      rcases Classical.em (gOff G (k * 4 + q) = 0) with h | h
      · exact h
      · rw [bid_t.mpr h] at hb; cases hb
    rw [i0] at this
    exact ⟨fun _ => rfl, fun _ => by omega⟩
  · have := bid_t.mp hb
    rw [ne_eq, i0] at this
    exact ⟨fun h => by omega, fun h => absurd h (by decide)⟩
/-! loops -/
theorem itF_c {σ : Type} {f g : Nat → σ → σ} (N : Nat) (h : ∀ k s, k < N → f k s = g k s) : ∀ (n k : Nat) (s : σ), k + n = N → itF f n k s = itF g n k s := by
  intro n
  induction n with
  | zero => intro k s _; rfl
  | succ n ih =>
    intro k s hk
    show itF f n (k + 1) (f k s) = itF g n (k + 1) (g k s)
    rw [h k s (by omega)]
    exact ih (k + 1) _ (by omega)
theorem itF_id {σ : Type} {f : Nat → σ → σ} : ∀ (n k : Nat) (s : σ), (∀ j s, k ≤ j → j < k + n → f j s = s) → itF f n k s = s := by
  intro n
  induction n with
  | zero => intro k s _; rfl
  | succ n ih =>
    intro k s h
    show itF f n (k + 1) (f k s) = s
    rw [h k s (Nat.le_refl _) (by omega)]
    exact ih (k + 1) s (fun j s hj hj2 => h j s (by omega) (by omega))
theorem itF_add {σ : Type} {f : Nat → σ → σ} : ∀ (n m k : Nat) (s : σ), itF f (n + m) k s = itF f m (k + n) (itF f n k s) := by
  intro n
  induction n with
  | zero => intro m k s; rw [Nat.zero_add]; rfl
  | succ n ih =>
    intro m k s
    rw [show n + 1 + m = (n + m) + 1 by omega]
    show itF f (n + m) (k + 1) (f k s) = itF f m (k + (n + 1)) (itF f n (k + 1) (f k s))
    rw [ih, show k + 1 + n = k + (n + 1) by omega]
theorem itF_4 {σ : Type} {f : Nat → σ → σ} {P : Nat} (hP : P ≤ 4) (s : σ) (h : ∀ j s, P ≤ j → j < 4 → f j s = s) : itF f 4 0 s = itF f P 0 s := by
  have e : itF f (P + (4 - P)) 0 s = _ := itF_add P (4 - P) 0 s
  rw [show P + (4 - P) = 4 by omega] at e
  rw [e]
  exact itF_id _ _ _ (fun j s hj hj2 => h j s (by omega) (by omega))
