theorem amt_nn {G : GS} (h : GI1 G) {q k : Nat} (hk : k < 12) (hq : q < 4) : 0 ≤ (f_X1_amountOf G q k).toInt := by
  rw [amt_int h hk hq]; omega
theorem amt_0 {G : GS} (h : GI1 G) {q k : Nat} (hk : k < 12) (hq : q < 4) (h2 : gS G ≤ k ∨ gP G ≤ q) : (f_X1_amountOf G q k).toInt = 0 := by
  rw [amt_int h hk hq, h.2.1 k hk q hq h2]; rfl
/-- the class's loop and the reference's over the amounts of a site -/
theorem winL {G : GS} (hG : GSafe G) (k : Nat) : f_X1_winnerOf_l24 G k (gP G) 0 (-1) 0 = (itF (wC1 (fun q => f_X1_amountOf G q k)) (gP G) 0 (-1, 0)).1 := by
  unfold f_X1_winnerOf_l24
  rw [lpF_it (wC1 (fun q => f_X1_amountOf G q k)) (gP G) (fun q s hq => by
    show f_X1_winnerOf_l24b G k q s.1 s.2 = _
    unfold f_X1_winnerOf_l24b f_X1_winnerOf_j55 wC1
    split <;> rfl) _ _ _ (Nat.zero_add _)]
  rfl
theorem winR0 (f : Nat → Int32) (x : Int32) : ∀ (n j b : Nat), j + n = 4 → lpF (f_X8_winner_l4s f x) (f_X8_winner_l4e f x) n j b = f_X8_winner_l4x f x (itF (wR1 (fun q => f_X8_of f x (5 + q))) n j b) := by
  intro n j b hj
  rw [lpF_it (step := f_X8_winner_l4s f x) (ex := f_X8_winner_l4e f x) (wR1 (fun q => f_X8_of f x (5 + q))) 4 (fun q s hq => by
    show f_X8_winner_l4b f x q s = _
    unfold f_X8_winner_l4b f_X8_winner_j33 wR1
    split <;> rfl) n j b hj]
  rfl
theorem winR1 (f : Nat → Int32) (x : Int32) {n j b : Nat} (hj : j + n = 4) : f_X8_winner_l4 f x n j b = f_X8_winner_l4x f x (itF (wR1 (fun q => f_X8_of f x (5 + q))) n j b) := winR0 f x n j b hj
theorem wR1_c {a c : Nat → Int32} {j b : Nat} (h1 : a j = c j) (h2 : a b = c b) : wR1 a j b = wR1 c j b := by
  unfold wR1
  rw [h1, h2]
theorem wR1_lt {a : Nat → Int32} {j b : Nat} (hj : j < 4) (hb : b < 4) : wR1 a j b < 4 := by
  unfold wR1
  split
  · exact hb
  · exact hj
theorem winR2 {G : GS} {f : Nat → Int32} (hG : GSafe G) (h : NR G f) {k : Nat} (hk : k < gS G) : ∀ (n j b : Nat), j + n = 4 → b < 4 → itF (wR1 (fun q => f_X8_of f (nI k) (5 + q))) n j b = itF (wR1 (fun q => f_X1_amountOf G q k)) n j b := by
  intro n
  induction n with
  | zero =>
    intro j b _ _
    have s0 : ∀ (g : Nat → Nat → Nat), itF g 0 j b = b := fun _ => rfl
    rw [s0, s0]
  | succ n ih =>
    intro j b hj hb
    have hj4 : j < 4 := by omega
    have e1 : wR1 (fun q => f_X8_of f (nI k) (5 + q)) j b = wR1 (fun q => f_X1_amountOf G q k) j b := wR1_c (ofAmt hG h hk hj4) (ofAmt hG h hk hb)
    have s1 : ∀ (g : Nat → Nat → Nat), itF g (n + 1) j b = itF g n (j + 1) (g j b) := fun _ => rfl
    rw [s1, s1, e1]
    exact ih (j + 1) _ (by omega) (wR1_lt hj4 hb)
theorem winR3 (f : Nat → Int32) (x : Int32) (b : Nat) : f_X8_winner_l4x f x b = if f_X8_of f x 4 = -1 then nI b else f_X8_of f x 4 := rfl
theorem winR {G : GS} {f : Nat → Int32} (hG : GSafe G) (h : NR G f) {k : Nat} (hk : k < gS G) : f_X8_winner f (nI k) = if gFer G k = -1 then nI (itF (wR1 (fun q => f_X1_amountOf G q k)) 3 1 0) else gFer G k := by
  unfold f_X8_winner
  rw [winR1 f (nI k) (n := 4 - 1) (j := 1) (b := 0) rfl, winR3, ofFer hG h hk, winR2 hG h hk (4 - 1) 1 0 rfl (by decide)]
