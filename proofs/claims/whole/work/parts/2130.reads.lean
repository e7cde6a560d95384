/-! reading: digits, numbers, signs, on both sides -/
def AG (S : SS) (tx : Nat → Int32) (si pl : Nat) : Prop := sSiz S = si ∧ sAt S = pl ∧ ∀ j, j < si → sSgn S j = tx j
def dg (tx : Nat → Int32) (si pl : Nat) : Bool := f_X8_isIn (f_X8_letterHere tx si pl) 48 57
def nr (tx : Nat → Int32) (si : Nat) (v : Bool) (pl : Nat) : Option (Int32 × Nat) := if dg tx si pl = true then (if (v && dg tx si (pl + 1)) = true then some (10 * (tx pl - 48) + (tx (pl + 1) - 48), pl + 2) else some (tx pl - 48, pl + 1)) else none
def sg (tx : Nat → Int32) (si pl : Nat) (x : Int32) : Bool := decide (pl < si) && decide (tx pl = x)
theorem here_in {tx : Nat → Int32} {si pl : Nat} (hs : si ≤ 60) (hp : pl ≤ 61) : f_X8_letterHere tx si pl = if pl < si then tx pl else -1 := by
  unfold f_X8_letterHere f_X8_letterHere_j24
  have : nI si ≤ nI pl ↔ si ≤ pl := by rw [ile, nI_toInt (by omega), nI_toInt (by omega)]; omega
  by_cases c : pl < si
  · rw [if_pos c, if_neg (fun z => by have := this.mp z; omega)]
  · rw [if_neg c, if_pos (this.mpr (by omega))]
theorem dg_lt {tx : Nat → Int32} {si pl : Nat} (hs : si ≤ 60) (hp : pl ≤ 61) (h : dg tx si pl = true) : pl < si := by
  unfold dg at h
  rw [here_in hs hp] at h
  by_cases c : pl < si
  · exact c
  · rw [if_neg c] at h
    exact absurd h (by decide)
theorem isDig {S : SS} {tx : Nat → Int32} {si pl : Nat} (hs : si ≤ 60) (hp : pl ≤ 61) (a : AG S tx si pl) : f_X4_isDigitNext S = dg tx si pl := by
  obtain ⟨a1, a2, a3⟩ := a
  unfold f_X4_isDigitNext f_X4_isDigitNext_j43 f_X4_isDigitNext_j44 dg
  rw [here_in hs hp, a1, a2]
  have le : nI si ≤ nI pl ↔ si ≤ pl := by rw [ile, nI_toInt (by omega), nI_toInt (by omega)]; omega
  have e48 : (48 : Int32).toInt = 48 := rfl
  have e57 : (57 : Int32).toInt = 57 := rfl
  by_cases c : pl < si
  · rw [if_pos c, if_neg (fun z => by have := le.mp z; omega), a3 pl c]
    have it := isIn_t2 (x := tx pl) e48 e57
    by_cases d : tx pl < 48
    · rw [if_pos d]
      rw [ilt, e48] at d
      cases q : f_X8_isIn (tx pl) 48 57
      · rfl
      · have := it.mp q; omega
    · rw [if_neg d]
      rw [ilt, e48] at d
      by_cases g : 57 < tx pl
      · rw [if_pos g]
        rw [ilt, e57] at g
        cases q : f_X8_isIn (tx pl) 48 57
        · rfl
        · have := it.mp q; omega
      · rw [if_neg g]
        rw [ilt, e57] at g
        exact (it.mpr (by omega)).symm
  · rw [if_neg c, if_pos (le.mpr (by omega))]
    rfl
/-- the class reads a number -/
theorem cl_num {S : SS} {tx : Nat → Int32} {si pl : Nat} (hs : si ≤ 60) (hp : pl ≤ si) (a : AG S tx si pl) (i : Nat) (v : Bool) : f_X4_readNumber S i v = match nr tx si v pl with
    | none => (false, S)
    | some (x, q) => (true, mkS (sSgn S) (sSiz S) q (sVb S) (upd (sNum S) i x)) := by
  unfold f_X4_readNumber f_X4_readNumber_j50 f_X4_readDigit lt_ nr
  rw [isDig hs (by omega) a]
  obtain ⟨a1, a2, a3⟩ := a
  cases d : dg tx si pl
  · rfl
  · have lt := dg_lt hs (by omega) d
    rw [if_pos rfl, if_pos rfl]
    dsimp only
    have a' : AG (mkS (sSgn S) (sSiz S) (sAt S + 1) (sVb S) (upd (sNum S) i (sSgn S (sAt S) - 48))) tx si (pl + 1) := ⟨a1, by rw [← a2], a3⟩
    cases v
    · rw [if_neg (by decide), Bool.false_and, if_neg (by decide)]
      dsimp only
      rw [a2, a3 pl lt]
    · rw [if_pos rfl, Bool.true_and]
      have e := isDig hs (by omega) a'
      have e : f_X4_isDigitNext (mkS (sSgn S) (sSiz S) (sAt S + 1) (sVb S) (upd (sNum S) i (sSgn S (sAt S) - 48))) = dg tx si (pl + 1) := e
      cases d2 : dg tx si (pl + 1)
      · rw [d2] at e
        rw [if_neg (show ¬ false = true by decide)]
        dsimp only
        have e3 : ¬ f_X4_isDigitNext (mkS (sSgn S) (sSiz S) (sAt S + 1) (sVb S) (upd (sNum S) i (sSgn S (sAt S) - 48))) = true := by rw [e]; decide
        refine (if_neg e3).trans ?_
        rw [a2, a3 pl lt]
      · rw [d2] at e
        have lt2 := dg_lt hs (by omega) d2
        rw [if_pos (show true = true from rfl)]
        dsimp only
        refine (if_pos e).trans ?_
        show (true, mkS (sSgn S) (sSiz S) (sAt S + 1 + 1) (sVb S) (upd (upd (sNum S) i (sSgn S (sAt S) - 48)) i ((upd (sNum S) i (sSgn S (sAt S) - 48)) i * 10 + (sSgn S (sAt S + 1) - 48)))) = _
        rw [pk_us, a2, a3 pl lt, a3 (pl + 1) lt2, Int32.mul_comm]
        congr 2
        funext j
        by_cases z : j = i
        · subst z; rw [pk_us, pk_us]
        · rw [pk_un z, pk_un z, pk_un z]
theorem cl_sign {S : SS} {tx : Nat → Int32} {si pl : Nat} (hs : si ≤ 60) (hp : pl ≤ si) (a : AG S tx si pl) (x : Int32) : f_X4_readSign S x = (sg tx si pl x, mkS (sSgn S) (sSiz S) (if sg tx si pl x = true then pl + 1 else pl) (sVb S) (sNum S)) := by
  obtain ⟨a1, a2, a3⟩ := a
  have le : nI si ≤ nI pl ↔ si ≤ pl := by rw [ile, nI_toInt (by omega), nI_toInt (by omega)]; omega
  unfold f_X4_readSign f_X4_readSign_j24 sg
  rw [a1, a2]
  by_cases c : pl < si
  · rw [if_neg (fun z => by have := le.mp z; omega), a3 pl c, decide_eq_true c, Bool.true_and]
    by_cases d : tx pl = x
    · rw [if_pos d, decide_eq_true d, if_pos rfl]
    · rw [if_neg d, decide_eq_false d, if_neg (by decide)]
  · rw [if_pos (le.mpr (by omega)), decide_eq_false c, Bool.false_and, if_neg (by decide)]
/-- the reference reads a digit, a number, a sign -/
theorem rf_no {tx : Nat → Int32} {si pl : Nat} {wr : Int32} (h : ¬ wr = -1) (x y : Int32) : f_X8_reads tx si pl wr x y = (0, pl, wr) := by
  unfold f_X8_reads f_X8_reads_j44 f_X8_reads_j64
  rw [if_neg h, if_neg h]
theorem rf_digit {tx : Nat → Int32} {si pl : Nat} : f_X8_digit tx si pl (-1) = match nr tx si false pl with
    | none => (0, pl, nI pl)
    | some (x, q) => (x, q, -1) := by
  unfold f_X8_digit f_X8_reads f_X8_reads_j44 f_X8_reads_j64 lt_ nr
  unfold dg
  cases f_X8_isIn (f_X8_letterHere tx si pl) 48 57 <;> rfl
theorem rf_digit_no {tx : Nat → Int32} {si pl : Nat} {wr : Int32} (h : ¬ wr = -1) : f_X8_digit tx si pl wr = (0, pl, wr) := by
  unfold f_X8_digit lt_
  rw [rf_no h]
theorem rf_number {tx : Nat → Int32} {si pl : Nat} (hp : pl < 2 ^ 30) : f_X8_number tx si pl (-1) = match nr tx si true pl with
    | none => (0, pl, nI pl)
    | some (x, q) => (x, q, -1) := by
  unfold f_X8_number f_X8_number_j39 f_X8_number_j40 lt_
  rw [rf_digit]
  unfold nr
  cases d : dg tx si pl
  · dsimp only
    rw [if_neg (show ¬ false = true by decide), if_neg (show ¬ false = true by decide)]
    dsimp only
    rw [if_neg (nI_m1_ne (by omega))]
  · rw [if_pos rfl, if_pos rfl, Bool.false_and, if_neg (show ¬ false = true by decide), Bool.true_and]
    dsimp only
    rw [if_pos rfl]
    cases d2 : dg tx si (pl + 1)
    · have d2' : f_X8_isIn (f_X8_letterHere tx si (pl + 1)) 48 57 = false := d2
      rw [d2', if_neg (show ¬ false = true by decide), if_neg (show ¬ false = true by decide)]
    · have d2' : f_X8_isIn (f_X8_letterHere tx si (pl + 1)) 48 57 = true := d2
      rw [d2', if_pos rfl, if_pos rfl, rf_digit]
      unfold nr
      rw [d2, if_pos rfl, Bool.false_and, if_neg (show ¬ false = true by decide)]
theorem rf_number_no {tx : Nat → Int32} {si pl : Nat} {wr : Int32} (h : ¬ wr = -1) : f_X8_number tx si pl wr = (0, pl, wr) := by
  unfold f_X8_number f_X8_number_j39 f_X8_number_j40 lt_
  rw [rf_digit_no h]
  dsimp only
  rw [if_neg h]
theorem rf_sign {tx : Nat → Int32} {si pl : Nat} (hs : si ≤ 60) (hp : pl ≤ 61) {x : Int32} (hx : 0 ≤ x.toInt) : f_X8_reads tx si pl (-1) x x = if sg tx si pl x = true then (0, pl + 1, -1) else (0, pl, nI pl) := by
  unfold f_X8_reads f_X8_reads_j44 f_X8_reads_j64
  rw [if_pos rfl, here_in hs hp]
  have it : ∀ y, (f_X8_isIn y x x = true ↔ y = x) := fun y => by
    rw [isIn_t2 rfl rfl]
    exact ⟨fun z => Int32.toInt_inj.mp (by omega), fun z => by rw [z]; exact ⟨Int.le_refl _, Int.le_refl _⟩⟩
  unfold sg
  by_cases c : pl < si
  · rw [if_pos c, decide_eq_true c, Bool.true_and]
    by_cases d : tx pl = x
    · rw [if_pos ((it _).mpr d), decide_eq_true d, if_pos rfl, d, Int32.sub_self]
    · rw [if_neg (fun z => d ((it _).mp z)), decide_eq_false d, if_neg (show ¬ false = true by decide), if_pos rfl]
  · rw [if_neg c, decide_eq_false c, Bool.false_and, if_neg (show ¬ false = true by decide), if_neg (fun z => by
      have := (it _).mp z
      rw [← this] at hx
      exact absurd hx (by decide)), if_pos rfl]
theorem rf_blank {tx : Nat → Int32} {si pl : Nat} (hs : si ≤ 60) (hp : pl ≤ 61) : f_X8_blank tx si pl (-1) = if sg tx si pl 32 = true then (pl + 1, -1) else (pl, nI pl) := by
  unfold f_X8_blank lt_
  rw [rf_sign hs hp (by decide)]
  split <;> rfl
theorem rf_blank_no {tx : Nat → Int32} {si pl : Nat} {wr : Int32} (h : ¬ wr = -1) : f_X8_blank tx si pl wr = (pl, wr) := by
  unfold f_X8_blank lt_
  rw [rf_no h]
