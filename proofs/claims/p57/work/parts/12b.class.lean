/-! the class's own cells -/
abbrev uA (u : Nat → Nat) : Nat → Nat := fun i => u (10 + i)
abbrev uB (u : Nat → Nat) : Nat → Nat := fun i => u (30 + i)
abbrev uC (u : Nat → Nat) : Nat → Nat := fun i => u (50 + i)
abbrev uG (u : Nat → Nat) : Nat → Nat := fun i => u (70 + i)
abbrev uS (u : Nat → Nat) : Nat → Nat := fun i => u (80 + i)
abbrev uO (u : Nat → Nat) : Nat → Nat := fun i => u (90 + i)
abbrev uH (u : Nat → Nat) : Nat → Nat := fun i => u (100 + i)
abbrev QS : Type := Bool × Int32 × Int32
abbrev qHs (Q : QS) : Bool := Q.1
abbrev qEr (Q : QS) : Int32 := Q.2.1
abbrev qFa (Q : QS) : Int32 := Q.2.2
abbrev mkQ (x : Bool) (y z : Int32) : QS := (x, y, z)
abbrev acells (C : Nat → ClassId) (u : Nat → Nat) (Q : QS) : va_W := [(u 0, .inr (8, [.ref (uA u 0), .ref (uB u 0), .ref (uC u 0), .ref (uG u 0), .ref (uH u 0), .ref (uS u 0), .ref (uO u 0), .int (bI (qHs Q)), .int (qEr Q), .int (qFa Q)]))]
abbrev SS : Type := (Nat → Int32) × Nat × Nat × Nat × (Nat → Int32)
abbrev sSgn (S : SS) : Nat → Int32 := S.1
abbrev sSiz (S : SS) : Nat := S.2.1
abbrev sAt (S : SS) : Nat := S.2.2.1
abbrev sVb (S : SS) : Nat := S.2.2.2.1
abbrev sNum (S : SS) : Nat → Int32 := S.2.2.2.2
abbrev mkS (x : Nat → Int32) (y z w : Nat) (v : Nat → Int32) : SS := (x, y, z, w, v)
abbrev scells (C : Nat → ClassId) (ev : Nat → Nat) (a : Nat → Nat) (S : SS) : va_W := [(a 0, .inr (7, [.ref (a 1), .int (nI (sSiz S)), .int (nI (sAt S)), .ref (ev (10 + sVb S)), .ref (a 2)])), (a 1, .inl (C 1, 60, .inl (sSgn S))), (a 2, .inl (C 0, 3, .inl (sNum S)))]
abbrev HS : Type := (Nat → GS) × Nat × Nat
abbrev hRg (S : HS) : Nat → GS := S.1
abbrev hNx (S : HS) : Nat := S.2.1
abbrev hCt (S : HS) : Nat := S.2.2
abbrev hG (h : Nat → Nat) (j : Nat) : Nat → Nat := fun i => h (10 + 10 * j + i)
abbrev mkHS (x : Nat → GS) (y z : Nat) : HS := (x, y, z)
