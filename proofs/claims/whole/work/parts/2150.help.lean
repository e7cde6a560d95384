/-! the law's helpers: a call that may throw, caught; its answer in a row of longs -/
abbrev lcells (C : Nat → ClassId) (o : Nat) (F : Nat → Int64) : va_W := [(o, .inl (C 4, 1, .inr (.inl F)))]
abbrev dcells (C : Nat → ClassId) (o : Nat) (F : Nat → UInt64) : va_W := [(o, .inl (C 5, 1, .inr (.inr (.inr (.inl F)))))]
def NCs (U : State) : Prop := ∀ c d, 0 < c → c < 7 → 0 < d → d < 7 → c ≠ d → va_Nc (xN c) (xN d) U
theorem NCs.warm {u U : State} (h : u.WarmedH U.vm) (e : NCs u) : NCs U := sorry
theorem NCs.same {u U : State} (h : U.vm = u.vm) (e : NCs u) : NCs U := fun c d h1 h2 h3 h4 h5 => by
  obtain ⟨a, b, k1, k2, k3⟩ := e c d h1 h2 h3 h4 h5
  exact ⟨a, b, by rw [h]; exact k1, by rw [h]; exact k2, by rw [h]; exact k3⟩
def hlP (av : List Value) (D : va_G) (C : Nat → ClassId) (v : Nat → Nat) (ws : va_W) (sz : Nat) : Array Value → State → Prop := fun a U => xP av D C v ws sz a U ∧ NCs U
/-- the answer in the row of longs -/
def oF (c : Nat) (x : Int64) (F : Nat → Int64) : Nat → Int64 := if c = 0 then vp_updL F 0 x else F
theorem vp01 : vp_in 0 1 := vp_of_int (by decide) (by decide)
