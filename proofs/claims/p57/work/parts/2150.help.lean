/-! the law's helpers: a call that may throw, caught; its answer in a row of longs -/
def NCs (U : State) : Prop := ∀ c d, 0 < c → c < 6 → 0 < d → d < 6 → c ≠ d → va_Nc (xN c) (xN d) U
theorem NCs.warm {u U : State} (h : u.WarmedH U.vm) (e : NCs u) : NCs U := fun c d h1 h2 h3 h4 h5 => va_Nc.moved h.alike (e c d h1 h2 h3 h4 h5)
theorem NCs.same {u U : State} (h : U.vm = u.vm) (e : NCs u) : NCs U := fun c d h1 h2 h3 h4 h5 => by
  obtain ⟨a, b, k1, k2, k3⟩ := e c d h1 h2 h3 h4 h5
  exact ⟨a, b, by rw [h]; exact k1, by rw [h]; exact k2, by rw [h]; exact k3⟩
theorem va_Nw.warmL {a b : String} {i : Nat} {s U : State} (hW : s.WarmedH U.vm) (hZ : va_Nw (.classLink a i b) s) : va_Nw (.classLink a i b) U := va_tabs (A := #[]) rfl (rfl : (s.setVm U.vm).vm = U.vm) (by
  have h := State.classLinks_warmed hW a i b
  unfold va_Nw at hZ
  simp only [Cond.before, Cond.holds, Cond.value] at hZ ⊢
  rw [h]
  exact hZ)
def clI : Nat → Nat
  | 1 => 56
  | 2 => 58
  | 3 => 60
  | 4 => 62
  | _ => 64
/-- the classes of the helpers' handlers -/
def CLs (U : State) : Prop := ∀ c, 0 < c → c < 6 → va_Nw (.classLink RL (clI c) (xN c)) U
theorem CLs.warm {u U : State} (h : u.WarmedH U.vm) (e : CLs u) : CLs U := fun c h1 h2 => va_Nw.warmL h (e c h1 h2)
theorem CLs.same {u U : State} (h : U.vm = u.vm) (e : CLs u) : CLs U := fun c h1 h2 => va_Nw.same rfl h.symm (e c h1 h2)
def hlP (av : List Value) (D : va_G) (C : Nat → ClassId) (v : Nat → Nat) (ws : va_W) (sz : Nat) : Array Value → State → Prop := fun a U => xP av D C v ws sz a U ∧ NCs U ∧ CLs U
theorem vp01 : vp_in 0 1 := vp_of_int (by decide) (by decide)
theorem pass1 {α : Type} {P : α → Prop} {a : α} (h : P a) : ∀ z ∈ [a], P z := fun z hz => by rw [List.mem_singleton.mp hz]; exact h
theorem pass2 {α : Type} {P : α → Prop} {a b : α} (h : P a) (g : P b) : ∀ z ∈ [a, b], P z := fun z hz => by
  rcases List.mem_cons.mp hz with e | e
  · rw [e]; exact h
  · exact pass1 g z e
theorem pass3 {α : Type} {P : α → Prop} {a b c : α} (h : P a) (g : P b) (k : P c) : ∀ z ∈ [a, b, c], P z := fun z hz => by
  rcases List.mem_cons.mp hz with e | e
  · rw [e]; exact h
  · exact pass2 g k z e
def hloP (av : List Value) (D : va_G) (C : Nat → ClassId) (v : Nat → Nat) (ws : va_W) (sz : Nat) : Array Value → State → Prop := fun a U => xoP av D C v ws sz a U ∧ NCs U ∧ CLs U
