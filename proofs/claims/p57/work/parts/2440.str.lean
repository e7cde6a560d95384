/-! a text, wherever it lies: o the String, v its bytes; read alone -/
def STR (o v n : Nat) (t : Nat → Int32) (A : Nat → Prop) (U : State) (H : Heap) : Prop := va_O "java/lang/String" o A U H ∧ va_OF "java/lang/String" "coder" "B" (.int 0) o A U H ∧ va_OF "java/lang/String" "value" "[B" (.ref v) o A U H ∧ va_T .byte v n (fun j => .int (t j)) A U H
theorem STR.moved {o v n : Nat} {t : Nat → Int32} {A : Nat → Prop} {u U : State} {H : Heap} (hvm : u.vm.Alike U.vm) (h : STR o v n t A u H) : STR o v n t A U H := ⟨va_O.moved hvm h.1, va_OF.moved hvm h.2.1, va_OF.moved hvm h.2.2.1, va_T.moved hvm h.2.2.2⟩
theorem STR.kept {o v n : Nat} {t : Nat → Int32} {A : Nat → Prop} {U : State} {H H1 : Heap} (h : STR o v n t A U H) (hq : ∀ a : Nat, a < H.size → ¬ A a → H1[a]? = H[a]?) : STR o v n t A U H1 := ⟨h.1.kept hq, h.2.1.kept hq, h.2.2.1.kept hq, h.2.2.2.kept hq⟩
theorem STR.narrow {o v n : Nat} {t : Nat → Int32} {A B : Nat → Prop} {U : State} {H : Heap} (h : STR o v n t A U H) (hAB : ∀ q, B q → A q) : STR o v n t B U H := ⟨h.1.narrow hAB, h.2.1.narrow hAB, h.2.2.1.narrow hAB, h.2.2.2.narrow hAB⟩
/-- the law's own texts and the class's -/
theorem STR_lit {ev : Nat → Nat} {A : Nat → Prop} {U : State} {H : Heap} (h : vk_S 23 (txtL.map List.length) txtL (fun i => ev (40 + i)) (fun i => ev (70 + i)) A U H) {i : Nat} (hi : i < 23) : STR (ev (40 + i)) (ev (70 + i)) (tlen i) (tbyt i) A U H := h.1 i hi
/-- a text that stands in the world -/
abbrev tcel (C : Nat → ClassId) (o v n : Nat) (h z : Value) (t : Nat → Int32) : va_W := [(o, .inr (0, [.ref v, .int 0, h, z])), (v, .inl (C 3, n, .inl t))]
theorem STR_of {D : va_G} {C : Nat → ClassId} {ev : Nat → Nat} {ws : va_W} {H H0 : Heap} {s : State} {o v n q q' : Nat} {t : Nat → Int32} {h z : Value} {A A0 : Nat → Prop} (hK : va_K D vwCl (tyA C) s) (hP : va_P D vwCl ws H) (hq : ws[q]? = some (o, .inr (0, [.ref v, .int 0, h, z]))) (hq' : ws[q']? = some (v, .inl (C 3, n, .inl t))) (hX : vk_S 23 (txtL.map List.length) txtL (fun i => ev (40 + i)) (fun i => ev (70 + i)) A0 s H0) (ho : ¬ A o) (hv : ¬ A v) : STR o v n t A s H := by
  obtain ⟨r, hr, cell, c1, c2, c3, c4⟩ := hP q _ hq
  obtain rfl : r = (RJ0, TJ0, 4) := (Option.some.inj hr).symm
  obtain ⟨ks, kc⟩ := hK.1 0 (RJ0, TJ0, 4) rfl
  have cv : cell.vm ≠ .unknown := by rw [c3]; intro e; cases e
  have f1 : va_OF "java/lang/String" "coder" "B" (.int 0) o A s H := by
    obtain ⟨cf, k, fi, f, cell', h1, h2, -⟩ := (hX.1 0 (by decide)).2.1
    obtain ⟨cf', kf', fi', fd, g1, g2⟩ := ks 1 (by decide)
    have g1 : s.fieldFound? "java/lang/String" "coder" "B" = some (cf', kf', fi', fd) := g1
    have e := Option.some.inj (h1.symm.trans g1)
    have e4 : f = fd := congrArg (fun q => q.2.2.2) e
    subst e4
    exact ⟨cf, k, fi, f, cell, h1, h2, c1, cv, by rw [g2]; exact c4 1 (by decide), ho⟩
  have f0 : va_OF "java/lang/String" "value" "[B" (.ref v) o A s H := by
    obtain ⟨cf, k, fi, f, cell', h1, h2, -⟩ := (hX.1 0 (by decide)).2.2.1
    obtain ⟨cf', kf', fi', fd, g1, g2⟩ := ks 0 (by decide)
    have g1 : s.fieldFound? "java/lang/String" "value" "[B" = some (cf', kf', fi', fd) := g1
    have e := Option.some.inj (h1.symm.trans g1)
    have e4 : f = fd := congrArg (fun q => q.2.2.2) e
    subst e4
    exact ⟨cf, k, fi, f, cell, h1, h2, c1, cv, by rw [g2]; exact c4 0 (by decide), ho⟩
  have hc : H[v]? = some (arrV (C 3) n (fun j => .int (t j))) := hP q' _ hq'
  refine ⟨⟨cell, c1, by rw [c3]; rfl, by rw [c2]; exact kc.1, ho⟩, f1, f0, arrV (C 3) n (fun j => .int (t j)), hc, (hK.2 3 _ rfl).1 n (fun j => .int (t j)), (fun e => by cases e), Nat.le_of_eq (arrV_size _ _ _).symm, by rw [arrV_size]; first | done | rfl, fun j hj => arrV_read _ _ hj, hv⟩
def roS (av : List Value) (D : va_G) (C : Nat → ClassId) (ev : Nat → Nat) (ws : va_W) (o v n : Nat) (t : Nat → Int32) : Array Value → State → Prop := fun a U => roPE av D C ev ws a U ∧ STR o v n t (fun _ => False) U U.heap
def oS (av : List Value) (D : va_G) (C : Nat → ClassId) (ev : Nat → Nat) (ws : va_W) (sz o v n : Nat) (t : Nat → Int32) : Array Value → State → Prop := fun a U => oP av D C ev ws sz a U ∧ STR o v n t (va_A ws sz) U U.heap
theorem roS_blind {av : List Value} {D : va_G} {C : Nat → ClassId} {ev : Nat → Nat} {ws : va_W} {o v n : Nat} {t : Nat → Int32} : FrameBlind (roS av D C ev ws o v n t) := fun a U g mk q => ⟨roPE_blind a U g mk q.1, STR.moved (u := U) (U := U.calling g mk a) (Vm.Alike.refl U.vm) q.2⟩
theorem oS_blind {av : List Value} {D : va_G} {C : Nat → ClassId} {ev : Nat → Nat} {ws : va_W} {sz o v n : Nat} {t : Nat → Int32} : FrameBlind (oS av D C ev ws sz o v n t) := fun a U g mk q => ⟨oP_blind a U g mk q.1, STR.moved (u := U) (U := U.calling g mk a) (Vm.Alike.refl U.vm) q.2⟩
section
variable {s : State} {H : Heap} {D : va_G} {C : Nat → ClassId} {ev : Nat → Nat} {ws : va_W} {X : String} {b : Addr} {As : List Value} {A : Nat → Prop} {locs : List Loc} {o v n : Nat} {t : Nat → Int32}
theorem STR_recv (h : STR o v n t A s s.heap) (hS : va_S A s.heap H locs) : ∃ cell : Cell, H[o]? = some cell ∧ cell.vm.isStatics = false ∧ s.vm.findClass "java/lang/String" = some cell.cls := by
  obtain ⟨cell, h1, h2, h3, -⟩ := h.1.kept hS.2.1
  exact ⟨cell, h1, h2, h3⟩
theorem roS_v (hP : va_P D vwCl ws H) (hK : va_K D vwCl (tyA C) s) (hE : EN s) (hR : RVs ev s) (hX : EVs ev A s s.heap) (hT : STR o v n t A s s.heap) (hS : va_S A s.heap H locs) (hr : ∃ cell : Cell, H[b]? = some cell ∧ cell.vm.isStatics = false ∧ s.vm.findClass X = some cell.cls) : PreV s H X b (roS (.ref b :: As) D C ev ws o v n t) As :=
  ⟨roS_blind, hr, fun U hU hW => ⟨(roPE_v hP hK hE hR hX hS hr).2.2 U hU hW, by rw [hU]; exact ((hT.kept hS.2.1).moved hW.alike).narrow (fun _ h => h.elim)⟩⟩
theorem roS_s (hP : va_P D vwCl ws H) (hK : va_K D vwCl (tyA C) s) (hE : EN s) (hR : RVs ev s) (hX : EVs ev A s s.heap) (hT : STR o v n t A s s.heap) (hS : va_S A s.heap H locs) : PreS s H (roS As D C ev ws o v n t) As :=
  ⟨roS_blind, fun U hU hW => ⟨(roPE_s hP hK hE hR hX hS).2 U hU hW, by rw [hU]; exact ((hT.kept hS.2.1).moved hW.alike).narrow (fun _ h => h.elim)⟩⟩
theorem oS_v (hP : va_P D vwCl ws H) (hK : va_K D vwCl (tyA C) s) (hE : EN s) (hD : va_D A ws) (hR : RVs ev s) (hX : EVs ev A s s.heap) (hV : DVs ev A s s.heap) (hT : STR o v n t A s s.heap) (hS : va_S A s.heap H locs) (hF : ∀ q, va_A ws H.size q → A q) (hr : ∃ cell : Cell, H[b]? = some cell ∧ cell.vm.isStatics = false ∧ s.vm.findClass X = some cell.cls) : PreV s H X b (oS (.ref b :: As) D C ev ws H.size o v n t) As :=
  ⟨oS_blind, hr, fun U hU hW => ⟨(oP_v hP hK hE hD hR hX hV hS hF hr).2.2 U hU hW, by rw [hU]; exact ((hT.kept hS.2.1).moved hW.alike).narrow hF⟩⟩
end
