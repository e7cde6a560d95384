/-! own layer: numbers for truths, loops as functions, outcomes that leave the heap alone -/
def bI (b : Bool) : Int32 := if b = true then 1 else 0
theorem bI_nar (b : Bool) : narrow .boolean (.int (bI b)) = .int (bI b) := by cases b <;> rfl
theorem bI_0 (b : Bool) : bI b = 0 ↔ b = false := by cases b <;> decide
theorem bI_1 (b : Bool) : bI b = 1 ↔ b = true := by cases b <;> decide
def sE {α β γ : Type} (f : α → γ) (g : β → γ) : Sum α β → γ
  | .inl a => f a
  | .inr b => g b
def lpF {σ ρ : Type} (step : Nat → σ → Sum ρ σ) (ex : σ → ρ) : Nat → Nat → σ → ρ
  | 0, _, s => ex s
  | n + 1, k, s => sE id (lpF step ex n (k + 1)) (step k s)
def lpW {σ ρ : Type} (d : ρ) (step : σ → Sum ρ σ) : Nat → σ → ρ
  | 0, _ => d
  | n + 1, s => sE id (lpW d step n) (step s)
theorem up1 {ρ σ : Type} {z : ρ} {f : σ → ρ} {y : Sum ρ σ} {t : ρ} (h : z = sE id f y) (hz : y = .inl t) : z = t := by rw [h, hz]; rfl
abbrev imax (x y : Int32) : Int32 := if x < y then y else x
abbrev imin (x y : Int32) : Int32 := if y < x then y else x
abbrev iabs (x : Int32) : Int32 := if 0 ≤ x then x else 0 - x
theorem imin_in {i j n : Nat} (hi : i < n) (hj : j < n) (hn : n < 2 ^ 31 := by decide) : vp_in (imin (nI i) (nI j)) n := by
  unfold imin
  split
  · exact vp_in_nI hj hn
  · exact vp_in_nI hi hn
theorem imax_in {i j n : Nat} (hi : i < n) (hj : j < n) (hn : n < 2 ^ 31 := by decide) : vp_in (imax (nI i) (nI j)) n := by
  unfold imax
  split
  · exact vp_in_nI hj hn
  · exact vp_in_nI hi hn
/-- a loop keeps what its steps keep -/
theorem lpF_inv {σ ρ : Type} {step : Nat → σ → Sum ρ σ} {ex : σ → ρ} (I : Nat → σ → Prop) (P : ρ → Prop) (h1 : ∀ k s r, I k s → step k s = .inl r → P r) (h2 : ∀ k s s', I k s → step k s = .inr s' → I (k + 1) s') (h3 : ∀ k s, I k s → P (ex s)) : ∀ n k s, I k s → P (lpF step ex n k s) := by
  intro n
  induction n with
  | zero => intro k s h; exact h3 k s h
  | succ n ih =>
    intro k s h
    show P (sE id (lpF step ex n (k + 1)) (step k s))
    cases e : step k s with
    | inl r => exact h1 k s r h e
    | inr s' => exact ih (k + 1) s' (h2 k s s' h e)
theorem nat_of {x : Int32} {n : Nat} (h : vp_in x n) (hn : n < 2 ^ 31) : x = nI x.toNatClampNeg ∧ x.toNatClampNeg < n := by
  obtain ⟨j, hj, e⟩ := vp_in_of h hn
  rw [e, nI_clamp (Nat.lt_trans hj hn)]
  exact ⟨rfl, hj⟩
def lt_ {α β : Type} (x : α) (f : α → β) : β := f x
theorem lt_eq {α β : Type} {z : β} {x y : α} {f : α → β} (hz : z = lt_ x f) (h : y = x) : z = f y := by rw [hz, h]; rfl
theorem ifB_t {α : Type} {b : Bool} {x y : α} (h : b = true) : (if b = true then x else y) = x := if_pos h
theorem ifB_f {α : Type} {b : Bool} {x y : α} (h : b = false) : (if b = true then x else y) = y := if_neg (by rw [h]; decide)
def nwF : List (String × Nat × String × String × String × String) := [("BridgeAuction", 99, "BridgeAuction$Game", "suits", "[I", "BridgeAuction"), ("BridgeAuction", 103, "BridgeAuction$Game", "tideLevel", "I", "BridgeAuction"), ("BridgeAuction", 106, "BridgeAuction$Game", "players", "I", "BridgeAuction"), ("BridgeAuction", 112, "BridgeAuction$Game", "moneys", "[I", "BridgeAuction"), ("BridgeAuction$Graph", 39, "BridgeAuction$Game", "sites", "I", "BridgeAuction"), ("BridgeAuction", 129, "BridgeAuction$Game", "sites", "I", "BridgeAuction"), ("BridgeAuction$Graph", 65, "BridgeAuction$Game", "lowers", "[I", "BridgeAuction"), ("BridgeAuction", 135, "BridgeAuction$Game", "lowers", "[I", "BridgeAuction"), ("BridgeAuction$Graph", 68, "BridgeAuction$Game", "highers", "[I", "BridgeAuction"), ("BridgeAuction", 138, "BridgeAuction$Game", "highers", "[I", "BridgeAuction"), ("BridgeAuction$Graph", 49, "BridgeAuction$Game", "lengths", "[I", "BridgeAuction"), ("BridgeAuction", 141, "BridgeAuction$Game", "lengths", "[I", "BridgeAuction"), ("BridgeAuction", 150, "BridgeAuction$Game", "builders", "[I", "BridgeAuction"), ("BridgeAuction", 171, "BridgeAuction$Game", "ferries", "[I", "BridgeAuction"), ("BridgeAuction", 228, "BridgeAuction$Game", "bank", "I", "BridgeAuction"), ("BridgeAuction", 99, "BridgeAuction$Game", "suits", "[I", "BridgeAuction"), ("BridgeAuction", 99, "BridgeAuction$Game", "suits", "[I", "BridgeAuction"), ("BridgeAuction", 200, "BridgeAuction$Graph", "nearest", "[I", "BridgeAuction"), ("BridgeAuction", 209, "BridgeAuction$Graph", "relaxed", "[I", "BridgeAuction"), ("BridgeAuction", 99, "BridgeAuction$Game", "suits", "[I", "BridgeAuction"), ("BridgeAuction", 287, "BridgeAuction$Script", "size", "I", "BridgeAuction"), ("BridgeAuction", 302, "BridgeAuction$Script", "at", "I", "BridgeAuction"), ("BridgeAuction$Script", 80, "BridgeAuction$Verb", "ALL", "[LBridgeAuction$Verb;", "BridgeAuction"), ("BridgeAuction$Script", 84, "BridgeAuction$Verb", "keyword", "Ljava/lang/String;", "BridgeAuction"), ("BridgeAuction$Script", 62, "BridgeAuction$Verb", "arguments", "Ljava/lang/String;", "BridgeAuction")]
/-- what the tables say of the links between nest mates -/
def EN (U : State) : Prop := (∀ q ∈ nwF, va_Nw (.fieldLinkNest q.1 q.2.1 q.2.2.1 q.2.2.2.1 q.2.2.2.2.1 q.2.2.2.2.2) U) ∧ va_Nw (.methodLinkNest "BridgeAuction" 38 ⟨"BridgeAuction$Script", "<init>", "()V"⟩ "BridgeAuction") U ∧ va_Nw (.methodLinkNest "BridgeAuction" 24 ⟨"BridgeAuction$Graph", "<init>", "()V"⟩ "BridgeAuction") U
theorem EN.same {u U : State} (h : u.vm = U.vm) (e : EN u) : EN U := ⟨fun q hq => va_Nw.same rfl h (e.1 q hq), va_Nw.same rfl h e.2.1, va_Nw.same rfl h e.2.2⟩
theorem EN.warm {u U : State} (h : u.WarmedH U.vm) (e : EN u) : EN U := ⟨fun q hq => va_Nw.warmF h (e.1 q hq), va_Nw.warmM h e.2.1, va_Nw.warmM h e.2.2⟩
theorem EN.use {U : State} {A : Array Value} (e : EN U) (k : Nat) {q : String × Nat × String × String × String × String} (hq : nwF[k]? = some q) : (Cond.fieldLinkNest q.1 q.2.1 q.2.2.1 q.2.2.2.1 q.2.2.2.2.1 q.2.2.2.2.2).before A U = true := va_Nw.use rfl (e.1 q (List.mem_of_getElem? hq))
def roO (v : Option Value) : Array Value → State → Outcome → State → Prop := fun _ st o t => o = .returned v ∧ t.heap = st.heap
abbrev tyA (C : Nat → ClassId) : List (ClassId × FieldType) := [(C 0, .int), (C 1, .char), (C 2, .object "BridgeAuction$Game"), (C 3, .byte), (C 4, .array .int), (C 5, .boolean)]
def roP (av : List Value) (D : va_G) (C : Nat → ClassId) (ws : va_W) : Array Value → State → Prop := va_Pc av (fun U => va_P D vwCl ws U.heap ∧ va_K D vwCl (tyA C) U ∧ EN U)
theorem roP_blind {av : List Value} {D : va_G} {C : Nat → ClassId} {ws : va_W} : FrameBlind (roP av D C ws) := fun a U g mk q => by
  obtain ⟨q0, qP, qK, qE⟩ := q
  exact ⟨q0, qP, va_K.moved (u := U) (U := U.calling g mk a) (Vm.Alike.refl U.vm) qK, EN.same (u := U) (U := U.calling g mk a) rfl qE⟩
theorem roP_v {s : State} {H : Heap} {D : va_G} {C : Nat → ClassId} {ws : va_W} {X : String} {b : Addr} {As : List Value} (hP : va_P D vwCl ws H) (hK : va_K D vwCl (tyA C) s) (hE : EN s) (hr : ∃ cell : Cell, H[b]? = some cell ∧ cell.vm.isStatics = false ∧ s.vm.findClass X = some cell.cls) : PreV s H X b (roP (.ref b :: As) D C ws) As :=
  ⟨roP_blind, hr, fun U hU hW => ⟨rfl, by rw [hU]; exact hP, va_K.moved hW.alike hK, hE.warm hW⟩⟩
theorem roP_s {s : State} {H : Heap} {D : va_G} {C : Nat → ClassId} {ws : va_W} {As : List Value} (hP : va_P D vwCl ws H) (hK : va_K D vwCl (tyA C) s) (hE : EN s) : PreS s H (roP As D C ws) As :=
  ⟨roP_blind, fun U hU hW => ⟨rfl, by rw [hU]; exact hP, va_K.moved hW.alike hK, hE.warm hW⟩⟩
section
variable {p : Program} {l : Launch} {e : Env} {R : Room} {s : State} {m : MethodId} {args : Array Value} {below : List Frame} {meth : Method} {c : Code} {H : Heap} {locs : List Loc} {cells slots : Nat} {Q : State → Prop} {cc : ByteArray} {pc : Nat} {ls : Array Slot} {rest st0 : List Value}
theorem callRo {v : Option Value} {a : Array Value} (hr : va_Run p l e R s m args below meth c H locs cells slots 0 0 (F0 m pc ls st0) rest (roO v a) (fun _ => False))
    (kk : W p l e R s m args below meth c H locs cells slots Q (F0 m (pc + 3) ls (v.toList ++ rest))) : W p l e R s m args below meth c H locs cells slots Q (F0 m pc ls st0) := by
  intro T hT X
  obtain ⟨v', st₀, t, T', L, h0, X', hL, e1, e2, ⟨hv, hh⟩, st⟩ := hr T hT X
  cases hv
  have hn : L = [] := List.eq_nil_iff_forall_not_mem.mpr (fun q hq => hL q hq)
  subst hn
  obtain ⟨t2, a1, b1⟩ := kk T' (by rw [e1, hh, h0]) (by simpa using X')
  exact ⟨t2, st t2 a1, b1⟩
theorem topN {x : Int32} {k : Nat} (h : x = nI k) (kk : W p l e R s m args below meth c H locs cells slots Q (F0 m pc ls (.int (nI k) :: rest))) : W p l e R s m args below meth c H locs cells slots Q (F0 m pc ls (.int x :: rest)) := by rw [h]; exact kk
theorem topN2 {v : Value} {x : Int32} {k : Nat} (h : x = nI k) (kk : W p l e R s m args below meth c H locs cells slots Q (F0 m pc ls (v :: .int (nI k) :: rest))) : W p l e R s m args below meth c H locs cells slots Q (F0 m pc ls (v :: .int x :: rest)) := by rw [h]; exact kk
theorem topN3 {v w : Value} {x : Int32} {k : Nat} (h : x = nI k) (kk : W p l e R s m args below meth c H locs cells slots Q (F0 m pc ls (v :: w :: .int (nI k) :: rest))) : W p l e R s m args below meth c H locs cells slots Q (F0 m pc ls (v :: w :: .int x :: rest)) := by rw [h]; exact kk
theorem topI {x y : Int32} (h : x = y) (kk : W p l e R s m args below meth c H locs cells slots Q (F0 m pc ls (.int y :: rest))) : W p l e R s m args below meth c H locs cells slots Q (F0 m pc ls (.int x :: rest)) := by rw [h]; exact kk
theorem addN (hx : p.tables.exec = Jvm.exec) (hb : c.code = cc) {a b : Nat} (hdg : decode cc pc = .ok (.iadd, 1)) (kk : W p l e R s m args below meth c H locs cells slots Q (F0 m (pc + 1) ls (.int (nI (a + b)) :: rest))) : W p l e R s m args below meth c H locs cells slots Q (F0 m pc ls (.int (nI b) :: .int (nI a) :: rest)) := lv_iadd hx hb hdg (by rw [nI_add]; exact kk)
theorem mulN (hx : p.tables.exec = Jvm.exec) (hb : c.code = cc) {a b : Nat} (hdg : decode cc pc = .ok (.imul, 1)) (kk : W p l e R s m args below meth c H locs cells slots Q (F0 m (pc + 1) ls (.int (nI (a * b)) :: rest))) : W p l e R s m args below meth c H locs cells slots Q (F0 m pc ls (.int (nI b) :: .int (nI a) :: rest)) := lv_imul hx hb hdg (by rw [pk_mul]; exact kk)
theorem ialdN {D : va_G} {cl : List vw_C} {ws : va_W} {tys : List (ClassId × FieldType)} {a : Nat} (hx : p.tables.exec = Jvm.exec) (hb : c.code = cc) (hK : va_K D cl tys s) (hP : va_P D cl ws H) (q0 t0 : Nat) {cA : ClassId} {n : Nat} {f : Nat → Int32} (ha : ws[q0]? = some (a, .inl (cA, n, .inl f))) (ht : tys[t0]? = some (cA, .int)) {i : Nat} (hi : i < n) (hn : n < 2 ^ 31) (hdg : decode cc pc = .ok (.iaload, 1)) (kk : W p l e R s m args below meth c H locs cells slots Q (F0 m (pc + 1) ls (.int (f i) :: rest))) : W p l e R s m args below meth c H locs cells slots Q (F0 m pc ls (.int (nI i) :: .ref a :: rest)) :=
  va_iald hx hb hK hP q0 t0 ha ht (vp_in_nI hi hn) hdg (by rw [nI_clamp (Nat.lt_trans hi hn)]; exact kk)
theorem caldN {D : va_G} {cl : List vw_C} {ws : va_W} {tys : List (ClassId × FieldType)} {a : Nat} (hx : p.tables.exec = Jvm.exec) (hb : c.code = cc) (hK : va_K D cl tys s) (hP : va_P D cl ws H) (q0 t0 : Nat) {cA : ClassId} {n : Nat} {f : Nat → Int32} (ha : ws[q0]? = some (a, .inl (cA, n, .inl f))) (ht : tys[t0]? = some (cA, .char)) {i : Nat} (hi : i < n) (hn : n < 2 ^ 31) (hdg : decode cc pc = .ok (.caload, 1)) (kk : W p l e R s m args below meth c H locs cells slots Q (F0 m (pc + 1) ls (.int (f i) :: rest))) : W p l e R s m args below meth c H locs cells slots Q (F0 m pc ls (.int (nI i) :: .ref a :: rest)) :=
  va_cald hx hb hK hP q0 t0 ha ht (vp_in_nI hi hn) hdg (by rw [nI_clamp (Nat.lt_trans hi hn)]; exact kk)
theorem iastN {A : Nat → Prop} {H0 : Heap} {D : va_G} {cl : List vw_C} {ws : va_W} {tys : List (ClassId × FieldType)} {a : Nat} (hx : p.tables.exec = Jvm.exec) (hb : c.code = cc) (hK : va_K D cl tys s) (hP : va_P D cl ws H) (hD : va_D A ws) (hS : va_S A H0 H locs) (q0 t0 : Nat) {cA : ClassId} {n : Nat} {f : Nat → Int32} (ha : ws[q0]? = some (a, .inl (cA, n, .inl f))) (ht : tys[t0]? = some (cA, .int)) {i : Nat} {x : Int32} (hi : i < n) (hn : n < 2 ^ 31) (hdg : decode cc pc = .ok (.iastore, 1))
    (kk : ∀ (H1 : Heap) (locs1 : List Loc), va_P D cl (ws.set q0 (a, .inl (cA, n, .inl (upd f i x)))) H1 → va_D A (ws.set q0 (a, .inl (cA, n, .inl (upd f i x)))) → va_S A H0 H1 locs1 → W p l e R s m args below meth c H1 locs1 cells slots Q (F0 m (pc + 1) ls rest)) : W p l e R s m args below meth c H locs cells slots Q (F0 m pc ls (.int x :: .int (nI i) :: .ref a :: rest)) :=
  va_iast hx hb hK hP hD hS q0 t0 ha ht (vp_in_nI hi hn) hdg (by rw [nI_clamp (Nat.lt_trans hi hn)]; exact kk)
theorem bif_eq (hx : p.tables.exec = Jvm.exec) (hb : c.code = cc) {b : Bool} {off : Int} {tgt : Nat} (hdg : decode cc pc = .ok (.ifCond .eq off, 3)) (ht : (pc : Int) + off = (tgt : Int)) (kt : b = false → W p l e R s m args below meth c H locs cells slots Q (F0 m tgt ls rest)) (kf : b = true → W p l e R s m args below meth c H locs cells slots Q (F0 m (pc + 3) ls rest)) : W p l e R s m args below meth c H locs cells slots Q (F0 m pc ls (.int (bI b) :: rest)) :=
  lv_if_eq hx hb hdg ht (fun h => kt ((bI_0 b).1 h)) (fun h => kf (by cases b with | true => rfl | false => exact absurd rfl h))
theorem bif_ne (hx : p.tables.exec = Jvm.exec) (hb : c.code = cc) {b : Bool} {off : Int} {tgt : Nat} (hdg : decode cc pc = .ok (.ifCond .ne off, 3)) (ht : (pc : Int) + off = (tgt : Int)) (kt : b = true → W p l e R s m args below meth c H locs cells slots Q (F0 m tgt ls rest)) (kf : b = false → W p l e R s m args below meth c H locs cells slots Q (F0 m (pc + 3) ls rest)) : W p l e R s m args below meth c H locs cells slots Q (F0 m pc ls (.int (bI b) :: rest)) :=
  lv_if_ne hx hb hdg ht (fun h => kt (by cases b with | true => rfl | false => exact absurd rfl h)) (fun h => kf ((bI_0 b).1 h))
theorem ro_ret {v : Int32} {z : Int32} (hx : p.tables.exec = Jvm.exec) (hb : c.code = cc) (hr : meth.sig.returnType = some .int) (hz : z = v) (hdg : decode cc pc = .ok (.ireturn, 1)) (hlocks : meth.locks = false) : W p l e R s m args below meth c s.heap [] 0 0 (MQ below (roO (some (.int z))) args s 0 0 (fun _ => False)) (F0 m pc ls [.int v]) :=
  W.iret (v := v) hx hb hr (fun t ht hW => ⟨by rw [hz], ht⟩) (fun q hq => absurd hq List.not_mem_nil) hdg hlocks
theorem ro_retB {z b : Bool} (hx : p.tables.exec = Jvm.exec) (hb : c.code = cc) (hr : meth.sig.returnType = some .boolean) (hz : z = b) (hdg : decode cc pc = .ok (.ireturn, 1)) (hlocks : meth.locks = false) : W p l e R s m args below meth c s.heap [] 0 0 (MQ below (roO (some (.int (bI z)))) args s 0 0 (fun _ => False)) (F0 m pc ls [.int (bI b)]) :=
  W.zret (v := bI b) hx hb hr (bI_nar b) (fun t ht hW => ⟨by rw [hz], ht⟩) (fun q hq => absurd hq List.not_mem_nil) hdg hlocks
end
/-! the state of a game: islands' suits, tide, players, moneys, used ferries, sites and what they hold -/
abbrev GS : Type := (Nat → Int32) × Int32 × Nat × (Nat → Int32) × Int32 × Nat × (Nat → Nat) × (Nat → Nat) × (Nat → Int32) × (Nat → Int32) × (Nat → Int32) × (Nat → Int32) × Int32 × Int32 × Int32 × Int32
abbrev gSuit (G : GS) : Nat → Int32 := G.1
abbrev gTide (G : GS) : Int32 := G.2.1
abbrev gP (G : GS) : Nat := G.2.2.1
abbrev gMon (G : GS) : Nat → Int32 := G.2.2.2.1
abbrev gUsed (G : GS) : Int32 := G.2.2.2.2.1
abbrev gS (G : GS) : Nat := G.2.2.2.2.2.1
abbrev gLo (G : GS) : Nat → Nat := G.2.2.2.2.2.2.1
abbrev gHi (G : GS) : Nat → Nat := G.2.2.2.2.2.2.2.1
abbrev gLen (G : GS) : Nat → Int32 := G.2.2.2.2.2.2.2.2.1
abbrev gBld (G : GS) : Nat → Int32 := G.2.2.2.2.2.2.2.2.2.1
abbrev gFer (G : GS) : Nat → Int32 := G.2.2.2.2.2.2.2.2.2.2.1
abbrev gOff (G : GS) : Nat → Int32 := G.2.2.2.2.2.2.2.2.2.2.2.1
abbrev gIni (G : GS) : Int32 := G.2.2.2.2.2.2.2.2.2.2.2.2.1
abbrev gBank (G : GS) : Int32 := G.2.2.2.2.2.2.2.2.2.2.2.2.2.1
abbrev gSet (G : GS) : Int32 := G.2.2.2.2.2.2.2.2.2.2.2.2.2.2.1
abbrev gBlf (G : GS) : Int32 := G.2.2.2.2.2.2.2.2.2.2.2.2.2.2.2
abbrev mkG (x0 : Nat → Int32) (x1 : Int32) (x2 : Nat) (x3 : Nat → Int32) (x4 : Int32) (x5 : Nat) (x6 : Nat → Nat) (x7 : Nat → Nat) (x8 : Nat → Int32) (x9 : Nat → Int32) (x10 : Nat → Int32) (x11 : Nat → Int32) (x12 : Int32) (x13 : Int32) (x14 : Int32) (x15 : Int32) : GS := (x0, x1, x2, x3, x4, x5, x6, x7, x8, x9, x10, x11, x12, x13, x14, x15)
/-- the cells of a game at the addresses a 0 (the object), a 1 .. a 8 (its rows) -/
abbrev gcells (C : Nat → ClassId) (a : Nat → Nat) (G : GS) : va_W := [(a 0, .inr (4, [.ref (a 1), .int (gTide G), .int (nI (gP G)), .ref (a 2), .int (gUsed G), .int (nI (gS G)), .ref (a 3), .ref (a 4), .ref (a 5), .ref (a 6), .ref (a 7), .ref (a 8), .int (gIni G), .int (gBank G), .int (gSet G), .int (gBlf G)])),
  (a 1, .inl (C 0, 8, .inl (gSuit G))), (a 2, .inl (C 0, 4, .inl (gMon G))), (a 3, .inl (C 0, 12, .inl (fun j => nI (gLo G j)))), (a 4, .inl (C 0, 12, .inl (fun j => nI (gHi G j)))), (a 5, .inl (C 0, 12, .inl (gLen G))), (a 6, .inl (C 0, 12, .inl (gBld G))), (a 7, .inl (C 0, 12, .inl (gFer G))), (a 8, .inl (C 0, 48, .inl (gOff G)))]
/-- what the rows need to be read safely -/
def GSafe (G : GS) : Prop := gS G ≤ 12 ∧ gP G ≤ 4 ∧ (∀ k, gLo G k < 8) ∧ (∀ k, gHi G k < 8)
theorem GSafe_of {G G1 : GS} (h : GSafe G) (e1 : gS G1 = gS G) (e2 : gP G1 = gP G) (e3 : gLo G1 = gLo G) (e4 : gHi G1 = gHi G) : GSafe G1 := by
  unfold GSafe at h ⊢
  rw [e1, e2, e3, e4]
  exact h
/-- the state of a graph's rows: nearest, relaxed, parents -/
abbrev GR : Type := (Nat → Int32) × (Nat → Int32) × (Nat → Nat)
abbrev rNear (r : GR) : Nat → Int32 := r.1
abbrev rRlx (r : GR) : Nat → Int32 := r.2.1
abbrev rPar (r : GR) : Nat → Nat := r.2.2
abbrev mkR (x y : Nat → Int32) (z : Nat → Nat) : GR := (x, y, z)
abbrev grcells (C : Nat → ClassId) (g : Nat → Nat) (r : GR) : va_W := [(g 0, .inr (5, [.ref (g 1), .ref (g 2), .ref (g 3)])), (g 1, .inl (C 0, 8, .inl (rNear r))), (g 2, .inl (C 0, 8, .inl (rRlx r))), (g 3, .inl (C 0, 8, .inl (fun j => nI (rPar r j))))]
def RSafe (r : GR) : Prop := ∀ k, rPar r k < 8
theorem RSafe_of {R R1 : GR} (h : RSafe R) (e : rPar R1 = rPar R) : RSafe R1 := by
  unfold RSafe at h ⊢
  rw [e]
  exact h
/-- the state of the reference -/
abbrev MS : Type := (Nat → Int32) × (Nat → Int32) × (Nat → Int32) × (Nat → Int32) × Bool × Nat × Int32 × Int32 × (Nat → Int32) × Nat × (Nat → Int32) × Nat × Int32 × (Nat → Int32) × (Nat → Int32) × Nat × Nat × Int32 × Nat × (Nat → Int32)
abbrev mNow (M : MS) : Nat → Int32 := M.1
abbrev mBef (M : MS) : Nat → Int32 := M.2.1
abbrev mSav (M : MS) : Nat → Int32 := M.2.2.1
abbrev mHis (M : MS) : Nat → Int32 := M.2.2.2.1
abbrev mIsS (M : MS) : Bool := M.2.2.2.2.1
abbrev mRem (M : MS) : Nat := M.2.2.2.2.2.1
abbrev mErA (M : MS) : Int32 := M.2.2.2.2.2.2.1
abbrev mFaA (M : MS) : Int32 := M.2.2.2.2.2.2.2.1
abbrev mTxt (M : MS) : Nat → Int32 := M.2.2.2.2.2.2.2.2.1
abbrev mTyp (M : MS) : Nat := M.2.2.2.2.2.2.2.2.2.1
abbrev mLin (M : MS) : Nat → Int32 := M.2.2.2.2.2.2.2.2.2.2.1
abbrev mLnd (M : MS) : Nat := M.2.2.2.2.2.2.2.2.2.2.2.1
abbrev mThr (M : MS) : Int32 := M.2.2.2.2.2.2.2.2.2.2.2.2.1
abbrev mFar (M : MS) : Nat → Int32 := M.2.2.2.2.2.2.2.2.2.2.2.2.2.1
abbrev mGrp (M : MS) : Nat → Int32 := M.2.2.2.2.2.2.2.2.2.2.2.2.2.2.1
abbrev mSiz (M : MS) : Nat := M.2.2.2.2.2.2.2.2.2.2.2.2.2.2.2.1
abbrev mPla (M : MS) : Nat := M.2.2.2.2.2.2.2.2.2.2.2.2.2.2.2.2.1
abbrev mWro (M : MS) : Int32 := M.2.2.2.2.2.2.2.2.2.2.2.2.2.2.2.2.2.1
abbrev mTol (M : MS) : Nat := M.2.2.2.2.2.2.2.2.2.2.2.2.2.2.2.2.2.2.1
abbrev mNum (M : MS) : Nat → Int32 := M.2.2.2.2.2.2.2.2.2.2.2.2.2.2.2.2.2.2.2
abbrev mkM (x0 : Nat → Int32) (x1 : Nat → Int32) (x2 : Nat → Int32) (x3 : Nat → Int32) (x4 : Bool) (x5 : Nat) (x6 : Int32) (x7 : Int32) (x8 : Nat → Int32) (x9 : Nat) (x10 : Nat → Int32) (x11 : Nat) (x12 : Int32) (x13 : Nat → Int32) (x14 : Nat → Int32) (x15 : Nat) (x16 : Nat) (x17 : Int32) (x18 : Nat) (x19 : Nat → Int32) : MS := (x0, x1, x2, x3, x4, x5, x6, x7, x8, x9, x10, x11, x12, x13, x14, x15, x16, x17, x18, x19)
abbrev mcells (C : Nat → ClassId) (b : Nat → Nat) (M : MS) : va_W := [(b 0, .inr (9, [.ref (b 1), .ref (b 2), .ref (b 3), .ref (b 4), .int (bI (mIsS M)), .int (nI (mRem M)), .int (mErA M), .int (mFaA M), .ref (b 5), .int (nI (mTyp M)), .ref (b 6), .int (nI (mLnd M)), .int (mThr M), .ref (b 7), .ref (b 8), .int (nI (mSiz M)), .int (nI (mPla M)), .int (mWro M), .int (nI (mTol M)), .ref (b 9)])),
  (b 1, .inl (C 0, 178, .inl (mNow M))), (b 2, .inl (C 0, 178, .inl (mBef M))), (b 3, .inl (C 0, 178, .inl (mSav M))), (b 4, .inl (C 0, 1424, .inl (mHis M))), (b 5, .inl (C 0, 60, .inl (mTxt M))), (b 6, .inl (C 0, 60, .inl (mLin M))), (b 7, .inl (C 0, 8, .inl (mFar M))), (b 8, .inl (C 0, 8, .inl (mGrp M))), (b 9, .inl (C 0, 120, .inl (mNum M)))]
abbrev mS (f : Nat → Int32) : Nat := (f 2).toNatClampNeg
abbrev mP (f : Nat → Int32) : Nat := (f 1).toNatClampNeg
/-- what is needed to read the reference's row safely -/
def NowOK (f : Nat → Int32) : Prop := (f 2 = nI (mS f) ∧ mS f ≤ 12) ∧ (f 1 = nI (mP f) ∧ mP f ≤ 4) ∧ (∀ k, k < 12 → vp_in (f (22 + 13 * k + 0)) 8 ∧ vp_in (f (22 + 13 * k + 1)) 8) ∧ (∀ k, k < 12 → f (22 + 13 * k + 4) = -1 ∨ vp_in (f (22 + 13 * k + 4)) 4)
def MSafe (M : MS) : Prop := NowOK (mNow M)
theorem MSafe_of {M M1 : MS} (h : MSafe M) (e : mNow M1 = mNow M) : MSafe M1 := by
  unfold MSafe at h ⊢
  rw [e]
  exact h
