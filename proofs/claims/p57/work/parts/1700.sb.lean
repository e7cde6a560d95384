/-! StringBuilder: its cells, its text; worlds that come back changed in a way that is only said to be there -/
abbrev OS : Type := Nat × Nat × (Nat → Int32) × Int32 × Nat
abbrev oV (O : OS) : Nat := O.1
abbrev oC (O : OS) : Nat := O.2.1
abbrev oB (O : OS) : Nat → Int32 := O.2.2.1
abbrev oM (O : OS) : Int32 := O.2.2.2.1
abbrev oN (O : OS) : Nat := O.2.2.2.2
abbrev mkO (v c : Nat) (f : Nat → Int32) (ml : Int32) (n : Nat) : OS := (v, c, f, ml, n)
abbrev ocells (C : Nat → ClassId) (b : Nat → Nat) (O : OS) : va_W := [(b 0, .inr (1, [.ref (oV O), .int 0, .int (oM O), .int (nI (oN O))])), (oV O, .inl (C 3, oC O, .inl (oB O)))]
abbrev TX : Type := (Nat → Nat) × Nat
def OT (T : TX) (O : OS) : Prop := oN O = T.2 ∧ T.2 ≤ 34 ∧ sb_Lat T.1 T.2 (oB O) ∧ sb_Fit (oB O) ∧ (oC O = 16 ∨ oC O = 34) ∧ T.2 ≤ oC O ∧ (∀ j, T.1 j < 128)
def digs (k : Nat) : Nat → Nat := fun j => if k < 10 then 48 + k % 10 else if j = 0 then 48 + k / 10 % 10 else 48 + k % 10
def dl (k : Nat) : Nat := if k < 10 then 1 else 2
def wC (c : Nat) (T : TX) : TX := (sb_cat T.1 T.2 (fun _ => c), T.2 + 1)
def wN (k : Nat) (T : TX) : TX := (sb_cat T.1 T.2 (digs k), T.2 + dl k)
theorem digs_lt (k j : Nat) : digs k j < 128 := by unfold digs; split <;> (try split) <;> omega
theorem dl_le (k : Nat) : dl k ≤ 2 := by unfold dl; split <;> omega
theorem dl_pos (k : Nat) : 1 ≤ dl k := by unfold dl; split <;> omega
theorem cat_lt {t s : Nat → Nat} {n : Nat} (h1 : ∀ j, t j < 128) (h2 : ∀ j, s j < 128) (j : Nat) : sb_cat t n s j < 128 := by unfold sb_cat; split <;> first | exact h1 _ | exact h2 _
def digput (f : Nat → Int32) (k p : Nat) : Nat → Int32 := if k < 10 then upd f p (sb_b (48 + k % 10)) else upd (upd f (p + 1) (sb_b (48 + k % 10))) p (sb_b (48 + k / 10 % 10))
theorem digput_fit {f : Nat → Int32} (h : sb_Fit f) (k p : Nat) : sb_Fit (digput f k p) := by
  unfold digput
  split
  · exact sb_fitU h (sb_fitB _)
  · exact sb_fitU (sb_fitU h (sb_fitB _)) (sb_fitB _)
theorem digput_lo {f : Nat → Int32} {k p j : Nat} (h : j < p) : digput f k p j = f j := by
  unfold digput
  split
  · exact pk_un (by omega)
  · rw [pk_un (by omega)]; exact pk_un (by omega)
theorem digput_at {f : Nat → Int32} {k p i : Nat} (h : i < dl k) : digput f k p (p + i) = sb_b (digs k i) := by
  unfold dl at h
  unfold digput digs
  by_cases hk : k < 10
  · rw [if_pos hk] at h
    rw [if_pos hk, if_pos hk]
    obtain rfl : i = 0 := by omega
    exact pk_us
  · rw [if_neg hk] at h
    rw [if_neg hk, if_neg hk]
    by_cases hi : i = 0
    · subst hi; rw [if_pos rfl]; exact pk_us
    · obtain rfl : i = 1 := by omega
      rw [if_neg hi, pk_un (by omega)]
      exact pk_us
theorem neg_le10 : ∀ k, k < 100 → ((-nI k ≤ (-10 : Int32)) ↔ ¬ k < 10) := by decide +kernel
theorem neg_le100 : ∀ k, k < 100 → ¬ (-nI k ≤ (10 * (-10) : Int32)) := by decide +kernel
theorem neg_gt100 : ∀ k, k < 100 → ((-100 : Int32) < -nI k) := by decide +kernel
theorem neg_ge9 : ∀ k, k < 100 → (((-9 : Int32) ≤ -nI k) ↔ k < 10) := by decide +kernel
theorem neg_neg_nI : ∀ k, k < 100 → -(-nI k) = nI k := by decide +kernel
theorem nI_mn1 {q : Nat} (h : 1 ≤ q) : nI q + Int32.ofInt (-1) = nI (q - 1) := by
  have e : nI (q - 1) + nI 1 = nI q := by rw [nI_add]; congr 1; omega
  have e2 : nI 1 + Int32.ofInt (-1) = 0 := by decide +kernel
  rw [← e, Int32.add_assoc, e2]
  exact Int32.add_zero _
/-- the digits' rows of the JDK -/
def DVs (v : Nat → Nat) (A : Nat → Prop) (U : State) (H : Heap) : Prop := (va_Z "java/lang/Integer" "DigitOnes" "[B" (.ref (v 34)) A U H ∧ va_T .byte (v 34) 100 (fun j => .int (nI (48 + j % 10))) A U H) ∧ (va_Z "java/lang/Integer" "DigitTens" "[B" (.ref (v 35)) A U H ∧ va_T .byte (v 35) 100 (fun j => .int (nI (48 + j / 10 % 10))) A U H)
theorem DVs.moved {v : Nat → Nat} {A : Nat → Prop} {u U : State} {H : Heap} (hvm : u.vm.Alike U.vm) (h : DVs v A u H) : DVs v A U H := ⟨⟨h.1.1.moved hvm, h.1.2.moved hvm⟩, ⟨h.2.1.moved hvm, h.2.2.moved hvm⟩⟩
theorem DVs.kept {v : Nat → Nat} {A : Nat → Prop} {U : State} {H H1 : Heap} (h : DVs v A U H) (hq : ∀ a : Nat, a < H.size → ¬ A a → H1[a]? = H[a]?) : DVs v A U H1 := ⟨⟨h.1.1.kept hq, h.1.2.kept hq⟩, ⟨h.2.1.kept hq, h.2.2.kept hq⟩⟩
theorem DVs.narrow {v : Nat → Nat} {A B : Nat → Prop} {U : State} {H : Heap} (h : DVs v A U H) (hAB : ∀ q, B q → A q) : DVs v B U H := ⟨⟨h.1.1.narrow hAB, h.1.2.narrow hAB⟩, ⟨h.2.1.narrow hAB, h.2.2.narrow hAB⟩⟩
def oP (av : List Value) (D : va_G) (C : Nat → ClassId) (v : Nat → Nat) (ws : va_W) (sz : Nat) : Array Value → State → Prop := fun a U => rwPE av D C v ws sz a U ∧ DVs v (va_A ws sz) U U.heap
def xoP (av : List Value) (D : va_G) (C : Nat → ClassId) (v : Nat → Nat) (ws : va_W) (sz : Nat) : Array Value → State → Prop := fun a U => xP av D C v ws sz a U ∧ DVs v (va_A ws sz) U U.heap
theorem oP_blind {av : List Value} {D : va_G} {C : Nat → ClassId} {v : Nat → Nat} {ws : va_W} {sz : Nat} : FrameBlind (oP av D C v ws sz) := fun a U g mk q => ⟨rwPE_blind a U g mk q.1, DVs.moved (u := U) (U := U.calling g mk a) (Vm.Alike.refl U.vm) q.2⟩
theorem xoP_blind {av : List Value} {D : va_G} {C : Nat → ClassId} {v : Nat → Nat} {ws : va_W} {sz : Nat} : FrameBlind (xoP av D C v ws sz) := fun a U g mk q => ⟨xP_blind a U g mk q.1, DVs.moved (u := U) (U := U.calling g mk a) (Vm.Alike.refl U.vm) q.2⟩
section
variable {s : State} {H : Heap} {D : va_G} {C : Nat → ClassId} {v : Nat → Nat} {ws : va_W} {X : String} {b : Addr} {As : List Value} {A : Nat → Prop} {locs : List Loc}
theorem oP_v (hP : va_P D vwCl ws H) (hK : va_K D vwCl (tyA C) s) (hE : EN s) (hD : va_D A ws) (hR : RVs v s) (hX : EVs v A s s.heap) (hV : DVs v A s s.heap) (hS : va_S A s.heap H locs) (hF : ∀ q, va_A ws H.size q → A q) (hr : ∃ cell : Cell, H[b]? = some cell ∧ cell.vm.isStatics = false ∧ s.vm.findClass X = some cell.cls) : PreV s H X b (oP (.ref b :: As) D C v ws H.size) As :=
  ⟨oP_blind, hr, fun U hU hW => ⟨(rwPE_v hP hK hE hD hR hX hS hF hr).2.2 U hU hW, by rw [hU]; exact ((hV.kept hS.2.1).moved hW.alike).narrow hF⟩⟩
theorem oP_s (hP : va_P D vwCl ws H) (hK : va_K D vwCl (tyA C) s) (hE : EN s) (hD : va_D A ws) (hR : RVs v s) (hX : EVs v A s s.heap) (hV : DVs v A s s.heap) (hS : va_S A s.heap H locs) (hF : ∀ q, va_A ws H.size q → A q) : PreS s H (oP As D C v ws H.size) As :=
  ⟨oP_blind, fun U hU hW => ⟨(rwPE_s hP hK hE hD hR hX hS hF).2 U hU hW, by rw [hU]; exact ((hV.kept hS.2.1).moved hW.alike).narrow hF⟩⟩
end
def eO {α : Type} (v : α → Option Value) (D : va_G) (F : α → Prop) (w : α → va_W) (A : Nat → Prop) : Array Value → State → Outcome → State → Prop := fun _ st o t => (∃ x : α, o = .returned (v x) ∧ F x ∧ va_P D vwCl (w x) t.heap ∧ va_D A (w x)) ∧ va_F A st t
section
variable {p : Program} {l : Launch} {e : Env} {R : Room} {s : State} {m : MethodId} {args : Array Value} {below : List Frame} {meth : Method} {c : Code} {H : Heap} {locs : List Loc} {cells slots mc ms mc' ms' : Nat} {Q : State → Prop} {cc : ByteArray} {pc : Nat} {ls : Array Slot} {rest st0 : List Value} {A0 A1 : Nat → Prop} {H0 : Heap} {D : va_G} {α : Type} {F : α → Prop} {w : α → va_W} {v : α → Option Value}
theorem callE {a : Array Value} (hr : va_Run p l e R s m args below meth c H locs cells slots mc ms (F0 m pc ls st0) rest (eO v D F w A1 a) A1) (hS : va_S A0 H0 H locs) (hF : ∀ q, A1 q → A0 q)
    (kk : ∀ (x : α) (H1 : Heap) (locs1 : List Loc), F x → va_P D vwCl (w x) H1 → va_D A1 (w x) → (∀ q : Nat, q < H.size → ¬ A1 q → H1[q]? = H[q]?) → va_S A0 H0 H1 locs1 → W p l e R s m args below meth c H1 locs1 (cells + mc) (slots + ms) Q (F0 m (pc + 3) ls ((v x).toList ++ rest))) : W p l e R s m args below meth c H locs cells slots Q (F0 m pc ls st0) := by
  intro T hT X
  obtain ⟨v', st₀, t, T', L, h0, X', hL, e1, e2, ⟨⟨x, hv, hFx, hw, hd⟩, hf⟩, st⟩ := hr T hT X
  cases hv
  obtain ⟨-, k2, k3⟩ := vx_keep h0 e1 hS (fun q _ h => hF q h) hF hL hf
  obtain ⟨t2, a1, b1⟩ := kk x T'.heap (locs ++ L) hFx (by rw [e1]; exact hw) hd k2 k3 T' rfl X'
  exact ⟨t2, st t2 a1, b1⟩
theorem e_retA {a : Nat} {ty : String} (x : α) (hv : v x = some (.ref a)) (hx : p.tables.exec = Jvm.exec) (hb : c.code = cc) (hr : meth.sig.returnType = some (.object ty)) (hF : F x) (hP : va_P D vwCl (w x) H) (hD : va_D A0 (w x)) (hS : va_S A0 s.heap H locs) (h1 : cells ≤ mc) (h2 : slots ≤ ms) (hdg : decode cc pc = .ok (.areturn, 1)) (hlocks : meth.locks = false) : W p l e R s m args below meth c H locs cells slots (MQ below (eO v D F w A0) args s mc ms A0) (F0 m pc ls [.ref a]) :=
  W.widen h1 h2 (W.aret (v := .ref a) hx hb hr (Or.inl ⟨_, rfl⟩) (Or.inr ⟨_, rfl⟩) (fun t ht hW => ⟨⟨x, by rw [hv], hF, by rw [ht]; exact hP, hD⟩, hS.F ht⟩) hS.2.2 hdg hlocks)
theorem e_retB {a : Nat} {ty : FieldType} (x : α) (hv : v x = some (.ref a)) (hx : p.tables.exec = Jvm.exec) (hb : c.code = cc) (hr : meth.sig.returnType = some (.array ty)) (hF : F x) (hP : va_P D vwCl (w x) H) (hD : va_D A0 (w x)) (hS : va_S A0 s.heap H locs) (h1 : cells ≤ mc) (h2 : slots ≤ ms) (hdg : decode cc pc = .ok (.areturn, 1)) (hlocks : meth.locks = false) : W p l e R s m args below meth c H locs cells slots (MQ below (eO v D F w A0) args s mc ms A0) (F0 m pc ls [.ref a]) :=
  W.widen h1 h2 (W.aret (v := .ref a) hx hb hr (Or.inr ⟨_, rfl⟩) (Or.inr ⟨_, rfl⟩) (fun t ht hW => ⟨⟨x, by rw [hv], hF, by rw [ht]; exact hP, hD⟩, hS.F ht⟩) hS.2.2 hdg hlocks)
theorem e_retI {i : Int32} (x : α) (hv : v x = some (.int i)) (hx : p.tables.exec = Jvm.exec) (hb : c.code = cc) (hr : meth.sig.returnType = some .int) (hF : F x) (hP : va_P D vwCl (w x) H) (hD : va_D A0 (w x)) (hS : va_S A0 s.heap H locs) (h1 : cells ≤ mc) (h2 : slots ≤ ms) (hdg : decode cc pc = .ok (.ireturn, 1)) (hlocks : meth.locks = false) : W p l e R s m args below meth c H locs cells slots (MQ below (eO v D F w A0) args s mc ms A0) (F0 m pc ls [.int i]) :=
  W.widen h1 h2 (W.iret (v := i) hx hb hr (fun t ht hW => ⟨⟨x, by rw [hv], hF, by rw [ht]; exact hP, hD⟩, hS.F ht⟩) hS.2.2 hdg hlocks)
theorem e_retV (x : α) (hv : v x = none) (hx : p.tables.exec = Jvm.exec) (hb : c.code = cc) (hr : meth.sig.returnType = none) (hF : F x) (hP : va_P D vwCl (w x) H) (hD : va_D A0 (w x)) (hS : va_S A0 s.heap H locs) (h1 : cells ≤ mc) (h2 : slots ≤ ms) (hdg : decode cc pc = .ok (.return_, 1)) (hlocks : meth.locks = false) : W p l e R s m args below meth c H locs cells slots (MQ below (eO v D F w A0) args s mc ms A0) (F0 m pc ls []) :=
  W.widen h1 h2 (W.vret hx hb hr (fun t ht hW => ⟨⟨x, by rw [hv], hF, by rw [ht]; exact hP, hD⟩, hS.F ht⟩) hS.2.2 hdg hlocks)
end
theorem fr_D {A0 : Nat → Prop} {D : va_G} {wc wr wc' : va_W} {H : Heap} (hP : va_P D vwCl (wc ++ wr) H) (hD : va_D A0 (wc ++ wr)) (hF : ∀ q, va_A wc H.size q → A0 q) (hD1 : va_D (va_A wc H.size) wc') : va_D A0 (wc' ++ wr) := by
  have h1 := va_D_m.mp hD
  have h2 := va_D_m.mp hD1
  have h3 := List.pairwise_append.mp h1.1
  refine va_D_m.mpr ⟨List.pairwise_append.mpr ⟨h2.1, h3.2.1, fun p hp q hq e => ?_⟩, fun q hq => ?_⟩
  · have hl := va_at.lt (va_P_m.mp hP q (List.mem_append.mpr (Or.inr hq)))
    rcases h2.2 p hp with ⟨k, x, hk⟩ | h
    · exact h3.2.2 _ (List.mem_of_getElem? hk) q hq e
    · have e : p.1 = q.1 := e
      omega
  · rcases List.mem_append.mp hq with h | h
    · exact hF _ (h2.2 q h)
    · exact h1.2 q (List.mem_append.mpr (Or.inr h))
theorem jbD {A0 : Nat → Prop} {D : va_G} {bs cs rs cs' bs' : List va_W} {H : Heap} (hP : va_P D vwCl (wj bs) H) (hD : va_D A0 (wj bs)) (hp : bs.Perm (cs ++ rs)) (hp' : (cs' ++ rs).Perm bs') (hF : ∀ q, va_A (wj cs) H.size q → A0 q) (hD1 : va_D (va_A (wj cs) H.size) (wj cs')) : va_D A0 (wj bs') := by
  have e := (wj_pm hp).trans wj_app
  exact va_D_pm (wj_app.symm.trans (wj_pm hp')) (fr_D (va_P_pm e hP) (va_D_pm e hD) hF hD1)
/-- the class of a byte row made here is the one that is known -/
theorem cls_same {D : va_G} {tys : List (ClassId × FieldType)} {U : State} {i j : Nat} {x y : ClassId} (hK : va_K D vwCl tys U) (hi : tys[i]? = some (x, .byte)) (hj : tys[j]? = some (y, .byte)) : x = y := by
  have h1 : U.vm.findClass ("[" ++ (FieldType.byte).toString) = some x := (hK.2 i _ hi).2
  have h2 : U.vm.findClass ("[" ++ (FieldType.byte).toString) = some y := (hK.2 j _ hj).2
  exact Option.some.inj (h1.symm.trans h2)
theorem va_K_fst {D : va_G} {tys tz : List (ClassId × FieldType)} {U : State} (hK : va_K D vwCl (tys ++ tz) U) : va_K D vwCl tys U := ⟨hK.1, fun k q hk => hK.2 k q (by rw [List.getElem?_append_left (List.getElem?_eq_some_iff.mp hk).1]; exact hk)⟩
theorem vpb (c : Nat) : vp_nar .byte (nI c) = sb_b c := by rw [vp_nar_byte]; rfl
theorem vpbb (c : Nat) : vp_nar .byte (sb_b c) = sb_b c := by unfold sb_b; exact pk_vb _
theorem all_F {A0 : Nat → Prop} {ws : va_W} {H0 H : Heap} {locs : List Loc} (hD : va_D A0 ws) (hS : va_S A0 H0 H locs) (hA : ∀ q, H0.size ≤ q → A0 q) : ∀ q, va_A ws H.size q → A0 q := by
  rintro q (⟨k, e, hk⟩ | h)
  · exact hD.2 k _ hk
  · exact hA q (Nat.le_trans hS.1 h)
