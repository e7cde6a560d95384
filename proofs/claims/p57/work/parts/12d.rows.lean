/-! rows for copies of rows, the ring, the script -/
theorem imin_nI {a b : Nat} (ha : a < 2 ^ 31) (hb : b < 2 ^ 31) : imin (nI a) (nI b) = nI (min a b) := by
  unfold imin
  by_cases h : b < a
  · rw [if_pos (nI_lt h ha), Nat.min_eq_right (by omega)]
  · rw [if_neg (nI_nlt (by omega) hb), Nat.min_eq_left (by omega)]
theorem imax_nI {a b : Nat} (ha : a < 2 ^ 31) (hb : b < 2 ^ 31) : imax (nI a) (nI b) = nI (max a b) := by
  unfold imax
  by_cases h : a < b
  · rw [if_pos (nI_lt h hb), Nat.max_eq_right (by omega)]
  · rw [if_neg (nI_nlt (by omega) ha), Nat.max_eq_left (by omega)]
theorem nI_rem8 {a : Nat} (ha : a < 2 ^ 31) : nI a - nI a / 8 * 8 = nI (a % 8) := pk_rem (d := 8) ha (by decide) (by decide)
abbrev cpy (n : Nat) (f g : Nat → Int32) : Nat → Int32 := va_cpy f g 0 0 n
abbrev cpyN (n : Nat) (f g : Nat → Nat) : Nat → Nat := va_cpy f g 0 0 n
theorem cpy_nI (n : Nat) (f g : Nat → Nat) : va_cpy (fun j => nI (f j)) (fun j => nI (g j)) 0 0 n = fun j => nI (cpyN n f g j) := by
  funext j
  unfold cpyN va_cpy
  split <;> rfl
theorem cpy_in {α : Type} {f g : Nat → α} {n j : Nat} (h : j < n) : va_cpy f g 0 0 n j = f j := by
  unfold va_cpy
  rw [if_pos ⟨Nat.zero_le _, by omega⟩, Nat.zero_add, Nat.sub_zero]
theorem cpy_all {α : Type} {f g : Nat → α} {n : Nat} {P : α → Prop} (hf : ∀ j, P (f j)) (hg : ∀ j, P (g j)) (j : Nat) : P (va_cpy f g 0 0 n j) := by
  unfold va_cpy
  split
  · exact hf _
  · exact hg _
section
variable {p : Program} {l : Launch} {e : Env} {R : Room} {s : State} {m : MethodId} {args : Array Value} {below : List Frame} {meth : Method} {c : Code} {H : Heap} {locs : List Loc} {cells slots : Nat} {Q : State → Prop} {cc : ByteArray} {pc : Nat} {ls : Array Slot} {rest : List Value} {A0 : Nat → Prop} {H0 : Heap} {D : va_G} {ws : va_W} {tys : List (ClassId × FieldType)}
theorem acpI (hx : p.tables.exec = Jvm.exec) (hb : c.code = cc) (hml : c.maxLocals = ls.size) {own : String} {index : Nat} (hown : s.vm.findClass own = some m.cls) (hlink : (Cond.methodLink own index arraycopyName).before args s = true) (hnat : (Cond.native arraycopyName).before args s = true) (hstat : (Cond.static arraycopyName).before args s = true) (hini : (Cond.initialized "java/lang/System").before args s = true)
    (hK : va_K D vwCl tys s) (hP : va_P D vwCl ws H) (hD : va_D A0 ws) (hS : va_S A0 H0 H locs) (q0 q1 : Nat) {a a0 : Nat} {c0 : ClassId} {n0 n1 : Nat} {f g : Nat → Int32} (ha0 : ws[q0]? = some (a0, .inl (c0, n0, .inl f))) (ha1 : ws[q1]? = some (a, .inl (c0, n1, .inl g))) (ht0 : tys[0]? = some (c0, .int)) {n : Int32} {N : Nat} (h3 : ¬ n < 0) (hN : n.toNatClampNeg = N) (h4 : N ≤ n0) (h5 : N ≤ n1)
    (hframes : 1 ≤ R.frames) (hlocals : (rest.map fun v => v.category).sum + (nativeFrameWords "java/lang/System" "arraycopy" 5 + 11) ≤ R.locals) (hdg : decode cc pc = .ok (.invokestatic index, 3))
    (kk : ∀ (H1 : Heap) (locs1 : List Loc), va_P D vwCl (ws.set q1 (a, .inl (c0, n1, .inl (cpy N f g)))) H1 → va_D A0 (ws.set q1 (a, .inl (c0, n1, .inl (cpy N f g)))) → va_S A0 H0 H1 locs1 → W p l e R s m args below meth c H1 locs1 cells slots Q (F0 m (pc + 3) ls rest)) : W p l e R s m args below meth c H locs cells slots Q (F0 m pc ls (.int n :: .int 0 :: .ref a :: .int 0 :: .ref a0 :: rest)) := by
  subst hN
  exact va_copyi hx hb hml hown hlink hnat hstat hini hK hP hD hS q0 q1 0 0 ha0 ha1 ht0 ht0 rfl (by decide) (by decide) h3 (by rw [sb_cl0]; omega) (by rw [sb_cl0]; omega) (fun _ _ => rfl) hframes hlocals hdg (fun H1 locs1 a1 a2 a3 => kk H1 locs1 (by rw [sb_cl0] at a1; exact a1) (by rw [sb_cl0] at a2; exact a2) a3)
theorem acpN (hx : p.tables.exec = Jvm.exec) (hb : c.code = cc) (hml : c.maxLocals = ls.size) {own : String} {index : Nat} (hown : s.vm.findClass own = some m.cls) (hlink : (Cond.methodLink own index arraycopyName).before args s = true) (hnat : (Cond.native arraycopyName).before args s = true) (hstat : (Cond.static arraycopyName).before args s = true) (hini : (Cond.initialized "java/lang/System").before args s = true)
    (hK : va_K D vwCl tys s) (hP : va_P D vwCl ws H) (hD : va_D A0 ws) (hS : va_S A0 H0 H locs) (q0 q1 : Nat) {a a0 : Nat} {c0 : ClassId} {n0 n1 : Nat} {f g : Nat → Nat} (ha0 : ws[q0]? = some (a0, .inl (c0, n0, .inl (fun j => nI (f j))))) (ha1 : ws[q1]? = some (a, .inl (c0, n1, .inl (fun j => nI (g j))))) (ht0 : tys[0]? = some (c0, .int)) {n : Int32} {N : Nat} (h3 : ¬ n < 0) (hN : n.toNatClampNeg = N) (h4 : N ≤ n0) (h5 : N ≤ n1)
    (hframes : 1 ≤ R.frames) (hlocals : (rest.map fun v => v.category).sum + (nativeFrameWords "java/lang/System" "arraycopy" 5 + 11) ≤ R.locals) (hdg : decode cc pc = .ok (.invokestatic index, 3))
    (kk : ∀ (H1 : Heap) (locs1 : List Loc), va_P D vwCl (ws.set q1 (a, .inl (c0, n1, .inl (fun j => nI (cpyN N f g j))))) H1 → va_D A0 (ws.set q1 (a, .inl (c0, n1, .inl (fun j => nI (cpyN N f g j))))) → va_S A0 H0 H1 locs1 → W p l e R s m args below meth c H1 locs1 cells slots Q (F0 m (pc + 3) ls rest)) : W p l e R s m args below meth c H locs cells slots Q (F0 m pc ls (.int n :: .int 0 :: .ref a :: .int 0 :: .ref a0 :: rest)) :=
  acpI hx hb hml hown hlink hnat hstat hini hK hP hD hS q0 q1 ha0 ha1 ht0 h3 hN h4 h5 hframes hlocals hdg (fun H1 locs1 a1 a2 a3 => kk H1 locs1 (by rw [← cpy_nI]; exact a1) (by rw [← cpy_nI]; exact a2) a3)
theorem aldqN (hx : p.tables.exec = Jvm.exec) (hb : c.code = cc) (hK : va_K D vwCl tys s) (hP : va_P D vwCl ws H) (q0 t0 : Nat) {a : Nat} {cA : ClassId} {K : String} {n : Nat} {f : Nat → Nat} (ha : ws[q0]? = some (a, .inl (cA, n, .inr (.inr (.inr (.inr (fun k => some (f k)))))))) (ht : tys[t0]? = some (cA, .object K)) {i : Nat} (hi : i < n) (hn : n < 2 ^ 31) (hdg : decode cc pc = .ok (.aaload, 1))
    (kk : W p l e R s m args below meth c H locs cells slots Q (F0 m (pc + 1) ls (.ref (f i) :: rest))) : W p l e R s m args below meth c H locs cells slots Q (F0 m pc ls (.int (nI i) :: .ref a :: rest)) :=
  va_aldq hx hb hK hP q0 t0 ha ht (vp_in_nI hi hn) hdg (by rw [nI_clamp (Nat.lt_trans hi hn)]; exact kk)
end
abbrev nNx (N : Nat × Nat) : Nat := N.1
abbrev nCt (N : Nat × Nat) : Nat := N.2
abbrev mkHH (a b : Nat) : Nat × Nat := (a, b)
abbrev hhcells (C : Nat → ClassId) (h : Nat → Nat) (N : Nat × Nat) : va_W := [(h 0, .inr (6, [.ref (h 1), .int (nI (nNx N)), .int (nI (nCt N))])), (h 1, .inl (C 2, 8, .inr (.inr (.inr (.inr (fun k => some (hG h k 0)))))))]
abbrev hgames (C : Nat → ClassId) (h : Nat → Nat) (g : Nat → GS) : List va_W := [gcells C (hG h 0) (g 0), gcells C (hG h 1) (g 1), gcells C (hG h 2) (g 2), gcells C (hG h 3) (g 3), gcells C (hG h 4) (g 4), gcells C (hG h 5) (g 5), gcells C (hG h 6) (g 6), gcells C (hG h 7) (g 7)]
abbrev hcells (C : Nat → ClassId) (h : Nat → Nat) (S : HS) : va_W := wj (hhcells C h (mkHH (hNx S) (hCt S)) :: hgames C h (hRg S))
def updG (f : Nat → GS) (k : Nat) (x : GS) : Nat → GS := fun j => if j = k then x else f j
