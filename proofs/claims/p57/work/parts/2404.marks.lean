/-! a row of booleans; counters that go down; a search by marks that grow -/
abbrev stc (C : Nat → ClassId) (o n : Nat) (b : Nat → Bool) : va_W := [(o, .inl (C 5, n, .inl (fun j => bI (b j))))]
def updB (b : Nat → Bool) (i : Nat) (x : Bool) : Nat → Bool := fun j => if j = i then x else b j
theorem upd_bI (b : Nat → Bool) (i : Nat) (x : Bool) : upd (fun j => bI (b j)) i (vp_nar .boolean (bI x)) = fun j => bI (updB b i x j) := by
  funext j
  show (if j = i then vp_nar .boolean (bI x) else bI (b j)) = bI (if j = i then x else b j)
  by_cases h : j = i
  · rw [if_pos h, if_pos h]; cases x <;> rfl
  · rw [if_neg h, if_neg h]
theorem nI_dn9 : ∀ k, k < 9 → nI (9 - k) + (-1) = nI (9 - (k + 1)) := by decide +kernel
theorem nI_np9 : ∀ n, 1 ≤ n → n < 10 → ¬ nI n ≤ 0 := by
  have h : ∀ n, n < 10 → 1 ≤ n → ¬ nI n ≤ 0 := by decide +kernel
  exact fun n h1 h2 => h n h2 h1
section
variable {p : Program} {l : Launch} {e : Env} {R : Room} {s : State} {m : MethodId} {args : Array Value} {below : List Frame} {meth : Method} {c : Code} {H : Heap} {locs : List Loc} {cells slots mc ms : Nat} {Q : State → Prop} {cc : ByteArray} {pc : Nat} {ls : Array Slot} {rest st0 : List Value} {A : Nat → Prop} {D : va_G} {C : Nat → ClassId} {X : va_W} {o n : Nat} {b : Nat → Bool} {H0 : Heap}
theorem stGet (hexec : p.tables.exec = Jvm.exec) (hb : c.code = cc) (hK : va_K D vwCl (tyA C) s) (hP : va_P D vwCl (wj [X, stc C o n b]) H) (hn : n ≤ 12) {i : Nat} (hi : i < n) (hdg : decode cc pc = .ok (.baload, 1))
    (kk : W p l e R s m args below meth c H locs cells slots Q (F0 m (pc + 1) ls (.int (bI (b i)) :: rest))) : W p l e R s m args below meth c H locs cells slots Q (F0 m pc ls (.int (nI i) :: .ref o :: rest)) :=
  va_zald (tys := tyA C) hexec hb hK (wj_P (cs := [stc C o n b]) hP [1] rfl : va_P D vwCl (stc C o n b) H) 0 5 rfl rfl (vp_in_nI hi (by omega)) hdg (by rw [nI_clamp (by omega)]; exact kk)
theorem stPut (hexec : p.tables.exec = Jvm.exec) (hb : c.code = cc) (hK : va_K D vwCl (tyA C) s) (hP : va_P D vwCl (wj [X, stc C o n b]) H) (hD : va_D A (wj [X, stc C o n b])) (hS : va_S A H0 H locs) (hn : n ≤ 12) {i : Nat} {x : Bool} (hi : i < n) (hdg : decode cc pc = .ok (.bastore, 1))
    (kk : ∀ (H1 : Heap) (locs1 : List Loc), va_P D vwCl (wj [X, stc C o n (updB b i x)]) H1 → va_D A (wj [X, stc C o n (updB b i x)]) → va_S A H0 H1 locs1 → W p l e R s m args below meth c H1 locs1 cells slots Q (F0 m (pc + 1) ls rest)) : W p l e R s m args below meth c H locs cells slots Q (F0 m pc ls (.int (bI x) :: .int (nI i) :: .ref o :: rest)) := by
  have e1 : (X ++ stc C o n b)[X.length]? = some (o, .inl (C 5, n, .inl (fun j => bI (b j)))) := by
    rw [List.getElem?_append_right (Nat.le_refl _), Nat.sub_self]; rfl
  have e2 : (X ++ stc C o n b).set X.length (o, .inl (C 5, n, .inl (upd (fun j => bI (b j)) i (vp_nar .boolean (bI x))))) = X ++ stc C o n (updB b i x) := by
    rw [List.set_append_right _ _ (Nat.le_refl _), Nat.sub_self, upd_bI]; rfl
  refine va_zast (tys := tyA C) hexec hb hK (show va_P D vwCl (X ++ stc C o n b) H from hP) (show va_D A (X ++ stc C o n b) from hD) hS X.length 5 e1 rfl (vp_in_nI hi (by omega)) hdg (fun H1 locs1 hP1 hD1 hS1 => ?_)
  rw [nI_clamp (by omega), e2] at hP1 hD1
  exact kk H1 locs1 hP1 hD1 hS1
theorem stNew (hn : n ≤ 12) (hexec : p.tables.exec = Jvm.exec) (hb : c.code = cc) (harr : (Cond.arrayClass .boolean).before args s = true) (hK : va_K D vwCl (tyA C) s) (hP : va_P D vwCl X H) (hD : va_D A X) (hS : va_S A H0 H locs) (hA : ∀ q, H0.size ≤ q → A q) (hcells : cells + 1 ≤ R.cells) (hslots : slots + n ≤ R.slots) (hdg : decode cc pc = .ok (.newarray .boolean, 2))
    (kk : ∀ (o : Nat) (H1 : Heap), va_P D vwCl (wj [X, stc C o n (fun _ => false)]) H1 → va_D A (wj [X, stc C o n (fun _ => false)]) → va_S A H0 H1 locs → W p l e R s m args below meth c H1 locs (cells + 1) (slots + n) Q (F0 m (pc + 2) ls (.ref o :: rest))) : W p l e R s m args below meth c H locs cells slots Q (F0 m pc ls (.int (nI n) :: rest)) := by
  refine va_newa (atype := .boolean) (ty := .boolean) (N' := n) (a0 := (n, .inl (fun _ => 0))) hexec hb harr rfl hK hP hD hS hA (fun _ => rfl) (nI_pos (by omega)) (nI_clamp (by omega)) (by show n * 1 ≤ _; omega) hcells hslots hdg (fun q cA H1 hK9 hP1 hD1 hS1 => ?_)
  have hcA : cA = C 5 := cls_g (ty := .boolean) (i := 6) (j := 5) hK9 (fun c h => h) rfl rfl
  subst hcA
  exact kk q H1 hP1 hD1 hS1
end
def jI (r r' : Int32) : Prop := r' = r ∨ cU r' + 1 ≤ cU r
def jM (b r : Int32) : Nat := if b = r then 0 else cU r + 1
theorem jI_rf (r : Int32) : jI r r := Or.inl rfl
theorem or_0 (r : Int32) : r ||| 0 = r := bit_ext (fun k _ => by rw [bit_or, bit_0, Bool.or_false])
theorem jI_0 {r r1 : Int32} (h : jI r r1) : jI r (r1 ||| 0) := by rw [or_0]; exact h
theorem jI_1 {r r1 : Int32} (h : jI r r1) {i : Nat} (hi : i < 8) : jI r (r1 ||| (1 <<< (nI i &&& 31))) := by
  cases hb : bitAt r1 i
  · have q := cU_set hi hb
    rcases h with h | h
    · subst h; exact Or.inr q
    · exact Or.inr (by omega)
  · have e : r1 ||| (1 <<< (nI i &&& 31)) = r1 := bit_ext (fun k hk => by
      rw [bit_or, bit_mask i hi, bit_mask_at i hi k hk]
      by_cases e : k = i
      · subst e; rw [hb]; rfl
      · simp [e])
    rw [e]; exact h
theorem or_as (x y z : Int32) : x ||| (y ||| z) = (x ||| y) ||| z := bit_ext (fun k _ => by rw [bit_or, bit_or, bit_or, bit_or, Bool.or_assoc])
theorem jI_or {r r1 : Int32} (h : jI r r1) {i j : Nat} (hi : i < 8) (hj : j < 8) : jI r (r1 ||| ((1 <<< (nI i &&& 31)) ||| (1 <<< (nI j &&& 31)))) := by
  rw [or_as]; exact jI_1 (jI_1 h hi) hj
theorem jM_lt {b r r' : Int32} (hn : ¬ b = r) (h : jI r r') : jM r r' < jM b r := by
  unfold jM
  rw [if_neg hn]
  split
  · omega
  · rename_i h2
    rcases h with h | h
    · exact absurd h.symm h2
    · omega
theorem jM_0 {i : Nat} (hi : i < 8) : jM 0 (1 <<< (nI i &&& 31)) < 9 := by
  have q := cU_set (x := 0) hi (bit_0 i)
  have e : (0 : Int32) ||| (1 <<< (nI i &&& 31)) = 1 <<< (nI i &&& 31) := bit_ext (fun k _ => by rw [bit_or, bit_0, Bool.false_or])
  rw [e] at q
  have := cU_8 0
  unfold jM
  split <;> omega
