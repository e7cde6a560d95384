/-! a table of eight rows of eight ints -/
abbrev farc (C : Nat → ClassId) (f : Nat → Nat) (F : Nat → Nat → Int32) : va_W := (f 0, .inl (C 4, 8, .inr (.inr (.inr (.inr (fun i => if i < 8 then some (f (1 + i)) else none)))))) :: (List.range 8).map (fun i => (f (1 + i), .inl (C 0, 8, .inl (F i))))
def updT (F : Nat → Nat → Int32) (i j : Nat) (x : Int32) : Nat → Nat → Int32 := fun a => if a = i then upd (F i) j x else F a
theorem far_at {C : Nat → ClassId} {f : Nat → Nat} {F : Nat → Nat → Int32} {i : Nat} (hi : i < 8) : (farc C f F)[1 + i]? = some (f (1 + i), .inl (C 0, 8, .inl (F i))) := by
  rw [Nat.add_comm 1 i]
  show ((List.range 8).map (fun i => (f (1 + i), (Sum.inl (C 0, 8, .inl (F i)) : va_E))))[i]? = _
  rw [List.getElem?_map, List.getElem?_range hi]
  show some (f (1 + i), _) = _
  rw [Nat.add_comm 1 i]
theorem far_set {C : Nat → ClassId} {f : Nat → Nat} {F : Nat → Nat → Int32} {i j : Nat} (hi : i < 8) (x : Int32) : (farc C f F).set (1 + i) (f (1 + i), .inl (C 0, 8, .inl (upd (F i) j x))) = farc C f (updT F i j x) := by
  rcases (by omega : i = 0 ∨ i = 1 ∨ i = 2 ∨ i = 3 ∨ i = 4 ∨ i = 5 ∨ i = 6 ∨ i = 7) with r | r | r | r | r | r | r | r <;> subst r <;> rfl
theorem nI_d8 : ∀ k, k < 512 → nI k / 8 = nI (k / 8) := by decide +kernel
theorem nI_r8 : ∀ k, k < 512 → nI k - nI k / 8 * 8 = nI (k % 8) := by decide +kernel
theorem nI_d64 : ∀ k, k < 512 → nI k / 64 = nI (k / 64) := by decide +kernel
section
variable {p : Program} {l : Launch} {e : Env} {R : Room} {s : State} {m : MethodId} {args : Array Value} {below : List Frame} {meth : Method} {c : Code} {H : Heap} {locs : List Loc} {cells slots mc ms : Nat} {Q : State → Prop} {cc : ByteArray} {pc : Nat} {ls : Array Slot} {rest st0 : List Value} {A : Nat → Prop} {D : va_G} {C : Nat → ClassId} {X : va_W} {f : Nat → Nat} {F : Nat → Nat → Int32} {H0 : Heap}
theorem farRow (hexec : p.tables.exec = Jvm.exec) (hb : c.code = cc) (hK : va_K D vwCl (tyA C) s) (hP : va_P D vwCl (wj [X, farc C f F]) H) {i : Nat} (hi : i < 8) (hdg : decode cc pc = .ok (.aaload, 1))
    (kk : W p l e R s m args below meth c H locs cells slots Q (F0 m (pc + 1) ls (.ref (f (1 + i)) :: rest))) : W p l e R s m args below meth c H locs cells slots Q (F0 m pc ls (.int (nI i) :: .ref (f 0) :: rest)) := by
  have hP : va_P D vwCl (farc C f F) H := wj_P (cs := [farc C f F]) hP [1] rfl
  have hin : vp_in (nI i) 8 := vp_in_nI hi (by decide)
  have hlt : (nI i).toNatClampNeg < 8 := Nat.not_le.mp fun q => hin (Or.inr q)
  have e : va_rf (if (nI i).toNatClampNeg < 8 then some (f (1 + (nI i).toNatClampNeg)) else none) = .ref (f (1 + i)) := by
    rw [nI_clamp (by omega), if_pos hi]; rfl
  exact W.aald (v := va_rf (if (nI i).toNatClampNeg < 8 then some (f (1 + (nI i).toNatClampNeg)) else none)) (ty := .array .int) hexec hb (hP 0 _ rfl) ((hK.2 4 _ rfl).1 8 (fun j => va_rf (if j < 8 then some (f (1 + j)) else none))) rfl (fun q => by cases q) (by show ¬ (nI i < 0 ∨ (arrV _ _ _).slots.size ≤ _); rw [arrV_size]; exact hin) (by show (arrV _ _ _).slots[_]? = _; rw [arrV_read _ _ hlt]) rfl rfl hdg (by rw [e]; exact kk)
theorem farGet (hexec : p.tables.exec = Jvm.exec) (hb : c.code = cc) (hK : va_K D vwCl (tyA C) s) (hP : va_P D vwCl (wj [X, farc C f F]) H) {i j : Nat} (hi : i < 8) (hj : j < 8) (hdg : decode cc pc = .ok (.iaload, 1))
    (kk : W p l e R s m args below meth c H locs cells slots Q (F0 m (pc + 1) ls (.int (F i j) :: rest))) : W p l e R s m args below meth c H locs cells slots Q (F0 m pc ls (.int (nI j) :: .ref (f (1 + i)) :: rest)) :=
  ialdN (tys := tyA C) hexec hb hK (wj_P (cs := [farc C f F]) hP [1] rfl : va_P D vwCl (farc C f F) H) (1 + i) 0 (far_at hi) rfl hj (by decide) hdg kk
theorem farPut (hexec : p.tables.exec = Jvm.exec) (hb : c.code = cc) (hK : va_K D vwCl (tyA C) s) (hP : va_P D vwCl (wj [X, farc C f F]) H) (hD : va_D A (wj [X, farc C f F])) (hS : va_S A H0 H locs) {i j : Nat} {x : Int32} (hi : i < 8) (hj : j < 8) (hdg : decode cc pc = .ok (.iastore, 1))
    (kk : ∀ (H1 : Heap) (locs1 : List Loc), va_P D vwCl (wj [X, farc C f (updT F i j x)]) H1 → va_D A (wj [X, farc C f (updT F i j x)]) → va_S A H0 H1 locs1 → W p l e R s m args below meth c H1 locs1 cells slots Q (F0 m (pc + 1) ls rest)) : W p l e R s m args below meth c H locs cells slots Q (F0 m pc ls (.int x :: .int (nI j) :: .ref (f (1 + i)) :: rest)) := by
  have e1 : (X ++ farc C f F)[X.length + (1 + i)]? = some (f (1 + i), .inl (C 0, 8, .inl (F i))) := by
    rw [List.getElem?_append_right (Nat.le_add_right _ _), Nat.add_sub_cancel_left]; exact far_at hi
  have e2 : (X ++ farc C f F).set (X.length + (1 + i)) (f (1 + i), .inl (C 0, 8, .inl (upd (F i) j x))) = X ++ farc C f (updT F i j x) := by
    rw [List.set_append_right _ _ (Nat.le_add_right _ _), Nat.add_sub_cancel_left, far_set hi]
  refine iastN (tys := tyA C) hexec hb hK (show va_P D vwCl (X ++ farc C f F) H from hP) (show va_D A (X ++ farc C f F) from hD) hS (X.length + (1 + i)) 0 e1 rfl hj (by decide) hdg (fun H1 locs1 hP1 hD1 hS1 => ?_)
  rw [e2] at hP1 hD1
  exact kk H1 locs1 hP1 hD1 hS1
theorem cls_g {ty : FieldType} {tys : List (ClassId × FieldType)} {U : State} {i j : Nat} {x y : ClassId} (hK : va_K D vwCl tys U) (hn : ∀ c, va_RA U c ty → U.vm.findClass ("[" ++ ty.toString) = some c) (hi : tys[i]? = some (x, ty)) (hj : tys[j]? = some (y, ty)) : x = y :=
  Option.some.inj ((hn _ (hK.2 i _ hi).2).symm.trans (hn _ (hK.2 j _ hj).2))
/-- the table is made -/
theorem farNew (hexec : p.tables.exec = Jvm.exec) (hb : c.code = cc) {own : String} {index : Nat} (hown : s.vm.findClass own = some m.cls) (hclink : (Cond.classLink own index "[[I").before args s = true) (hover : va_AOA .int s) (harr : (Cond.arrayClass .int).before args s = true)
    (hK : va_K D vwCl (tyA C) s) (hP : va_P D vwCl X H) (hD : va_D A X) (hS : va_S A H0 H locs) (hA : ∀ q, H0.size ≤ q → A q) (hcells : cells + 9 ≤ R.cells) (hslots : slots + 72 ≤ R.slots) (hdg : decode cc pc = .ok (.multianewarray index 2, 4))
    (kk : ∀ (f : Nat → Nat) (H1 : Heap), va_P D vwCl (wj [X, farc C f (fun _ _ => 0)]) H1 → va_D A (wj [X, farc C f (fun _ _ => 0)]) → va_S A H0 H1 locs → W p l e R s m args below meth c H1 locs (cells + 1 + 8) (slots + 8 + 8 * 8) Q (F0 m (pc + 4) ls (.ref (f 0) :: rest))) : W p l e R s m args below meth c H locs cells slots Q (F0 m pc ls (.int 8 :: .int 8 :: rest)) := by
  have hc0 : s.vm.findClass (FieldType.array .int).toString = some (C 0) := (hK.2 0 _ rfl).2
  refine va_mna (X := X) (L := []) (f := fun _ => .inl (C 0, 8, .inl (fun _ => 0))) (ty := .int) (cy := C 0) (N' := 8) (K' := 8) (z := (8, .inl (fun _ => 0))) hexec hb hown hclink hover harr hc0 hK (by rw [show va_pl [] (fun _ => (Sum.inl (C 0, 8, .inl (fun _ => 0)) : va_E)) = [] from rfl, List.append_nil]; exact hP) (by rw [show va_pl [] (fun _ => (Sum.inl (C 0, 8, .inl (fun _ => 0)) : va_E)) = [] from rfl, List.append_nil]; exact hD) hS hA (by decide) (by decide) (by decide) (by decide) (by decide) (by decide) (by decide) rfl rfl hcells hslots (fun c => rfl) hdg (fun q r cA H1 hr hl hK9 hP1 hD1 hS1 => ?_)
  have hcA : cA = C 4 := cls_g (ty := .array .int) (i := 6) (j := 4) hK9 (fun c h => h) rfl rfl
  subst hcA
  have e : (X ++ [(q, .inl (C 4, 8, .inr (.inr (.inr (.inr (fun i => if i < 8 then some (r i) else none))))))]) ++ va_pl ([] ++ (List.range 8).map r) (vr_up (fun _ => (Sum.inl (C 0, 8, .inl (fun _ => 0)) : va_E)) ((List.range 8).map r) (.inl (C 0, (8, .inl (fun _ => 0))))) = wj [X, farc C (fun k => if k = 0 then q else r (k - 1)) (fun _ _ => 0)] := by
    rw [show (vr_up (fun _ => (Sum.inl (C 0, 8, .inl (fun _ => 0)) : va_E)) ((List.range 8).map r) (.inl (C 0, (8, .inl (fun _ => 0))))) = fun _ => (Sum.inl (C 0, 8, .inl (fun _ => 0)) : va_E) from by funext a; unfold vr_up; split <;> rfl]
    rw [List.append_assoc]
    show X ++ ([_] ++ _) = X ++ _
    congr 1
    show (q, _) :: _ = (q, _) :: _
    congr 1
    · have hf : (fun i => if i < 8 then some (r i) else none) = (fun i => if i < 8 then some ((fun k => if k = 0 then q else r (k - 1)) (1 + i)) else none) := by
        funext i
        by_cases h : i < 8
        · rw [if_pos h, if_pos h]
          show some (r i) = some (if 1 + i = 0 then q else r (1 + i - 1))
          rw [if_neg (by omega), Nat.add_sub_cancel_left]
        · rw [if_neg h, if_neg h]
      rw [hf]
      try rfl
  rw [e] at hP1 hD1
  exact kk (fun k => if k = 0 then q else r (k - 1)) H1 hP1 hD1 hS1
end
