def hrest (C : Nat → ClassId) (h : Nat → Nat) (g : Nat → GS) (j : Nat) : List va_W := ((List.range 8).filter (fun i => decide (i ≠ j))).map (fun i => gcells C (hG h i) (g i))
theorem h_rng : ∀ j, j < 8 → (List.range 8).Perm (j :: (List.range 8).filter (fun i => decide (i ≠ j))) := by decide
theorem h_pick {C : Nat → ClassId} {h : Nat → Nat} {g : Nat → GS} {j : Nat} (hj : j < 8) (A src : va_W) : (wj (A :: hgames C h g) ++ src).Perm ((A ++ gcells C (hG h j) (g j) ++ src) ++ wj (hrest C h g j)) := by
  have p1 : (hgames C h g).Perm (gcells C (hG h j) (g j) :: hrest C h g j) := (h_rng j hj).map (fun i => gcells C (hG h i) (g i))
  rw [wj_fl, wj_fl, List.flatten_cons]
  have p2 : (hgames C h g).flatten.Perm (gcells C (hG h j) (g j) ++ (hrest C h g j).flatten) := p1.flatten
  have p3 : (A ++ (hgames C h g).flatten ++ src).Perm (A ++ (gcells C (hG h j) (g j) ++ (hrest C h g j).flatten) ++ src) := (p2.append_left A).append_right src
  refine p3.trans ?_
  rw [List.append_assoc, List.append_assoc, List.append_assoc, List.append_assoc]
  exact (List.perm_append_comm.append_left _).append_left _
theorem h_restu {C : Nat → ClassId} {h : Nat → Nat} {g : Nat → GS} {j : Nat} {x : GS} : hrest C h (updG g j x) j = hrest C h g j := by
  unfold hrest
  apply List.map_congr_left
  intro i hi
  have := of_decide_eq_true (List.mem_filter.mp hi).2
  unfold updG
  rw [if_neg this]
theorem h_put {C : Nat → ClassId} {h : Nat → Nat} {g : Nat → GS} {j : Nat} {x : GS} (hj : j < 8) (A src : va_W) : ((A ++ gcells C (hG h j) x ++ src) ++ wj (hrest C h g j)).Perm (wj (A :: hgames C h (updG g j x)) ++ src) := by
  have p := (h_pick (C := C) (h := h) (g := updG g j x) hj A src).symm
  rw [h_restu, show updG g j x j = x from if_pos rfl] at p
  exact p
def f_X3_push (S : HS) (G : GS) : HS := mkHS (updG (hRg S) (hNx S) (f_X1_copyFrom (hRg S (hNx S)) G)) ((hNx S + 1) % 8) (min (hCt S + 1) 8)
theorem c_X3_push (l : Launch) (D : va_G) (C : Nat → ClassId) (h : Nat → Nat) (S : HS) (a : Nat → Nat) (G : GS) (sz : Nat) (hN : hNx S < 8) (hC : hCt S ≤ 8) : Met l yX3_push wsX3_push ({ frames := 2, cells := 0, slots := 0, locals := 41 } : Room) (rwP [.ref (h 0), .ref (a 0)] D C (hcells C h S ++ gcells C a G) sz) (rwO none D (hcells C h (f_X3_push S G) ++ gcells C a G) (va_A (hcells C h S ++ gcells C a G) sz)) 0 0 (va_A (hcells C h S ++ gcells C a G) sz) :=
  Met_fr (c_X3_push_ l D C h (mkHH (hNx S) (hCt S)) (hRg S (hNx S)) a G sz hN hC) (h_pick hN _ _) (h_put hN _ _)
