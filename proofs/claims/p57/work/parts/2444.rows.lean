/-! a row behind the class's blocks, and a call that works on it alone -/
section
variable {p : Program} {l : Launch} {e : Env} {R : Room} {s : State} {m : MethodId} {args : Array Value} {below : List Frame} {meth : Method} {c : Code} {H : Heap} {locs : List Loc} {cells slots mc ms : Nat} {Q : State → Prop} {pc : Nat} {ls : Array Slot} {rest st0 : List Value} {A : Nat → Prop} {D : va_G} {C : Nat → ClassId} {Y Z : va_W} {Rs : List va_W}
theorem row2_pm (Y Z : va_W) (Rs : List va_W) : (wj (Y :: Z :: Rs)).Perm (Z ++ wj (Y :: Rs)) := (wj_pm (List.Perm.swap Z Y Rs)).trans (wj_app (bs := [Z]) (cs := Y :: Rs))
theorem rowC {α : Type} {v : α → Option Value} {F : α → Prop} {w' : α → va_W} {a : Array Value} (hr : va_Run p l e R s m args below meth c H locs cells slots mc ms (F0 m pc ls st0) rest (eO v D F w' (va_A Z H.size) a) (va_A Z H.size)) (hP : va_P D vwCl (wj (Y :: Z :: Rs)) H) (hD : va_D A (wj (Y :: Z :: Rs))) (hS : va_S A s.heap H locs) (hA : ∀ q, s.heap.size ≤ q → A q)
    (kk : ∀ (y : α) (H1 : Heap) (locs1 : List Loc), F y → va_P D vwCl (wj (Y :: w' y :: Rs)) H1 → va_D A (wj (Y :: w' y :: Rs)) → va_S A s.heap H1 locs1 → W p l e R s m args below meth c H1 locs1 (cells + mc) (slots + ms) Q (F0 m (pc + 3) ls ((v y).toList ++ rest))) : W p l e R s m args below meth c H locs cells slots Q (F0 m pc ls st0) := by
  have hF : ∀ q, va_A Z H.size q → A q := wj_F (cs := [Z]) hD hS hA [1] rfl
  refine callE hr hS hF (fun y H1 locs1 hF1 hPn hDn hk hS1 => kk y H1 locs1 hF1 ?_ ?_ hS1)
  · exact va_P_pm (row2_pm Y (w' y) Rs).symm (fr_P (va_P_pm (row2_pm Y Z Rs) hP) (va_D_pm (row2_pm Y Z Rs) hD) hk hPn)
  · exact va_D_pm (row2_pm Y (w' y) Rs).symm (fr_D (va_P_pm (row2_pm Y Z Rs) hP) (va_D_pm (row2_pm Y Z Rs) hD) hF hDn)
/-- a row that is not wanted any more -/
theorem row_drop {X : va_W} (hP : va_P D vwCl (wj (Y :: (Z ++ X) :: Rs)) H) : va_P D vwCl (wj (Y :: X :: Rs)) H := by
  refine va_P_m.mpr (fun q hq => va_P_m.mp hP q ?_)
  obtain ⟨b, hb, hqb⟩ := wj_mem.mp hq
  rcases List.mem_cons.mp hb with h | h
  · exact wj_mem.mpr ⟨b, by rw [h]; exact List.mem_cons_self, hqb⟩
  · rcases List.mem_cons.mp h with h | h
    · exact wj_mem.mpr ⟨Z ++ X, List.mem_cons_of_mem _ List.mem_cons_self, List.mem_append.mpr (Or.inr (by rw [← h]; exact hqb))⟩
    · exact wj_mem.mpr ⟨b, List.mem_cons_of_mem _ (List.mem_cons_of_mem _ h), hqb⟩
theorem row_dropD {X : va_W} (hD : va_D A (wj (Y :: (Z ++ X) :: Rs))) : va_D A (wj (Y :: X :: Rs)) := by
  have h1 : va_D A ((Z ++ X) ++ wj (Y :: Rs)) := va_D_pm (row2_pm Y (Z ++ X) Rs) hD
  have h2 : va_D A (Z ++ (X ++ wj (Y :: Rs))) := by rw [← List.append_assoc]; exact h1
  have h3 := va_D_m.mp h2
  have h4 : va_D A (X ++ wj (Y :: Rs)) := va_D_m.mpr ⟨(List.pairwise_append.mp h3.1).2.1, fun q hq => h3.2 q (List.mem_append.mpr (Or.inr hq))⟩
  exact va_D_pm (row2_pm Y X Rs).symm h4
end
/-- a text that stands, of which it is known what it says -/
def TF (T : TX) (t : Nat → Int32) : Prop := (∀ j, j < T.2 → t j = sb_b (T.1 j)) ∧ sb_Fit t ∧ T.2 ≤ 34 ∧ ∀ j, T.1 j < 128
abbrev tx (C : Nat → ClassId) (y : Nat × Nat × (Nat → Int32)) (T : TX) : va_W := tcel C y.1 y.2.1 T.2 (.int 0) (.int 0) y.2.2
theorem ch_v {c : Nat} (h : c < 128) : c16 (sb_b c &&& 255) = nI c := by
  rw [(sb_byte c (by omega)).1]
  exact (c16_ok _).symm.trans (sb_byte c (by omega)).2.1
section
variable {s : State} {H : Heap} {D : va_G} {C : Nat → ClassId} {ev : Nat → Nat} {ws : va_W} {X : String} {b : Addr} {As : List Value} {A : Nat → Prop} {locs : List Loc} {o v n : Nat} {t : Nat → Int32}
theorem roS_vH (hP : va_P D vwCl ws H) (hK : va_K D vwCl (tyA C) s) (hE : EN s) (hR : RVs ev s) (hX : EVs ev A s s.heap) (hT : STR o v n t (fun _ => False) s H) (hS : va_S A s.heap H locs) (hr : ∃ cell : Cell, H[b]? = some cell ∧ cell.vm.isStatics = false ∧ s.vm.findClass X = some cell.cls) : PreV s H X b (roS (.ref b :: As) D C ev ws o v n t) As :=
  ⟨roS_blind, hr, fun U hU hW => ⟨(roPE_v hP hK hE hR hX hS hr).2.2 U hU hW, by rw [hU]; exact hT.moved hW.alike⟩⟩
theorem oS_vH (hP : va_P D vwCl ws H) (hK : va_K D vwCl (tyA C) s) (hE : EN s) (hD : va_D A ws) (hR : RVs ev s) (hX : EVs ev A s s.heap) (hV : DVs ev A s s.heap) (hT : STR o v n t (va_A ws H.size) s H) (hS : va_S A s.heap H locs) (hF : ∀ q, va_A ws H.size q → A q) (hr : ∃ cell : Cell, H[b]? = some cell ∧ cell.vm.isStatics = false ∧ s.vm.findClass X = some cell.cls) : PreV s H X b (oS (.ref b :: As) D C ev ws H.size o v n t) As :=
  ⟨oS_blind, hr, fun U hU hW => ⟨(oP_v hP hK hE hD hR hX hV hS hF hr).2.2 U hU hW, by rw [hU]; exact hT.moved hW.alike⟩⟩
theorem STR_recvH (h : STR o v n t A s H) : ∃ cell : Cell, H[o]? = some cell ∧ cell.vm.isStatics = false ∧ s.vm.findClass "java/lang/String" = some cell.cls := by
  obtain ⟨cell, h1, h2, h3, -⟩ := h.1
  exact ⟨cell, h1, h2, h3⟩
end
/-- a row that is made comes right behind the class's blocks -/
theorem row_new (Y Z : va_W) (Rs : List va_W) : (wj (Y :: Rs) ++ Z).Perm (wj (Y :: Z :: Rs)) := List.perm_append_comm.trans (row2_pm Y Z Rs).symm
