section
variable {s : State} {H : Heap} {D : va_G} {C : Nat → ClassId} {v : Nat → Nat} {ws : va_W} {X : String} {b : Addr} {As : List Value} {A : Nat → Prop} {locs : List Loc}
theorem xoP_v (hP : va_P D vwCl ws H) (hK : va_K D vwCl (tyA C) s) (hE : EN s) (hD : va_D A ws) (hR : RVs v s) (hX : EVs v A s s.heap) (hT : XR s) (hV : XV A s s.heap) (hDV : DVs v A s s.heap) (hS : va_S A s.heap H locs) (hF : ∀ q, va_A ws H.size q → A q) (hr : ∃ cell : Cell, H[b]? = some cell ∧ cell.vm.isStatics = false ∧ s.vm.findClass X = some cell.cls) : PreV s H X b (xoP (.ref b :: As) D C v ws H.size) As := by
  obtain ⟨p1, p2, p3⟩ := xP_v (As := As) hP hK hE hD hR hX hT hV hS hF hr
  obtain ⟨o1, o2, o3⟩ := oP_v (As := As) hP hK hE hD hR hX hDV hS hF hr
  exact ⟨xoP_blind, p2, fun U hU hW => ⟨p3 U hU hW, (o3 U hU hW).2⟩⟩
end
