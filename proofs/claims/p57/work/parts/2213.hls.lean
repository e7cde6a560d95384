/-! a helper is called -/
theorem hlP_blind {av : List Value} {D : va_G} {C : Nat → ClassId} {v : Nat → Nat} {ws : va_W} {sz : Nat} : FrameBlind (hlP av D C v ws sz) := fun a U g mk q => ⟨xP_blind a U g mk q.1, NCs.same (u := U) (U := U.calling g mk a) rfl q.2.1, CLs.same (u := U) (U := U.calling g mk a) rfl q.2.2⟩
theorem hloP_blind {av : List Value} {D : va_G} {C : Nat → ClassId} {v : Nat → Nat} {ws : va_W} {sz : Nat} : FrameBlind (hloP av D C v ws sz) := fun a U g mk q => ⟨xoP_blind a U g mk q.1, NCs.same (u := U) (U := U.calling g mk a) rfl q.2.1, CLs.same (u := U) (U := U.calling g mk a) rfl q.2.2⟩
section
variable {s : State} {H : Heap} {D : va_G} {C : Nat → ClassId} {v : Nat → Nat} {ws : va_W} {As : List Value} {A : Nat → Prop} {locs : List Loc}
theorem hlP_s (hP : va_P D vwCl ws H) (hK : va_K D vwCl (tyA C) s) (hE : EN s) (hD : va_D A ws) (hR : RVs v s) (hX : EVs v A s s.heap) (hT : XR s) (hV : XV A s s.heap) (hN : NCs s) (hC : CLs s) (hS : va_S A s.heap H locs) (hF : ∀ q, va_A ws H.size q → A q) : PreS s H (hlP As D C v ws H.size) As := by
  obtain ⟨p1, p2⟩ := xP_s (As := As) hP hK hE hD hR hX hT hV hS hF
  exact ⟨hlP_blind, fun U hU hW => ⟨p2 U hU hW, NCs.warm hW hN, CLs.warm hW hC⟩⟩
theorem hloP_s (hP : va_P D vwCl ws H) (hK : va_K D vwCl (tyA C) s) (hE : EN s) (hD : va_D A ws) (hR : RVs v s) (hX : EVs v A s s.heap) (hT : XR s) (hV : XV A s s.heap) (hDV : DVs v A s s.heap) (hN : NCs s) (hC : CLs s) (hS : va_S A s.heap H locs) (hF : ∀ q, va_A ws H.size q → A q) : PreS s H (hloP As D C v ws H.size) As := by
  obtain ⟨p1, p2⟩ := xP_s (As := As) hP hK hE hD hR hX hT hV hS hF
  obtain ⟨o1, o2⟩ := oP_s (As := As) hP hK hE hD hR hX hDV hS hF
  exact ⟨hloP_blind, fun U hU hW => ⟨⟨p2 U hU hW, (o2 U hU hW).2⟩, NCs.warm hW hN, CLs.warm hW hC⟩⟩
end
