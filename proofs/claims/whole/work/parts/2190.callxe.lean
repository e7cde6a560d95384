section
variable {p : Program} {l : Launch} {e : Env} {R : Room} {s : State} {m : MethodId} {args : Array Value} {below : List Frame} {meth : Method} {c : Code} {H : Heap} {locs : List Loc} {cells slots mc ms : Nat} {Q : State → Prop} {pc : Nat} {ls : Array Slot} {rest st0 : List Value} {A0 A1 : Nat → Prop} {H0 : Heap} {D : va_G} {ws' : va_W} {cz : Nat} {α : Type} {F : α → Prop} {w : α → va_W} {v : α → Option Value}
theorem callXE {a : Array Value} (hr : vx_Run p l e R s m args below meth c H locs cells slots mc ms (F0 m pc ls st0) rest (xE cz v D F w A1 a) (xC cz D ws' A1) A1) (hS : va_S A0 H0 H locs) (hF : ∀ q, A1 q → A0 q)
    (kx : 0 < cz → cz < 7 → ∀ (ce : Cell) (q9 : Addr) (H1 : Heap) (locs1 : List Loc), va_P D vwCl ws' H1 → (∀ q : Nat, q < H.size → ¬ A1 q → H1[q]? = H[q]?) → va_S A0 H0 H1 locs1 → H1[q9]? = some ce → ce.vm = .none → s.vm.findClass (xN cz) = some ce.cls → vx_W p l e R s m args below meth c H1 locs1 (cells + mc) (slots + ms) Q (F0 m pc ls rest) q9)
    (kk : cz = 0 → ∀ (x : α) (H1 : Heap) (locs1 : List Loc), F x → va_P D vwCl (w x) H1 → va_D A1 (w x) → (∀ q : Nat, q < H.size → ¬ A1 q → H1[q]? = H[q]?) → va_S A0 H0 H1 locs1 → W p l e R s m args below meth c H1 locs1 (cells + mc) (slots + ms) Q (F0 m (pc + 3) ls ((v x).toList ++ rest))) : W p l e R s m args below meth c H locs cells slots Q (F0 m pc ls st0) := by
  intro T hT X
  rcases hr T hT X with ⟨v', st₀, t, T', L, h0, X', hL, e1, e2, ⟨hc, ⟨x, hv, hFx, hw, hd⟩, hf⟩, st⟩ | ⟨q, st₀, t, T', L, E, ce, h0, X', hL, e1, e2, ⟨hc, hc7, hE, hw, hf⟩, hce, hcv, hcl, st⟩
  · cases hv
    obtain ⟨-, k2, k3⟩ := vx_keep h0 e1 hS (fun q _ h => hF q h) hF hL hf
    obtain ⟨t2, a1, b1⟩ := kk hc x T'.heap (locs ++ L) hFx (by rw [e1]; exact hw) hd k2 k3 T' rfl X'
    exact ⟨t2, st t2 a1, b1⟩
  · obtain ⟨-, k2, k3⟩ := vx_keep h0 e1 hS (fun q _ h => hF q h) hF hL hf
    obtain ⟨t2, a1, b1⟩ := kx hc hc7 ce q T'.heap (locs ++ L) (by rw [e1]; exact hw) k2 k3 (by rw [e1]; exact hce) hcv (by rw [← hE]; exact hcl) T' rfl X'
    exact ⟨t2, st.trans a1, b1⟩
end
theorem render_x {Q : QS} {G : GS} {T : TX} {x : Int32} (h : (f_X7_renderSite Q G T x).1 ≠ 0) : (f_X7_renderSite Q G T x).2 = T := by
  unfold f_X7_renderSite at h ⊢
  by_cases c : f_X7_requireSite Q G x = 0
  · rw [if_pos c] at h
    exact absurd rfl h
  · rw [if_neg c]
