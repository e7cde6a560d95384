/-! deeds: the game and the history come back changed -/
def KVD (l : Launch) (y : MethodName) (W : List Cond) (rm : Room) (av : List Value) (D : va_G) (C : Nat → ClassId) (ev u : Nat → Nat) (K K' : CT) (T : TX) (cz : Nat) (v : Option Value) (mc ms : Nat) : Prop :=
  ∀ (x : KX) (sz : Nat), kF T x → vx_Met l y W rm (hloP av D C ev (kW C ev u K x) sz) (vO cz v D C ev u K' T (va_A (kW C ev u K x) sz)) (vC cz D C ev u K' T (va_A (kW C ev u K x) sz)) mc ms (va_A (kW C ev u K x) sz)
/-- the same, where what is thrown is caught -/
def KMD (l : Launch) (y : MethodName) (W : List Cond) (rm : Room) (av : List Value) (D : va_G) (C : Nat → ClassId) (ev u : Nat → Nat) (K K' : CT) (T : TX) (v : Option Value) (mc ms : Nat) : Prop :=
  ∀ (x : KX) (sz : Nat), kF T x → Met l y W rm (hloP av D C ev (kW C ev u K x) sz) (eO (fun _ : KX => v) D (kF T) (kW C ev u K') (va_A (kW C ev u K x) sz)) mc ms (va_A (kW C ev u K x) sz)
theorem kW_adG (C : Nat → ClassId) (ev u : Nat → Nat) (K : CT) (G' : GS) (S' : HS) (x : KX) : (kW C ev u (kG' K G' S') x).map (fun q => q.1) = (kW C ev u K x).map (fun q => q.1) := rfl
section
variable {l : Launch} {y : MethodName} {W : List Cond} {rm : Room} {av : List Value} {D : va_G} {C : Nat → ClassId} {ev u : Nat → Nat} {K : CT} {T T' : TX} {v : Option Value} {mc ms cz : Nat}
theorem KVD_vx {G' : GS} {S' : HS} {cx : KX → Nat} {vv : KX → Option Value} {cs cs' rs : KX → List va_W} 
    (h : ∀ (x : KX) (sz : Nat), kF T x → vx_Met l y W rm (xP av D C ev (wj (cs x)) sz) (xO (cx x) (vv x) D (wj (cs' x)) (va_A (wj (cs x)) sz)) (xC (cx x) D (wj (cs' x)) (va_A (wj (cs x)) sz)) mc ms (va_A (wj (cs x)) sz))
    (hc : ∀ x, kF T x → cx x = cz ∧ vv x = v) (hp : ∀ x, (kB C ev u K x).Perm (cs x ++ rs x)) (hp' : ∀ x, (cs' x ++ rs x).Perm (kB C ev u (kG' K G' S') x)) : KVD l y W rm av D C ev u K (kG' K G' S') T cz v mc ms := by
  intro x sz hx
  have e : (kW C ev u K x).Perm (wj (cs x) ++ wj (rs x)) := (wj_pm (hp x)).trans wj_app
  refine MetFree.mono (h x sz hx) (fun a s hv => ?_) (fun _ _ _ _ _ h => h) (fun a s o t hv hq => ?_)
  · obtain ⟨⟨⟨h0, h1, h2, h3, h4, h5, h6, h7, h8, h9⟩, hDV⟩, hN, hC⟩ := hv
    exact ⟨h0, h1, va_P_l e h2, h3, va_D_l e h4, h5, h6, h7.narrow (fun q => va_A_l e), h8, h9.narrow (fun q => va_A_l e)⟩
  · obtain ⟨⟨⟨h0, h1, h2, h3, h4, -⟩, -⟩, -, -⟩ := hv
    obtain ⟨c0, c1⟩ := hc x hx
    rcases hq with ⟨⟨hz, ho, hP1, hFr⟩, L, hL, hf⟩ | ⟨q, ho, E, ce, L, ⟨g1, g2, g3, hP1, hFr⟩, k1, k2, k3, k4, k5, k6⟩
    · exact Or.inl ⟨⟨by rw [← c0]; exact hz, ⟨x, by rw [ho, c1], hx, va_P_pm (wj_app.symm.trans (wj_pm (hp' x))) (fr_P (va_P_pm e h2) (va_D_pm e h4) (fun q hq hn => hFr.2 q hq (by rw [h1] at hn; exact hn)) hP1), adr_D (h4.self (sz := sz)) (kW_adG C ev u K G' S' x)⟩, hFr.1, fun q hq hn => hFr.2 q hq (fun hc => hn (va_A_l e hc))⟩, L, hL, fun q hq => va_A_l e (hf q hq)⟩
    · exact Or.inr ⟨q, ho, E, ce, L, ⟨by rw [← c0]; exact g1, by rw [← c0]; exact g2, by rw [← c0]; exact g3, ⟨x, hx, va_P_pm (wj_app.symm.trans (wj_pm (hp' x))) (fr_P (va_P_pm e h2) (va_D_pm e h4) (fun q hq hn => hFr.2 q hq (by rw [h1] at hn; exact hn)) hP1), adr_D (h4.self (sz := sz)) (kW_adG C ev u K G' S' x)⟩, hFr.1, fun q hq hn => hFr.2 q hq (fun hc => hn (va_A_l e hc))⟩, k1, k2, k3, k4, k5, fun z hz => va_A_l e (k6 z hz)⟩
end
section
variable {p : Program} {l : Launch} {e : Env} {R : Room} {s : State} {m : MethodId} {args : Array Value} {below : List Frame} {meth : Method} {c : Code} {H : Heap} {locs : List Loc} {cells slots mc ms : Nat} {Q : State → Prop} {cc : ByteArray} {pc : Nat} {ls : Array Slot} {rest st0 : List Value} {A : Nat → Prop} {D : va_G} {C : Nat → ClassId} {ev u : Nat → Nat} {K : CT} {T T' : TX} {v : Option Value} {x : KX} {owns : List va_W} {cz : Nat}
theorem callKVD {K' : CT} {a : Array Value} (hr : vx_Run p l e R s m args below meth c H locs cells slots mc ms (F0 m pc ls st0) rest (vO cz v D C ev u K' T (va_A (kW C ev u K x) H.size) a) (vC cz D C ev u K' T (va_A (kW C ev u K x) H.size)) (va_A (kW C ev u K x) H.size)) (hD : va_D A (kW C ev u K x)) (hS : va_S A s.heap H locs) (hA : ∀ q, s.heap.size ≤ q → A q)
    (kx : 0 < cz → cz < 7 → ∀ (x : KX) (ce : Cell) (q9 : Addr) (H1 : Heap) (locs1 : List Loc), kF T x → va_P D vwCl (kW C ev u K' x) H1 → va_D A (kW C ev u K' x) → va_S A s.heap H1 locs1 → H1[q9]? = some ce → ce.vm = .none → s.vm.findClass (xN cz) = some ce.cls → vx_W p l e R s m args below meth c H1 locs1 (cells + mc) (slots + ms) Q (F0 m pc ls rest) q9)
    (kk : cz = 0 → ∀ (x : KX) (H1 : Heap) (locs1 : List Loc), kF T x → va_P D vwCl (kW C ev u K' x) H1 → va_D A (kW C ev u K' x) → va_S A s.heap H1 locs1 → W p l e R s m args below meth c H1 locs1 (cells + mc) (slots + ms) Q (F0 m (pc + 3) ls (v.toList ++ rest))) : W p l e R s m args below meth c H locs cells slots Q (F0 m pc ls st0) := by
  have hF := all_F hD hS hA
  intro T9 hT X
  rcases hr T9 hT X with ⟨v', st₀, t, T', L, h0, X', hL, e1, e2, ⟨hc, ⟨x1, hv, hFx, hw, hd⟩, hf⟩, st⟩ | ⟨q, st₀, t, T', L, E, ce, h0, X', hL, e1, e2, ⟨hc, hc7, hE, ⟨x1, hFx, hw, hd⟩, hf⟩, hce, hcv, hcl, st⟩
  · cases hv
    obtain ⟨-, k2, k3⟩ := vx_keep h0 e1 hS (fun q _ h => hF q h) hF hL hf
    obtain ⟨t2, a1, b1⟩ := kk hc x1 T'.heap (locs ++ L) hFx (by rw [e1]; exact hw) ⟨hd.1, fun k q hq => hF _ (hd.2 k q hq)⟩ k3 T' rfl X'
    exact ⟨t2, st t2 a1, b1⟩
  · obtain ⟨-, k2, k3⟩ := vx_keep h0 e1 hS (fun q _ h => hF q h) hF hL hf
    obtain ⟨t2, a1, b1⟩ := kx hc hc7 x1 ce q T'.heap (locs ++ L) hFx (by rw [e1]; exact hw) ⟨hd.1, fun k q hq => hF _ (hd.2 k q hq)⟩ k3 (by rw [e1]; exact hce) hcv (by rw [← hE]; exact hcl) T' rfl X'
    exact ⟨t2, st.trans a1, b1⟩
end
