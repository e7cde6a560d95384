/-! the law's world: the class's blocks; what a question may change (the searches' rows, the output) is only said to be there -/
abbrev KX : Type := GR × OS
abbrev CT : Type := QS × GS × GS × GS × HS × SS
abbrev kQ (K : CT) : QS := K.1
abbrev kG (K : CT) : GS := K.2.1
abbrev kG1 (K : CT) : GS := K.2.2.1
abbrev kG2 (K : CT) : GS := K.2.2.2.1
abbrev kS (K : CT) : HS := K.2.2.2.2.1
abbrev kSc (K : CT) : SS := K.2.2.2.2.2
abbrev kB (C : Nat → ClassId) (ev u : Nat → Nat) (K : CT) (x : KX) : List va_W := kbl C ev u (kQ K) (kG K) (kG1 K) (kG2 K) x.1 (kS K) (kSc K) x.2
def kW (C : Nat → ClassId) (ev u : Nat → Nat) (K : CT) (x : KX) : va_W := wj (kB C ev u K x)
def kF (T : TX) (x : KX) : Prop := RSafe x.1 ∧ OT T x.2
/-- a question: any heap that holds the class's world: the method answers v, and the world is there again -/
def KM (l : Launch) (y : MethodName) (W : List Cond) (rm : Room) (av : List Value) (D : va_G) (C : Nat → ClassId) (ev u : Nat → Nat) (K : CT) (T T' : TX) (v : Option Value) (mc ms : Nat) : Prop :=
  ∀ (x : KX) (sz : Nat), kF T x → Met l y W rm (hloP av D C ev (kW C ev u K x) sz) (eO (fun _ : KX => v) D (kF T') (kW C ev u K) (va_A (kW C ev u K x) sz)) mc ms (va_A (kW C ev u K x) sz)
/-- the same beside a row of the law's own that is only read -/
def KMo (l : Launch) (y : MethodName) (W : List Cond) (rm : Room) (av : List Value) (D : va_G) (C : Nat → ClassId) (ev u : Nat → Nat) (K : CT) (T T' : TX) (ow : List va_W) (v : Option Value) (mc ms : Nat) : Prop :=
  ∀ (x : KX) (sz : Nat), kF T x → Met l y W rm (hloP av D C ev (wj (kW C ev u K x :: ow)) sz) (eO (fun _ : KX => v) D (kF T') (fun x => wj (kW C ev u K x :: ow)) (va_A (wj (kW C ev u K x :: ow)) sz)) mc ms (va_A (wj (kW C ev u K x :: ow)) sz)
theorem kW_ad (C : Nat → ClassId) (ev u : Nat → Nat) (K : CT) (R R' : GR) (O : OS) : (kW C ev u K (R', O)).map (fun q => q.1) = (kW C ev u K (R, O)).map (fun q => q.1) := rfl
theorem va_P_l {D : va_G} {ws wa wb : va_W} {H : Heap} (hp : ws.Perm (wa ++ wb)) (h : va_P D vwCl ws H) : va_P D vwCl wa H := va_P_m.mpr (fun q hq => va_P_m.mp (va_P_pm hp h) q (List.mem_append.mpr (Or.inl hq)))
theorem va_D_l {ws wa wb : va_W} (hp : ws.Perm (wa ++ wb)) (h : va_D (fun _ => True) ws) : va_D (fun _ => True) wa := va_D_m.mpr ⟨(List.pairwise_append.mp (va_D_m.mp (va_D_pm hp h)).1).1, fun _ _ => trivial⟩
theorem va_A_l {ws wa wb : va_W} (hp : ws.Perm (wa ++ wb)) {sz q : Nat} (h : va_A wa sz q) : va_A ws sz q := va_A_pm hp.symm (by
  rcases h with ⟨k, e, hk⟩ | hq
  · obtain ⟨k', hk'⟩ := List.mem_iff_getElem?.mp (List.mem_append.mpr (Or.inl (List.mem_of_getElem? hk)))
    exact Or.inl ⟨k', e, hk'⟩
  · exact Or.inr hq)
section
variable {l : Launch} {y : MethodName} {W : List Cond} {rm : Room} {av : List Value} {D : va_G} {C : Nat → ClassId} {ev u : Nat → Nat} {K : CT} {T T' : TX} {v : Option Value} {mc ms : Nat}
/-- a method that may throw, where it doesn't -/
theorem KM_vx {cz : KX → Nat} {vv : KX → Option Value} {cs cs' rs : KX → List va_W} {nx : KX → GR}
    (h : ∀ (x : KX) (sz : Nat), kF T x → vx_Met l y W rm (xP av D C ev (wj (cs x)) sz) (xO (cz x) (vv x) D (wj (cs' x)) (va_A (wj (cs x)) sz)) (xC (cz x) D (wj (cs' x)) (va_A (wj (cs x)) sz)) mc ms (va_A (wj (cs x)) sz))
    (hc : ∀ x, kF T x → cz x = 0 ∧ vv x = v) (hp : ∀ x, (kB C ev u K x).Perm (cs x ++ rs x)) (hp' : ∀ x, (cs' x ++ rs x).Perm (kB C ev u K (nx x, x.2))) (hF : ∀ x, kF T x → kF T (nx x, x.2)) : KM l y W rm av D C ev u K T T v mc ms := by
  intro x sz hx
  have e : (kW C ev u K x).Perm (wj (cs x) ++ wj (rs x)) := (wj_pm (hp x)).trans wj_app
  refine MetFree.mono (h x sz hx) (fun a s hv => ?_) (fun _ _ _ _ _ h => h) (fun a s o t hv hq => ?_)
  · obtain ⟨⟨⟨h0, h1, h2, h3, h4, h5, h6, h7, h8, h9⟩, hDV⟩, hN, hC⟩ := hv
    exact ⟨h0, h1, va_P_l e h2, h3, va_D_l e h4, h5, h6, h7.narrow (fun q => va_A_l e), h8, h9.narrow (fun q => va_A_l e)⟩
  · obtain ⟨⟨⟨h0, h1, h2, h3, h4, -⟩, -⟩, -, -⟩ := hv
    obtain ⟨c0, c1⟩ := hc x hx
    rcases hq with ⟨⟨hz, ho, hP1, hFr⟩, L, hL, hf⟩ | ⟨q, ho, E, ce, L, hXC, -⟩
    · refine ⟨⟨⟨(nx x, x.2), by rw [ho, c1], hF x hx, va_P_pm (wj_app.symm.trans (wj_pm (hp' x))) (fr_P (va_P_pm e h2) (va_D_pm e h4) (fun q hq hn => hFr.2 q hq (by rw [h1] at hn; exact hn)) hP1), adr_D (h4.self (sz := sz)) (kW_ad C ev u K x.1 (nx x) x.2)⟩, hFr.1, fun q hq hn => hFr.2 q hq (fun hc => hn (va_A_l e hc))⟩, L, hL, fun q hq => va_A_l e (hf q hq)⟩
    · have := hXC.1
      rw [c0] at this
      exact absurd this (Nat.lt_irrefl 0)
/-- the same, where the digits' rows are wanted too -/
theorem KM_vxo {cz : KX → Nat} {vv : KX → Option Value} {cs cs' rs : KX → List va_W} {nx : KX → GR}
    (h : ∀ (x : KX) (sz : Nat), kF T x → vx_Met l y W rm (xoP av D C ev (wj (cs x)) sz) (xO (cz x) (vv x) D (wj (cs' x)) (va_A (wj (cs x)) sz)) (xC (cz x) D (wj (cs' x)) (va_A (wj (cs x)) sz)) mc ms (va_A (wj (cs x)) sz))
    (hc : ∀ x, kF T x → cz x = 0 ∧ vv x = v) (hp : ∀ x, (kB C ev u K x).Perm (cs x ++ rs x)) (hp' : ∀ x, (cs' x ++ rs x).Perm (kB C ev u K (nx x, x.2))) (hF : ∀ x, kF T x → kF T (nx x, x.2)) : KM l y W rm av D C ev u K T T v mc ms := by
  intro x sz hx
  have e : (kW C ev u K x).Perm (wj (cs x) ++ wj (rs x)) := (wj_pm (hp x)).trans wj_app
  refine MetFree.mono (h x sz hx) (fun a s hv => ?_) (fun _ _ _ _ _ h => h) (fun a s o t hv hq => ?_)
  · obtain ⟨⟨⟨h0, h1, h2, h3, h4, h5, h6, h7, h8, h9⟩, hDV⟩, hN, hC⟩ := hv
    exact ⟨⟨h0, h1, va_P_l e h2, h3, va_D_l e h4, h5, h6, h7.narrow (fun q => va_A_l e), h8, h9.narrow (fun q => va_A_l e)⟩, hDV.narrow (fun q => va_A_l e)⟩
  · obtain ⟨⟨⟨h0, h1, h2, h3, h4, -⟩, -⟩, -, -⟩ := hv
    obtain ⟨c0, c1⟩ := hc x hx
    rcases hq with ⟨⟨hz, ho, hP1, hFr⟩, L, hL, hf⟩ | ⟨q, ho, E, ce, L, hXC, -⟩
    · refine ⟨⟨⟨(nx x, x.2), by rw [ho, c1], hF x hx, va_P_pm (wj_app.symm.trans (wj_pm (hp' x))) (fr_P (va_P_pm e h2) (va_D_pm e h4) (fun q hq hn => hFr.2 q hq (by rw [h1] at hn; exact hn)) hP1), adr_D (h4.self (sz := sz)) (kW_ad C ev u K x.1 (nx x) x.2)⟩, hFr.1, fun q hq hn => hFr.2 q hq (fun hc => hn (va_A_l e hc))⟩, L, hL, fun q hq => va_A_l e (hf q hq)⟩
    · have := hXC.1
      rw [c0] at this
      exact absurd this (Nat.lt_irrefl 0)
/-- a method that reads and makes nothing -/
theorem KM_ro {vv : KX → Option Value} {cs rs : KX → List va_W} {wl : KX → va_W} (h : ∀ x, kF T x → Met l y W rm (roP av D C (wl x)) (roO (vv x)) 0 0 (fun _ => False)) (he : ∀ x, wl x = wj (cs x)) (hc : ∀ x, kF T x → vv x = v) (hp : ∀ x, (kB C ev u K x).Perm (cs x ++ rs x)) : KM l y W rm av D C ev u K T T v 0 0 := by
  intro x sz hx
  have e : (kW C ev u K x).Perm (wl x ++ wj (rs x)) := by rw [he x]; exact (wj_pm (hp x)).trans wj_app
  refine Met_mono (h x hx) (fun a s hv => ?_) (fun a s o t hv hq => ?_) (fun q hq => hq.elim)
  · obtain ⟨⟨⟨h0, h1, h2, h3, h4, h5, -⟩, -⟩, -, -⟩ := hv
    exact ⟨h0, va_P_l e h2, h3, h5⟩
  · obtain ⟨⟨⟨h0, h1, h2, h3, h4, h5, -⟩, -⟩, -, -⟩ := hv
    obtain ⟨ho, hh⟩ := hq
    exact ⟨⟨x, by rw [ho, hc x hx], hx, by rw [hh]; exact h2, h4.self (sz := sz)⟩, Nat.le_of_eq (by rw [hh]), fun q _ _ => by rw [hh]⟩
/-- a method that writes into the searches' rows and makes nothing -/
theorem KM_rw {vv : KX → Option Value} {cs cs' rs : KX → List va_W} {wl wl' : KX → va_W} {nx : KX → GR} (h : ∀ (x : KX) (sz : Nat), kF T x → Met l y W rm (rwP av D C (wl x) sz) (rwO (vv x) D (wl' x) (va_A (wl x) sz)) 0 0 (va_A (wl x) sz)) (he : ∀ x, wl x = wj (cs x)) (he' : ∀ x, wl' x = wj (cs' x)) (hc : ∀ x, kF T x → vv x = v) (hp : ∀ x, (kB C ev u K x).Perm (cs x ++ rs x)) (hp' : ∀ x, (cs' x ++ rs x).Perm (kB C ev u K (nx x, x.2))) (hF : ∀ x, kF T x → kF T (nx x, x.2)) : KM l y W rm av D C ev u K T T v 0 0 := by
  intro x sz hx
  have e : (kW C ev u K x).Perm (wl x ++ wj (rs x)) := by rw [he x]; exact (wj_pm (hp x)).trans wj_app
  refine Met_mono (h x sz hx) (fun a s hv => ?_) (fun a s o t hv hq => ?_) (fun q hq => va_A_l e hq)
  · obtain ⟨⟨⟨h0, h1, h2, h3, h4, h5, -⟩, -⟩, -, -⟩ := hv
    exact ⟨h0, h1, va_P_l e h2, h3, va_D_l e h4, h5⟩
  · obtain ⟨⟨⟨h0, h1, h2, h3, h4, h5, -⟩, -⟩, -, -⟩ := hv
    obtain ⟨ho, hP1, hFr⟩ := hq
    have hP1 : va_P D vwCl (wj (cs' x)) t.heap := by rw [← he' x]; exact hP1
    exact ⟨⟨(nx x, x.2), by rw [ho, hc x hx], hF x hx, va_P_pm (wj_app.symm.trans (wj_pm (hp' x))) (fr_P (va_P_pm e h2) (va_D_pm e h4) (fun q hq hn => hFr.2 q hq (by rw [h1] at hn; exact hn)) hP1), adr_D (h4.self (sz := sz)) (kW_ad C ev u K x.1 (nx x) x.2)⟩, hFr.1, fun q hq hn => hFr.2 q hq (fun hc => hn (va_A_l e hc))⟩
end
section
variable {s : State} {H : Heap} {D : va_G} {C : Nat → ClassId} {v : Nat → Nat} {ws : va_W} {As : List Value} {A : Nat → Prop} {locs : List Loc}
theorem hloP_v {X : String} {b : Addr} (hP : va_P D vwCl ws H) (hK : va_K D vwCl (tyA C) s) (hE : EN s) (hD : va_D A ws) (hR : RVs v s) (hX : EVs v A s s.heap) (hT : XR s) (hV : XV A s s.heap) (hDV : DVs v A s s.heap) (hN : NCs s) (hC : CLs s) (hS : va_S A s.heap H locs) (hF : ∀ q, va_A ws H.size q → A q) (hr : ∃ cell : Cell, H[b]? = some cell ∧ cell.vm.isStatics = false ∧ s.vm.findClass X = some cell.cls) : PreV s H X b (hloP (.ref b :: As) D C v ws H.size) As := by
  obtain ⟨p1, r, p2⟩ := xP_v (As := As) hP hK hE hD hR hX hT hV hS hF hr
  obtain ⟨o1, r1, o2⟩ := oP_v (As := As) hP hK hE hD hR hX hDV hS hF hr
  exact ⟨hloP_blind, r, fun U hU hW => ⟨⟨p2 U hU hW, (o2 U hU hW).2⟩, NCs.warm hW hN, CLs.warm hW hC⟩⟩
end
section
variable {p : Program} {l : Launch} {e : Env} {R : Room} {s : State} {m : MethodId} {args : Array Value} {below : List Frame} {meth : Method} {c : Code} {H : Heap} {locs : List Loc} {cells slots mc ms : Nat} {Q : State → Prop} {cc : ByteArray} {pc : Nat} {ls : Array Slot} {rest st0 : List Value} {A : Nat → Prop} {D : va_G} {C : Nat → ClassId} {ev u : Nat → Nat} {K : CT} {T T' : TX} {v : Option Value} {x : KX} {owns : List va_W}
theorem kP (hP : va_P D vwCl (wj (kW C ev u K x :: owns)) H) : va_P D vwCl (kW C ev u K x) H := wj_P (cs := [kW C ev u K x]) hP [0] rfl
theorem kD (hD : va_D A (wj (kW C ev u K x :: owns))) : va_D A (kW C ev u K x) := wj_D (cs := [kW C ev u K x]) hD [0] (by decide) rfl
theorem kFr (hD : va_D A (wj (kW C ev u K x :: owns))) (hS : va_S A s.heap H locs) (hA : ∀ q, s.heap.size ≤ q → A q) : ∀ q, va_A (kW C ev u K x) H.size q → A q := wj_F (cs := [kW C ev u K x]) hD hS hA [0] rfl
theorem kRc (hK : va_K D vwCl (tyA C) s) (hP : va_P D vwCl (wj (kW C ev u K x :: owns)) H) : ∃ cell : Cell, H[u 0]? = some cell ∧ cell.vm.isStatics = false ∧ s.vm.findClass RX7 = some cell.cls := va_recv hK (show va_P D vwCl (wj (kB C ev u K x)) H from kP hP) (ci := 8) (q0 := 0) rfl rfl
theorem callK {a : Array Value} (hr : va_Run p l e R s m args below meth c H locs cells slots mc ms (F0 m pc ls st0) rest (eO (fun _ : KX => v) D (kF T') (kW C ev u K) (va_A (kW C ev u K x) H.size) a) (va_A (kW C ev u K x) H.size))
    (hP : va_P D vwCl (wj (kW C ev u K x :: owns)) H) (hD : va_D A (wj (kW C ev u K x :: owns))) (hS : va_S A s.heap H locs) (hA : ∀ q, s.heap.size ≤ q → A q)
    (kk : ∀ (x : KX) (H1 : Heap) (locs1 : List Loc), kF T' x → va_P D vwCl (wj (kW C ev u K x :: owns)) H1 → va_D A (wj (kW C ev u K x :: owns)) → va_S A s.heap H1 locs1 → W p l e R s m args below meth c H1 locs1 (cells + mc) (slots + ms) Q (F0 m (pc + 3) ls (v.toList ++ rest))) : W p l e R s m args below meth c H locs cells slots Q (F0 m pc ls st0) :=
  callE hr hS (kFr hD hS hA) (fun x1 H1 locs1 hF1 hPn hDn hk hS1 => kk x1 H1 locs1 hF1
    (jb (bs := kW C ev u K x :: owns) (cs := [kW C ev u K x]) (rs := owns) (cs' := [kW C ev u K x1]) (bs' := kW C ev u K x1 :: owns) hP hD (List.Perm.refl _) (List.Perm.refl _) hk hPn)
    (jbD (bs := kW C ev u K x :: owns) (cs := [kW C ev u K x]) (rs := owns) (cs' := [kW C ev u K x1]) (bs' := kW C ev u K x1 :: owns) hP hD (List.Perm.refl _) (List.Perm.refl _) (kFr hD hS hA) hDn) hS1)
theorem callKo {ow : List va_W} {a : Array Value} (hr : va_Run p l e R s m args below meth c H locs cells slots mc ms (F0 m pc ls st0) rest (eO (fun _ : KX => v) D (kF T') (fun x => wj (kW C ev u K x :: ow)) (va_A (wj (kW C ev u K x :: ow)) H.size) a) (va_A (wj (kW C ev u K x :: ow)) H.size))
    (hD : va_D A (wj (kW C ev u K x :: ow))) (hS : va_S A s.heap H locs) (hA : ∀ q, s.heap.size ≤ q → A q)
    (kk : ∀ (x : KX) (H1 : Heap) (locs1 : List Loc), kF T' x → va_P D vwCl (wj (kW C ev u K x :: ow)) H1 → va_D A (wj (kW C ev u K x :: ow)) → va_S A s.heap H1 locs1 → W p l e R s m args below meth c H1 locs1 (cells + mc) (slots + ms) Q (F0 m (pc + 3) ls (v.toList ++ rest))) : W p l e R s m args below meth c H locs cells slots Q (F0 m pc ls st0) :=
  callE hr hS (all_F hD hS hA) (fun x1 H1 locs1 hF1 hPn hDn _ hS1 => kk x1 H1 locs1 hF1 hPn ⟨hDn.1, fun k q hq => all_F hD hS hA _ (hDn.2 k q hq)⟩ hS1)
theorem ko_retB {ow : List va_W} {b z : Bool} (hx : p.tables.exec = Jvm.exec) (hb : c.code = cc) (hr : meth.sig.returnType = some .boolean) (hF : kF T x) (hP : va_P D vwCl (wj (kW C ev u K x :: ow)) H) (hD : va_D A (wj (kW C ev u K x :: ow))) (hS : va_S A s.heap H locs) (hz : z = b) (h1 : cells ≤ mc) (h2 : slots ≤ ms) (hdg : decode cc pc = .ok (.ireturn, 1)) (hlocks : meth.locks = false) : W p l e R s m args below meth c H locs cells slots (MQ below (eO (fun _ : KX => some (.int (bI z))) D (kF T) (fun x => wj (kW C ev u K x :: ow)) A) args s mc ms A) (F0 m pc ls [.int (bI b)]) :=
  W.widen h1 h2 (W.zret (v := bI b) hx hb hr (bI_nar b) (fun t ht hW => ⟨⟨x, by rw [hz], hF, by rw [ht]; exact hP, hD⟩, hS.F ht⟩) hS.2.2 hdg hlocks)
theorem k_retI {v z : Int32} (hx : p.tables.exec = Jvm.exec) (hb : c.code = cc) (hr : meth.sig.returnType = some .int) (hF : kF T x) (hP : va_P D vwCl (wj (kW C ev u K x :: owns)) H) (hD : va_D A (wj (kW C ev u K x :: owns))) (hS : va_S A s.heap H locs) (hz : z = v) (h1 : cells ≤ mc) (h2 : slots ≤ ms) (hdg : decode cc pc = .ok (.ireturn, 1)) (hlocks : meth.locks = false) : W p l e R s m args below meth c H locs cells slots (MQ below (eO (fun _ : KX => some (.int z)) D (kF T) (kW C ev u K) A) args s mc ms A) (F0 m pc ls [.int v]) :=
  W.widen h1 h2 (W.iret (v := v) hx hb hr (fun t ht hW => ⟨⟨x, by rw [hz], hF, by rw [ht]; exact kP hP, kD hD⟩, hS.F ht⟩) hS.2.2 hdg hlocks)
theorem k_retB {b z : Bool} (hx : p.tables.exec = Jvm.exec) (hb : c.code = cc) (hr : meth.sig.returnType = some .boolean) (hF : kF T x) (hP : va_P D vwCl (wj (kW C ev u K x :: owns)) H) (hD : va_D A (wj (kW C ev u K x :: owns))) (hS : va_S A s.heap H locs) (hz : z = b) (h1 : cells ≤ mc) (h2 : slots ≤ ms) (hdg : decode cc pc = .ok (.ireturn, 1)) (hlocks : meth.locks = false) : W p l e R s m args below meth c H locs cells slots (MQ below (eO (fun _ : KX => some (.int (bI z))) D (kF T) (kW C ev u K) A) args s mc ms A) (F0 m pc ls [.int (bI b)]) :=
  W.widen h1 h2 (W.zret (v := bI b) hx hb hr (bI_nar b) (fun t ht hW => ⟨⟨x, by rw [hz], hF, by rw [ht]; exact kP hP, kD hD⟩, hS.F ht⟩) hS.2.2 hdg hlocks)
end
