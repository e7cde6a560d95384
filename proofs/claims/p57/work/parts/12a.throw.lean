/-! own layer: methods that throw -/
def xN : Nat → String
  | 1 => "java/lang/IndexOutOfBoundsException"
  | 2 => "java/lang/IllegalArgumentException"
  | 3 => "java/lang/IllegalStateException"
  | 4 => "java/lang/UnsupportedOperationException"
  | 5 => "java/util/NoSuchElementException"
  | _ => "java/lang/ArithmeticException"
def xTx : List (Nat × String) := [(242, "no site is built"), (250, "there are no sites"), (275, "no such character of the output text"), (305, "the script does not have the required form"), (315, "a command of the script failed"), (346, "no such island, player or site"), (348, "an argument is out of its range"), (350, "the state does not allow this"), (354, "the rules do not allow this"), (357, "no such bid"), (362, "no such island"), (367, "no such player"), (372, "no such site"), (377, "the player has no bid on the site"), (379, "there is none"), (381, "the islands are not connected")]
def xDe : List MethodName := [⟨"java/lang/RuntimeException", "<init>", "(Ljava/lang/String;)V"⟩, ⟨"java/lang/Exception", "<init>", "(Ljava/lang/String;)V"⟩, ⟨"java/lang/Throwable", "<init>", "(Ljava/lang/String;)V"⟩]
def XR (U : State) : Prop := (∀ q ∈ xTx, ∃ a, vk_R "BridgeAuction" q.1 q.2 a U) ∧ (∀ x ∈ xDe, va_Nw (.declares x) U) ∧ (∀ k, k < 6 → va_Nw (.castable (xN (k + 1)) (xN (k + 1))) U)
theorem XR.warm {u U : State} (h : u.WarmedH U.vm) (e : XR u) : XR U := ⟨fun q hq => by obtain ⟨a, ha⟩ := e.1 q hq; exact ⟨a, vk_R.warm h ha⟩, fun x hx => va_Nw.warmD h (e.2.1 x hx), fun k hk => va_Nw.warmC h (e.2.2 k hk)⟩
theorem XR.same {u U : State} (h : U.vm = u.vm) (e : XR u) : XR U := ⟨fun q hq => by obtain ⟨a, ha⟩ := e.1 q hq; exact ⟨a, vk_R.same h ha⟩, fun x hx => va_Nw.same rfl h.symm (e.2.1 x hx), fun k hk => va_Nw.same rfl h.symm (e.2.2 k hk)⟩
def XV (A : Nat → Prop) (U : State) (H : Heap) : Prop := vx_Zq Bundle.tN "UNASSIGNED_STACK" Bundle.steD A U H ∧ vx_Zq Bundle.tN "SUPPRESSED_SENTINEL" Bundle.listD A U H
theorem XV.moved {A : Nat → Prop} {u U : State} {H : Heap} (hvm : u.vm.Alike U.vm) (h : XV A u H) : XV A U H := ⟨h.1.moved hvm, h.2.moved hvm⟩
theorem XV.kept {A : Nat → Prop} {U : State} {H H1 : Heap} (h : XV A U H) (hq : ∀ a : Nat, a < H.size → ¬ A a → H1[a]? = H[a]?) : XV A U H1 := ⟨h.1.kept hq, h.2.kept hq⟩
theorem XV.narrow {A B : Nat → Prop} {U : State} {H : Heap} (h : XV A U H) (hAB : ∀ q, B q → A q) : XV B U H := ⟨h.1.narrow hAB, h.2.narrow hAB⟩
def xP (av : List Value) (D : va_G) (C : Nat → ClassId) (v : Nat → Nat) (ws : va_W) (sz : Nat) : Array Value → State → Prop := va_Pc av (fun U => U.heap.size = sz ∧ va_P D vwCl ws U.heap ∧ va_K D vwCl (tyA C) U ∧ va_D (fun _ => True) ws ∧ EN U ∧ RVs v U ∧ EVs v (va_A ws sz) U U.heap ∧ XR U ∧ XV (va_A ws sz) U U.heap)
theorem xP_blind {av : List Value} {D : va_G} {C : Nat → ClassId} {v : Nat → Nat} {ws : va_W} {sz : Nat} : FrameBlind (xP av D C v ws sz) := fun a U g mk q => by
  obtain ⟨q0, q1, qP, qK, qD, qE, qR, qX, qT, qV⟩ := q
  exact ⟨q0, q1, qP, va_K.moved (u := U) (U := U.calling g mk a) (Vm.Alike.refl U.vm) qK, qD, EN.same (u := U) (U := U.calling g mk a) rfl qE, RVs.same (u := U) (U := U.calling g mk a) rfl qR, EVs.moved (u := U) (U := U.calling g mk a) (Vm.Alike.refl U.vm) qX, XR.same (u := U) (U := U.calling g mk a) rfl qT, XV.moved (u := U) (U := U.calling g mk a) (Vm.Alike.refl U.vm) qV⟩
section
variable {s : State} {H : Heap} {D : va_G} {C : Nat → ClassId} {v : Nat → Nat} {ws : va_W} {X : String} {b : Addr} {As : List Value} {A : Nat → Prop} {locs : List Loc}
theorem xP_v (hP : va_P D vwCl ws H) (hK : va_K D vwCl (tyA C) s) (hE : EN s) (hD : va_D A ws) (hR : RVs v s) (hX : EVs v A s s.heap) (hT : XR s) (hV : XV A s s.heap) (hS : va_S A s.heap H locs) (hF : ∀ q, va_A ws H.size q → A q) (hr : ∃ cell : Cell, H[b]? = some cell ∧ cell.vm.isStatics = false ∧ s.vm.findClass X = some cell.cls) : PreV s H X b (xP (.ref b :: As) D C v ws H.size) As :=
  ⟨xP_blind, hr, fun U hU hW => ⟨rfl, by rw [hU], by rw [hU]; exact hP, va_K.moved hW.alike hK, hD.weaken (fun _ _ _ _ => trivial), hE.warm hW, hR.warm hW, by rw [hU]; exact ((hX.kept hS.2.1).moved hW.alike).narrow hF, hT.warm hW, by rw [hU]; exact ((hV.kept hS.2.1).moved hW.alike).narrow hF⟩⟩
theorem xP_s (hP : va_P D vwCl ws H) (hK : va_K D vwCl (tyA C) s) (hE : EN s) (hD : va_D A ws) (hR : RVs v s) (hX : EVs v A s s.heap) (hT : XR s) (hV : XV A s s.heap) (hS : va_S A s.heap H locs) (hF : ∀ q, va_A ws H.size q → A q) : PreS s H (xP As D C v ws H.size) As :=
  ⟨xP_blind, fun U hU hW => ⟨rfl, by rw [hU], by rw [hU]; exact hP, va_K.moved hW.alike hK, hD.weaken (fun _ _ _ _ => trivial), hE.warm hW, hR.warm hW, by rw [hU]; exact ((hX.kept hS.2.1).moved hW.alike).narrow hF, hT.warm hW, by rw [hU]; exact ((hV.kept hS.2.1).moved hW.alike).narrow hF⟩⟩
end
def xO (c : Nat) (v : Option Value) (D : va_G) (ws' : va_W) (A : Nat → Prop) : Array Value → State → Outcome → State → Prop := fun av st o t => c = 0 ∧ rwO v D ws' A av st o t
def xC (c : Nat) (D : va_G) (ws' : va_W) (A : Nat → Prop) : String → State → State → Prop := fun E st t => 0 < c ∧ c < 7 ∧ E = xN c ∧ va_P D vwCl ws' t.heap ∧ va_F A st t
section
variable {p : Program} {l : Launch} {e : Env} {R : Room} {s : State} {m : MethodId} {args : Array Value} {below : List Frame} {meth : Method} {c : Code} {H : Heap} {locs : List Loc} {cells slots mc ms mc' ms' : Nat} {Q : State → Prop} {cc : ByteArray} {pc : Nat} {ls : Array Slot} {rest st0 : List Value} {A0 A1 A : Nat → Prop} {H0 : Heap} {D : va_G} {ws ws' : va_W} {cz : Nat}
theorem callX {v : Option Value} {a : Array Value} (hr : vx_Run p l e R s m args below meth c H locs cells slots mc ms (F0 m pc ls st0) rest (xO cz v D ws' A1 a) (xC cz D ws' A1) A1) (hS : va_S A0 H0 H locs) (hF : ∀ q, A1 q → A0 q)
    (kx : 0 < cz → cz < 7 → ∀ (ce : Cell) (q9 : Addr) (H1 : Heap) (locs1 : List Loc), va_P D vwCl ws' H1 → (∀ q : Nat, q < H.size → ¬ A1 q → H1[q]? = H[q]?) → va_S A0 H0 H1 locs1 → H1[q9]? = some ce → ce.vm = .none → s.vm.findClass (xN cz) = some ce.cls → vx_W p l e R s m args below meth c H1 locs1 (cells + mc) (slots + ms) Q (F0 m pc ls rest) q9)
    (kk : cz = 0 → ∀ (H1 : Heap) (locs1 : List Loc), va_P D vwCl ws' H1 → (∀ q : Nat, q < H.size → ¬ A1 q → H1[q]? = H[q]?) → va_S A0 H0 H1 locs1 → W p l e R s m args below meth c H1 locs1 (cells + mc) (slots + ms) Q (F0 m (pc + 3) ls (v.toList ++ rest))) : W p l e R s m args below meth c H locs cells slots Q (F0 m pc ls st0) := by
  intro T hT X
  rcases hr T hT X with ⟨v', st₀, t, T', L, h0, X', hL, e1, e2, ⟨hc, hv, hw, hf⟩, st⟩ | ⟨q, st₀, t, T', L, E, ce, h0, X', hL, e1, e2, ⟨hc, hc7, hE, hw, hf⟩, hce, hcv, hcl, st⟩
  · cases hv
    obtain ⟨-, k2, k3⟩ := vx_keep h0 e1 hS (fun q _ h => hF q h) hF hL hf
    obtain ⟨t2, a1, b1⟩ := kk hc T'.heap (locs ++ L) (by rw [e1]; exact hw) k2 k3 T' rfl X'
    exact ⟨t2, st t2 a1, b1⟩
  · obtain ⟨-, k2, k3⟩ := vx_keep h0 e1 hS (fun q _ h => hF q h) hF hL hf
    obtain ⟨t2, a1, b1⟩ := kx hc hc7 ce q T'.heap (locs ++ L) (by rw [e1]; exact hw) k2 k3 (by rw [e1]; exact hce) hcv (by rw [← hE]; exact hcl) T' rfl X'
    exact ⟨t2, st.trans a1, b1⟩
theorem x_ret {v z : Int32} {XC : String → State → State → Prop} (hx : p.tables.exec = Jvm.exec) (hb : c.code = cc) (hr : meth.sig.returnType = some .int) (hP : va_P D vwCl ws' H) (hS : va_S A0 s.heap H locs) (hc : cz = 0) (hz : z = v) (h1 : cells ≤ mc) (h2 : slots ≤ ms) (hdg : decode cc pc = .ok (.ireturn, 1)) (hlocks : meth.locks = false) : W p l e R s m args below meth c H locs cells slots (vx_MQ below (xO cz (some (.int z)) D ws' A0) XC args s mc ms A0) (F0 m pc ls [.int v]) :=
  W.widen h1 h2 (vx_ret (W.iret (v := v) hx hb hr (fun t ht hW => ⟨hc, by rw [hz], by rw [ht]; exact hP, hS.F ht⟩) hS.2.2 hdg hlocks))
theorem x_retB {b z : Bool} {XC : String → State → State → Prop} (hx : p.tables.exec = Jvm.exec) (hb : c.code = cc) (hr : meth.sig.returnType = some .boolean) (hP : va_P D vwCl ws' H) (hS : va_S A0 s.heap H locs) (hc : cz = 0) (hz : z = b) (h1 : cells ≤ mc) (h2 : slots ≤ ms) (hdg : decode cc pc = .ok (.ireturn, 1)) (hlocks : meth.locks = false) : W p l e R s m args below meth c H locs cells slots (vx_MQ below (xO cz (some (.int (bI z))) D ws' A0) XC args s mc ms A0) (F0 m pc ls [.int (bI b)]) :=
  W.widen h1 h2 (vx_ret (W.zret (v := bI b) hx hb hr (bI_nar b) (fun t ht hW => ⟨hc, by rw [hz], by rw [ht]; exact hP, hS.F ht⟩) hS.2.2 hdg hlocks))
theorem x_retC {v z : Int32} {XC : String → State → State → Prop} (hx : p.tables.exec = Jvm.exec) (hb : c.code = cc) (hr : meth.sig.returnType = some .char) (hP : va_P D vwCl ws' H) (hS : va_S A0 s.heap H locs) (hc : cz = 0) (hz : z = v) (hn : narrow .char (.int v) = .int v) (h1 : cells ≤ mc) (h2 : slots ≤ ms) (hdg : decode cc pc = .ok (.ireturn, 1)) (hlocks : meth.locks = false) : W p l e R s m args below meth c H locs cells slots (vx_MQ below (xO cz (some (.int z)) D ws' A0) XC args s mc ms A0) (F0 m pc ls [.int v]) :=
  W.widen h1 h2 (vx_ret (W.zret (v := v) hx hb hr hn (fun t ht hW => ⟨hc, by rw [hz], by rw [ht]; exact hP, hS.F ht⟩) hS.2.2 hdg hlocks))
theorem x_retV {XC : String → State → State → Prop} (hx : p.tables.exec = Jvm.exec) (hb : c.code = cc) (hr : meth.sig.returnType = none) (hP : va_P D vwCl ws' H) (hS : va_S A0 s.heap H locs) (hc : cz = 0) (h1 : cells ≤ mc) (h2 : slots ≤ ms) (hdg : decode cc pc = .ok (.return_, 1)) (hlocks : meth.locks = false) : W p l e R s m args below meth c H locs cells slots (vx_MQ below (xO cz none D ws' A0) XC args s mc ms A0) (F0 m pc ls []) :=
  W.widen h1 h2 (vx_ret (W.vret hx hb hr (fun t ht hW => ⟨hc, rfl, by rw [ht]; exact hP, hS.F ht⟩) hS.2.2 hdg hlocks))
/-- a throw that comes out of a call goes on -/
theorem x_out {ce : Cell} {q9 : Addr} {Qc : Array Value → State → Outcome → State → Prop} (htab : ∀ x ∈ c.exceptionTable.toList, False) (hlocks : meth.locks = false) (hcell : H[q9]? = some ce) (hv : ce.vm = .none) (hcl : s.vm.findClass (xN cz) = some ce.cls) (hP : va_P D vwCl ws' H) (hS : va_S A0 s.heap H locs) (hc : 0 < cz) (hc7 : cz < 7) {zc : Nat} (hz : zc = cz) (h1 : cells ≤ mc) (h2 : slots ≤ ms) :
    vx_W p l e R s m args below meth c H locs cells slots (vx_MQ below Qc (xC zc D ws' A0) args s mc ms A0) (F0 m pc ls rest) q9 :=
  vx_out (fun x hx => (htab x hx).elim) hlocks hcell hv hcl (fun t ht hW => by rw [hz]; exact ⟨hc, hc7, rfl, by rw [ht]; exact hP, hS.F ht⟩) hS.2.2 h1 h2
theorem x_hx {zc : Nat} (hP : va_P D vwCl ws' H) (hS : va_S A0 s.heap H locs) (hc : 0 < cz) (hc7 : cz < 7) (hz : zc = cz) : ∀ t : State, s.vm.Alike t.vm → H.size ≤ t.heap.size → (∀ q : Nat, q < H.size → t.heap[q]? = H[q]?) → xC zc D ws' A0 (xN cz) s t := by
  intro t _ h1 h2
  rw [hz]
  refine ⟨hc, hc7, rfl, hP.kept (fun k q hk => ?_), Nat.le_trans hS.1 h1, fun q hq hA => ?_⟩
  · exact h2 _ (va_at.lt (hP k q hk))
  · rw [h2 q (Nat.lt_of_lt_of_le hq hS.1)]; exact hS.2.1 q hq hA
/-- throw new E("text"), the text by a wide index -/
theorem x_throwW {C : Nat → ClassId} {Qc : Array Value → State → Outcome → State → Prop} {zc k9 ik is ic : Nat} {text : String} {wsm : List Cond} (hx : p.tables.exec = Jvm.exec) (hb : c.code = cc) (hl9 : l.stackTraces = false) (hts : ∀ w ∈ wsm, w.before args s = true) (hown : s.vm.findClass "BridgeAuction" = some m.cls) (hT : XR s) (hV : XV A0 s s.heap) (hP : va_P D vwCl ws' H) (hS : va_S A0 s.heap H locs)
    (hk9 : k9 < 6) (hm1 : Cond.classLink "BridgeAuction" ik (xN (k9 + 1)) ∈ wsm) (hm2 : Cond.initialized (xN (k9 + 1)) ∈ wsm) (hm3 : ∀ w ∈ (vx_atS "BridgeAuction" ic (xN (k9 + 1)) ["java/lang/RuntimeException", "java/lang/Exception"]).filter goodWord, w ∈ wsm) (hB : ∀ w ∈ (vx_atS "BridgeAuction" ic (xN (k9 + 1)) ["java/lang/RuntimeException", "java/lang/Exception"]).filter (fun w => !goodWord w), w ∈ (xDe.map Cond.declares ++ [Cond.castable (xN (k9 + 1)) (xN (k9 + 1))]))
    (hg : (Cond.classLink "BridgeAuction" ik (xN (k9 + 1)) :: Cond.initialized (xN (k9 + 1)) :: vx_atS "BridgeAuction" ic (xN (k9 + 1)) ["java/lang/RuntimeException", "java/lang/Exception"]).all vx_ot = true) (hfit : Bundle.fit (xN (k9 + 1)) = true) (htx : (is, text) ∈ xTx)
    (hml : c.maxLocals = ls.size) (htab : ∀ x ∈ c.exceptionTable.toList, False)
    (d0 : decode cc pc = .ok (.new ik, 3)) (d3 : decode cc (pc + 3) = .ok (.dup, 1)) (d4 : decode cc (pc + 4) = .ok (.ldc_w is, 3)) (d7 : decode cc (pc + 7) = .ok (.invokespecial ic, 3)) (d10 : decode cc (pc + 10) = .ok (.athrow, 1))
    (hR1 : 5 < R.frames) (hR2 : (rest.map fun v => v.category).sum + 82 ≤ R.locals) (hR3 : cells + 1 ≤ R.cells) (hR4 : slots + 6 ≤ R.slots) (hlocks : meth.locks = false) (hz : zc = k9 + 1) (h1 : cells + 1 ≤ mc) (h2 : slots + 6 ≤ ms) :
    W p l e R s m args below meth c H locs cells slots (vx_MQ below Qc (xC zc D ws' A0) args s mc ms A0) (F0 m pc ls rest) := by
  obtain ⟨sa, hsa⟩ := hT.1 _ htx
  have hB9 : ∀ w ∈ (xDe.map Cond.declares ++ [Cond.castable (xN (k9 + 1)) (xN (k9 + 1))]), w.before args s = true := by
    intro w hw
    rcases List.mem_append.mp hw with h | h
    · obtain ⟨x, hx1, rfl⟩ := List.mem_map.mp h
      exact va_Nw.use rfl (hT.2.1 x hx1)
    · rw [List.mem_singleton.mp h]
      exact va_Nw.use rfl (hT.2.2 k9 hk9)
  exact vx_throwSW (names := ["java/lang/RuntimeException", "java/lang/Exception"]) hx hb hl9 hown hfit (by decide +kernel) (hts _ hm1) (hts _ hm2) hsa (vx_hat (fun w hw => hts w (hm3 w hw)) hB hB9) (fun w hw => List.all_eq_true.mp hg w hw) hV.1 hV.2 hS hml.symm d0 d3 d4 d7 d10 (fun x hx => (htab x hx).elim) (by simpa using hR1) (by simpa using hR2) hR3 hR4 hlocks (x_hx hP hS (Nat.succ_pos _) (by omega) hz) hS.2.2 h1 h2
theorem x_throwS {C : Nat → ClassId} {Qc : Array Value → State → Outcome → State → Prop} {zc k9 ik is ic : Nat} {text : String} {wsm : List Cond} (hx : p.tables.exec = Jvm.exec) (hb : c.code = cc) (hl9 : l.stackTraces = false) (hts : ∀ w ∈ wsm, w.before args s = true) (hown : s.vm.findClass "BridgeAuction" = some m.cls) (hT : XR s) (hV : XV A0 s s.heap) (hP : va_P D vwCl ws' H) (hS : va_S A0 s.heap H locs)
    (hk9 : k9 < 6) (hm1 : Cond.classLink "BridgeAuction" ik (xN (k9 + 1)) ∈ wsm) (hm2 : Cond.initialized (xN (k9 + 1)) ∈ wsm) (hm3 : ∀ w ∈ (vx_atS "BridgeAuction" ic (xN (k9 + 1)) ["java/lang/RuntimeException", "java/lang/Exception"]).filter goodWord, w ∈ wsm) (hB : ∀ w ∈ (vx_atS "BridgeAuction" ic (xN (k9 + 1)) ["java/lang/RuntimeException", "java/lang/Exception"]).filter (fun w => !goodWord w), w ∈ (xDe.map Cond.declares ++ [Cond.castable (xN (k9 + 1)) (xN (k9 + 1))]))
    (hg : (Cond.classLink "BridgeAuction" ik (xN (k9 + 1)) :: Cond.initialized (xN (k9 + 1)) :: vx_atS "BridgeAuction" ic (xN (k9 + 1)) ["java/lang/RuntimeException", "java/lang/Exception"]).all vx_ot = true) (hfit : Bundle.fit (xN (k9 + 1)) = true) (htx : (is, text) ∈ xTx)
    (hml : c.maxLocals = ls.size) (htab : ∀ x ∈ c.exceptionTable.toList, False)
    (d0 : decode cc pc = .ok (.new ik, 3)) (d3 : decode cc (pc + 3) = .ok (.dup, 1)) (d4 : decode cc (pc + 4) = .ok (.ldc is, 2)) (d6 : decode cc (pc + 6) = .ok (.invokespecial ic, 3)) (d9 : decode cc (pc + 9) = .ok (.athrow, 1))
    (hR1 : 5 < R.frames) (hR2 : (rest.map fun v => v.category).sum + 82 ≤ R.locals) (hR3 : cells + 1 ≤ R.cells) (hR4 : slots + 6 ≤ R.slots) (hlocks : meth.locks = false) (hz : zc = k9 + 1) (h1 : cells + 1 ≤ mc) (h2 : slots + 6 ≤ ms) :
    W p l e R s m args below meth c H locs cells slots (vx_MQ below Qc (xC zc D ws' A0) args s mc ms A0) (F0 m pc ls rest) := by
  obtain ⟨sa, hsa⟩ := hT.1 _ htx
  have hB9 : ∀ w ∈ (xDe.map Cond.declares ++ [Cond.castable (xN (k9 + 1)) (xN (k9 + 1))]), w.before args s = true := by
    intro w hw
    rcases List.mem_append.mp hw with h | h
    · obtain ⟨x, hx1, rfl⟩ := List.mem_map.mp h
      exact va_Nw.use rfl (hT.2.1 x hx1)
    · rw [List.mem_singleton.mp h]
      exact va_Nw.use rfl (hT.2.2 k9 hk9)
  exact vx_throwS (names := ["java/lang/RuntimeException", "java/lang/Exception"]) hx hb hl9 hown hfit (by decide +kernel) (hts _ hm1) (hts _ hm2) hsa (vx_hat (fun w hw => hts w (hm3 w hw)) hB hB9) (fun w hw => List.all_eq_true.mp hg w hw) hV.1 hV.2 hS hml.symm d0 d3 d4 d6 d9 (fun x hx => (htab x hx).elim) (by simpa using hR1) (by simpa using hR2) hR3 hR4 hlocks (x_hx hP hS (Nat.succ_pos _) (by omega) hz) hS.2.2 h1 h2
end
