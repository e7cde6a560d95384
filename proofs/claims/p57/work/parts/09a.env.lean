/-! the texts and tables once more, with what the JDK's own statics hold -/
def EVs (v : Nat → Nat) (A : Nat → Prop) (U : State) (H : Heap) : Prop := ES v A U H ∧ va_Z "java/lang/String" "COMPACT_STRINGS" "Z" (.int 1) A U H ∧ va_Zq "jdk/internal/util/Preconditions" "SIOOBE_FORMATTER" "Ljava/util/function/BiFunction;" A U H
theorem EVs.moved {v : Nat → Nat} {A : Nat → Prop} {u U : State} {H : Heap} (hvm : u.vm.Alike U.vm) (h : EVs v A u H) : EVs v A U H := ⟨h.1.moved hvm, h.2.1.moved hvm, h.2.2.moved hvm⟩
theorem EVs.kept {v : Nat → Nat} {A : Nat → Prop} {U : State} {H H1 : Heap} (h : EVs v A U H) (hq : ∀ a : Nat, a < H.size → ¬ A a → H1[a]? = H[a]?) : EVs v A U H1 := ⟨h.1.kept hq, h.2.1.kept hq, h.2.2.kept hq⟩
theorem EVs.narrow {v : Nat → Nat} {A B : Nat → Prop} {U : State} {H : Heap} (h : EVs v A U H) (hAB : ∀ q, B q → A q) : EVs v B U H := ⟨h.1.narrow hAB, h.2.1.narrow hAB, h.2.2.narrow hAB⟩
theorem va_AOA.moved {t : FieldType} {u U : State} (hal : u.vm.Alike U.vm) (h : va_AOA t u) : va_AOA t U := Jvm.Stand.arrayOver_alikeB hal h
def lTx : List (Nat × Nat × String) := [(227, 15, "-"), (232, 16, "/"), (234, 17, "="), (240, 18, ""), (242, 19, "?"), (244, 20, "*"), (246, 21, " "), (248, 22, ":")]
def RVs (v : Nat → Nat) (U : State) : Prop := (∀ q ∈ lTx, vk_R "BridgeAuctionLaw" q.1 q.2.2 (v (40 + q.2.1)) U) ∧ va_AOA .int U ∧ va_Nw (.castable "[B" "java/lang/Cloneable") U
theorem RVs.warm {v : Nat → Nat} {u U : State} (h : u.WarmedH U.vm) (e : RVs v u) : RVs v U := ⟨fun q hq => vk_R.warm h (e.1 q hq), va_AOA.moved h.alike e.2.1, va_Nw.warmC h e.2.2⟩
theorem RVs.same {v : Nat → Nat} {u U : State} (h : U.vm = u.vm) (e : RVs v u) : RVs v U := ⟨fun q hq => vk_R.same h (e.1 q hq), va_AOA.moved (u := u) (U := U) (by rw [h]; exact Vm.Alike.refl _) e.2.1, va_Nw.same rfl h.symm e.2.2⟩
def roPE (av : List Value) (D : va_G) (C : Nat → ClassId) (v : Nat → Nat) (ws : va_W) : Array Value → State → Prop := va_Pc av (fun U => va_P D vwCl ws U.heap ∧ va_K D vwCl (tyA C) U ∧ EN U ∧ RVs v U ∧ EVs v (fun _ => False) U U.heap)
def rwPE (av : List Value) (D : va_G) (C : Nat → ClassId) (v : Nat → Nat) (ws : va_W) (sz : Nat) : Array Value → State → Prop := va_Pc av (fun U => U.heap.size = sz ∧ va_P D vwCl ws U.heap ∧ va_K D vwCl (tyA C) U ∧ va_D (fun _ => True) ws ∧ EN U ∧ RVs v U ∧ EVs v (va_A ws sz) U U.heap)
theorem roPE_blind {av : List Value} {D : va_G} {C : Nat → ClassId} {v : Nat → Nat} {ws : va_W} : FrameBlind (roPE av D C v ws) := fun a U g mk q => by
  obtain ⟨q0, qP, qK, qE, qR, qX⟩ := q
  exact ⟨q0, qP, va_K.moved (u := U) (U := U.calling g mk a) (Vm.Alike.refl U.vm) qK, EN.same (u := U) (U := U.calling g mk a) rfl qE, RVs.same (u := U) (U := U.calling g mk a) rfl qR, EVs.moved (u := U) (U := U.calling g mk a) (Vm.Alike.refl U.vm) qX⟩
theorem rwPE_blind {av : List Value} {D : va_G} {C : Nat → ClassId} {v : Nat → Nat} {ws : va_W} {sz : Nat} : FrameBlind (rwPE av D C v ws sz) := fun a U g mk q => by
  obtain ⟨q0, q1, qP, qK, qD, qE, qR, qX⟩ := q
  exact ⟨q0, q1, qP, va_K.moved (u := U) (U := U.calling g mk a) (Vm.Alike.refl U.vm) qK, qD, EN.same (u := U) (U := U.calling g mk a) rfl qE, RVs.same (u := U) (U := U.calling g mk a) rfl qR, EVs.moved (u := U) (U := U.calling g mk a) (Vm.Alike.refl U.vm) qX⟩
section
variable {s : State} {H : Heap} {D : va_G} {C : Nat → ClassId} {v : Nat → Nat} {ws : va_W} {X : String} {b : Addr} {As : List Value} {A : Nat → Prop} {locs : List Loc}
theorem roPE_v (hP : va_P D vwCl ws H) (hK : va_K D vwCl (tyA C) s) (hE : EN s) (hR : RVs v s) (hX : EVs v A s s.heap) (hS : va_S A s.heap H locs) (hr : ∃ cell : Cell, H[b]? = some cell ∧ cell.vm.isStatics = false ∧ s.vm.findClass X = some cell.cls) : PreV s H X b (roPE (.ref b :: As) D C v ws) As :=
  ⟨roPE_blind, hr, fun U hU hW => ⟨rfl, by rw [hU]; exact hP, va_K.moved hW.alike hK, hE.warm hW, hR.warm hW, by rw [hU]; exact ((hX.kept hS.2.1).moved hW.alike).narrow (fun _ h => h.elim)⟩⟩
theorem roPE_s (hP : va_P D vwCl ws H) (hK : va_K D vwCl (tyA C) s) (hE : EN s) (hR : RVs v s) (hX : EVs v A s s.heap) (hS : va_S A s.heap H locs) : PreS s H (roPE As D C v ws) As :=
  ⟨roPE_blind, fun U hU hW => ⟨rfl, by rw [hU]; exact hP, va_K.moved hW.alike hK, hE.warm hW, hR.warm hW, by rw [hU]; exact ((hX.kept hS.2.1).moved hW.alike).narrow (fun _ h => h.elim)⟩⟩
theorem rwPE_v (hP : va_P D vwCl ws H) (hK : va_K D vwCl (tyA C) s) (hE : EN s) (hD : va_D A ws) (hR : RVs v s) (hX : EVs v A s s.heap) (hS : va_S A s.heap H locs) (hF : ∀ q, va_A ws H.size q → A q) (hr : ∃ cell : Cell, H[b]? = some cell ∧ cell.vm.isStatics = false ∧ s.vm.findClass X = some cell.cls) : PreV s H X b (rwPE (.ref b :: As) D C v ws H.size) As :=
  ⟨rwPE_blind, hr, fun U hU hW => ⟨rfl, by rw [hU], by rw [hU]; exact hP, va_K.moved hW.alike hK, hD.weaken (fun _ _ _ _ => trivial), hE.warm hW, hR.warm hW, by rw [hU]; exact ((hX.kept hS.2.1).moved hW.alike).narrow hF⟩⟩
theorem rwPE_s (hP : va_P D vwCl ws H) (hK : va_K D vwCl (tyA C) s) (hE : EN s) (hD : va_D A ws) (hR : RVs v s) (hX : EVs v A s s.heap) (hS : va_S A s.heap H locs) (hF : ∀ q, va_A ws H.size q → A q) : PreS s H (rwPE As D C v ws H.size) As :=
  ⟨rwPE_blind, fun U hU hW => ⟨rfl, by rw [hU], by rw [hU]; exact hP, va_K.moved hW.alike hK, hD.weaken (fun _ _ _ _ => trivial), hE.warm hW, hR.warm hW, by rw [hU]; exact ((hX.kept hS.2.1).moved hW.alike).narrow hF⟩⟩
end
def tlen (i : Nat) : Nat := (txtL.map List.length).getD i 0
def tbyt (i k : Nat) : Int32 := (txtL.getD i []).getD k 0
theorem tlen_le (i : Nat) : tlen i ≤ 50 := by
  rcases Nat.lt_or_ge i 23 with h | h
  · revert i; decide +kernel
  · unfold tlen
    rw [List.getD_eq_getElem?_getD, List.getElem?_eq_none (by rw [List.length_map]; exact h)]
    exact Nat.zero_le _
theorem tbyt_at {i k : Nat} (h : k < 2 ^ 31) : Value.int ((txtL.getD i []).getD (nI k).toNatClampNeg 0) = .int (tbyt i k) := by rw [nI_clamp h]; rfl
theorem smB_at {n : Nat} (h : n < 9) : (fun j => Value.int (smB.getD j 0)) (nI n).toNatClampNeg = .int (smB.getD n 0) := by rw [nI_clamp (by omega)]
theorem smV_at {n : Nat} (h : n < 6) : (fun j => Value.int (smV.getD j 0)) (nI n).toNatClampNeg = .int (smV.getD n 0) := by rw [nI_clamp (by omega)]
section
variable {p : Program} {l : Launch} {e : Env} {R : Room} {s : State} {m : MethodId} {args : Array Value} {below : List Frame} {meth : Method} {c : Code} {H : Heap} {locs : List Loc} {cells slots : Nat} {Q : State → Prop} {cc : ByteArray} {pc : Nat} {ls : Array Slot} {rest : List Value} {D : va_G} {ws' : va_W} {A0 : Nat → Prop} {A : Nat → Prop}
theorem ro_retV (hx : p.tables.exec = Jvm.exec) (hb : c.code = cc) (hr : meth.sig.returnType = none) (hdg : decode cc pc = .ok (.return_, 1)) (hlocks : meth.locks = false) : W p l e R s m args below meth c s.heap [] 0 0 (MQ below (roO none) args s 0 0 (fun _ => False)) (F0 m pc ls []) :=
  W.vret hx hb hr (fun t ht hW => ⟨rfl, ht⟩) (fun q hq => absurd hq List.not_mem_nil) hdg hlocks
theorem ro_retX {v z : Int32} {ty : FieldType} (hx : p.tables.exec = Jvm.exec) (hb : c.code = cc) (hr : meth.sig.returnType = some ty) (hn : narrow ty (.int v) = .int v) (hz : z = v) (hdg : decode cc pc = .ok (.ireturn, 1)) (hlocks : meth.locks = false) : W p l e R s m args below meth c s.heap [] 0 0 (MQ below (roO (some (.int z))) args s 0 0 (fun _ => False)) (F0 m pc ls [.int v]) :=
  W.zret (v := v) hx hb hr hn (fun t ht hW => ⟨by rw [hz], ht⟩) (fun q hq => absurd hq List.not_mem_nil) hdg hlocks
theorem ro_retA {a b : Nat} {n : String} (hx : p.tables.exec = Jvm.exec) (hb : c.code = cc) (hr : meth.sig.returnType = some (.object n)) (hz : a = b) (hdg : decode cc pc = .ok (.areturn, 1)) (hlocks : meth.locks = false) : W p l e R s m args below meth c s.heap [] 0 0 (MQ below (roO (some (.ref a))) args s 0 0 (fun _ => False)) (F0 m pc ls [.ref b]) :=
  W.aret (v := .ref b) hx hb hr (Or.inl ⟨_, rfl⟩) (Or.inr ⟨_, rfl⟩) (fun t ht hW => ⟨by rw [hz], ht⟩) (fun q hq => absurd hq List.not_mem_nil) hdg hlocks
theorem getfN (hexec : p.tables.exec = Jvm.exec) (hb : c.code = cc) {o n d own ref host : String} {index q : Nat} {v : Value} (hE : va_OF o n d v q A s s.heap) (hS : va_S A s.heap H locs) (hown : s.vm.findClass own = some m.cls) (hlink : (Cond.fieldLinkNest own index ref n d host).before args s = true) (hsame : ∀ x, s.fieldFound? o n d = some x → s.fieldFound? ref n d = some x) (hdg : decode cc pc = .ok (.getfield index, 3))
    (kk : W p l e R s m args below meth c H locs cells slots Q (F0 m (pc + 3) ls (v :: rest))) : W p l e R s m args below meth c H locs cells slots Q (F0 m pc ls (.ref q :: rest)) := by
  obtain ⟨cf, k, fi, f, cell, h1, h2, h3, h4, h5, h6⟩ := hE.kept hS.2.1
  exact va_Wgetf hexec hb hown hlink (hsame _ h1) h2 h3 h4 (v := v) h5 rfl rfl hdg kk
theorem acmpV_eq {nm : List String} {E d : String} {F : List (String × String × String × List Int32)} {ev : Nat → Nat} {x y : Nat} {off : Int} {tgt : Nat} (hexec : p.tables.exec = Jvm.exec) (hb : c.code = cc) (hV : va_En E d nm F ev A s s.heap) (hx : x < nm.length) (hy : y < nm.length) (hdg : decode cc pc = .ok (.if_acmp .eq off, 3)) (ht : (pc : Int) + off = (tgt : Int))
    (kt : x = y → W p l e R s m args below meth c H locs cells slots Q (F0 m tgt ls rest)) (kf : ¬ x = y → W p l e R s m args below meth c H locs cells slots Q (F0 m (pc + 3) ls rest)) : W p l e R s m args below meth c H locs cells slots Q (F0 m pc ls (.ref (ev y) :: .ref (ev x) :: rest)) :=
  lv_acmp_eq (rx := some (ev x)) (ry := some (ev y)) hexec hb hdg ht (fun h => kt (hV.2 x y hx hy (Option.some.inj h))) (fun h => kf (fun h1 => h (by rw [h1])))
theorem acmpV_ne {nm : List String} {E d : String} {F : List (String × String × String × List Int32)} {ev : Nat → Nat} {x y : Nat} {off : Int} {tgt : Nat} (hexec : p.tables.exec = Jvm.exec) (hb : c.code = cc) (hV : va_En E d nm F ev A s s.heap) (hx : x < nm.length) (hy : y < nm.length) (hdg : decode cc pc = .ok (.if_acmp .ne off, 3)) (ht : (pc : Int) + off = (tgt : Int))
    (kt : ¬ x = y → W p l e R s m args below meth c H locs cells slots Q (F0 m tgt ls rest)) (kf : x = y → W p l e R s m args below meth c H locs cells slots Q (F0 m (pc + 3) ls rest)) : W p l e R s m args below meth c H locs cells slots Q (F0 m pc ls (.ref (ev y) :: .ref (ev x) :: rest)) :=
  lv_acmp_ne (rx := some (ev x)) (ry := some (ev y)) hexec hb hdg ht (fun h => kt (fun h1 => h (by rw [h1]))) (fun h => kf (hV.2 x y hx hy (Option.some.inj h)))
end
