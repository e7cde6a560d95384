/-! the means, in the class -/
section
variable {p : Program} {l : Launch} {e : Env} {R : Room} {s : State} {m : MethodId} {args : Array Value} {below : List Frame} {meth : Method} {c : Code} {H : Heap} {locs : List Loc} {cells slots mc ms : Nat} {cc : ByteArray} {pc : Nat} {ls : Array Slot} {A0 : Nat → Prop} {D : va_G} {ws' : va_W} {cz : Nat}
theorem x_retD {v z : UInt64} {XC : String → State → State → Prop} (hx : p.tables.exec = Jvm.exec) (hb : c.code = cc) (hr : meth.sig.returnType = some .double) (hP : va_P D vwCl ws' H) (hS : va_S A0 s.heap H locs) (hc : cz = 0) (hz : z = v) (h1 : cells ≤ mc) (h2 : slots ≤ ms) (hdg : decode cc pc = .ok (.dreturn, 1)) (hlocks : meth.locks = false) : W p l e R s m args below meth c H locs cells slots (vx_MQ below (xO cz (some (.double z)) D ws' A0) XC args s mc ms A0) (F0 m pc ls [.double v]) :=
  W.widen h1 h2 (vx_ret (W.dret (v := v) hx hb hr (fun t ht hW => ⟨hc, by rw [hz], by rw [ht]; exact hP, hS.F ht⟩) hS.2.2 hdg hlocks))
theorem x_retF {v z : UInt32} {XC : String → State → State → Prop} (hx : p.tables.exec = Jvm.exec) (hb : c.code = cc) (hr : meth.sig.returnType = some .float) (hP : va_P D vwCl ws' H) (hS : va_S A0 s.heap H locs) (hc : cz = 0) (hz : z = v) (h1 : cells ≤ mc) (h2 : slots ≤ ms) (hdg : decode cc pc = .ok (.freturn, 1)) (hlocks : meth.locks = false) : W p l e R s m args below meth c H locs cells slots (vx_MQ below (xO cz (some (.float z)) D ws' A0) XC args s mc ms A0) (F0 m pc ls [.float v]) :=
  W.widen h1 h2 (vx_ret (W.fret (v := v) hx hb hr (fun t ht hW => ⟨hc, by rw [hz], by rw [ht]; exact hP, hS.F ht⟩) hS.2.2 hdg hlocks))
end
def f_X7_meanBridgeLength (G : GS) : Nat × UInt64 := if f_X1_bridges G = 0 then (6, 0) else (0, FP.ddiv (FP.i2d (f_X1_bridgeLengths G)) (FP.i2d (f_X1_bridges G)))
def f_X7_builtShare (G : GS) : Nat × UInt32 := if nI (gS G) = 0 then (6, 0) else (0, FP.fdiv (FP.i2f (f_X1_bridges G)) (FP.i2f (nI (gS G))))
set_option maxHeartbeats 4000000 in
set_option maxRecDepth 100000 in
theorem c_X7_meanBridgeLength (l : Launch) (D : va_G) (C : Nat → ClassId) (ev : Nat → Nat) (u : Nat → Nat) (Q : QS) (G : GS) (sz : Nat) (hG : GSafe G) (hl9 : l.stackTraces = false) (hne : f_X1_bridges G ≠ 0 → vf_n64 (FP.ddiv (FP.i2d (f_X1_bridgeLengths G)) (FP.i2d (f_X1_bridges G)))) : vx_Met l yX7_meanBridgeLength wsX7_meanBridgeLength ({ frames := 7, cells := 1, slots := 6, locals := 103 } : Room) (xP [.ref (u 0)] D C ev (wj [acells C u Q, gcells C (uA u) G]) sz) (xO (f_X7_meanBridgeLength G).1 (some (.double (f_X7_meanBridgeLength G).2)) D (wj [acells C u Q, gcells C (uA u) G]) (va_A (wj [acells C u Q, gcells C (uA u) G]) sz)) (xC (f_X7_meanBridgeLength G).1 D (wj [acells C u Q, gcells C (uA u) G]) (va_A (wj [acells C u Q, gcells C (uA u) G]) sz)) 1 6 (va_A (wj [acells C u Q, gcells C (uA u) G]) sz) := by
  refine vx_ofW (cc := cX7_meanBridgeLength) (maxL := 2) (ret := (some .double)) (by decide) rfl ?_
  intro p e s m args below meth c s₁ B hml htab hv
  obtain ⟨rfl, hsz, hP, hK, hD0, hE, hR, hX, hT9, hV9⟩ := hv
  have hx := B.exec
  have hb := B.bytes
  have hr := B.returns
  have hts := atoms_spec (ws := wsX7_meanBridgeLength) B.pre
  have hown : s.vm.findClass RX7 = some m.cls := findClass_of_methodNamed B.named
  have hlocks := B.notSynchronized
  subst hsz
  generalize hAe : va_A (wj [acells C u Q, gcells C (uA u) G]) s.heap.size = A at hX hV9 ⊢
  have hS : va_S A s.heap s.heap [] := va_S.rf
  have hP : va_P D vwCl (wj [acells C u Q, gcells C (uA u) G]) s.heap := hP
  have hinX7 : ∀ w ∈ u_ws RX7 TX7 10, w ∈ wsX7_meanBridgeLength := by decide +kernel
  have hl := lv_entry ([.ref (u 0)]) (n := 2) (Nat.le_of_ble_eq_true rfl)
  rw [lg_entry_eq]
  generalize (lg_sl ([.ref (u 0)]) ++ List.replicate (2 - (lg_sl ([.ref (u 0)])).length) Slot.unset).toArray = ls at hl ⊢
  have hl : lv_has ls 2 [(0, .ref (u 0))] := hl
  refine lv_aload_n hx hb dX7_meanBridgeLength_0 rfl (lv_at hl 0 rfl) ?_
  refine va_get (D := D) (ci := 8) (v := .ref ((uA u) 0)) (C := RX7) (T := TX7) (N := 10) hx hb hts hinX7 hown hK hP 0 rfl rfl 0 (by decide) (hts (.fieldLink RX7 10 "BridgeAuction" "game" "LBridgeAuction$Game;") (by decide +kernel)) (fun _ h9 => h9) rfl dX7_meanBridgeLength_1 ?_
  refine callRo (va_runV (As := []) (rest := []) ⟨hx, hb, hml, hown, hts⟩ (c_X1_bridges l D C (uA u) G hG) (cwV 0 hts gX7_meanBridgeLength_X1_bridges rfl rfl rfl (by decide +kernel) ⟨Nat.le_of_ble_eq_true rfl, Nat.le_of_ble_eq_true rfl⟩) (roP_v (wj_P (cs := [gcells C (uA u) G]) hP [1] rfl) hK hE (va_recv hK (wj_P (cs := [gcells C (uA u) G]) hP [1] rfl) (ci := 4) (q0 := 0) rfl rfl)) rfl rfl hl.1 rfl (lv_room (Nat.le_of_ble_eq_true rfl)) dX7_meanBridgeLength_4 ⟨Nat.le_of_ble_eq_true rfl, Nat.le_of_ble_eq_true rfl⟩) ?_
  refine lv_istore_n (i := 1) hx hb dX7_meanBridgeLength_7 rfl hl (Nat.le_of_ble_eq_true rfl) rfl (fun ls' hl' => ?_)
  have hl' : lv_has ls' 2 [(1, .int (f_X1_bridges G)), (0, .ref (u 0))] := hl'
  refine lv_iload_n hx hb dX7_meanBridgeLength_8 rfl (lv_at hl' 0 rfl) ?_
  refine lv_if_ne (tgt := 22) hx hb dX7_meanBridgeLength_9 (by decide) (fun c_9 => ?_) (fun c_9 => ?_)
  · have ez : f_X7_meanBridgeLength G = (0, FP.ddiv (FP.i2d (f_X1_bridgeLengths G)) (FP.i2d (f_X1_bridges G))) := if_neg c_9
    rw [ez]
    refine lv_aload_n hx hb dX7_meanBridgeLength_22 rfl (lv_at hl' 1 rfl) ?_
    refine va_get (D := D) (ci := 8) (v := .ref ((uA u) 0)) (C := RX7) (T := TX7) (N := 10) hx hb hts hinX7 hown hK hP 0 rfl rfl 0 (by decide) (hts (.fieldLink RX7 10 "BridgeAuction" "game" "LBridgeAuction$Game;") (by decide +kernel)) (fun _ h9 => h9) rfl dX7_meanBridgeLength_23 ?_
    refine callRo (va_runV (As := []) (rest := []) ⟨hx, hb, hml, hown, hts⟩ (c_X1_bridgeLengths l D C (uA u) G hG) (cwV 0 hts gX7_meanBridgeLength_X1_bridgeLengths rfl rfl rfl (by decide +kernel) ⟨Nat.le_of_ble_eq_true rfl, Nat.le_of_ble_eq_true rfl⟩) (roP_v (wj_P (cs := [gcells C (uA u) G]) hP [1] rfl) hK hE (va_recv hK (wj_P (cs := [gcells C (uA u) G]) hP [1] rfl) (ci := 4) (q0 := 0) rfl rfl)) rfl rfl hl'.1 rfl (lv_room (Nat.le_of_ble_eq_true rfl)) dX7_meanBridgeLength_26 ⟨Nat.le_of_ble_eq_true rfl, Nat.le_of_ble_eq_true rfl⟩) ?_
    refine lv_i2d hx hb dX7_meanBridgeLength_29 ?_
    refine lv_iload_n hx hb dX7_meanBridgeLength_30 rfl (lv_at hl' 0 rfl) ?_
    refine lv_i2d hx hb dX7_meanBridgeLength_31 ?_
    refine lv_ddiv hx hb dX7_meanBridgeLength_32 (hne c_9) ?_
    exact x_retD hx hb hr hP hS rfl rfl (Nat.le_of_ble_eq_true rfl) (Nat.le_of_ble_eq_true rfl) dX7_meanBridgeLength_33 hlocks
  · have ez : f_X7_meanBridgeLength G = (6, 0) := if_pos c_9
    rw [ez]
    exact x_throwS (C := C) (k9 := 5) (text := "no site is built") (wsm := wsX7_meanBridgeLength) hx hb hl9 hts hown hT9 hV9 hP hS (by decide) (by decide +kernel) (by decide +kernel) (by decide +kernel) (by decide +kernel) (by decide +kernel) (by decide +kernel) (by decide +kernel) (hml.trans hl'.1.symm) htab dX7_meanBridgeLength_12 dX7_meanBridgeLength_15 dX7_meanBridgeLength_16 dX7_meanBridgeLength_18 dX7_meanBridgeLength_21 (Nat.le_of_ble_eq_true rfl) (Nat.le_of_ble_eq_true rfl) (Nat.le_of_ble_eq_true rfl) (Nat.le_of_ble_eq_true rfl) hlocks rfl (Nat.le_of_ble_eq_true rfl) (Nat.le_of_ble_eq_true rfl)
set_option maxHeartbeats 4000000 in
set_option maxRecDepth 100000 in
theorem c_X7_builtShare (l : Launch) (D : va_G) (C : Nat → ClassId) (ev : Nat → Nat) (u : Nat → Nat) (Q : QS) (G : GS) (sz : Nat) (hG : GSafe G) (hl9 : l.stackTraces = false) (hne : nI (gS G) ≠ 0 → vf_n32 (FP.fdiv (FP.i2f (f_X1_bridges G)) (FP.i2f (nI (gS G))))) : vx_Met l yX7_builtShare wsX7_builtShare ({ frames := 7, cells := 1, slots := 6, locals := 103 } : Room) (xP [.ref (u 0)] D C ev (wj [acells C u Q, gcells C (uA u) G]) sz) (xO (f_X7_builtShare G).1 (some (.float (f_X7_builtShare G).2)) D (wj [acells C u Q, gcells C (uA u) G]) (va_A (wj [acells C u Q, gcells C (uA u) G]) sz)) (xC (f_X7_builtShare G).1 D (wj [acells C u Q, gcells C (uA u) G]) (va_A (wj [acells C u Q, gcells C (uA u) G]) sz)) 1 6 (va_A (wj [acells C u Q, gcells C (uA u) G]) sz) := by
  refine vx_ofW (cc := cX7_builtShare) (maxL := 1) (ret := (some .float)) (by decide) rfl ?_
  intro p e s m args below meth c s₁ B hml htab hv
  obtain ⟨rfl, hsz, hP, hK, hD0, hE, hR, hX, hT9, hV9⟩ := hv
  have hx := B.exec
  have hb := B.bytes
  have hr := B.returns
  have hts := atoms_spec (ws := wsX7_builtShare) B.pre
  have hown : s.vm.findClass RX7 = some m.cls := findClass_of_methodNamed B.named
  have hlocks := B.notSynchronized
  subst hsz
  generalize hAe : va_A (wj [acells C u Q, gcells C (uA u) G]) s.heap.size = A at hX hV9 ⊢
  have hS : va_S A s.heap s.heap [] := va_S.rf
  have hP : va_P D vwCl (wj [acells C u Q, gcells C (uA u) G]) s.heap := hP
  have hinX7 : ∀ w ∈ u_ws RX7 TX7 10, w ∈ wsX7_builtShare := by decide +kernel
  have hinX1 : ∀ w ∈ u_ws RX1 TX1 16, w ∈ wsX7_builtShare := by decide +kernel
  have hl := lv_entry ([.ref (u 0)]) (n := 1) (Nat.le_of_ble_eq_true rfl)
  rw [lg_entry_eq]
  generalize (lg_sl ([.ref (u 0)]) ++ List.replicate (1 - (lg_sl ([.ref (u 0)])).length) Slot.unset).toArray = ls at hl ⊢
  have hl : lv_has ls 1 [(0, .ref (u 0))] := hl
  refine lv_aload_n hx hb dX7_builtShare_0 rfl (lv_at hl 0 rfl) ?_
  refine va_get (D := D) (ci := 8) (v := .ref ((uA u) 0)) (C := RX7) (T := TX7) (N := 10) hx hb hts hinX7 hown hK hP 0 rfl rfl 0 (by decide) (hts (.fieldLink RX7 10 "BridgeAuction" "game" "LBridgeAuction$Game;") (by decide +kernel)) (fun _ h9 => h9) rfl dX7_builtShare_1 ?_
  refine va_getN (D := D) (ci := 4) (v := .int (nI (gS G))) (C := RX1) (T := TX1) (N := 16) hx hb hts hinX1 hown hK hP 1 rfl rfl 5 (by decide) (hE.use 5 rfl) (fun _ h9 => h9) rfl dX7_builtShare_4 ?_
  refine lv_if_ne (tgt := 20) hx hb dX7_builtShare_7 (by decide) (fun c_9 => ?_) (fun c_9 => ?_)
  · have ez : f_X7_builtShare G = (0, FP.fdiv (FP.i2f (f_X1_bridges G)) (FP.i2f (nI (gS G)))) := if_neg c_9
    rw [ez]
    refine lv_aload_n hx hb dX7_builtShare_20 rfl (lv_at hl 0 rfl) ?_
    refine va_get (D := D) (ci := 8) (v := .ref ((uA u) 0)) (C := RX7) (T := TX7) (N := 10) hx hb hts hinX7 hown hK hP 0 rfl rfl 0 (by decide) (hts (.fieldLink RX7 10 "BridgeAuction" "game" "LBridgeAuction$Game;") (by decide +kernel)) (fun _ h9 => h9) rfl dX7_builtShare_21 ?_
    refine callRo (va_runV (As := []) (rest := []) ⟨hx, hb, hml, hown, hts⟩ (c_X1_bridges l D C (uA u) G hG) (cwV 0 hts gX7_builtShare_X1_bridges rfl rfl rfl (by decide +kernel) ⟨Nat.le_of_ble_eq_true rfl, Nat.le_of_ble_eq_true rfl⟩) (roP_v (wj_P (cs := [gcells C (uA u) G]) hP [1] rfl) hK hE (va_recv hK (wj_P (cs := [gcells C (uA u) G]) hP [1] rfl) (ci := 4) (q0 := 0) rfl rfl)) rfl rfl hl.1 rfl (lv_room (Nat.le_of_ble_eq_true rfl)) dX7_builtShare_24 ⟨Nat.le_of_ble_eq_true rfl, Nat.le_of_ble_eq_true rfl⟩) ?_
    refine lv_i2f hx hb dX7_builtShare_27 ?_
    refine lv_aload_n hx hb dX7_builtShare_28 rfl (lv_at hl 0 rfl) ?_
    refine va_get (D := D) (ci := 8) (v := .ref ((uA u) 0)) (C := RX7) (T := TX7) (N := 10) hx hb hts hinX7 hown hK hP 0 rfl rfl 0 (by decide) (hts (.fieldLink RX7 10 "BridgeAuction" "game" "LBridgeAuction$Game;") (by decide +kernel)) (fun _ h9 => h9) rfl dX7_builtShare_29 ?_
    refine va_getN (D := D) (ci := 4) (v := .int (nI (gS G))) (C := RX1) (T := TX1) (N := 16) hx hb hts hinX1 hown hK hP 1 rfl rfl 5 (by decide) (hE.use 5 rfl) (fun _ h9 => h9) rfl dX7_builtShare_32 ?_
    refine lv_i2f hx hb dX7_builtShare_35 ?_
    refine lv_fdiv hx hb dX7_builtShare_36 (hne c_9) ?_
    exact x_retF hx hb hr hP hS rfl rfl (Nat.le_of_ble_eq_true rfl) (Nat.le_of_ble_eq_true rfl) dX7_builtShare_37 hlocks
  · have ez : f_X7_builtShare G = (6, 0) := if_pos c_9
    rw [ez]
    exact x_throwS (C := C) (k9 := 5) (text := "there are no sites") (wsm := wsX7_builtShare) hx hb hl9 hts hown hT9 hV9 hP hS (by decide) (by decide +kernel) (by decide +kernel) (by decide +kernel) (by decide +kernel) (by decide +kernel) (by decide +kernel) (by decide +kernel) (hml.trans hl.1.symm) htab dX7_builtShare_10 dX7_builtShare_13 dX7_builtShare_14 dX7_builtShare_16 dX7_builtShare_19 (Nat.le_of_ble_eq_true rfl) (Nat.le_of_ble_eq_true rfl) (Nat.le_of_ble_eq_true rfl) (Nat.le_of_ble_eq_true rfl) hlocks rfl (Nat.le_of_ble_eq_true rfl) (Nat.le_of_ble_eq_true rfl)
