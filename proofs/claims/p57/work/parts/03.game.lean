def f_X1_isIsland_j15  (s0_15 : Bool) : Bool := s0_15
def f_X1_isIsland_j14  : Bool := (f_X1_isIsland_j15 (false))
def f_X1_isIsland (x : Int32) : Bool := (if x < 0 then (f_X1_isIsland_j14) else (if 8 ≤ x then (f_X1_isIsland_j14) else (f_X1_isIsland_j15 (true))))
set_option maxHeartbeats 4000000 in
set_option maxRecDepth 100000 in
theorem c_X1_isIsland (l : Launch) (D : va_G) (C : Nat → ClassId) (x : Int32) : Met l yX1_isIsland wsX1_isIsland ({ frames := 0, cells := 0, slots := 0, locals := 0 } : Room) (roP [.int x] D C ([] : va_W)) (roO (some (.int (bI (f_X1_isIsland x))))) 0 0 (fun _ => False) := by
  refine Met.ofW (cc := cX1_isIsland) (maxL := 1) (ret := (some .boolean)) (by decide) rfl ?_
  intro p e s m args below meth c s₁ B hml hv
  obtain ⟨rfl, hP, hK, hE⟩ := hv
  have hx := B.exec
  have hb := B.bytes
  have hr := B.returns
  have hts := atoms_spec (ws := wsX1_isIsland) B.pre
  have hown : s.vm.findClass RX1 = some m.cls := findClass_of_methodNamed B.named
  have hlocks := B.notSynchronized
  have hl := lv_entry ([.int x]) (n := 1) (Nat.le_of_ble_eq_true rfl)
  rw [lg_entry_eq]
  generalize (lg_sl ([.int x]) ++ List.replicate (1 - (lg_sl ([.int x])).length) Slot.unset).toArray = ls at hl ⊢
  have hl : lv_has ls 1 [(0, .int x)] := hl
  obtain ⟨z, hz⟩ : ∃ z, z = f_X1_isIsland x := ⟨_, rfl⟩
  rw [← hz]
  have J15 : ∀ (s0_15 : Bool)  (ls : Array Slot), z = f_X1_isIsland_j15 s0_15 → lv_has ls 1 [] → W p l e ({ frames := 0, cells := 0, slots := 0, locals := 0 } : Room) s m ([.int x] : List Value).toArray below meth c s.heap [] 0 0 (MQ below (roO (some (.int (bI z)))) ([.int x] : List Value).toArray s 0 0 (fun _ => False)) (F0 m 15 ls [.int (bI s0_15)]) := by
    intro s0_15 ls hz  hl
    exact ro_retB hx hb hr (show _ = s0_15 from hz) dX1_isIsland_15 hlocks
  have J14 : ∀  (ls : Array Slot), z = f_X1_isIsland_j14 → lv_has ls 1 [] → W p l e ({ frames := 0, cells := 0, slots := 0, locals := 0 } : Room) s m ([.int x] : List Value).toArray below meth c s.heap [] 0 0 (MQ below (roO (some (.int (bI z)))) ([.int x] : List Value).toArray s 0 0 (fun _ => False)) (F0 m 14 ls []) := by
    intro  ls hz  hl
    refine lv_iconst (v := 0) hx hb dX1_isIsland_14 (by decide) ?_
    exact J15 (false) ls hz  (lv_sub hl [] rfl)
  refine lv_iload_n hx hb dX1_isIsland_0 rfl (lv_at hl 0 rfl) ?_
  refine lv_if_lt (tgt := 14) hx hb dX1_isIsland_1 (by decide) (fun c_1 => ?_) (fun c_1 => ?_)
  · have hz := hz.trans (if_pos c_1)
    exact J14  ls hz  (lv_sub hl [] rfl)
  · have hz := hz.trans (if_neg c_1)
    refine lv_iload_n hx hb dX1_isIsland_4 rfl (lv_at hl 0 rfl) ?_
    refine lv_bipush (v := 8) hx hb dX1_isIsland_5 (by decide) ?_
    refine lv_icmp_ge (tgt := 14) hx hb dX1_isIsland_7 (by decide) (fun c_7 => ?_) (fun c_7 => ?_)
    · have hz := hz.trans (if_pos c_7)
      exact J14  ls hz  (lv_sub hl [] rfl)
    · have hz := hz.trans (if_neg c_7)
      refine lv_iconst (v := 1) hx hb dX1_isIsland_10 (by decide) ?_
      refine lv_goto (tgt := 15) hx hb dX1_isIsland_11 (by decide) ?_
      exact J15 (true) ls hz  (lv_sub hl [] rfl)

def f_X1_isSite_j17  (s0_17 : Bool) : Bool := s0_17
def f_X1_isSite_j16  : Bool := (f_X1_isSite_j17 (false))
def f_X1_isSite (G : GS) (x : Int32) : Bool := (if x < 0 then (f_X1_isSite_j16) else (if (nI (gS G)) ≤ x then (f_X1_isSite_j16) else (f_X1_isSite_j17 (true))))
set_option maxHeartbeats 4000000 in
set_option maxRecDepth 100000 in
theorem c_X1_isSite (l : Launch) (D : va_G) (C : Nat → ClassId) (a : Nat → Nat) (G : GS) (x : Int32) (hG : GSafe G) : Met l yX1_isSite wsX1_isSite ({ frames := 0, cells := 0, slots := 0, locals := 0 } : Room) (roP [.ref (a 0), .int x] D C (gcells C a G)) (roO (some (.int (bI (f_X1_isSite G x))))) 0 0 (fun _ => False) := by
  refine Met.ofW (cc := cX1_isSite) (maxL := 2) (ret := (some .boolean)) (by decide) rfl ?_
  intro p e s m args below meth c s₁ B hml hv
  obtain ⟨rfl, hP, hK, hE⟩ := hv
  have hx := B.exec
  have hb := B.bytes
  have hr := B.returns
  have hts := atoms_spec (ws := wsX1_isSite) B.pre
  have hown : s.vm.findClass RX1 = some m.cls := findClass_of_methodNamed B.named
  have hlocks := B.notSynchronized
  obtain ⟨hS12, hP4, hlo, hhi⟩ := id hG
  have hinX1 : ∀ w ∈ u_ws RX1 TX1 16, w ∈ wsX1_isSite := by decide +kernel
  have hl := lv_entry ([.ref (a 0), .int x]) (n := 2) (Nat.le_of_ble_eq_true rfl)
  rw [lg_entry_eq]
  generalize (lg_sl ([.ref (a 0), .int x]) ++ List.replicate (2 - (lg_sl ([.ref (a 0), .int x])).length) Slot.unset).toArray = ls at hl ⊢
  have hl : lv_has ls 2 [(0, .ref (a 0)), (1, .int x)] := hl
  obtain ⟨z, hz⟩ : ∃ z, z = f_X1_isSite G x := ⟨_, rfl⟩
  rw [← hz]
  have J17 : ∀ (s0_17 : Bool)  (ls : Array Slot), z = f_X1_isSite_j17 s0_17 → lv_has ls 2 [] → W p l e ({ frames := 0, cells := 0, slots := 0, locals := 0 } : Room) s m ([.ref (a 0), .int x] : List Value).toArray below meth c s.heap [] 0 0 (MQ below (roO (some (.int (bI z)))) ([.ref (a 0), .int x] : List Value).toArray s 0 0 (fun _ => False)) (F0 m 17 ls [.int (bI s0_17)]) := by
    intro s0_17 ls hz  hl
    exact ro_retB hx hb hr (show _ = s0_17 from hz) dX1_isSite_17 hlocks
  have J16 : ∀  (ls : Array Slot), z = f_X1_isSite_j16 → lv_has ls 2 [] → W p l e ({ frames := 0, cells := 0, slots := 0, locals := 0 } : Room) s m ([.ref (a 0), .int x] : List Value).toArray below meth c s.heap [] 0 0 (MQ below (roO (some (.int (bI z)))) ([.ref (a 0), .int x] : List Value).toArray s 0 0 (fun _ => False)) (F0 m 16 ls []) := by
    intro  ls hz  hl
    refine lv_iconst (v := 0) hx hb dX1_isSite_16 (by decide) ?_
    exact J17 (false) ls hz  (lv_sub hl [] rfl)
  refine lv_iload_n hx hb dX1_isSite_0 rfl (lv_at hl 1 rfl) ?_
  refine lv_if_lt (tgt := 16) hx hb dX1_isSite_1 (by decide) (fun c_1 => ?_) (fun c_1 => ?_)
  · have hz := hz.trans (if_pos c_1)
    exact J16  ls hz  (lv_sub hl [] rfl)
  · have hz := hz.trans (if_neg c_1)
    refine lv_iload_n hx hb dX1_isSite_4 rfl (lv_at hl 1 rfl) ?_
    refine lv_aload_n hx hb dX1_isSite_5 rfl (lv_at hl 0 rfl) ?_
    refine va_get (D := D) (ci := 4) (v := .int (nI (gS G))) (C := RX1) (T := TX1) (N := 16) hx hb hts hinX1 hown hK hP 0 rfl rfl 5 (by decide) (hts (.fieldLink RX1 28 "BridgeAuction$Game" "sites" "I") (by decide +kernel)) (fun _ h9 => h9) rfl dX1_isSite_6 ?_
    refine lv_icmp_ge (tgt := 16) hx hb dX1_isSite_9 (by decide) (fun c_9 => ?_) (fun c_9 => ?_)
    · have hz := hz.trans (if_pos c_9)
      exact J16  ls hz  (lv_sub hl [] rfl)
    · have hz := hz.trans (if_neg c_9)
      refine lv_iconst (v := 1) hx hb dX1_isSite_12 (by decide) ?_
      refine lv_goto (tgt := 17) hx hb dX1_isSite_13 (by decide) ?_
      exact J17 (true) ls hz  (lv_sub hl [] rfl)

def f_X1_isPlayer_j17  (s0_17 : Bool) : Bool := s0_17
def f_X1_isPlayer_j16  : Bool := (f_X1_isPlayer_j17 (false))
def f_X1_isPlayer (G : GS) (x : Int32) : Bool := (if x < 0 then (f_X1_isPlayer_j16) else (if (nI (gP G)) ≤ x then (f_X1_isPlayer_j16) else (f_X1_isPlayer_j17 (true))))
set_option maxHeartbeats 4000000 in
set_option maxRecDepth 100000 in
theorem c_X1_isPlayer (l : Launch) (D : va_G) (C : Nat → ClassId) (a : Nat → Nat) (G : GS) (x : Int32) (hG : GSafe G) : Met l yX1_isPlayer wsX1_isPlayer ({ frames := 0, cells := 0, slots := 0, locals := 0 } : Room) (roP [.ref (a 0), .int x] D C (gcells C a G)) (roO (some (.int (bI (f_X1_isPlayer G x))))) 0 0 (fun _ => False) := by
  refine Met.ofW (cc := cX1_isPlayer) (maxL := 2) (ret := (some .boolean)) (by decide) rfl ?_
  intro p e s m args below meth c s₁ B hml hv
  obtain ⟨rfl, hP, hK, hE⟩ := hv
  have hx := B.exec
  have hb := B.bytes
  have hr := B.returns
  have hts := atoms_spec (ws := wsX1_isPlayer) B.pre
  have hown : s.vm.findClass RX1 = some m.cls := findClass_of_methodNamed B.named
  have hlocks := B.notSynchronized
  obtain ⟨hS12, hP4, hlo, hhi⟩ := id hG
  have hinX1 : ∀ w ∈ u_ws RX1 TX1 16, w ∈ wsX1_isPlayer := by decide +kernel
  have hl := lv_entry ([.ref (a 0), .int x]) (n := 2) (Nat.le_of_ble_eq_true rfl)
  rw [lg_entry_eq]
  generalize (lg_sl ([.ref (a 0), .int x]) ++ List.replicate (2 - (lg_sl ([.ref (a 0), .int x])).length) Slot.unset).toArray = ls at hl ⊢
  have hl : lv_has ls 2 [(0, .ref (a 0)), (1, .int x)] := hl
  obtain ⟨z, hz⟩ : ∃ z, z = f_X1_isPlayer G x := ⟨_, rfl⟩
  rw [← hz]
  have J17 : ∀ (s0_17 : Bool)  (ls : Array Slot), z = f_X1_isPlayer_j17 s0_17 → lv_has ls 2 [] → W p l e ({ frames := 0, cells := 0, slots := 0, locals := 0 } : Room) s m ([.ref (a 0), .int x] : List Value).toArray below meth c s.heap [] 0 0 (MQ below (roO (some (.int (bI z)))) ([.ref (a 0), .int x] : List Value).toArray s 0 0 (fun _ => False)) (F0 m 17 ls [.int (bI s0_17)]) := by
    intro s0_17 ls hz  hl
    exact ro_retB hx hb hr (show _ = s0_17 from hz) dX1_isPlayer_17 hlocks
  have J16 : ∀  (ls : Array Slot), z = f_X1_isPlayer_j16 → lv_has ls 2 [] → W p l e ({ frames := 0, cells := 0, slots := 0, locals := 0 } : Room) s m ([.ref (a 0), .int x] : List Value).toArray below meth c s.heap [] 0 0 (MQ below (roO (some (.int (bI z)))) ([.ref (a 0), .int x] : List Value).toArray s 0 0 (fun _ => False)) (F0 m 16 ls []) := by
    intro  ls hz  hl
    refine lv_iconst (v := 0) hx hb dX1_isPlayer_16 (by decide) ?_
    exact J17 (false) ls hz  (lv_sub hl [] rfl)
  refine lv_iload_n hx hb dX1_isPlayer_0 rfl (lv_at hl 1 rfl) ?_
  refine lv_if_lt (tgt := 16) hx hb dX1_isPlayer_1 (by decide) (fun c_1 => ?_) (fun c_1 => ?_)
  · have hz := hz.trans (if_pos c_1)
    exact J16  ls hz  (lv_sub hl [] rfl)
  · have hz := hz.trans (if_neg c_1)
    refine lv_iload_n hx hb dX1_isPlayer_4 rfl (lv_at hl 1 rfl) ?_
    refine lv_aload_n hx hb dX1_isPlayer_5 rfl (lv_at hl 0 rfl) ?_
    refine va_get (D := D) (ci := 4) (v := .int (nI (gP G))) (C := RX1) (T := TX1) (N := 16) hx hb hts hinX1 hown hK hP 0 rfl rfl 2 (by decide) (hts (.fieldLink RX1 19 "BridgeAuction$Game" "players" "I") (by decide +kernel)) (fun _ h9 => h9) rfl dX1_isPlayer_6 ?_
    refine lv_icmp_ge (tgt := 16) hx hb dX1_isPlayer_9 (by decide) (fun c_9 => ?_) (fun c_9 => ?_)
    · have hz := hz.trans (if_pos c_9)
      exact J16  ls hz  (lv_sub hl [] rfl)
    · have hz := hz.trans (if_neg c_9)
      refine lv_iconst (v := 1) hx hb dX1_isPlayer_12 (by decide) ?_
      refine lv_goto (tgt := 17) hx hb dX1_isPlayer_13 (by decide) ?_
      exact J17 (true) ls hz  (lv_sub hl [] rfl)

def f_X1_costOf (G : GS) (k : Nat) : Int32 := (((gLen G) k) + (gTide G))
set_option maxHeartbeats 4000000 in
set_option maxRecDepth 100000 in
theorem c_X1_costOf (l : Launch) (D : va_G) (C : Nat → ClassId) (a : Nat → Nat) (G : GS) (k : Nat) (hG : GSafe G) (h_k : k < 12) : Met l yX1_costOf wsX1_costOf ({ frames := 0, cells := 0, slots := 0, locals := 0 } : Room) (roP [.ref (a 0), .int (nI k)] D C (gcells C a G)) (roO (some (.int (f_X1_costOf G k)))) 0 0 (fun _ => False) := by
  refine Met.ofW (cc := cX1_costOf) (maxL := 2) (ret := (some .int)) (by decide) rfl ?_
  intro p e s m args below meth c s₁ B hml hv
  obtain ⟨rfl, hP, hK, hE⟩ := hv
  have hx := B.exec
  have hb := B.bytes
  have hr := B.returns
  have hts := atoms_spec (ws := wsX1_costOf) B.pre
  have hown : s.vm.findClass RX1 = some m.cls := findClass_of_methodNamed B.named
  have hlocks := B.notSynchronized
  obtain ⟨hS12, hP4, hlo, hhi⟩ := id hG
  have hinX1 : ∀ w ∈ u_ws RX1 TX1 16, w ∈ wsX1_costOf := by decide +kernel
  have hl := lv_entry ([.ref (a 0), .int (nI k)]) (n := 2) (Nat.le_of_ble_eq_true rfl)
  rw [lg_entry_eq]
  generalize (lg_sl ([.ref (a 0), .int (nI k)]) ++ List.replicate (2 - (lg_sl ([.ref (a 0), .int (nI k)])).length) Slot.unset).toArray = ls at hl ⊢
  have hl : lv_has ls 2 [(0, .ref (a 0)), (1, .int (nI k))] := hl
  obtain ⟨z, hz⟩ : ∃ z, z = f_X1_costOf G k := ⟨_, rfl⟩
  rw [← hz]
  refine lv_aload_n hx hb dX1_costOf_0 rfl (lv_at hl 0 rfl) ?_
  refine va_get (D := D) (ci := 4) (v := .ref (a 5)) (C := RX1) (T := TX1) (N := 16) hx hb hts hinX1 hown hK hP 0 rfl rfl 8 (by decide) (hts (.fieldLink RX1 37 "BridgeAuction$Game" "lengths" "[I") (by decide +kernel)) (fun _ h9 => h9) rfl dX1_costOf_1 ?_
  refine lv_iload_n hx hb dX1_costOf_4 rfl (lv_at hl 1 rfl) ?_
  refine ialdN (tys := tyA C) hx hb hK hP 5 0 rfl rfl (i := k) (by omega) (by decide) dX1_costOf_5 ?_
  refine lv_aload_n hx hb dX1_costOf_6 rfl (lv_at hl 0 rfl) ?_
  refine va_get (D := D) (ci := 4) (v := .int (gTide G)) (C := RX1) (T := TX1) (N := 16) hx hb hts hinX1 hown hK hP 0 rfl rfl 1 (by decide) (hts (.fieldLink RX1 15 "BridgeAuction$Game" "tideLevel" "I") (by decide +kernel)) (fun _ h9 => h9) rfl dX1_costOf_7 ?_
  refine lv_iadd hx hb dX1_costOf_10 ?_
  exact ro_ret hx hb hr hz dX1_costOf_11 hlocks

def f_X1_hasBridge_j15  (s0_15 : Bool) : Bool := s0_15
def f_X1_hasBridge (G : GS) (k : Nat) : Bool := (if ((gBld G) k) = (-1) then (f_X1_hasBridge_j15 (false)) else (f_X1_hasBridge_j15 (true)))
set_option maxHeartbeats 4000000 in
set_option maxRecDepth 100000 in
theorem c_X1_hasBridge (l : Launch) (D : va_G) (C : Nat → ClassId) (a : Nat → Nat) (G : GS) (k : Nat) (hG : GSafe G) (h_k : k < 12) : Met l yX1_hasBridge wsX1_hasBridge ({ frames := 0, cells := 0, slots := 0, locals := 0 } : Room) (roP [.ref (a 0), .int (nI k)] D C (gcells C a G)) (roO (some (.int (bI (f_X1_hasBridge G k))))) 0 0 (fun _ => False) := by
  refine Met.ofW (cc := cX1_hasBridge) (maxL := 2) (ret := (some .boolean)) (by decide) rfl ?_
  intro p e s m args below meth c s₁ B hml hv
  obtain ⟨rfl, hP, hK, hE⟩ := hv
  have hx := B.exec
  have hb := B.bytes
  have hr := B.returns
  have hts := atoms_spec (ws := wsX1_hasBridge) B.pre
  have hown : s.vm.findClass RX1 = some m.cls := findClass_of_methodNamed B.named
  have hlocks := B.notSynchronized
  obtain ⟨hS12, hP4, hlo, hhi⟩ := id hG
  have hinX1 : ∀ w ∈ u_ws RX1 TX1 16, w ∈ wsX1_hasBridge := by decide +kernel
  have hl := lv_entry ([.ref (a 0), .int (nI k)]) (n := 2) (Nat.le_of_ble_eq_true rfl)
  rw [lg_entry_eq]
  generalize (lg_sl ([.ref (a 0), .int (nI k)]) ++ List.replicate (2 - (lg_sl ([.ref (a 0), .int (nI k)])).length) Slot.unset).toArray = ls at hl ⊢
  have hl : lv_has ls 2 [(0, .ref (a 0)), (1, .int (nI k))] := hl
  obtain ⟨z, hz⟩ : ∃ z, z = f_X1_hasBridge G k := ⟨_, rfl⟩
  rw [← hz]
  have J15 : ∀ (s0_15 : Bool)  (ls : Array Slot), z = f_X1_hasBridge_j15 s0_15 → lv_has ls 2 [] → W p l e ({ frames := 0, cells := 0, slots := 0, locals := 0 } : Room) s m ([.ref (a 0), .int (nI k)] : List Value).toArray below meth c s.heap [] 0 0 (MQ below (roO (some (.int (bI z)))) ([.ref (a 0), .int (nI k)] : List Value).toArray s 0 0 (fun _ => False)) (F0 m 15 ls [.int (bI s0_15)]) := by
    intro s0_15 ls hz  hl
    exact ro_retB hx hb hr (show _ = s0_15 from hz) dX1_hasBridge_15 hlocks
  refine lv_aload_n hx hb dX1_hasBridge_0 rfl (lv_at hl 0 rfl) ?_
  refine va_get (D := D) (ci := 4) (v := .ref (a 6)) (C := RX1) (T := TX1) (N := 16) hx hb hts hinX1 hown hK hP 0 rfl rfl 9 (by decide) (hts (.fieldLink RX1 40 "BridgeAuction$Game" "builders" "[I") (by decide +kernel)) (fun _ h9 => h9) rfl dX1_hasBridge_1 ?_
  refine lv_iload_n hx hb dX1_hasBridge_4 rfl (lv_at hl 1 rfl) ?_
  refine ialdN (tys := tyA C) hx hb hK hP 6 0 rfl rfl (i := k) (by omega) (by decide) dX1_hasBridge_5 ?_
  refine lv_iconst (v := (-1)) hx hb dX1_hasBridge_6 (by decide) ?_
  refine lv_icmp_eq (tgt := 14) hx hb dX1_hasBridge_7 (by decide) (fun c_7 => ?_) (fun c_7 => ?_)
  · have hz := hz.trans (if_pos c_7)
    refine lv_iconst (v := 0) hx hb dX1_hasBridge_14 (by decide) ?_
    exact J15 (false) ls hz  (lv_sub hl [] rfl)
  · have hz := hz.trans (if_neg c_7)
    refine lv_iconst (v := 1) hx hb dX1_hasBridge_10 (by decide) ?_
    refine lv_goto (tgt := 15) hx hb dX1_hasBridge_11 (by decide) ?_
    exact J15 (true) ls hz  (lv_sub hl [] rfl)

def f_X1_bridgedFrom_j47  (s0_47 : Int32) : Int32 := s0_47
def f_X1_bridgedFrom (G : GS) (i : Int32) (k : Nat) : Int32 := (if (f_X1_hasBridge G (k)) = true then (if (nI ((gLo G) k)) = i then (nI ((gHi G) k)) else (if (nI ((gHi G) k)) = i then (f_X1_bridgedFrom_j47 ((nI ((gLo G) k)))) else (f_X1_bridgedFrom_j47 ((-1))))) else (-1))
set_option maxHeartbeats 4000000 in
set_option maxRecDepth 100000 in
theorem c_X1_bridgedFrom (l : Launch) (D : va_G) (C : Nat → ClassId) (a : Nat → Nat) (G : GS) (i : Int32) (k : Nat) (hG : GSafe G) (h_k : k < 12) : Met l yX1_bridgedFrom wsX1_bridgedFrom ({ frames := 1, cells := 0, slots := 0, locals := 21 } : Room) (roP [.ref (a 0), .int i, .int (nI k)] D C (gcells C a G)) (roO (some (.int (f_X1_bridgedFrom G i k)))) 0 0 (fun _ => False) := by
  refine Met.ofW (cc := cX1_bridgedFrom) (maxL := 3) (ret := (some .int)) (by decide) rfl ?_
  intro p e s m args below meth c s₁ B hml hv
  obtain ⟨rfl, hP, hK, hE⟩ := hv
  have hx := B.exec
  have hb := B.bytes
  have hr := B.returns
  have hts := atoms_spec (ws := wsX1_bridgedFrom) B.pre
  have hown : s.vm.findClass RX1 = some m.cls := findClass_of_methodNamed B.named
  have hlocks := B.notSynchronized
  obtain ⟨hS12, hP4, hlo, hhi⟩ := id hG
  have hinX1 : ∀ w ∈ u_ws RX1 TX1 16, w ∈ wsX1_bridgedFrom := by decide +kernel
  have hl := lv_entry ([.ref (a 0), .int i, .int (nI k)]) (n := 3) (Nat.le_of_ble_eq_true rfl)
  rw [lg_entry_eq]
  generalize (lg_sl ([.ref (a 0), .int i, .int (nI k)]) ++ List.replicate (3 - (lg_sl ([.ref (a 0), .int i, .int (nI k)])).length) Slot.unset).toArray = ls at hl ⊢
  have hl : lv_has ls 3 [(0, .ref (a 0)), (1, .int i), (2, .int (nI k))] := hl
  obtain ⟨z, hz⟩ : ∃ z, z = f_X1_bridgedFrom G i k := ⟨_, rfl⟩
  rw [← hz]
  have J47 : ∀ (s0_47 : Int32)  (ls : Array Slot), z = f_X1_bridgedFrom_j47 s0_47 → lv_has ls 3 [] → W p l e ({ frames := 1, cells := 0, slots := 0, locals := 21 } : Room) s m ([.ref (a 0), .int i, .int (nI k)] : List Value).toArray below meth c s.heap [] 0 0 (MQ below (roO (some (.int z))) ([.ref (a 0), .int i, .int (nI k)] : List Value).toArray s 0 0 (fun _ => False)) (F0 m 47 ls [.int s0_47]) := by
    intro s0_47 ls hz  hl
    exact ro_ret hx hb hr hz dX1_bridgedFrom_47 hlocks
  refine lv_aload_n hx hb dX1_bridgedFrom_0 rfl (lv_at hl 0 rfl) ?_
  refine lv_iload_n hx hb dX1_bridgedFrom_1 rfl (lv_at hl 2 rfl) ?_
  refine callRo (va_runV (As := [.int (nI k)]) (rest := []) ⟨hx, hb, hml, hown, hts⟩ (c_X1_hasBridge l D C a G (k) hG (by omega)) (cwV 1 hts gX1_bridgedFrom_X1_hasBridge rfl rfl rfl (by decide +kernel) ⟨Nat.le_of_ble_eq_true rfl, Nat.le_of_ble_eq_true rfl⟩) (roP_v hP hK hE (va_recv hK hP (ci := 4) (q0 := 0) rfl rfl)) rfl rfl hl.1 rfl (lv_room (Nat.le_of_ble_eq_true rfl)) dX1_bridgedFrom_2 ⟨Nat.le_refl _, Nat.le_refl _⟩) ?_
  refine bif_ne (tgt := 10) hx hb dX1_bridgedFrom_5 (by decide) (fun c_5 => ?_) (fun c_5 => ?_)
  · have hz := hz.trans (ifB_t c_5)
    refine lv_aload_n hx hb dX1_bridgedFrom_10 rfl (lv_at hl 0 rfl) ?_
    refine va_get (D := D) (ci := 4) (v := .ref (a 3)) (C := RX1) (T := TX1) (N := 16) hx hb hts hinX1 hown hK hP 0 rfl rfl 6 (by decide) (hts (.fieldLink RX1 31 "BridgeAuction$Game" "lowers" "[I") (by decide +kernel)) (fun _ h9 => h9) rfl dX1_bridgedFrom_11 ?_
    refine lv_iload_n hx hb dX1_bridgedFrom_14 rfl (lv_at hl 2 rfl) ?_
    refine ialdN (tys := tyA C) hx hb hK hP 3 0 rfl rfl (i := k) (by omega) (by decide) dX1_bridgedFrom_15 ?_
    have hb_1 := hlo (k)
    refine lv_iload_n hx hb dX1_bridgedFrom_16 rfl (lv_at hl 1 rfl) ?_
    refine lv_icmp_ne (tgt := 27) hx hb dX1_bridgedFrom_17 (by decide) (fun c_17 => ?_) (fun c_17 => ?_)
    · have hz := hz.trans (if_neg c_17)
      refine lv_aload_n hx hb dX1_bridgedFrom_27 rfl (lv_at hl 0 rfl) ?_
      refine va_get (D := D) (ci := 4) (v := .ref (a 4)) (C := RX1) (T := TX1) (N := 16) hx hb hts hinX1 hown hK hP 0 rfl rfl 7 (by decide) (hts (.fieldLink RX1 34 "BridgeAuction$Game" "highers" "[I") (by decide +kernel)) (fun _ h9 => h9) rfl dX1_bridgedFrom_28 ?_
      refine lv_iload_n hx hb dX1_bridgedFrom_31 rfl (lv_at hl 2 rfl) ?_
      refine ialdN (tys := tyA C) hx hb hK hP 4 0 rfl rfl (i := k) (by omega) (by decide) dX1_bridgedFrom_32 ?_
      have hb_2 := hhi (k)
      refine lv_iload_n hx hb dX1_bridgedFrom_33 rfl (lv_at hl 1 rfl) ?_
      refine lv_icmp_ne (tgt := 46) hx hb dX1_bridgedFrom_34 (by decide) (fun c_34 => ?_) (fun c_34 => ?_)
      · have hz := hz.trans (if_neg c_34)
        refine lv_iconst (v := (-1)) hx hb dX1_bridgedFrom_46 (by decide) ?_
        exact J47 ((-1)) ls hz  (lv_sub hl [] rfl)
      · have hz := hz.trans (if_pos c_34)
        refine lv_aload_n hx hb dX1_bridgedFrom_37 rfl (lv_at hl 0 rfl) ?_
        refine va_get (D := D) (ci := 4) (v := .ref (a 3)) (C := RX1) (T := TX1) (N := 16) hx hb hts hinX1 hown hK hP 0 rfl rfl 6 (by decide) (hts (.fieldLink RX1 31 "BridgeAuction$Game" "lowers" "[I") (by decide +kernel)) (fun _ h9 => h9) rfl dX1_bridgedFrom_38 ?_
        refine lv_iload_n hx hb dX1_bridgedFrom_41 rfl (lv_at hl 2 rfl) ?_
        refine ialdN (tys := tyA C) hx hb hK hP 3 0 rfl rfl (i := k) (by omega) (by decide) dX1_bridgedFrom_42 ?_
        have hb_3 := hlo (k)
        refine lv_goto (tgt := 47) hx hb dX1_bridgedFrom_43 (by decide) ?_
        exact J47 ((nI ((gLo G) k))) ls hz  (lv_sub hl [] rfl)
    · have hz := hz.trans (if_pos c_17)
      refine lv_aload_n hx hb dX1_bridgedFrom_20 rfl (lv_at hl 0 rfl) ?_
      refine va_get (D := D) (ci := 4) (v := .ref (a 4)) (C := RX1) (T := TX1) (N := 16) hx hb hts hinX1 hown hK hP 0 rfl rfl 7 (by decide) (hts (.fieldLink RX1 34 "BridgeAuction$Game" "highers" "[I") (by decide +kernel)) (fun _ h9 => h9) rfl dX1_bridgedFrom_21 ?_
      refine lv_iload_n hx hb dX1_bridgedFrom_24 rfl (lv_at hl 2 rfl) ?_
      refine ialdN (tys := tyA C) hx hb hK hP 4 0 rfl rfl (i := k) (by omega) (by decide) dX1_bridgedFrom_25 ?_
      have hb_4 := hhi (k)
      exact ro_ret hx hb hr hz dX1_bridgedFrom_26 hlocks
  · have hz := hz.trans (ifB_f c_5)
    refine lv_iconst (v := (-1)) hx hb dX1_bridgedFrom_8 (by decide) ?_
    exact ro_ret hx hb hr hz dX1_bridgedFrom_9 hlocks

def f_X1_slot (q : Nat) (k : Nat) : Nat := ((k * 4) + q)
set_option maxHeartbeats 4000000 in
set_option maxRecDepth 100000 in
theorem c_X1_slot (l : Launch) (D : va_G) (C : Nat → ClassId) (q : Nat) (k : Nat) (h_q : q < 4) (h_k : k < 12) : Met l yX1_slot wsX1_slot ({ frames := 0, cells := 0, slots := 0, locals := 0 } : Room) (roP [.int (nI q), .int (nI k)] D C ([] : va_W)) (roO (some (.int (nI (f_X1_slot q k))))) 0 0 (fun _ => False) := by
  refine Met.ofW (cc := cX1_slot) (maxL := 2) (ret := (some .int)) (by decide) rfl ?_
  intro p e s m args below meth c s₁ B hml hv
  obtain ⟨rfl, hP, hK, hE⟩ := hv
  have hx := B.exec
  have hb := B.bytes
  have hr := B.returns
  have hts := atoms_spec (ws := wsX1_slot) B.pre
  have hown : s.vm.findClass RX1 = some m.cls := findClass_of_methodNamed B.named
  have hlocks := B.notSynchronized
  have hl := lv_entry ([.int (nI q), .int (nI k)]) (n := 2) (Nat.le_of_ble_eq_true rfl)
  rw [lg_entry_eq]
  generalize (lg_sl ([.int (nI q), .int (nI k)]) ++ List.replicate (2 - (lg_sl ([.int (nI q), .int (nI k)])).length) Slot.unset).toArray = ls at hl ⊢
  have hl : lv_has ls 2 [(0, .int (nI q)), (1, .int (nI k))] := hl
  obtain ⟨z, hz⟩ : ∃ z, z = f_X1_slot q k := ⟨_, rfl⟩
  rw [← hz]
  refine lv_iload_n hx hb dX1_slot_0 rfl (lv_at hl 1 rfl) ?_
  refine lv_iconst (v := 4) hx hb dX1_slot_1 (by decide) ?_
  refine topN (k := 4) (by decide) ?_
  refine mulN hx hb dX1_slot_2 ?_
  refine lv_iload_n hx hb dX1_slot_3 rfl (lv_at hl 0 rfl) ?_
  refine addN hx hb dX1_slot_4 ?_
  exact ro_ret hx hb hr (congrArg nI (show _ = ((k * 4) + q) from hz)) dX1_slot_5 hlocks

def f_X1_hasBid_j18  (s0_18 : Bool) : Bool := s0_18
def f_X1_hasBid (G : GS) (q : Nat) (k : Nat) : Bool := (if ((gOff G) (k * 4 + q)) = 0 then (f_X1_hasBid_j18 (false)) else (f_X1_hasBid_j18 (true)))
set_option maxHeartbeats 4000000 in
set_option maxRecDepth 100000 in
theorem c_X1_hasBid (l : Launch) (D : va_G) (C : Nat → ClassId) (a : Nat → Nat) (G : GS) (q : Nat) (k : Nat) (hG : GSafe G) (h_q : q < 4) (h_k : k < 12) : Met l yX1_hasBid wsX1_hasBid ({ frames := 1, cells := 0, slots := 0, locals := 21 } : Room) (roP [.ref (a 0), .int (nI q), .int (nI k)] D C (gcells C a G)) (roO (some (.int (bI (f_X1_hasBid G q k))))) 0 0 (fun _ => False) := by
  refine Met.ofW (cc := cX1_hasBid) (maxL := 3) (ret := (some .boolean)) (by decide) rfl ?_
  intro p e s m args below meth c s₁ B hml hv
  obtain ⟨rfl, hP, hK, hE⟩ := hv
  have hx := B.exec
  have hb := B.bytes
  have hr := B.returns
  have hts := atoms_spec (ws := wsX1_hasBid) B.pre
  have hown : s.vm.findClass RX1 = some m.cls := findClass_of_methodNamed B.named
  have hlocks := B.notSynchronized
  obtain ⟨hS12, hP4, hlo, hhi⟩ := id hG
  have hinX1 : ∀ w ∈ u_ws RX1 TX1 16, w ∈ wsX1_hasBid := by decide +kernel
  have hl := lv_entry ([.ref (a 0), .int (nI q), .int (nI k)]) (n := 3) (Nat.le_of_ble_eq_true rfl)
  rw [lg_entry_eq]
  generalize (lg_sl ([.ref (a 0), .int (nI q), .int (nI k)]) ++ List.replicate (3 - (lg_sl ([.ref (a 0), .int (nI q), .int (nI k)])).length) Slot.unset).toArray = ls at hl ⊢
  have hl : lv_has ls 3 [(0, .ref (a 0)), (1, .int (nI q)), (2, .int (nI k))] := hl
  obtain ⟨z, hz⟩ : ∃ z, z = f_X1_hasBid G q k := ⟨_, rfl⟩
  rw [← hz]
  have J18 : ∀ (s0_18 : Bool)  (ls : Array Slot), z = f_X1_hasBid_j18 s0_18 → lv_has ls 3 [] → W p l e ({ frames := 1, cells := 0, slots := 0, locals := 21 } : Room) s m ([.ref (a 0), .int (nI q), .int (nI k)] : List Value).toArray below meth c s.heap [] 0 0 (MQ below (roO (some (.int (bI z)))) ([.ref (a 0), .int (nI q), .int (nI k)] : List Value).toArray s 0 0 (fun _ => False)) (F0 m 18 ls [.int (bI s0_18)]) := by
    intro s0_18 ls hz  hl
    exact ro_retB hx hb hr (show _ = s0_18 from hz) dX1_hasBid_18 hlocks
  refine lv_aload_n hx hb dX1_hasBid_0 rfl (lv_at hl 0 rfl) ?_
  refine va_get (D := D) (ci := 4) (v := .ref (a 8)) (C := RX1) (T := TX1) (N := 16) hx hb hts hinX1 hown hK hP 0 rfl rfl 11 (by decide) (hts (.fieldLink RX1 46 "BridgeAuction$Game" "offers" "[I") (by decide +kernel)) (fun _ h9 => h9) rfl dX1_hasBid_1 ?_
  refine lv_iload_n hx hb dX1_hasBid_4 rfl (lv_at hl 1 rfl) ?_
  refine lv_iload_n hx hb dX1_hasBid_5 rfl (lv_at hl 2 rfl) ?_
  refine callRo (va_runS (As := [.int (nI q), .int (nI k)]) (rest := [.ref (a 8)]) ⟨hx, hb, hml, hown, hts⟩ (c_X1_slot l D C (q) (k) (by omega) (by omega)) (va_cwS 2 hts gX1_hasBid_X1_slot rfl rfl rfl (by decide +kernel) ⟨Nat.le_of_ble_eq_true rfl, Nat.le_of_ble_eq_true rfl⟩) (roP_s (hP.sub (ws' := ([] : va_W)) [] rfl) hK hE) rfl rfl hl.1 rfl (lv_room (Nat.le_of_ble_eq_true rfl)) dX1_hasBid_6 ⟨Nat.le_refl _, Nat.le_refl _⟩) ?_
  refine topN (k := (k * 4 + q)) rfl ?_
  refine ialdN (tys := tyA C) hx hb hK hP 8 0 rfl rfl (i := (k * 4 + q)) (by omega) (by decide) dX1_hasBid_9 ?_
  refine lv_if_eq (tgt := 17) hx hb dX1_hasBid_10 (by decide) (fun c_10 => ?_) (fun c_10 => ?_)
  · have hz := hz.trans (if_pos c_10)
    refine lv_iconst (v := 0) hx hb dX1_hasBid_17 (by decide) ?_
    exact J18 (false) ls hz  (lv_sub hl [] rfl)
  · have hz := hz.trans (if_neg c_10)
    refine lv_iconst (v := 1) hx hb dX1_hasBid_13 (by decide) ?_
    refine lv_goto (tgt := 18) hx hb dX1_hasBid_14 (by decide) ?_
    exact J18 (true) ls hz  (lv_sub hl [] rfl)

def f_X1_hasBluff_j18  (s0_18 : Bool) : Bool := s0_18
def f_X1_hasBluff (G : GS) (q : Nat) (k : Nat) : Bool := (if 0 ≤ ((gOff G) (k * 4 + q)) then (f_X1_hasBluff_j18 (false)) else (f_X1_hasBluff_j18 (true)))
set_option maxHeartbeats 4000000 in
set_option maxRecDepth 100000 in
theorem c_X1_hasBluff (l : Launch) (D : va_G) (C : Nat → ClassId) (a : Nat → Nat) (G : GS) (q : Nat) (k : Nat) (hG : GSafe G) (h_q : q < 4) (h_k : k < 12) : Met l yX1_hasBluff wsX1_hasBluff ({ frames := 1, cells := 0, slots := 0, locals := 21 } : Room) (roP [.ref (a 0), .int (nI q), .int (nI k)] D C (gcells C a G)) (roO (some (.int (bI (f_X1_hasBluff G q k))))) 0 0 (fun _ => False) := by
  refine Met.ofW (cc := cX1_hasBluff) (maxL := 3) (ret := (some .boolean)) (by decide) rfl ?_
  intro p e s m args below meth c s₁ B hml hv
  obtain ⟨rfl, hP, hK, hE⟩ := hv
  have hx := B.exec
  have hb := B.bytes
  have hr := B.returns
  have hts := atoms_spec (ws := wsX1_hasBluff) B.pre
  have hown : s.vm.findClass RX1 = some m.cls := findClass_of_methodNamed B.named
  have hlocks := B.notSynchronized
  obtain ⟨hS12, hP4, hlo, hhi⟩ := id hG
  have hinX1 : ∀ w ∈ u_ws RX1 TX1 16, w ∈ wsX1_hasBluff := by decide +kernel
  have hl := lv_entry ([.ref (a 0), .int (nI q), .int (nI k)]) (n := 3) (Nat.le_of_ble_eq_true rfl)
  rw [lg_entry_eq]
  generalize (lg_sl ([.ref (a 0), .int (nI q), .int (nI k)]) ++ List.replicate (3 - (lg_sl ([.ref (a 0), .int (nI q), .int (nI k)])).length) Slot.unset).toArray = ls at hl ⊢
  have hl : lv_has ls 3 [(0, .ref (a 0)), (1, .int (nI q)), (2, .int (nI k))] := hl
  obtain ⟨z, hz⟩ : ∃ z, z = f_X1_hasBluff G q k := ⟨_, rfl⟩
  rw [← hz]
  have J18 : ∀ (s0_18 : Bool)  (ls : Array Slot), z = f_X1_hasBluff_j18 s0_18 → lv_has ls 3 [] → W p l e ({ frames := 1, cells := 0, slots := 0, locals := 21 } : Room) s m ([.ref (a 0), .int (nI q), .int (nI k)] : List Value).toArray below meth c s.heap [] 0 0 (MQ below (roO (some (.int (bI z)))) ([.ref (a 0), .int (nI q), .int (nI k)] : List Value).toArray s 0 0 (fun _ => False)) (F0 m 18 ls [.int (bI s0_18)]) := by
    intro s0_18 ls hz  hl
    exact ro_retB hx hb hr (show _ = s0_18 from hz) dX1_hasBluff_18 hlocks
  refine lv_aload_n hx hb dX1_hasBluff_0 rfl (lv_at hl 0 rfl) ?_
  refine va_get (D := D) (ci := 4) (v := .ref (a 8)) (C := RX1) (T := TX1) (N := 16) hx hb hts hinX1 hown hK hP 0 rfl rfl 11 (by decide) (hts (.fieldLink RX1 46 "BridgeAuction$Game" "offers" "[I") (by decide +kernel)) (fun _ h9 => h9) rfl dX1_hasBluff_1 ?_
  refine lv_iload_n hx hb dX1_hasBluff_4 rfl (lv_at hl 1 rfl) ?_
  refine lv_iload_n hx hb dX1_hasBluff_5 rfl (lv_at hl 2 rfl) ?_
  refine callRo (va_runS (As := [.int (nI q), .int (nI k)]) (rest := [.ref (a 8)]) ⟨hx, hb, hml, hown, hts⟩ (c_X1_slot l D C (q) (k) (by omega) (by omega)) (va_cwS 2 hts gX1_hasBluff_X1_slot rfl rfl rfl (by decide +kernel) ⟨Nat.le_of_ble_eq_true rfl, Nat.le_of_ble_eq_true rfl⟩) (roP_s (hP.sub (ws' := ([] : va_W)) [] rfl) hK hE) rfl rfl hl.1 rfl (lv_room (Nat.le_of_ble_eq_true rfl)) dX1_hasBluff_6 ⟨Nat.le_refl _, Nat.le_refl _⟩) ?_
  refine topN (k := (k * 4 + q)) rfl ?_
  refine ialdN (tys := tyA C) hx hb hK hP 8 0 rfl rfl (i := (k * 4 + q)) (by omega) (by decide) dX1_hasBluff_9 ?_
  refine lv_if_ge (tgt := 17) hx hb dX1_hasBluff_10 (by decide) (fun c_10 => ?_) (fun c_10 => ?_)
  · have hz := hz.trans (if_pos c_10)
    refine lv_iconst (v := 0) hx hb dX1_hasBluff_17 (by decide) ?_
    exact J18 (false) ls hz  (lv_sub hl [] rfl)
  · have hz := hz.trans (if_neg c_10)
    refine lv_iconst (v := 1) hx hb dX1_hasBluff_13 (by decide) ?_
    refine lv_goto (tgt := 18) hx hb dX1_hasBluff_14 (by decide) ?_
    exact J18 (true) ls hz  (lv_sub hl [] rfl)

def f_X1_amountOf (G : GS) (q : Nat) (k : Nat) : Int32 := (iabs ((gOff G) (k * 4 + q)))
set_option maxHeartbeats 4000000 in
set_option maxRecDepth 100000 in
theorem c_X1_amountOf (l : Launch) (D : va_G) (C : Nat → ClassId) (a : Nat → Nat) (G : GS) (q : Nat) (k : Nat) (hG : GSafe G) (h_q : q < 4) (h_k : k < 12) : Met l yX1_amountOf wsX1_amountOf ({ frames := 1, cells := 0, slots := 0, locals := 21 } : Room) (roP [.ref (a 0), .int (nI q), .int (nI k)] D C (gcells C a G)) (roO (some (.int (f_X1_amountOf G q k)))) 0 0 (fun _ => False) := by
  refine Met.ofW (cc := cX1_amountOf) (maxL := 3) (ret := (some .int)) (by decide) rfl ?_
  intro p e s m args below meth c s₁ B hml hv
  obtain ⟨rfl, hP, hK, hE⟩ := hv
  have hx := B.exec
  have hb := B.bytes
  have hr := B.returns
  have hts := atoms_spec (ws := wsX1_amountOf) B.pre
  have hown : s.vm.findClass RX1 = some m.cls := findClass_of_methodNamed B.named
  have hlocks := B.notSynchronized
  obtain ⟨hS12, hP4, hlo, hhi⟩ := id hG
  have hinX1 : ∀ w ∈ u_ws RX1 TX1 16, w ∈ wsX1_amountOf := by decide +kernel
  have hl := lv_entry ([.ref (a 0), .int (nI q), .int (nI k)]) (n := 3) (Nat.le_of_ble_eq_true rfl)
  rw [lg_entry_eq]
  generalize (lg_sl ([.ref (a 0), .int (nI q), .int (nI k)]) ++ List.replicate (3 - (lg_sl ([.ref (a 0), .int (nI q), .int (nI k)])).length) Slot.unset).toArray = ls at hl ⊢
  have hl : lv_has ls 3 [(0, .ref (a 0)), (1, .int (nI q)), (2, .int (nI k))] := hl
  obtain ⟨z, hz⟩ : ∃ z, z = f_X1_amountOf G q k := ⟨_, rfl⟩
  rw [← hz]
  refine lv_aload_n hx hb dX1_amountOf_0 rfl (lv_at hl 0 rfl) ?_
  refine va_get (D := D) (ci := 4) (v := .ref (a 8)) (C := RX1) (T := TX1) (N := 16) hx hb hts hinX1 hown hK hP 0 rfl rfl 11 (by decide) (hts (.fieldLink RX1 46 "BridgeAuction$Game" "offers" "[I") (by decide +kernel)) (fun _ h9 => h9) rfl dX1_amountOf_1 ?_
  refine lv_iload_n hx hb dX1_amountOf_4 rfl (lv_at hl 1 rfl) ?_
  refine lv_iload_n hx hb dX1_amountOf_5 rfl (lv_at hl 2 rfl) ?_
  refine callRo (va_runS (As := [.int (nI q), .int (nI k)]) (rest := [.ref (a 8)]) ⟨hx, hb, hml, hown, hts⟩ (c_X1_slot l D C (q) (k) (by omega) (by omega)) (va_cwS 2 hts gX1_amountOf_X1_slot rfl rfl rfl (by decide +kernel) ⟨Nat.le_of_ble_eq_true rfl, Nat.le_of_ble_eq_true rfl⟩) (roP_s (hP.sub (ws' := ([] : va_W)) [] rfl) hK hE) rfl rfl hl.1 rfl (lv_room (Nat.le_of_ble_eq_true rfl)) dX1_amountOf_6 ⟨Nat.le_refl _, Nat.le_refl _⟩) ?_
  refine topN (k := (k * 4 + q)) rfl ?_
  refine ialdN (tys := tyA C) hx hb hK hP 8 0 rfl rfl (i := (k * 4 + q)) (by omega) (by decide) dX1_amountOf_9 ?_
  refine va_mabs hx hb (hml.trans hl.1.symm) hown (hts (.methodLink RX1 219 Lib.Math.abs.name) (by decide +kernel)) (hts (.static Lib.Math.abs.name) (by decide +kernel)) (hts (.initialized "java/lang/Math") (by decide +kernel)) (hts (.code Lib.Math.abs.name Lib.Math.abs.code 1 (some .int)) (by decide +kernel)) (Nat.le_of_ble_eq_true rfl) (Nat.le_of_ble_eq_true rfl) (Nat.le_of_ble_eq_true rfl) (Nat.le_of_ble_eq_true rfl) dX1_amountOf_10 ?_
  refine topI (y := (iabs ((gOff G) (k * 4 + q)))) rfl ?_
  exact ro_ret hx hb hr hz dX1_amountOf_13 hlocks

def f_X1_reservedBy (G : GS) (q : Nat) (k : Nat) : Int32 := (imax ((gOff G) (k * 4 + q)) 0)
set_option maxHeartbeats 4000000 in
set_option maxRecDepth 100000 in
theorem c_X1_reservedBy (l : Launch) (D : va_G) (C : Nat → ClassId) (a : Nat → Nat) (G : GS) (q : Nat) (k : Nat) (hG : GSafe G) (h_q : q < 4) (h_k : k < 12) : Met l yX1_reservedBy wsX1_reservedBy ({ frames := 1, cells := 0, slots := 0, locals := 21 } : Room) (roP [.ref (a 0), .int (nI q), .int (nI k)] D C (gcells C a G)) (roO (some (.int (f_X1_reservedBy G q k)))) 0 0 (fun _ => False) := by
  refine Met.ofW (cc := cX1_reservedBy) (maxL := 3) (ret := (some .int)) (by decide) rfl ?_
  intro p e s m args below meth c s₁ B hml hv
  obtain ⟨rfl, hP, hK, hE⟩ := hv
  have hx := B.exec
  have hb := B.bytes
  have hr := B.returns
  have hts := atoms_spec (ws := wsX1_reservedBy) B.pre
  have hown : s.vm.findClass RX1 = some m.cls := findClass_of_methodNamed B.named
  have hlocks := B.notSynchronized
  obtain ⟨hS12, hP4, hlo, hhi⟩ := id hG
  have hinX1 : ∀ w ∈ u_ws RX1 TX1 16, w ∈ wsX1_reservedBy := by decide +kernel
  have hl := lv_entry ([.ref (a 0), .int (nI q), .int (nI k)]) (n := 3) (Nat.le_of_ble_eq_true rfl)
  rw [lg_entry_eq]
  generalize (lg_sl ([.ref (a 0), .int (nI q), .int (nI k)]) ++ List.replicate (3 - (lg_sl ([.ref (a 0), .int (nI q), .int (nI k)])).length) Slot.unset).toArray = ls at hl ⊢
  have hl : lv_has ls 3 [(0, .ref (a 0)), (1, .int (nI q)), (2, .int (nI k))] := hl
  obtain ⟨z, hz⟩ : ∃ z, z = f_X1_reservedBy G q k := ⟨_, rfl⟩
  rw [← hz]
  refine lv_aload_n hx hb dX1_reservedBy_0 rfl (lv_at hl 0 rfl) ?_
  refine va_get (D := D) (ci := 4) (v := .ref (a 8)) (C := RX1) (T := TX1) (N := 16) hx hb hts hinX1 hown hK hP 0 rfl rfl 11 (by decide) (hts (.fieldLink RX1 46 "BridgeAuction$Game" "offers" "[I") (by decide +kernel)) (fun _ h9 => h9) rfl dX1_reservedBy_1 ?_
  refine lv_iload_n hx hb dX1_reservedBy_4 rfl (lv_at hl 1 rfl) ?_
  refine lv_iload_n hx hb dX1_reservedBy_5 rfl (lv_at hl 2 rfl) ?_
  refine callRo (va_runS (As := [.int (nI q), .int (nI k)]) (rest := [.ref (a 8)]) ⟨hx, hb, hml, hown, hts⟩ (c_X1_slot l D C (q) (k) (by omega) (by omega)) (va_cwS 2 hts gX1_reservedBy_X1_slot rfl rfl rfl (by decide +kernel) ⟨Nat.le_of_ble_eq_true rfl, Nat.le_of_ble_eq_true rfl⟩) (roP_s (hP.sub (ws' := ([] : va_W)) [] rfl) hK hE) rfl rfl hl.1 rfl (lv_room (Nat.le_of_ble_eq_true rfl)) dX1_reservedBy_6 ⟨Nat.le_refl _, Nat.le_refl _⟩) ?_
  refine topN (k := (k * 4 + q)) rfl ?_
  refine ialdN (tys := tyA C) hx hb hK hP 8 0 rfl rfl (i := (k * 4 + q)) (by omega) (by decide) dX1_reservedBy_9 ?_
  refine lv_iconst (v := 0) hx hb dX1_reservedBy_10 (by decide) ?_
  refine va_mmax hx hb (hml.trans hl.1.symm) hown (hts (.methodLink RX1 133 Lib.Math.max.name) (by decide +kernel)) (hts (.static Lib.Math.max.name) (by decide +kernel)) (hts (.initialized "java/lang/Math") (by decide +kernel)) (hts (.code Lib.Math.max.name Lib.Math.max.code 2 (some .int)) (by decide +kernel)) (Nat.le_of_ble_eq_true rfl) (Nat.le_of_ble_eq_true rfl) (Nat.le_of_ble_eq_true rfl) (Nat.le_of_ble_eq_true rfl) dX1_reservedBy_11 ?_
  refine topI (y := (imax ((gOff G) (k * 4 + q)) 0)) rfl ?_
  exact ro_ret hx hb hr hz dX1_reservedBy_14 hlocks

def f_X1_hasUsedFerry_j16  (s0_16 : Bool) : Bool := s0_16
def f_X1_hasUsedFerry (G : GS) (q : Nat) : Bool := (if ((gUsed G) &&& (1 <<< ((nI q) &&& 31))) = 0 then (f_X1_hasUsedFerry_j16 (false)) else (f_X1_hasUsedFerry_j16 (true)))
set_option maxHeartbeats 4000000 in
set_option maxRecDepth 100000 in
theorem c_X1_hasUsedFerry (l : Launch) (D : va_G) (C : Nat → ClassId) (a : Nat → Nat) (G : GS) (q : Nat) (hG : GSafe G) (h_q : q < 4) : Met l yX1_hasUsedFerry wsX1_hasUsedFerry ({ frames := 0, cells := 0, slots := 0, locals := 0 } : Room) (roP [.ref (a 0), .int (nI q)] D C (gcells C a G)) (roO (some (.int (bI (f_X1_hasUsedFerry G q))))) 0 0 (fun _ => False) := by
  refine Met.ofW (cc := cX1_hasUsedFerry) (maxL := 2) (ret := (some .boolean)) (by decide) rfl ?_
  intro p e s m args below meth c s₁ B hml hv
  obtain ⟨rfl, hP, hK, hE⟩ := hv
  have hx := B.exec
  have hb := B.bytes
  have hr := B.returns
  have hts := atoms_spec (ws := wsX1_hasUsedFerry) B.pre
  have hown : s.vm.findClass RX1 = some m.cls := findClass_of_methodNamed B.named
  have hlocks := B.notSynchronized
  obtain ⟨hS12, hP4, hlo, hhi⟩ := id hG
  have hinX1 : ∀ w ∈ u_ws RX1 TX1 16, w ∈ wsX1_hasUsedFerry := by decide +kernel
  have hl := lv_entry ([.ref (a 0), .int (nI q)]) (n := 2) (Nat.le_of_ble_eq_true rfl)
  rw [lg_entry_eq]
  generalize (lg_sl ([.ref (a 0), .int (nI q)]) ++ List.replicate (2 - (lg_sl ([.ref (a 0), .int (nI q)])).length) Slot.unset).toArray = ls at hl ⊢
  have hl : lv_has ls 2 [(0, .ref (a 0)), (1, .int (nI q))] := hl
  obtain ⟨z, hz⟩ : ∃ z, z = f_X1_hasUsedFerry G q := ⟨_, rfl⟩
  rw [← hz]
  have J16 : ∀ (s0_16 : Bool)  (ls : Array Slot), z = f_X1_hasUsedFerry_j16 s0_16 → lv_has ls 2 [] → W p l e ({ frames := 0, cells := 0, slots := 0, locals := 0 } : Room) s m ([.ref (a 0), .int (nI q)] : List Value).toArray below meth c s.heap [] 0 0 (MQ below (roO (some (.int (bI z)))) ([.ref (a 0), .int (nI q)] : List Value).toArray s 0 0 (fun _ => False)) (F0 m 16 ls [.int (bI s0_16)]) := by
    intro s0_16 ls hz  hl
    exact ro_retB hx hb hr (show _ = s0_16 from hz) dX1_hasUsedFerry_16 hlocks
  refine lv_aload_n hx hb dX1_hasUsedFerry_0 rfl (lv_at hl 0 rfl) ?_
  refine va_get (D := D) (ci := 4) (v := .int (gUsed G)) (C := RX1) (T := TX1) (N := 16) hx hb hts hinX1 hown hK hP 0 rfl rfl 4 (by decide) (hts (.fieldLink RX1 25 "BridgeAuction$Game" "usedFerries" "I") (by decide +kernel)) (fun _ h9 => h9) rfl dX1_hasUsedFerry_1 ?_
  refine lv_iconst (v := 1) hx hb dX1_hasUsedFerry_4 (by decide) ?_
  refine lv_iload_n hx hb dX1_hasUsedFerry_5 rfl (lv_at hl 1 rfl) ?_
  refine lv_ishl hx hb dX1_hasUsedFerry_6 ?_
  refine lv_iand hx hb dX1_hasUsedFerry_7 ?_
  refine lv_if_eq (tgt := 15) hx hb dX1_hasUsedFerry_8 (by decide) (fun c_8 => ?_) (fun c_8 => ?_)
  · have hz := hz.trans (if_pos c_8)
    refine lv_iconst (v := 0) hx hb dX1_hasUsedFerry_15 (by decide) ?_
    exact J16 (false) ls hz  (lv_sub hl [] rfl)
  · have hz := hz.trans (if_neg c_8)
    refine lv_iconst (v := 1) hx hb dX1_hasUsedFerry_11 (by decide) ?_
    refine lv_goto (tgt := 16) hx hb dX1_hasUsedFerry_12 (by decide) ?_
    exact J16 (true) ls hz  (lv_sub hl [] rfl)

def f_X1_hasSiteBetween_j32  : Sum (Bool) (Unit) := (Sum.inr ())
def f_X1_hasSiteBetween_l2b (G : GS) (x : Int32) (y : Int32) (k2 : Nat) : Sum (Bool) (Unit) := (if (nI ((gLo G) k2)) = x then (if (nI ((gHi G) k2)) = y then (Sum.inl true) else (f_X1_hasSiteBetween_j32)) else (f_X1_hasSiteBetween_j32))
def f_X1_hasSiteBetween_l2x (G : GS) (x : Int32) (y : Int32) : Bool := false
def f_X1_hasSiteBetween_l2s (G : GS) (x : Int32) (y : Int32) (k2 : Nat) (q_ : Unit) : Sum (Bool) (Unit) := f_X1_hasSiteBetween_l2b G x y k2 
def f_X1_hasSiteBetween_l2e (G : GS) (x : Int32) (y : Int32) (q_ : Unit) : Bool := f_X1_hasSiteBetween_l2x G x y 
def f_X1_hasSiteBetween_l2 (G : GS) (x : Int32) (y : Int32) (n2 k2 : Nat) : Bool := lpF (f_X1_hasSiteBetween_l2s G x y) (f_X1_hasSiteBetween_l2e G x y) n2 k2 ()
def f_X1_hasSiteBetween (G : GS) (x : Int32) (y : Int32) : Bool := (f_X1_hasSiteBetween_l2 G x y (gS G) 0)
set_option maxHeartbeats 4000000 in
set_option maxRecDepth 100000 in
theorem c_X1_hasSiteBetween (l : Launch) (D : va_G) (C : Nat → ClassId) (a : Nat → Nat) (G : GS) (x : Int32) (y : Int32) (hG : GSafe G) : Met l yX1_hasSiteBetween wsX1_hasSiteBetween ({ frames := 0, cells := 0, slots := 0, locals := 0 } : Room) (roP [.ref (a 0), .int x, .int y] D C (gcells C a G)) (roO (some (.int (bI (f_X1_hasSiteBetween G x y))))) 0 0 (fun _ => False) := by
  refine Met.ofW (cc := cX1_hasSiteBetween) (maxL := 4) (ret := (some .boolean)) (by decide) rfl ?_
  intro p e s m args below meth c s₁ B hml hv
  obtain ⟨rfl, hP, hK, hE⟩ := hv
  have hx := B.exec
  have hb := B.bytes
  have hr := B.returns
  have hts := atoms_spec (ws := wsX1_hasSiteBetween) B.pre
  have hown : s.vm.findClass RX1 = some m.cls := findClass_of_methodNamed B.named
  have hlocks := B.notSynchronized
  obtain ⟨hS12, hP4, hlo, hhi⟩ := id hG
  have hinX1 : ∀ w ∈ u_ws RX1 TX1 16, w ∈ wsX1_hasSiteBetween := by decide +kernel
  have hl := lv_entry ([.ref (a 0), .int x, .int y]) (n := 4) (Nat.le_of_ble_eq_true rfl)
  rw [lg_entry_eq]
  generalize (lg_sl ([.ref (a 0), .int x, .int y]) ++ List.replicate (4 - (lg_sl ([.ref (a 0), .int x, .int y])).length) Slot.unset).toArray = ls at hl ⊢
  have hl : lv_has ls 4 [(0, .ref (a 0)), (1, .int x), (2, .int y)] := hl
  obtain ⟨z, hz⟩ : ∃ z, z = f_X1_hasSiteBetween G x y := ⟨_, rfl⟩
  rw [← hz]
  have J2 : ∀ (n2 k2 : Nat) (ls : Array Slot), k2 + n2 = gS G → z = f_X1_hasSiteBetween_l2 G x y n2 k2  → lv_has ls 4 [(0, .ref (a 0)), (1, .int x), (2, .int y), (3, .int (nI k2))] → W p l e ({ frames := 0, cells := 0, slots := 0, locals := 0 } : Room) s m ([.ref (a 0), .int x, .int y] : List Value).toArray below meth c s.heap [] 0 0 (MQ below (roO (some (.int (bI z)))) ([.ref (a 0), .int x, .int y] : List Value).toArray s 0 0 (fun _ => False)) (F0 m 2 ls []) := by
    intro n2
    induction n2 with
    | zero =>
      intro k2  ls hk2 hz  hl
      have hz : z = f_X1_hasSiteBetween_l2x G x y  := hz
      refine lv_iload_n hx hb dX1_hasSiteBetween_2 rfl (lv_at hl 3 rfl) ?_
      refine lv_aload_n hx hb dX1_hasSiteBetween_3 rfl (lv_at hl 0 rfl) ?_
      refine va_get (D := D) (ci := 4) (v := .int (nI (gS G))) (C := RX1) (T := TX1) (N := 16) hx hb hts hinX1 hown hK hP 0 rfl rfl 5 (by decide) (hts (.fieldLink RX1 28 "BridgeAuction$Game" "sites" "I") (by decide +kernel)) (fun _ h9 => h9) rfl dX1_hasSiteBetween_4 ?_
      refine lv_icmp_ge (tgt := 38) hx hb dX1_hasSiteBetween_7 (by decide) (fun c_7 => ?_) (fun c_7 => absurd (nI_le (by omega) (by omega)) c_7)
      refine lv_iconst (v := 0) hx hb dX1_hasSiteBetween_38 (by decide) ?_
      exact ro_retB hx hb hr (show _ = false from hz) dX1_hasSiteBetween_39 hlocks
    | succ n2 ih2 =>
      intro k2  ls hk2 hz2  hl
      obtain ⟨z2, hz⟩ : ∃ zz_, zz_ = f_X1_hasSiteBetween_l2b G x y k2  := ⟨_, rfl⟩
      have hq2 : z = sE id (fun q_ => lpF (f_X1_hasSiteBetween_l2s G x y) (f_X1_hasSiteBetween_l2e G x y) n2 (k2 + 1) q_) z2 := by rw [hz2, hz]; rfl
      have J32 : ∀  (ls : Array Slot), z2 = f_X1_hasSiteBetween_j32 → lv_has ls 4 [(0, .ref (a 0)), (1, .int x), (2, .int y), (3, .int (nI k2))] → W p l e ({ frames := 0, cells := 0, slots := 0, locals := 0 } : Room) s m ([.ref (a 0), .int x, .int y] : List Value).toArray below meth c s.heap [] 0 0 (MQ below (roO (some (.int (bI z)))) ([.ref (a 0), .int x, .int y] : List Value).toArray s 0 0 (fun _ => False)) (F0 m 32 ls []) := by
        intro  ls hz  hl
        refine lv_iinc (v := (nI (k2 + 1))) (lv' := [(3, .int (nI (k2 + 1))), (0, .ref (a 0)), (1, .int x), (2, .int y)]) hx hb dX1_hasSiteBetween_32 hl (k := 3) rfl (by exact nI_1 _) (by decide) rfl (fun ls hl => ?_)
        refine lv_goto (tgt := 2) hx hb dX1_hasSiteBetween_35 (by decide) ?_
        exact ih2 (k2 + 1)  ls (by omega) (by rw [hq2, hz]; rfl)  (lv_sub hl [1, 2, 3, 0] rfl)
      refine lv_iload_n hx hb dX1_hasSiteBetween_2 rfl (lv_at hl 3 rfl) ?_
      refine lv_aload_n hx hb dX1_hasSiteBetween_3 rfl (lv_at hl 0 rfl) ?_
      refine va_get (D := D) (ci := 4) (v := .int (nI (gS G))) (C := RX1) (T := TX1) (N := 16) hx hb hts hinX1 hown hK hP 0 rfl rfl 5 (by decide) (hts (.fieldLink RX1 28 "BridgeAuction$Game" "sites" "I") (by decide +kernel)) (fun _ h9 => h9) rfl dX1_hasSiteBetween_4 ?_
      refine lv_icmp_ge (tgt := 38) hx hb dX1_hasSiteBetween_7 (by decide) (fun c_7 => absurd c_7 (nI_ge (by omega) (by omega))) (fun c_7 => ?_)
      refine lv_aload_n hx hb dX1_hasSiteBetween_10 rfl (lv_at hl 0 rfl) ?_
      refine va_get (D := D) (ci := 4) (v := .ref (a 3)) (C := RX1) (T := TX1) (N := 16) hx hb hts hinX1 hown hK hP 0 rfl rfl 6 (by decide) (hts (.fieldLink RX1 31 "BridgeAuction$Game" "lowers" "[I") (by decide +kernel)) (fun _ h9 => h9) rfl dX1_hasSiteBetween_11 ?_
      refine lv_iload_n hx hb dX1_hasSiteBetween_14 rfl (lv_at hl 3 rfl) ?_
      refine ialdN (tys := tyA C) hx hb hK hP 3 0 rfl rfl (i := k2) (by omega) (by decide) dX1_hasSiteBetween_15 ?_
      have hb_1 := hlo (k2)
      refine lv_iload_n hx hb dX1_hasSiteBetween_16 rfl (lv_at hl 1 rfl) ?_
      refine lv_icmp_ne (tgt := 32) hx hb dX1_hasSiteBetween_17 (by decide) (fun c_17 => ?_) (fun c_17 => ?_)
      · have hz := hz.trans (if_neg c_17)
        exact J32  ls hz  (lv_sub hl [0, 1, 2, 3] rfl)
      · have hz := hz.trans (if_pos c_17)
        refine lv_aload_n hx hb dX1_hasSiteBetween_20 rfl (lv_at hl 0 rfl) ?_
        refine va_get (D := D) (ci := 4) (v := .ref (a 4)) (C := RX1) (T := TX1) (N := 16) hx hb hts hinX1 hown hK hP 0 rfl rfl 7 (by decide) (hts (.fieldLink RX1 34 "BridgeAuction$Game" "highers" "[I") (by decide +kernel)) (fun _ h9 => h9) rfl dX1_hasSiteBetween_21 ?_
        refine lv_iload_n hx hb dX1_hasSiteBetween_24 rfl (lv_at hl 3 rfl) ?_
        refine ialdN (tys := tyA C) hx hb hK hP 4 0 rfl rfl (i := k2) (by omega) (by decide) dX1_hasSiteBetween_25 ?_
        have hb_2 := hhi (k2)
        refine lv_iload_n hx hb dX1_hasSiteBetween_26 rfl (lv_at hl 2 rfl) ?_
        refine lv_icmp_ne (tgt := 32) hx hb dX1_hasSiteBetween_27 (by decide) (fun c_27 => ?_) (fun c_27 => ?_)
        · have hz := hz.trans (if_neg c_27)
          exact J32  ls hz  (lv_sub hl [0, 1, 2, 3] rfl)
        · have hz := hz.trans (if_pos c_27)
          refine lv_iconst (v := 1) hx hb dX1_hasSiteBetween_30 (by decide) ?_
          have hz := up1 hq2 hz
          exact ro_retB hx hb hr (show _ = true from hz) dX1_hasSiteBetween_31 hlocks
  refine lv_iconst (v := 0) hx hb dX1_hasSiteBetween_0 (by decide) ?_
  refine lv_istore_n (lv' := [(3, .int 0), (0, .ref (a 0)), (1, .int x), (2, .int y)]) hx hb dX1_hasSiteBetween_1 rfl hl (by decide) rfl (fun ls hl => ?_)
  exact J2 (gS G) 0  ls (by omega) hz  (lv_sub hl [1, 2, 3, 0] rfl)

def f_X1_bridges_j26  (s0_26 : Bool) (s1_26 : Int32) : Sum (Int32) (Int32) := (Sum.inr (s1_26 + (bI s0_26)))
def f_X1_bridges_l4b (G : GS) (k4 : Nat) (v1_4 : Int32) : Sum (Int32) (Int32) := (if (f_X1_hasBridge G (k4)) = true then (f_X1_bridges_j26 (true) (v1_4)) else (f_X1_bridges_j26 (false) (v1_4)))
def f_X1_bridges_l4x (G : GS) (v1_4 : Int32) : Int32 := v1_4
def f_X1_bridges_l4s (G : GS) (k4 : Nat) (q_ : Int32) : Sum (Int32) (Int32) := f_X1_bridges_l4b G k4 (q_)
def f_X1_bridges_l4e (G : GS) (q_ : Int32) : Int32 := f_X1_bridges_l4x G (q_)
def f_X1_bridges_l4 (G : GS) (n4 k4 : Nat) (v1_4 : Int32) : Int32 := lpF (f_X1_bridges_l4s G) (f_X1_bridges_l4e G) n4 k4 v1_4
def f_X1_bridges (G : GS) : Int32 := (f_X1_bridges_l4 G (gS G) 0 (0))
set_option maxHeartbeats 4000000 in
set_option maxRecDepth 100000 in
theorem c_X1_bridges (l : Launch) (D : va_G) (C : Nat → ClassId) (a : Nat → Nat) (G : GS) (hG : GSafe G) : Met l yX1_bridges wsX1_bridges ({ frames := 1, cells := 0, slots := 0, locals := 21 } : Room) (roP [.ref (a 0)] D C (gcells C a G)) (roO (some (.int (f_X1_bridges G)))) 0 0 (fun _ => False) := by
  refine Met.ofW (cc := cX1_bridges) (maxL := 3) (ret := (some .int)) (by decide) rfl ?_
  intro p e s m args below meth c s₁ B hml hv
  obtain ⟨rfl, hP, hK, hE⟩ := hv
  have hx := B.exec
  have hb := B.bytes
  have hr := B.returns
  have hts := atoms_spec (ws := wsX1_bridges) B.pre
  have hown : s.vm.findClass RX1 = some m.cls := findClass_of_methodNamed B.named
  have hlocks := B.notSynchronized
  obtain ⟨hS12, hP4, hlo, hhi⟩ := id hG
  have hinX1 : ∀ w ∈ u_ws RX1 TX1 16, w ∈ wsX1_bridges := by decide +kernel
  have hl := lv_entry ([.ref (a 0)]) (n := 3) (Nat.le_of_ble_eq_true rfl)
  rw [lg_entry_eq]
  generalize (lg_sl ([.ref (a 0)]) ++ List.replicate (3 - (lg_sl ([.ref (a 0)])).length) Slot.unset).toArray = ls at hl ⊢
  have hl : lv_has ls 3 [(0, .ref (a 0))] := hl
  obtain ⟨z, hz⟩ : ∃ z, z = f_X1_bridges G := ⟨_, rfl⟩
  rw [← hz]
  have J4 : ∀ (n4 k4 : Nat) (v1_4 : Int32) (ls : Array Slot), k4 + n4 = gS G → z = f_X1_bridges_l4 G n4 k4 v1_4 → lv_has ls 3 [(0, .ref (a 0)), (1, .int v1_4), (2, .int (nI k4))] → W p l e ({ frames := 1, cells := 0, slots := 0, locals := 21 } : Room) s m ([.ref (a 0)] : List Value).toArray below meth c s.heap [] 0 0 (MQ below (roO (some (.int z))) ([.ref (a 0)] : List Value).toArray s 0 0 (fun _ => False)) (F0 m 4 ls []) := by
    intro n4
    induction n4 with
    | zero =>
      intro k4 v1_4 ls hk4 hz  hl
      have hz : z = f_X1_bridges_l4x G v1_4 := hz
      refine lv_iload_n hx hb dX1_bridges_4 rfl (lv_at hl 2 rfl) ?_
      refine lv_aload_n hx hb dX1_bridges_5 rfl (lv_at hl 0 rfl) ?_
      refine va_get (D := D) (ci := 4) (v := .int (nI (gS G))) (C := RX1) (T := TX1) (N := 16) hx hb hts hinX1 hown hK hP 0 rfl rfl 5 (by decide) (hts (.fieldLink RX1 28 "BridgeAuction$Game" "sites" "I") (by decide +kernel)) (fun _ h9 => h9) rfl dX1_bridges_6 ?_
      refine lv_icmp_ge (tgt := 34) hx hb dX1_bridges_9 (by decide) (fun c_9 => ?_) (fun c_9 => absurd (nI_le (by omega) (by omega)) c_9)
      refine lv_iload_n hx hb dX1_bridges_34 rfl (lv_at hl 1 rfl) ?_
      exact ro_ret hx hb hr hz dX1_bridges_35 hlocks
    | succ n4 ih4 =>
      intro k4 v1_4 ls hk4 hz4  hl
      obtain ⟨z4, hz⟩ : ∃ zz_, zz_ = f_X1_bridges_l4b G k4 v1_4 := ⟨_, rfl⟩
      have hq4 : z = sE id (fun q_ => lpF (f_X1_bridges_l4s G) (f_X1_bridges_l4e G) n4 (k4 + 1) q_) z4 := by rw [hz4, hz]; rfl
      have J26 : ∀ (s0_26 : Bool) (s1_26 : Int32)  (ls : Array Slot), z4 = f_X1_bridges_j26 s0_26 s1_26 → lv_has ls 3 [(0, .ref (a 0)), (2, .int (nI k4))] → W p l e ({ frames := 1, cells := 0, slots := 0, locals := 21 } : Room) s m ([.ref (a 0)] : List Value).toArray below meth c s.heap [] 0 0 (MQ below (roO (some (.int z))) ([.ref (a 0)] : List Value).toArray s 0 0 (fun _ => False)) (F0 m 26 ls [.int (bI s0_26), .int s1_26]) := by
        intro s0_26 s1_26 ls hz  hl
        refine lv_iadd hx hb dX1_bridges_26 ?_
        refine lv_istore_n (lv' := [(1, .int (s1_26 + (bI s0_26))), (0, .ref (a 0)), (2, .int (nI k4))]) hx hb dX1_bridges_27 rfl hl (by decide) rfl (fun ls hl => ?_)
        refine lv_iinc (v := (nI (k4 + 1))) (lv' := [(2, .int (nI (k4 + 1))), (1, .int (s1_26 + (bI s0_26))), (0, .ref (a 0))]) hx hb dX1_bridges_28 hl (k := 2) rfl (by exact nI_1 _) (by decide) rfl (fun ls hl => ?_)
        refine lv_goto (tgt := 4) hx hb dX1_bridges_31 (by decide) ?_
        exact ih4 (k4 + 1) ((s1_26 + (bI s0_26))) ls (by omega) (by rw [hq4, hz]; rfl)  (lv_sub hl [2, 1, 0] rfl)
      refine lv_iload_n hx hb dX1_bridges_4 rfl (lv_at hl 2 rfl) ?_
      refine lv_aload_n hx hb dX1_bridges_5 rfl (lv_at hl 0 rfl) ?_
      refine va_get (D := D) (ci := 4) (v := .int (nI (gS G))) (C := RX1) (T := TX1) (N := 16) hx hb hts hinX1 hown hK hP 0 rfl rfl 5 (by decide) (hts (.fieldLink RX1 28 "BridgeAuction$Game" "sites" "I") (by decide +kernel)) (fun _ h9 => h9) rfl dX1_bridges_6 ?_
      refine lv_icmp_ge (tgt := 34) hx hb dX1_bridges_9 (by decide) (fun c_9 => absurd c_9 (nI_ge (by omega) (by omega))) (fun c_9 => ?_)
      refine lv_iload_n hx hb dX1_bridges_12 rfl (lv_at hl 1 rfl) ?_
      refine lv_aload_n hx hb dX1_bridges_13 rfl (lv_at hl 0 rfl) ?_
      refine lv_iload_n hx hb dX1_bridges_14 rfl (lv_at hl 2 rfl) ?_
      refine callRo (va_runV (As := [.int (nI k4)]) (rest := [.int v1_4]) ⟨hx, hb, hml, hown, hts⟩ (c_X1_hasBridge l D C a G (k4) hG (by omega)) (cwV 1 hts gX1_bridges_X1_hasBridge rfl rfl rfl (by decide +kernel) ⟨Nat.le_of_ble_eq_true rfl, Nat.le_of_ble_eq_true rfl⟩) (roP_v hP hK hE (va_recv hK hP (ci := 4) (q0 := 0) rfl rfl)) rfl rfl hl.1 rfl (lv_room (Nat.le_of_ble_eq_true rfl)) dX1_bridges_15 ⟨Nat.le_refl _, Nat.le_refl _⟩) ?_
      refine bif_eq (tgt := 25) hx hb dX1_bridges_18 (by decide) (fun c_18 => ?_) (fun c_18 => ?_)
      · have hz := hz.trans (ifB_f c_18)
        refine lv_iconst (v := 0) hx hb dX1_bridges_25 (by decide) ?_
        exact J26 (false) (v1_4) ls hz  (lv_sub hl [0, 2] rfl)
      · have hz := hz.trans (ifB_t c_18)
        refine lv_iconst (v := 1) hx hb dX1_bridges_21 (by decide) ?_
        refine lv_goto (tgt := 26) hx hb dX1_bridges_22 (by decide) ?_
        exact J26 (true) (v1_4) ls hz  (lv_sub hl [0, 2] rfl)
  refine lv_iconst (v := 0) hx hb dX1_bridges_0 (by decide) ?_
  refine lv_istore_n (lv' := [(1, .int 0), (0, .ref (a 0))]) hx hb dX1_bridges_1 rfl hl (by decide) rfl (fun ls hl => ?_)
  refine lv_iconst (v := 0) hx hb dX1_bridges_2 (by decide) ?_
  refine lv_istore_n (lv' := [(2, .int 0), (1, .int 0), (0, .ref (a 0))]) hx hb dX1_bridges_3 rfl hl (by decide) rfl (fun ls hl => ?_)
  exact J4 (gS G) 0 (0) ls (by omega) hz  (lv_sub hl [2, 1, 0] rfl)

def f_X1_bridgeLengths_j31  (s0_31 : Int32) (s1_31 : Int32) : Sum (Int32) (Int32) := (Sum.inr (s1_31 + s0_31))
def f_X1_bridgeLengths_l4b (G : GS) (k4 : Nat) (v1_4 : Int32) : Sum (Int32) (Int32) := (if (f_X1_hasBridge G (k4)) = true then (f_X1_bridgeLengths_j31 (((gLen G) k4)) (v1_4)) else (f_X1_bridgeLengths_j31 (0) (v1_4)))
def f_X1_bridgeLengths_l4x (G : GS) (v1_4 : Int32) : Int32 := v1_4
def f_X1_bridgeLengths_l4s (G : GS) (k4 : Nat) (q_ : Int32) : Sum (Int32) (Int32) := f_X1_bridgeLengths_l4b G k4 (q_)
def f_X1_bridgeLengths_l4e (G : GS) (q_ : Int32) : Int32 := f_X1_bridgeLengths_l4x G (q_)
def f_X1_bridgeLengths_l4 (G : GS) (n4 k4 : Nat) (v1_4 : Int32) : Int32 := lpF (f_X1_bridgeLengths_l4s G) (f_X1_bridgeLengths_l4e G) n4 k4 v1_4
def f_X1_bridgeLengths (G : GS) : Int32 := (f_X1_bridgeLengths_l4 G (gS G) 0 (0))
set_option maxHeartbeats 4000000 in
set_option maxRecDepth 100000 in
theorem c_X1_bridgeLengths (l : Launch) (D : va_G) (C : Nat → ClassId) (a : Nat → Nat) (G : GS) (hG : GSafe G) : Met l yX1_bridgeLengths wsX1_bridgeLengths ({ frames := 1, cells := 0, slots := 0, locals := 21 } : Room) (roP [.ref (a 0)] D C (gcells C a G)) (roO (some (.int (f_X1_bridgeLengths G)))) 0 0 (fun _ => False) := by
  refine Met.ofW (cc := cX1_bridgeLengths) (maxL := 3) (ret := (some .int)) (by decide) rfl ?_
  intro p e s m args below meth c s₁ B hml hv
  obtain ⟨rfl, hP, hK, hE⟩ := hv
  have hx := B.exec
  have hb := B.bytes
  have hr := B.returns
  have hts := atoms_spec (ws := wsX1_bridgeLengths) B.pre
  have hown : s.vm.findClass RX1 = some m.cls := findClass_of_methodNamed B.named
  have hlocks := B.notSynchronized
  obtain ⟨hS12, hP4, hlo, hhi⟩ := id hG
  have hinX1 : ∀ w ∈ u_ws RX1 TX1 16, w ∈ wsX1_bridgeLengths := by decide +kernel
  have hl := lv_entry ([.ref (a 0)]) (n := 3) (Nat.le_of_ble_eq_true rfl)
  rw [lg_entry_eq]
  generalize (lg_sl ([.ref (a 0)]) ++ List.replicate (3 - (lg_sl ([.ref (a 0)])).length) Slot.unset).toArray = ls at hl ⊢
  have hl : lv_has ls 3 [(0, .ref (a 0))] := hl
  obtain ⟨z, hz⟩ : ∃ z, z = f_X1_bridgeLengths G := ⟨_, rfl⟩
  rw [← hz]
  have J4 : ∀ (n4 k4 : Nat) (v1_4 : Int32) (ls : Array Slot), k4 + n4 = gS G → z = f_X1_bridgeLengths_l4 G n4 k4 v1_4 → lv_has ls 3 [(0, .ref (a 0)), (1, .int v1_4), (2, .int (nI k4))] → W p l e ({ frames := 1, cells := 0, slots := 0, locals := 21 } : Room) s m ([.ref (a 0)] : List Value).toArray below meth c s.heap [] 0 0 (MQ below (roO (some (.int z))) ([.ref (a 0)] : List Value).toArray s 0 0 (fun _ => False)) (F0 m 4 ls []) := by
    intro n4
    induction n4 with
    | zero =>
      intro k4 v1_4 ls hk4 hz  hl
      have hz : z = f_X1_bridgeLengths_l4x G v1_4 := hz
      refine lv_iload_n hx hb dX1_bridgeLengths_4 rfl (lv_at hl 2 rfl) ?_
      refine lv_aload_n hx hb dX1_bridgeLengths_5 rfl (lv_at hl 0 rfl) ?_
      refine va_get (D := D) (ci := 4) (v := .int (nI (gS G))) (C := RX1) (T := TX1) (N := 16) hx hb hts hinX1 hown hK hP 0 rfl rfl 5 (by decide) (hts (.fieldLink RX1 28 "BridgeAuction$Game" "sites" "I") (by decide +kernel)) (fun _ h9 => h9) rfl dX1_bridgeLengths_6 ?_
      refine lv_icmp_ge (tgt := 39) hx hb dX1_bridgeLengths_9 (by decide) (fun c_9 => ?_) (fun c_9 => absurd (nI_le (by omega) (by omega)) c_9)
      refine lv_iload_n hx hb dX1_bridgeLengths_39 rfl (lv_at hl 1 rfl) ?_
      exact ro_ret hx hb hr hz dX1_bridgeLengths_40 hlocks
    | succ n4 ih4 =>
      intro k4 v1_4 ls hk4 hz4  hl
      obtain ⟨z4, hz⟩ : ∃ zz_, zz_ = f_X1_bridgeLengths_l4b G k4 v1_4 := ⟨_, rfl⟩
      have hq4 : z = sE id (fun q_ => lpF (f_X1_bridgeLengths_l4s G) (f_X1_bridgeLengths_l4e G) n4 (k4 + 1) q_) z4 := by rw [hz4, hz]; rfl
      have J31 : ∀ (s0_31 : Int32) (s1_31 : Int32)  (ls : Array Slot), z4 = f_X1_bridgeLengths_j31 s0_31 s1_31 → lv_has ls 3 [(0, .ref (a 0)), (2, .int (nI k4))] → W p l e ({ frames := 1, cells := 0, slots := 0, locals := 21 } : Room) s m ([.ref (a 0)] : List Value).toArray below meth c s.heap [] 0 0 (MQ below (roO (some (.int z))) ([.ref (a 0)] : List Value).toArray s 0 0 (fun _ => False)) (F0 m 31 ls [.int s0_31, .int s1_31]) := by
        intro s0_31 s1_31 ls hz  hl
        refine lv_iadd hx hb dX1_bridgeLengths_31 ?_
        refine lv_istore_n (lv' := [(1, .int (s1_31 + s0_31)), (0, .ref (a 0)), (2, .int (nI k4))]) hx hb dX1_bridgeLengths_32 rfl hl (by decide) rfl (fun ls hl => ?_)
        refine lv_iinc (v := (nI (k4 + 1))) (lv' := [(2, .int (nI (k4 + 1))), (1, .int (s1_31 + s0_31)), (0, .ref (a 0))]) hx hb dX1_bridgeLengths_33 hl (k := 2) rfl (by exact nI_1 _) (by decide) rfl (fun ls hl => ?_)
        refine lv_goto (tgt := 4) hx hb dX1_bridgeLengths_36 (by decide) ?_
        exact ih4 (k4 + 1) ((s1_31 + s0_31)) ls (by omega) (by rw [hq4, hz]; rfl)  (lv_sub hl [2, 1, 0] rfl)
      refine lv_iload_n hx hb dX1_bridgeLengths_4 rfl (lv_at hl 2 rfl) ?_
      refine lv_aload_n hx hb dX1_bridgeLengths_5 rfl (lv_at hl 0 rfl) ?_
      refine va_get (D := D) (ci := 4) (v := .int (nI (gS G))) (C := RX1) (T := TX1) (N := 16) hx hb hts hinX1 hown hK hP 0 rfl rfl 5 (by decide) (hts (.fieldLink RX1 28 "BridgeAuction$Game" "sites" "I") (by decide +kernel)) (fun _ h9 => h9) rfl dX1_bridgeLengths_6 ?_
      refine lv_icmp_ge (tgt := 39) hx hb dX1_bridgeLengths_9 (by decide) (fun c_9 => absurd c_9 (nI_ge (by omega) (by omega))) (fun c_9 => ?_)
      refine lv_iload_n hx hb dX1_bridgeLengths_12 rfl (lv_at hl 1 rfl) ?_
      refine lv_aload_n hx hb dX1_bridgeLengths_13 rfl (lv_at hl 0 rfl) ?_
      refine lv_iload_n hx hb dX1_bridgeLengths_14 rfl (lv_at hl 2 rfl) ?_
      refine callRo (va_runV (As := [.int (nI k4)]) (rest := [.int v1_4]) ⟨hx, hb, hml, hown, hts⟩ (c_X1_hasBridge l D C a G (k4) hG (by omega)) (cwV 1 hts gX1_bridgeLengths_X1_hasBridge rfl rfl rfl (by decide +kernel) ⟨Nat.le_of_ble_eq_true rfl, Nat.le_of_ble_eq_true rfl⟩) (roP_v hP hK hE (va_recv hK hP (ci := 4) (q0 := 0) rfl rfl)) rfl rfl hl.1 rfl (lv_room (Nat.le_of_ble_eq_true rfl)) dX1_bridgeLengths_15 ⟨Nat.le_refl _, Nat.le_refl _⟩) ?_
      refine bif_eq (tgt := 30) hx hb dX1_bridgeLengths_18 (by decide) (fun c_18 => ?_) (fun c_18 => ?_)
      · have hz := hz.trans (ifB_f c_18)
        refine lv_iconst (v := 0) hx hb dX1_bridgeLengths_30 (by decide) ?_
        exact J31 (0) (v1_4) ls hz  (lv_sub hl [0, 2] rfl)
      · have hz := hz.trans (ifB_t c_18)
        refine lv_aload_n hx hb dX1_bridgeLengths_21 rfl (lv_at hl 0 rfl) ?_
        refine va_get (D := D) (ci := 4) (v := .ref (a 5)) (C := RX1) (T := TX1) (N := 16) hx hb hts hinX1 hown hK hP 0 rfl rfl 8 (by decide) (hts (.fieldLink RX1 37 "BridgeAuction$Game" "lengths" "[I") (by decide +kernel)) (fun _ h9 => h9) rfl dX1_bridgeLengths_22 ?_
        refine lv_iload_n hx hb dX1_bridgeLengths_25 rfl (lv_at hl 2 rfl) ?_
        refine ialdN (tys := tyA C) hx hb hK hP 5 0 rfl rfl (i := k4) (by omega) (by decide) dX1_bridgeLengths_26 ?_
        refine lv_goto (tgt := 31) hx hb dX1_bridgeLengths_27 (by decide) ?_
        exact J31 (((gLen G) k4)) (v1_4) ls hz  (lv_sub hl [0, 2] rfl)
  refine lv_iconst (v := 0) hx hb dX1_bridgeLengths_0 (by decide) ?_
  refine lv_istore_n (lv' := [(1, .int 0), (0, .ref (a 0))]) hx hb dX1_bridgeLengths_1 rfl hl (by decide) rfl (fun ls hl => ?_)
  refine lv_iconst (v := 0) hx hb dX1_bridgeLengths_2 (by decide) ?_
  refine lv_istore_n (lv' := [(2, .int 0), (1, .int 0), (0, .ref (a 0))]) hx hb dX1_bridgeLengths_3 rfl hl (by decide) rfl (fun ls hl => ?_)
  exact J4 (gS G) 0 (0) ls (by omega) hz  (lv_sub hl [2, 1, 0] rfl)

def f_X1_bidsAbove_j31  (s0_31 : Bool) (s1_31 : Int32) : Sum (Int32) (Int32) := (Sum.inr (s1_31 + (bI s0_31)))
def f_X1_bidsAbove_l5b (G : GS) (k : Nat) (x : Int32) (k5 : Nat) (v3_5 : Int32) : Sum (Int32) (Int32) := (if (f_X1_amountOf G (k5) (k)) ≤ x then (f_X1_bidsAbove_j31 (false) (v3_5)) else (f_X1_bidsAbove_j31 (true) (v3_5)))
def f_X1_bidsAbove_l5x (G : GS) (k : Nat) (x : Int32) (v3_5 : Int32) : Int32 := v3_5
def f_X1_bidsAbove_l5s (G : GS) (k : Nat) (x : Int32) (k5 : Nat) (q_ : Int32) : Sum (Int32) (Int32) := f_X1_bidsAbove_l5b G k x k5 (q_)
def f_X1_bidsAbove_l5e (G : GS) (k : Nat) (x : Int32) (q_ : Int32) : Int32 := f_X1_bidsAbove_l5x G k x (q_)
def f_X1_bidsAbove_l5 (G : GS) (k : Nat) (x : Int32) (n5 k5 : Nat) (v3_5 : Int32) : Int32 := lpF (f_X1_bidsAbove_l5s G k x) (f_X1_bidsAbove_l5e G k x) n5 k5 v3_5
def f_X1_bidsAbove (G : GS) (k : Nat) (x : Int32) : Int32 := (f_X1_bidsAbove_l5 G k x (gP G) 0 (0))
set_option maxHeartbeats 4000000 in
set_option maxRecDepth 100000 in
theorem c_X1_bidsAbove (l : Launch) (D : va_G) (C : Nat → ClassId) (a : Nat → Nat) (G : GS) (k : Nat) (x : Int32) (hG : GSafe G) (h_k : k < 12) : Met l yX1_bidsAbove wsX1_bidsAbove ({ frames := 2, cells := 0, slots := 0, locals := 43 } : Room) (roP [.ref (a 0), .int (nI k), .int x] D C (gcells C a G)) (roO (some (.int (f_X1_bidsAbove G k x)))) 0 0 (fun _ => False) := by
  refine Met.ofW (cc := cX1_bidsAbove) (maxL := 5) (ret := (some .int)) (by decide) rfl ?_
  intro p e s m args below meth c s₁ B hml hv
  obtain ⟨rfl, hP, hK, hE⟩ := hv
  have hx := B.exec
  have hb := B.bytes
  have hr := B.returns
  have hts := atoms_spec (ws := wsX1_bidsAbove) B.pre
  have hown : s.vm.findClass RX1 = some m.cls := findClass_of_methodNamed B.named
  have hlocks := B.notSynchronized
  obtain ⟨hS12, hP4, hlo, hhi⟩ := id hG
  have hinX1 : ∀ w ∈ u_ws RX1 TX1 16, w ∈ wsX1_bidsAbove := by decide +kernel
  have hl := lv_entry ([.ref (a 0), .int (nI k), .int x]) (n := 5) (Nat.le_of_ble_eq_true rfl)
  rw [lg_entry_eq]
  generalize (lg_sl ([.ref (a 0), .int (nI k), .int x]) ++ List.replicate (5 - (lg_sl ([.ref (a 0), .int (nI k), .int x])).length) Slot.unset).toArray = ls at hl ⊢
  have hl : lv_has ls 5 [(0, .ref (a 0)), (1, .int (nI k)), (2, .int x)] := hl
  obtain ⟨z, hz⟩ : ∃ z, z = f_X1_bidsAbove G k x := ⟨_, rfl⟩
  rw [← hz]
  have J5 : ∀ (n5 k5 : Nat) (v3_5 : Int32) (ls : Array Slot), k5 + n5 = gP G → z = f_X1_bidsAbove_l5 G k x n5 k5 v3_5 → lv_has ls 5 [(0, .ref (a 0)), (1, .int (nI k)), (2, .int x), (3, .int v3_5), (4, .int (nI k5))] → W p l e ({ frames := 2, cells := 0, slots := 0, locals := 43 } : Room) s m ([.ref (a 0), .int (nI k), .int x] : List Value).toArray below meth c s.heap [] 0 0 (MQ below (roO (some (.int z))) ([.ref (a 0), .int (nI k), .int x] : List Value).toArray s 0 0 (fun _ => False)) (F0 m 5 ls []) := by
    intro n5
    induction n5 with
    | zero =>
      intro k5 v3_5 ls hk5 hz  hl
      have hz : z = f_X1_bidsAbove_l5x G k x v3_5 := hz
      refine lv_iload hx hb dX1_bidsAbove_5 (lv_at hl 4 rfl) ?_
      refine lv_aload_n hx hb dX1_bidsAbove_7 rfl (lv_at hl 0 rfl) ?_
      refine va_get (D := D) (ci := 4) (v := .int (nI (gP G))) (C := RX1) (T := TX1) (N := 16) hx hb hts hinX1 hown hK hP 0 rfl rfl 2 (by decide) (hts (.fieldLink RX1 19 "BridgeAuction$Game" "players" "I") (by decide +kernel)) (fun _ h9 => h9) rfl dX1_bidsAbove_8 ?_
      refine lv_icmp_ge (tgt := 39) hx hb dX1_bidsAbove_11 (by decide) (fun c_11 => ?_) (fun c_11 => absurd (nI_le (by omega) (by omega)) c_11)
      refine lv_iload_n hx hb dX1_bidsAbove_39 rfl (lv_at hl 3 rfl) ?_
      exact ro_ret hx hb hr hz dX1_bidsAbove_40 hlocks
    | succ n5 ih5 =>
      intro k5 v3_5 ls hk5 hz5  hl
      obtain ⟨z5, hz⟩ : ∃ zz_, zz_ = f_X1_bidsAbove_l5b G k x k5 v3_5 := ⟨_, rfl⟩
      have hq5 : z = sE id (fun q_ => lpF (f_X1_bidsAbove_l5s G k x) (f_X1_bidsAbove_l5e G k x) n5 (k5 + 1) q_) z5 := by rw [hz5, hz]; rfl
      have J31 : ∀ (s0_31 : Bool) (s1_31 : Int32)  (ls : Array Slot), z5 = f_X1_bidsAbove_j31 s0_31 s1_31 → lv_has ls 5 [(0, .ref (a 0)), (1, .int (nI k)), (2, .int x), (4, .int (nI k5))] → W p l e ({ frames := 2, cells := 0, slots := 0, locals := 43 } : Room) s m ([.ref (a 0), .int (nI k), .int x] : List Value).toArray below meth c s.heap [] 0 0 (MQ below (roO (some (.int z))) ([.ref (a 0), .int (nI k), .int x] : List Value).toArray s 0 0 (fun _ => False)) (F0 m 31 ls [.int (bI s0_31), .int s1_31]) := by
        intro s0_31 s1_31 ls hz  hl
        refine lv_iadd hx hb dX1_bidsAbove_31 ?_
        refine lv_istore_n (lv' := [(3, .int (s1_31 + (bI s0_31))), (0, .ref (a 0)), (1, .int (nI k)), (2, .int x), (4, .int (nI k5))]) hx hb dX1_bidsAbove_32 rfl hl (by decide) rfl (fun ls hl => ?_)
        refine lv_iinc (v := (nI (k5 + 1))) (lv' := [(4, .int (nI (k5 + 1))), (3, .int (s1_31 + (bI s0_31))), (0, .ref (a 0)), (1, .int (nI k)), (2, .int x)]) hx hb dX1_bidsAbove_33 hl (k := 4) rfl (by exact nI_1 _) (by decide) rfl (fun ls hl => ?_)
        refine lv_goto (tgt := 5) hx hb dX1_bidsAbove_36 (by decide) ?_
        exact ih5 (k5 + 1) ((s1_31 + (bI s0_31))) ls (by omega) (by rw [hq5, hz]; rfl)  (lv_sub hl [2, 3, 4, 1, 0] rfl)
      refine lv_iload hx hb dX1_bidsAbove_5 (lv_at hl 4 rfl) ?_
      refine lv_aload_n hx hb dX1_bidsAbove_7 rfl (lv_at hl 0 rfl) ?_
      refine va_get (D := D) (ci := 4) (v := .int (nI (gP G))) (C := RX1) (T := TX1) (N := 16) hx hb hts hinX1 hown hK hP 0 rfl rfl 2 (by decide) (hts (.fieldLink RX1 19 "BridgeAuction$Game" "players" "I") (by decide +kernel)) (fun _ h9 => h9) rfl dX1_bidsAbove_8 ?_
      refine lv_icmp_ge (tgt := 39) hx hb dX1_bidsAbove_11 (by decide) (fun c_11 => absurd c_11 (nI_ge (by omega) (by omega))) (fun c_11 => ?_)
      refine lv_iload_n hx hb dX1_bidsAbove_14 rfl (lv_at hl 3 rfl) ?_
      refine lv_aload_n hx hb dX1_bidsAbove_15 rfl (lv_at hl 0 rfl) ?_
      refine lv_iload hx hb dX1_bidsAbove_16 (lv_at hl 4 rfl) ?_
      refine lv_iload_n hx hb dX1_bidsAbove_18 rfl (lv_at hl 1 rfl) ?_
      refine callRo (va_runV (As := [.int (nI k5), .int (nI k)]) (rest := [.int v3_5]) ⟨hx, hb, hml, hown, hts⟩ (c_X1_amountOf l D C a G (k5) (k) hG (by omega) (by omega)) (cwV 2 hts gX1_bidsAbove_X1_amountOf rfl rfl rfl (by decide +kernel) ⟨Nat.le_of_ble_eq_true rfl, Nat.le_of_ble_eq_true rfl⟩) (roP_v hP hK hE (va_recv hK hP (ci := 4) (q0 := 0) rfl rfl)) rfl rfl hl.1 rfl (lv_room (Nat.le_of_ble_eq_true rfl)) dX1_bidsAbove_19 ⟨Nat.le_refl _, Nat.le_refl _⟩) ?_
      refine lv_iload_n hx hb dX1_bidsAbove_22 rfl (lv_at hl 2 rfl) ?_
      refine lv_icmp_le (tgt := 30) hx hb dX1_bidsAbove_23 (by decide) (fun c_23 => ?_) (fun c_23 => ?_)
      · have hz := hz.trans (if_pos c_23)
        refine lv_iconst (v := 0) hx hb dX1_bidsAbove_30 (by decide) ?_
        exact J31 (false) (v3_5) ls hz  (lv_sub hl [0, 1, 2, 4] rfl)
      · have hz := hz.trans (if_neg c_23)
        refine lv_iconst (v := 1) hx hb dX1_bidsAbove_26 (by decide) ?_
        refine lv_goto (tgt := 31) hx hb dX1_bidsAbove_27 (by decide) ?_
        exact J31 (true) (v3_5) ls hz  (lv_sub hl [0, 1, 2, 4] rfl)
  refine lv_iconst (v := 0) hx hb dX1_bidsAbove_0 (by decide) ?_
  refine lv_istore_n (lv' := [(3, .int 0), (0, .ref (a 0)), (1, .int (nI k)), (2, .int x)]) hx hb dX1_bidsAbove_1 rfl hl (by decide) rfl (fun ls hl => ?_)
  refine lv_iconst (v := 0) hx hb dX1_bidsAbove_2 (by decide) ?_
  refine lv_istore (lv' := [(4, .int 0), (3, .int 0), (0, .ref (a 0)), (1, .int (nI k)), (2, .int x)]) hx hb dX1_bidsAbove_3 hl (by decide) rfl (fun ls hl => ?_)
  exact J5 (gP G) 0 (0) ls (by omega) hz  (lv_sub hl [2, 3, 4, 1, 0] rfl)

def f_X1_availableTo_l9b (G : GS) (q : Nat) (k9 : Nat) (v2_9 : Int32) : Sum (Int32) (Int32) := (Sum.inr (v2_9 - (f_X1_reservedBy G (q) (k9))))
def f_X1_availableTo_l9x (G : GS) (q : Nat) (v2_9 : Int32) : Int32 := v2_9
def f_X1_availableTo_l9s (G : GS) (q : Nat) (k9 : Nat) (q_ : Int32) : Sum (Int32) (Int32) := f_X1_availableTo_l9b G q k9 (q_)
def f_X1_availableTo_l9e (G : GS) (q : Nat) (q_ : Int32) : Int32 := f_X1_availableTo_l9x G q (q_)
def f_X1_availableTo_l9 (G : GS) (q : Nat) (n9 k9 : Nat) (v2_9 : Int32) : Int32 := lpF (f_X1_availableTo_l9s G q) (f_X1_availableTo_l9e G q) n9 k9 v2_9
def f_X1_availableTo (G : GS) (q : Nat) : Int32 := (f_X1_availableTo_l9 G q (gS G) 0 (((gMon G) q)))
set_option maxHeartbeats 4000000 in
set_option maxRecDepth 100000 in
theorem c_X1_availableTo (l : Launch) (D : va_G) (C : Nat → ClassId) (a : Nat → Nat) (G : GS) (q : Nat) (hG : GSafe G) (h_q : q < 4) : Met l yX1_availableTo wsX1_availableTo ({ frames := 2, cells := 0, slots := 0, locals := 43 } : Room) (roP [.ref (a 0), .int (nI q)] D C (gcells C a G)) (roO (some (.int (f_X1_availableTo G q)))) 0 0 (fun _ => False) := by
  refine Met.ofW (cc := cX1_availableTo) (maxL := 4) (ret := (some .int)) (by decide) rfl ?_
  intro p e s m args below meth c s₁ B hml hv
  obtain ⟨rfl, hP, hK, hE⟩ := hv
  have hx := B.exec
  have hb := B.bytes
  have hr := B.returns
  have hts := atoms_spec (ws := wsX1_availableTo) B.pre
  have hown : s.vm.findClass RX1 = some m.cls := findClass_of_methodNamed B.named
  have hlocks := B.notSynchronized
  obtain ⟨hS12, hP4, hlo, hhi⟩ := id hG
  have hinX1 : ∀ w ∈ u_ws RX1 TX1 16, w ∈ wsX1_availableTo := by decide +kernel
  have hl := lv_entry ([.ref (a 0), .int (nI q)]) (n := 4) (Nat.le_of_ble_eq_true rfl)
  rw [lg_entry_eq]
  generalize (lg_sl ([.ref (a 0), .int (nI q)]) ++ List.replicate (4 - (lg_sl ([.ref (a 0), .int (nI q)])).length) Slot.unset).toArray = ls at hl ⊢
  have hl : lv_has ls 4 [(0, .ref (a 0)), (1, .int (nI q))] := hl
  obtain ⟨z, hz⟩ : ∃ z, z = f_X1_availableTo G q := ⟨_, rfl⟩
  rw [← hz]
  have J9 : ∀ (n9 k9 : Nat) (v2_9 : Int32) (ls : Array Slot), k9 + n9 = gS G → z = f_X1_availableTo_l9 G q n9 k9 v2_9 → lv_has ls 4 [(0, .ref (a 0)), (1, .int (nI q)), (2, .int v2_9), (3, .int (nI k9))] → W p l e ({ frames := 2, cells := 0, slots := 0, locals := 43 } : Room) s m ([.ref (a 0), .int (nI q)] : List Value).toArray below meth c s.heap [] 0 0 (MQ below (roO (some (.int z))) ([.ref (a 0), .int (nI q)] : List Value).toArray s 0 0 (fun _ => False)) (F0 m 9 ls []) := by
    intro n9
    induction n9 with
    | zero =>
      intro k9 v2_9 ls hk9 hz  hl
      have hz : z = f_X1_availableTo_l9x G q v2_9 := hz
      refine lv_iload_n hx hb dX1_availableTo_9 rfl (lv_at hl 3 rfl) ?_
      refine lv_aload_n hx hb dX1_availableTo_10 rfl (lv_at hl 0 rfl) ?_
      refine va_get (D := D) (ci := 4) (v := .int (nI (gS G))) (C := RX1) (T := TX1) (N := 16) hx hb hts hinX1 hown hK hP 0 rfl rfl 5 (by decide) (hts (.fieldLink RX1 28 "BridgeAuction$Game" "sites" "I") (by decide +kernel)) (fun _ h9 => h9) rfl dX1_availableTo_11 ?_
      refine lv_icmp_ge (tgt := 32) hx hb dX1_availableTo_14 (by decide) (fun c_14 => ?_) (fun c_14 => absurd (nI_le (by omega) (by omega)) c_14)
      refine lv_iload_n hx hb dX1_availableTo_32 rfl (lv_at hl 2 rfl) ?_
      exact ro_ret hx hb hr hz dX1_availableTo_33 hlocks
    | succ n9 ih9 =>
      intro k9 v2_9 ls hk9 hz9  hl
      obtain ⟨z9, hz⟩ : ∃ zz_, zz_ = f_X1_availableTo_l9b G q k9 v2_9 := ⟨_, rfl⟩
      have hq9 : z = sE id (fun q_ => lpF (f_X1_availableTo_l9s G q) (f_X1_availableTo_l9e G q) n9 (k9 + 1) q_) z9 := by rw [hz9, hz]; rfl
      refine lv_iload_n hx hb dX1_availableTo_9 rfl (lv_at hl 3 rfl) ?_
      refine lv_aload_n hx hb dX1_availableTo_10 rfl (lv_at hl 0 rfl) ?_
      refine va_get (D := D) (ci := 4) (v := .int (nI (gS G))) (C := RX1) (T := TX1) (N := 16) hx hb hts hinX1 hown hK hP 0 rfl rfl 5 (by decide) (hts (.fieldLink RX1 28 "BridgeAuction$Game" "sites" "I") (by decide +kernel)) (fun _ h9 => h9) rfl dX1_availableTo_11 ?_
      refine lv_icmp_ge (tgt := 32) hx hb dX1_availableTo_14 (by decide) (fun c_14 => absurd c_14 (nI_ge (by omega) (by omega))) (fun c_14 => ?_)
      refine lv_iload_n hx hb dX1_availableTo_17 rfl (lv_at hl 2 rfl) ?_
      refine lv_aload_n hx hb dX1_availableTo_18 rfl (lv_at hl 0 rfl) ?_
      refine lv_iload_n hx hb dX1_availableTo_19 rfl (lv_at hl 1 rfl) ?_
      refine lv_iload_n hx hb dX1_availableTo_20 rfl (lv_at hl 3 rfl) ?_
      refine callRo (va_runV (As := [.int (nI q), .int (nI k9)]) (rest := [.int v2_9]) ⟨hx, hb, hml, hown, hts⟩ (c_X1_reservedBy l D C a G (q) (k9) hG (by omega) (by omega)) (cwV 2 hts gX1_availableTo_X1_reservedBy rfl rfl rfl (by decide +kernel) ⟨Nat.le_of_ble_eq_true rfl, Nat.le_of_ble_eq_true rfl⟩) (roP_v hP hK hE (va_recv hK hP (ci := 4) (q0 := 0) rfl rfl)) rfl rfl hl.1 rfl (lv_room (Nat.le_of_ble_eq_true rfl)) dX1_availableTo_21 ⟨Nat.le_refl _, Nat.le_refl _⟩) ?_
      refine lv_isub hx hb dX1_availableTo_24 ?_
      refine lv_istore_n (lv' := [(2, .int (v2_9 - (f_X1_reservedBy G (q) (k9)))), (0, .ref (a 0)), (1, .int (nI q)), (3, .int (nI k9))]) hx hb dX1_availableTo_25 rfl hl (by decide) rfl (fun ls hl => ?_)
      refine lv_iinc (v := (nI (k9 + 1))) (lv' := [(3, .int (nI (k9 + 1))), (2, .int (v2_9 - (f_X1_reservedBy G (q) (k9)))), (0, .ref (a 0)), (1, .int (nI q))]) hx hb dX1_availableTo_26 hl (k := 3) rfl (by exact nI_1 _) (by decide) rfl (fun ls hl => ?_)
      refine lv_goto (tgt := 9) hx hb dX1_availableTo_29 (by decide) ?_
      exact ih9 (k9 + 1) ((v2_9 - (f_X1_reservedBy G (q) (k9)))) ls (by omega) (by rw [hq9, hz]; rfl)  (lv_sub hl [2, 3, 1, 0] rfl)
  refine lv_aload_n hx hb dX1_availableTo_0 rfl (lv_at hl 0 rfl) ?_
  refine va_get (D := D) (ci := 4) (v := .ref (a 2)) (C := RX1) (T := TX1) (N := 16) hx hb hts hinX1 hown hK hP 0 rfl rfl 3 (by decide) (hts (.fieldLink RX1 22 "BridgeAuction$Game" "moneys" "[I") (by decide +kernel)) (fun _ h9 => h9) rfl dX1_availableTo_1 ?_
  refine lv_iload_n hx hb dX1_availableTo_4 rfl (lv_at hl 1 rfl) ?_
  refine ialdN (tys := tyA C) hx hb hK hP 2 0 rfl rfl (i := q) (by omega) (by decide) dX1_availableTo_5 ?_
  refine lv_istore_n (lv' := [(2, .int ((gMon G) q)), (0, .ref (a 0)), (1, .int (nI q))]) hx hb dX1_availableTo_6 rfl hl (by decide) rfl (fun ls hl => ?_)
  refine lv_iconst (v := 0) hx hb dX1_availableTo_7 (by decide) ?_
  refine lv_istore_n (lv' := [(3, .int 0), (2, .int ((gMon G) q)), (0, .ref (a 0)), (1, .int (nI q))]) hx hb dX1_availableTo_8 rfl hl (by decide) rfl (fun ls hl => ?_)
  exact J9 (gS G) 0 (((gMon G) q)) ls (by omega) hz  (lv_sub hl [2, 3, 1, 0] rfl)

def f_X1_bridgesOf_j28  (s0_28 : Bool) (s1_28 : Int32) : Sum (Int32) (Int32) := (Sum.inr (s1_28 + (bI s0_28)))
def f_X1_bridgesOf_l4b (G : GS) (x : Int32) (k4 : Nat) (v2_4 : Int32) : Sum (Int32) (Int32) := (if ((gBld G) k4) = x then (f_X1_bridgesOf_j28 (true) (v2_4)) else (f_X1_bridgesOf_j28 (false) (v2_4)))
def f_X1_bridgesOf_l4x (G : GS) (x : Int32) (v2_4 : Int32) : Int32 := v2_4
def f_X1_bridgesOf_l4s (G : GS) (x : Int32) (k4 : Nat) (q_ : Int32) : Sum (Int32) (Int32) := f_X1_bridgesOf_l4b G x k4 (q_)
def f_X1_bridgesOf_l4e (G : GS) (x : Int32) (q_ : Int32) : Int32 := f_X1_bridgesOf_l4x G x (q_)
def f_X1_bridgesOf_l4 (G : GS) (x : Int32) (n4 k4 : Nat) (v2_4 : Int32) : Int32 := lpF (f_X1_bridgesOf_l4s G x) (f_X1_bridgesOf_l4e G x) n4 k4 v2_4
def f_X1_bridgesOf (G : GS) (x : Int32) : Int32 := (f_X1_bridgesOf_l4 G x (gS G) 0 (0))
set_option maxHeartbeats 4000000 in
set_option maxRecDepth 100000 in
theorem c_X1_bridgesOf (l : Launch) (D : va_G) (C : Nat → ClassId) (a : Nat → Nat) (G : GS) (x : Int32) (hG : GSafe G) : Met l yX1_bridgesOf wsX1_bridgesOf ({ frames := 0, cells := 0, slots := 0, locals := 0 } : Room) (roP [.ref (a 0), .int x] D C (gcells C a G)) (roO (some (.int (f_X1_bridgesOf G x)))) 0 0 (fun _ => False) := by
  refine Met.ofW (cc := cX1_bridgesOf) (maxL := 4) (ret := (some .int)) (by decide) rfl ?_
  intro p e s m args below meth c s₁ B hml hv
  obtain ⟨rfl, hP, hK, hE⟩ := hv
  have hx := B.exec
  have hb := B.bytes
  have hr := B.returns
  have hts := atoms_spec (ws := wsX1_bridgesOf) B.pre
  have hown : s.vm.findClass RX1 = some m.cls := findClass_of_methodNamed B.named
  have hlocks := B.notSynchronized
  obtain ⟨hS12, hP4, hlo, hhi⟩ := id hG
  have hinX1 : ∀ w ∈ u_ws RX1 TX1 16, w ∈ wsX1_bridgesOf := by decide +kernel
  have hl := lv_entry ([.ref (a 0), .int x]) (n := 4) (Nat.le_of_ble_eq_true rfl)
  rw [lg_entry_eq]
  generalize (lg_sl ([.ref (a 0), .int x]) ++ List.replicate (4 - (lg_sl ([.ref (a 0), .int x])).length) Slot.unset).toArray = ls at hl ⊢
  have hl : lv_has ls 4 [(0, .ref (a 0)), (1, .int x)] := hl
  obtain ⟨z, hz⟩ : ∃ z, z = f_X1_bridgesOf G x := ⟨_, rfl⟩
  rw [← hz]
  have J4 : ∀ (n4 k4 : Nat) (v2_4 : Int32) (ls : Array Slot), k4 + n4 = gS G → z = f_X1_bridgesOf_l4 G x n4 k4 v2_4 → lv_has ls 4 [(0, .ref (a 0)), (1, .int x), (2, .int v2_4), (3, .int (nI k4))] → W p l e ({ frames := 0, cells := 0, slots := 0, locals := 0 } : Room) s m ([.ref (a 0), .int x] : List Value).toArray below meth c s.heap [] 0 0 (MQ below (roO (some (.int z))) ([.ref (a 0), .int x] : List Value).toArray s 0 0 (fun _ => False)) (F0 m 4 ls []) := by
    intro n4
    induction n4 with
    | zero =>
      intro k4 v2_4 ls hk4 hz  hl
      have hz : z = f_X1_bridgesOf_l4x G x v2_4 := hz
      refine lv_iload_n hx hb dX1_bridgesOf_4 rfl (lv_at hl 3 rfl) ?_
      refine lv_aload_n hx hb dX1_bridgesOf_5 rfl (lv_at hl 0 rfl) ?_
      refine va_get (D := D) (ci := 4) (v := .int (nI (gS G))) (C := RX1) (T := TX1) (N := 16) hx hb hts hinX1 hown hK hP 0 rfl rfl 5 (by decide) (hts (.fieldLink RX1 28 "BridgeAuction$Game" "sites" "I") (by decide +kernel)) (fun _ h9 => h9) rfl dX1_bridgesOf_6 ?_
      refine lv_icmp_ge (tgt := 36) hx hb dX1_bridgesOf_9 (by decide) (fun c_9 => ?_) (fun c_9 => absurd (nI_le (by omega) (by omega)) c_9)
      refine lv_iload_n hx hb dX1_bridgesOf_36 rfl (lv_at hl 2 rfl) ?_
      exact ro_ret hx hb hr hz dX1_bridgesOf_37 hlocks
    | succ n4 ih4 =>
      intro k4 v2_4 ls hk4 hz4  hl
      obtain ⟨z4, hz⟩ : ∃ zz_, zz_ = f_X1_bridgesOf_l4b G x k4 v2_4 := ⟨_, rfl⟩
      have hq4 : z = sE id (fun q_ => lpF (f_X1_bridgesOf_l4s G x) (f_X1_bridgesOf_l4e G x) n4 (k4 + 1) q_) z4 := by rw [hz4, hz]; rfl
      have J28 : ∀ (s0_28 : Bool) (s1_28 : Int32)  (ls : Array Slot), z4 = f_X1_bridgesOf_j28 s0_28 s1_28 → lv_has ls 4 [(0, .ref (a 0)), (1, .int x), (3, .int (nI k4))] → W p l e ({ frames := 0, cells := 0, slots := 0, locals := 0 } : Room) s m ([.ref (a 0), .int x] : List Value).toArray below meth c s.heap [] 0 0 (MQ below (roO (some (.int z))) ([.ref (a 0), .int x] : List Value).toArray s 0 0 (fun _ => False)) (F0 m 28 ls [.int (bI s0_28), .int s1_28]) := by
        intro s0_28 s1_28 ls hz  hl
        refine lv_iadd hx hb dX1_bridgesOf_28 ?_
        refine lv_istore_n (lv' := [(2, .int (s1_28 + (bI s0_28))), (0, .ref (a 0)), (1, .int x), (3, .int (nI k4))]) hx hb dX1_bridgesOf_29 rfl hl (by decide) rfl (fun ls hl => ?_)
        refine lv_iinc (v := (nI (k4 + 1))) (lv' := [(3, .int (nI (k4 + 1))), (2, .int (s1_28 + (bI s0_28))), (0, .ref (a 0)), (1, .int x)]) hx hb dX1_bridgesOf_30 hl (k := 3) rfl (by exact nI_1 _) (by decide) rfl (fun ls hl => ?_)
        refine lv_goto (tgt := 4) hx hb dX1_bridgesOf_33 (by decide) ?_
        exact ih4 (k4 + 1) ((s1_28 + (bI s0_28))) ls (by omega) (by rw [hq4, hz]; rfl)  (lv_sub hl [2, 3, 1, 0] rfl)
      refine lv_iload_n hx hb dX1_bridgesOf_4 rfl (lv_at hl 3 rfl) ?_
      refine lv_aload_n hx hb dX1_bridgesOf_5 rfl (lv_at hl 0 rfl) ?_
      refine va_get (D := D) (ci := 4) (v := .int (nI (gS G))) (C := RX1) (T := TX1) (N := 16) hx hb hts hinX1 hown hK hP 0 rfl rfl 5 (by decide) (hts (.fieldLink RX1 28 "BridgeAuction$Game" "sites" "I") (by decide +kernel)) (fun _ h9 => h9) rfl dX1_bridgesOf_6 ?_
      refine lv_icmp_ge (tgt := 36) hx hb dX1_bridgesOf_9 (by decide) (fun c_9 => absurd c_9 (nI_ge (by omega) (by omega))) (fun c_9 => ?_)
      refine lv_iload_n hx hb dX1_bridgesOf_12 rfl (lv_at hl 2 rfl) ?_
      refine lv_aload_n hx hb dX1_bridgesOf_13 rfl (lv_at hl 0 rfl) ?_
      refine va_get (D := D) (ci := 4) (v := .ref (a 6)) (C := RX1) (T := TX1) (N := 16) hx hb hts hinX1 hown hK hP 0 rfl rfl 9 (by decide) (hts (.fieldLink RX1 40 "BridgeAuction$Game" "builders" "[I") (by decide +kernel)) (fun _ h9 => h9) rfl dX1_bridgesOf_14 ?_
      refine lv_iload_n hx hb dX1_bridgesOf_17 rfl (lv_at hl 3 rfl) ?_
      refine ialdN (tys := tyA C) hx hb hK hP 6 0 rfl rfl (i := k4) (by omega) (by decide) dX1_bridgesOf_18 ?_
      refine lv_iload_n hx hb dX1_bridgesOf_19 rfl (lv_at hl 1 rfl) ?_
      refine lv_icmp_ne (tgt := 27) hx hb dX1_bridgesOf_20 (by decide) (fun c_20 => ?_) (fun c_20 => ?_)
      · have hz := hz.trans (if_neg c_20)
        refine lv_iconst (v := 0) hx hb dX1_bridgesOf_27 (by decide) ?_
        exact J28 (false) (v2_4) ls hz  (lv_sub hl [0, 1, 3] rfl)
      · have hz := hz.trans (if_pos c_20)
        refine lv_iconst (v := 1) hx hb dX1_bridgesOf_23 (by decide) ?_
        refine lv_goto (tgt := 28) hx hb dX1_bridgesOf_24 (by decide) ?_
        exact J28 (true) (v2_4) ls hz  (lv_sub hl [0, 1, 3] rfl)
  refine lv_iconst (v := 0) hx hb dX1_bridgesOf_0 (by decide) ?_
  refine lv_istore_n (lv' := [(2, .int 0), (0, .ref (a 0)), (1, .int x)]) hx hb dX1_bridgesOf_1 rfl hl (by decide) rfl (fun ls hl => ?_)
  refine lv_iconst (v := 0) hx hb dX1_bridgesOf_2 (by decide) ?_
  refine lv_istore_n (lv' := [(3, .int 0), (2, .int 0), (0, .ref (a 0)), (1, .int x)]) hx hb dX1_bridgesOf_3 rfl hl (by decide) rfl (fun ls hl => ?_)
  exact J4 (gS G) 0 (0) ls (by omega) hz  (lv_sub hl [2, 3, 1, 0] rfl)

def f_X1_scoreOf_j64  (v2_64 : Int32) : Sum (Int32) (Int32) := (Sum.inr v2_64)
def f_X1_scoreOf_j62  (s0_62 : Int32) (s1_62 : Int32) : Sum (Int32) (Int32) := (f_X1_scoreOf_j64 ((s1_62 + s0_62)))
def f_X1_scoreOf_l4b (G : GS) (x : Int32) (k4 : Nat) (v2_4 : Int32) : Sum (Int32) (Int32) := (if ((gBld G) k4) = x then (if ((gSuit G) ((gLo G) k4)) = ((gSuit G) ((gHi G) k4)) then (f_X1_scoreOf_j62 (3) ((v2_4 + ((gLen G) k4)))) else (f_X1_scoreOf_j62 (0) ((v2_4 + ((gLen G) k4))))) else (f_X1_scoreOf_j64 (v2_4)))
def f_X1_scoreOf_l4x (G : GS) (x : Int32) (v2_4 : Int32) : Int32 := v2_4
def f_X1_scoreOf_l4s (G : GS) (x : Int32) (k4 : Nat) (q_ : Int32) : Sum (Int32) (Int32) := f_X1_scoreOf_l4b G x k4 (q_)
def f_X1_scoreOf_l4e (G : GS) (x : Int32) (q_ : Int32) : Int32 := f_X1_scoreOf_l4x G x (q_)
def f_X1_scoreOf_l4 (G : GS) (x : Int32) (n4 k4 : Nat) (v2_4 : Int32) : Int32 := lpF (f_X1_scoreOf_l4s G x) (f_X1_scoreOf_l4e G x) n4 k4 v2_4
def f_X1_scoreOf (G : GS) (x : Int32) : Int32 := (f_X1_scoreOf_l4 G x (gS G) 0 (0))
set_option maxHeartbeats 4000000 in
set_option maxRecDepth 100000 in
theorem c_X1_scoreOf (l : Launch) (D : va_G) (C : Nat → ClassId) (a : Nat → Nat) (G : GS) (x : Int32) (hG : GSafe G) : Met l yX1_scoreOf wsX1_scoreOf ({ frames := 0, cells := 0, slots := 0, locals := 0 } : Room) (roP [.ref (a 0), .int x] D C (gcells C a G)) (roO (some (.int (f_X1_scoreOf G x)))) 0 0 (fun _ => False) := by
  refine Met.ofW (cc := cX1_scoreOf) (maxL := 4) (ret := (some .int)) (by decide) rfl ?_
  intro p e s m args below meth c s₁ B hml hv
  obtain ⟨rfl, hP, hK, hE⟩ := hv
  have hx := B.exec
  have hb := B.bytes
  have hr := B.returns
  have hts := atoms_spec (ws := wsX1_scoreOf) B.pre
  have hown : s.vm.findClass RX1 = some m.cls := findClass_of_methodNamed B.named
  have hlocks := B.notSynchronized
  obtain ⟨hS12, hP4, hlo, hhi⟩ := id hG
  have hinX1 : ∀ w ∈ u_ws RX1 TX1 16, w ∈ wsX1_scoreOf := by decide +kernel
  have hl := lv_entry ([.ref (a 0), .int x]) (n := 4) (Nat.le_of_ble_eq_true rfl)
  rw [lg_entry_eq]
  generalize (lg_sl ([.ref (a 0), .int x]) ++ List.replicate (4 - (lg_sl ([.ref (a 0), .int x])).length) Slot.unset).toArray = ls at hl ⊢
  have hl : lv_has ls 4 [(0, .ref (a 0)), (1, .int x)] := hl
  obtain ⟨z, hz⟩ : ∃ z, z = f_X1_scoreOf G x := ⟨_, rfl⟩
  rw [← hz]
  have J4 : ∀ (n4 k4 : Nat) (v2_4 : Int32) (ls : Array Slot), k4 + n4 = gS G → z = f_X1_scoreOf_l4 G x n4 k4 v2_4 → lv_has ls 4 [(0, .ref (a 0)), (1, .int x), (2, .int v2_4), (3, .int (nI k4))] → W p l e ({ frames := 0, cells := 0, slots := 0, locals := 0 } : Room) s m ([.ref (a 0), .int x] : List Value).toArray below meth c s.heap [] 0 0 (MQ below (roO (some (.int z))) ([.ref (a 0), .int x] : List Value).toArray s 0 0 (fun _ => False)) (F0 m 4 ls []) := by
    intro n4
    induction n4 with
    | zero =>
      intro k4 v2_4 ls hk4 hz  hl
      have hz : z = f_X1_scoreOf_l4x G x v2_4 := hz
      refine lv_iload_n hx hb dX1_scoreOf_4 rfl (lv_at hl 3 rfl) ?_
      refine lv_aload_n hx hb dX1_scoreOf_5 rfl (lv_at hl 0 rfl) ?_
      refine va_get (D := D) (ci := 4) (v := .int (nI (gS G))) (C := RX1) (T := TX1) (N := 16) hx hb hts hinX1 hown hK hP 0 rfl rfl 5 (by decide) (hts (.fieldLink RX1 28 "BridgeAuction$Game" "sites" "I") (by decide +kernel)) (fun _ h9 => h9) rfl dX1_scoreOf_6 ?_
      refine lv_icmp_ge (tgt := 70) hx hb dX1_scoreOf_9 (by decide) (fun c_9 => ?_) (fun c_9 => absurd (nI_le (by omega) (by omega)) c_9)
      refine lv_iload_n hx hb dX1_scoreOf_70 rfl (lv_at hl 2 rfl) ?_
      exact ro_ret hx hb hr hz dX1_scoreOf_71 hlocks
    | succ n4 ih4 =>
      intro k4 v2_4 ls hk4 hz4  hl
      obtain ⟨z4, hz⟩ : ∃ zz_, zz_ = f_X1_scoreOf_l4b G x k4 v2_4 := ⟨_, rfl⟩
      have hq4 : z = sE id (fun q_ => lpF (f_X1_scoreOf_l4s G x) (f_X1_scoreOf_l4e G x) n4 (k4 + 1) q_) z4 := by rw [hz4, hz]; rfl
      have J64 : ∀ (v2_64 : Int32)  (ls : Array Slot), z4 = f_X1_scoreOf_j64 v2_64 → lv_has ls 4 [(0, .ref (a 0)), (1, .int x), (2, .int v2_64), (3, .int (nI k4))] → W p l e ({ frames := 0, cells := 0, slots := 0, locals := 0 } : Room) s m ([.ref (a 0), .int x] : List Value).toArray below meth c s.heap [] 0 0 (MQ below (roO (some (.int z))) ([.ref (a 0), .int x] : List Value).toArray s 0 0 (fun _ => False)) (F0 m 64 ls []) := by
        intro v2_64 ls hz  hl
        refine lv_iinc (v := (nI (k4 + 1))) (lv' := [(3, .int (nI (k4 + 1))), (0, .ref (a 0)), (1, .int x), (2, .int v2_64)]) hx hb dX1_scoreOf_64 hl (k := 3) rfl (by exact nI_1 _) (by decide) rfl (fun ls hl => ?_)
        refine lv_goto (tgt := 4) hx hb dX1_scoreOf_67 (by decide) ?_
        exact ih4 (k4 + 1) (v2_64) ls (by omega) (by rw [hq4, hz]; rfl)  (lv_sub hl [1, 2, 3, 0] rfl)
      have J62 : ∀ (s0_62 : Int32) (s1_62 : Int32)  (ls : Array Slot), z4 = f_X1_scoreOf_j62 s0_62 s1_62 → lv_has ls 4 [(0, .ref (a 0)), (1, .int x), (3, .int (nI k4))] → W p l e ({ frames := 0, cells := 0, slots := 0, locals := 0 } : Room) s m ([.ref (a 0), .int x] : List Value).toArray below meth c s.heap [] 0 0 (MQ below (roO (some (.int z))) ([.ref (a 0), .int x] : List Value).toArray s 0 0 (fun _ => False)) (F0 m 62 ls [.int s0_62, .int s1_62]) := by
        intro s0_62 s1_62 ls hz  hl
        refine lv_iadd hx hb dX1_scoreOf_62 ?_
        refine lv_istore_n (lv' := [(2, .int (s1_62 + s0_62)), (0, .ref (a 0)), (1, .int x), (3, .int (nI k4))]) hx hb dX1_scoreOf_63 rfl hl (by decide) rfl (fun ls hl => ?_)
        exact J64 ((s1_62 + s0_62)) ls hz  (lv_sub hl [1, 2, 0, 3] rfl)
      refine lv_iload_n hx hb dX1_scoreOf_4 rfl (lv_at hl 3 rfl) ?_
      refine lv_aload_n hx hb dX1_scoreOf_5 rfl (lv_at hl 0 rfl) ?_
      refine va_get (D := D) (ci := 4) (v := .int (nI (gS G))) (C := RX1) (T := TX1) (N := 16) hx hb hts hinX1 hown hK hP 0 rfl rfl 5 (by decide) (hts (.fieldLink RX1 28 "BridgeAuction$Game" "sites" "I") (by decide +kernel)) (fun _ h9 => h9) rfl dX1_scoreOf_6 ?_
      refine lv_icmp_ge (tgt := 70) hx hb dX1_scoreOf_9 (by decide) (fun c_9 => absurd c_9 (nI_ge (by omega) (by omega))) (fun c_9 => ?_)
      refine lv_aload_n hx hb dX1_scoreOf_12 rfl (lv_at hl 0 rfl) ?_
      refine va_get (D := D) (ci := 4) (v := .ref (a 6)) (C := RX1) (T := TX1) (N := 16) hx hb hts hinX1 hown hK hP 0 rfl rfl 9 (by decide) (hts (.fieldLink RX1 40 "BridgeAuction$Game" "builders" "[I") (by decide +kernel)) (fun _ h9 => h9) rfl dX1_scoreOf_13 ?_
      refine lv_iload_n hx hb dX1_scoreOf_16 rfl (lv_at hl 3 rfl) ?_
      refine ialdN (tys := tyA C) hx hb hK hP 6 0 rfl rfl (i := k4) (by omega) (by decide) dX1_scoreOf_17 ?_
      refine lv_iload_n hx hb dX1_scoreOf_18 rfl (lv_at hl 1 rfl) ?_
      refine lv_icmp_ne (tgt := 64) hx hb dX1_scoreOf_19 (by decide) (fun c_19 => ?_) (fun c_19 => ?_)
      · have hz := hz.trans (if_neg c_19)
        exact J64 (v2_4) ls hz  (lv_sub hl [0, 1, 2, 3] rfl)
      · have hz := hz.trans (if_pos c_19)
        refine lv_iload_n hx hb dX1_scoreOf_22 rfl (lv_at hl 2 rfl) ?_
        refine lv_aload_n hx hb dX1_scoreOf_23 rfl (lv_at hl 0 rfl) ?_
        refine va_get (D := D) (ci := 4) (v := .ref (a 5)) (C := RX1) (T := TX1) (N := 16) hx hb hts hinX1 hown hK hP 0 rfl rfl 8 (by decide) (hts (.fieldLink RX1 37 "BridgeAuction$Game" "lengths" "[I") (by decide +kernel)) (fun _ h9 => h9) rfl dX1_scoreOf_24 ?_
        refine lv_iload_n hx hb dX1_scoreOf_27 rfl (lv_at hl 3 rfl) ?_
        refine ialdN (tys := tyA C) hx hb hK hP 5 0 rfl rfl (i := k4) (by omega) (by decide) dX1_scoreOf_28 ?_
        refine lv_iadd hx hb dX1_scoreOf_29 ?_
        refine lv_istore_n (lv' := [(2, .int (v2_4 + ((gLen G) k4))), (0, .ref (a 0)), (1, .int x), (3, .int (nI k4))]) hx hb dX1_scoreOf_30 rfl hl (by decide) rfl (fun ls hl => ?_)
        refine lv_iload_n hx hb dX1_scoreOf_31 rfl (lv_at hl 0 rfl) ?_
        refine lv_aload_n hx hb dX1_scoreOf_32 rfl (lv_at hl 1 rfl) ?_
        refine va_get (D := D) (ci := 4) (v := .ref (a 1)) (C := RX1) (T := TX1) (N := 16) hx hb hts hinX1 hown hK hP 0 rfl rfl 0 (by decide) (hts (.fieldLink RX1 9 "BridgeAuction$Game" "suits" "[I") (by decide +kernel)) (fun _ h9 => h9) rfl dX1_scoreOf_33 ?_
        refine lv_aload_n hx hb dX1_scoreOf_36 rfl (lv_at hl 1 rfl) ?_
        refine va_get (D := D) (ci := 4) (v := .ref (a 3)) (C := RX1) (T := TX1) (N := 16) hx hb hts hinX1 hown hK hP 0 rfl rfl 6 (by decide) (hts (.fieldLink RX1 31 "BridgeAuction$Game" "lowers" "[I") (by decide +kernel)) (fun _ h9 => h9) rfl dX1_scoreOf_37 ?_
        refine lv_iload_n hx hb dX1_scoreOf_40 rfl (lv_at hl 3 rfl) ?_
        refine ialdN (tys := tyA C) hx hb hK hP 3 0 rfl rfl (i := k4) (by omega) (by decide) dX1_scoreOf_41 ?_
        have hb_1 := hlo (k4)
        refine ialdN (tys := tyA C) hx hb hK hP 1 0 rfl rfl (i := ((gLo G) k4)) (by omega) (by decide) dX1_scoreOf_42 ?_
        refine lv_aload_n hx hb dX1_scoreOf_43 rfl (lv_at hl 1 rfl) ?_
        refine va_get (D := D) (ci := 4) (v := .ref (a 1)) (C := RX1) (T := TX1) (N := 16) hx hb hts hinX1 hown hK hP 0 rfl rfl 0 (by decide) (hts (.fieldLink RX1 9 "BridgeAuction$Game" "suits" "[I") (by decide +kernel)) (fun _ h9 => h9) rfl dX1_scoreOf_44 ?_
        refine lv_aload_n hx hb dX1_scoreOf_47 rfl (lv_at hl 1 rfl) ?_
        refine va_get (D := D) (ci := 4) (v := .ref (a 4)) (C := RX1) (T := TX1) (N := 16) hx hb hts hinX1 hown hK hP 0 rfl rfl 7 (by decide) (hts (.fieldLink RX1 34 "BridgeAuction$Game" "highers" "[I") (by decide +kernel)) (fun _ h9 => h9) rfl dX1_scoreOf_48 ?_
        refine lv_iload_n hx hb dX1_scoreOf_51 rfl (lv_at hl 3 rfl) ?_
        refine ialdN (tys := tyA C) hx hb hK hP 4 0 rfl rfl (i := k4) (by omega) (by decide) dX1_scoreOf_52 ?_
        have hb_2 := hhi (k4)
        refine ialdN (tys := tyA C) hx hb hK hP 1 0 rfl rfl (i := ((gHi G) k4)) (by omega) (by decide) dX1_scoreOf_53 ?_
        refine lv_icmp_ne (tgt := 61) hx hb dX1_scoreOf_54 (by decide) (fun c_54 => ?_) (fun c_54 => ?_)
        · have hz := hz.trans (if_neg c_54)
          refine lv_iconst (v := 0) hx hb dX1_scoreOf_61 (by decide) ?_
          exact J62 (0) ((v2_4 + ((gLen G) k4))) ls hz  (lv_sub hl [1, 2, 3] rfl)
        · have hz := hz.trans (if_pos c_54)
          refine lv_iconst (v := 3) hx hb dX1_scoreOf_57 (by decide) ?_
          refine lv_goto (tgt := 62) hx hb dX1_scoreOf_58 (by decide) ?_
          exact J62 (3) ((v2_4 + ((gLen G) k4))) ls hz  (lv_sub hl [1, 2, 3] rfl)
  refine lv_iconst (v := 0) hx hb dX1_scoreOf_0 (by decide) ?_
  refine lv_istore_n (lv' := [(2, .int 0), (0, .ref (a 0)), (1, .int x)]) hx hb dX1_scoreOf_1 rfl hl (by decide) rfl (fun ls hl => ?_)
  refine lv_iconst (v := 0) hx hb dX1_scoreOf_2 (by decide) ?_
  refine lv_istore_n (lv' := [(3, .int 0), (2, .int 0), (0, .ref (a 0)), (1, .int x)]) hx hb dX1_scoreOf_3 rfl hl (by decide) rfl (fun ls hl => ?_)
  exact J4 (gS G) 0 (0) ls (by omega) hz  (lv_sub hl [2, 3, 1, 0] rfl)

def f_X1_cheapestWithoutBridge_j40  (v1_40 : Int32) : Sum (Int32) (Int32) := (Sum.inr v1_40)
def f_X1_cheapestWithoutBridge_j38 (k4 : Nat) : Sum (Int32) (Int32) := (f_X1_cheapestWithoutBridge_j40 ((nI k4)))
def f_X1_cheapestWithoutBridge_l4b (G : GS) (k4 : Nat) (v1_4 : Int32) : Sum (Int32) (Int32) := (if (f_X1_hasBridge G (k4)) = true then (f_X1_cheapestWithoutBridge_j40 (v1_4)) else (if v1_4 = (-1) then (f_X1_cheapestWithoutBridge_j38 k4) else (if (f_X1_costOf G (v1_4.toNatClampNeg)) ≤ (f_X1_costOf G (k4)) then (f_X1_cheapestWithoutBridge_j40 (v1_4)) else (f_X1_cheapestWithoutBridge_j38 k4))))
def f_X1_cheapestWithoutBridge_l4x (G : GS) (v1_4 : Int32) : Int32 := v1_4
def f_X1_cheapestWithoutBridge_l4s (G : GS) (k4 : Nat) (q_ : Int32) : Sum (Int32) (Int32) := f_X1_cheapestWithoutBridge_l4b G k4 (q_)
def f_X1_cheapestWithoutBridge_l4e (G : GS) (q_ : Int32) : Int32 := f_X1_cheapestWithoutBridge_l4x G (q_)
def f_X1_cheapestWithoutBridge_l4 (G : GS) (n4 k4 : Nat) (v1_4 : Int32) : Int32 := lpF (f_X1_cheapestWithoutBridge_l4s G) (f_X1_cheapestWithoutBridge_l4e G) n4 k4 v1_4
def f_X1_cheapestWithoutBridge (G : GS) : Int32 := (f_X1_cheapestWithoutBridge_l4 G (gS G) 0 ((-1)))
set_option maxHeartbeats 4000000 in
set_option maxRecDepth 100000 in
theorem c_X1_cheapestWithoutBridge (l : Launch) (D : va_G) (C : Nat → ClassId) (a : Nat → Nat) (G : GS) (hG : GSafe G) : Met l yX1_cheapestWithoutBridge wsX1_cheapestWithoutBridge ({ frames := 1, cells := 0, slots := 0, locals := 21 } : Room) (roP [.ref (a 0)] D C (gcells C a G)) (roO (some (.int (f_X1_cheapestWithoutBridge G)))) 0 0 (fun _ => False) := by
  refine Met.ofW (cc := cX1_cheapestWithoutBridge) (maxL := 3) (ret := (some .int)) (by decide) rfl ?_
  intro p e s m args below meth c s₁ B hml hv
  obtain ⟨rfl, hP, hK, hE⟩ := hv
  have hx := B.exec
  have hb := B.bytes
  have hr := B.returns
  have hts := atoms_spec (ws := wsX1_cheapestWithoutBridge) B.pre
  have hown : s.vm.findClass RX1 = some m.cls := findClass_of_methodNamed B.named
  have hlocks := B.notSynchronized
  obtain ⟨hS12, hP4, hlo, hhi⟩ := id hG
  have hinX1 : ∀ w ∈ u_ws RX1 TX1 16, w ∈ wsX1_cheapestWithoutBridge := by decide +kernel
  have hl := lv_entry ([.ref (a 0)]) (n := 3) (Nat.le_of_ble_eq_true rfl)
  rw [lg_entry_eq]
  generalize (lg_sl ([.ref (a 0)]) ++ List.replicate (3 - (lg_sl ([.ref (a 0)])).length) Slot.unset).toArray = ls at hl ⊢
  have hl : lv_has ls 3 [(0, .ref (a 0))] := hl
  obtain ⟨z, hz⟩ : ∃ z, z = f_X1_cheapestWithoutBridge G := ⟨_, rfl⟩
  rw [← hz]
  have J4 : ∀ (n4 k4 : Nat) (v1_4 : Int32) (ls : Array Slot), k4 + n4 = gS G → z = f_X1_cheapestWithoutBridge_l4 G n4 k4 v1_4 → (v1_4 = -1 ∨ vp_in v1_4 12) → lv_has ls 3 [(0, .ref (a 0)), (1, .int v1_4), (2, .int (nI k4))] → W p l e ({ frames := 1, cells := 0, slots := 0, locals := 21 } : Room) s m ([.ref (a 0)] : List Value).toArray below meth c s.heap [] 0 0 (MQ below (roO (some (.int z))) ([.ref (a 0)] : List Value).toArray s 0 0 (fun _ => False)) (F0 m 4 ls []) := by
    intro n4
    induction n4 with
    | zero =>
      intro k4 v1_4 ls hk4 hz iv4_0 hl
      have hz : z = f_X1_cheapestWithoutBridge_l4x G v1_4 := hz
      refine lv_iload_n hx hb dX1_cheapestWithoutBridge_4 rfl (lv_at hl 2 rfl) ?_
      refine lv_aload_n hx hb dX1_cheapestWithoutBridge_5 rfl (lv_at hl 0 rfl) ?_
      refine va_get (D := D) (ci := 4) (v := .int (nI (gS G))) (C := RX1) (T := TX1) (N := 16) hx hb hts hinX1 hown hK hP 0 rfl rfl 5 (by decide) (hts (.fieldLink RX1 28 "BridgeAuction$Game" "sites" "I") (by decide +kernel)) (fun _ h9 => h9) rfl dX1_cheapestWithoutBridge_6 ?_
      refine lv_icmp_ge (tgt := 46) hx hb dX1_cheapestWithoutBridge_9 (by decide) (fun c_9 => ?_) (fun c_9 => absurd (nI_le (by omega) (by omega)) c_9)
      refine lv_iload_n hx hb dX1_cheapestWithoutBridge_46 rfl (lv_at hl 1 rfl) ?_
      exact ro_ret hx hb hr hz dX1_cheapestWithoutBridge_47 hlocks
    | succ n4 ih4 =>
      intro k4 v1_4 ls hk4 hz4 iv4_0 hl
      obtain ⟨z4, hz⟩ : ∃ zz_, zz_ = f_X1_cheapestWithoutBridge_l4b G k4 v1_4 := ⟨_, rfl⟩
      have hq4 : z = sE id (fun q_ => lpF (f_X1_cheapestWithoutBridge_l4s G) (f_X1_cheapestWithoutBridge_l4e G) n4 (k4 + 1) q_) z4 := by rw [hz4, hz]; rfl
      have J40 : ∀ (v1_40 : Int32)  (ls : Array Slot), z4 = f_X1_cheapestWithoutBridge_j40 v1_40 → (v1_40 = -1 ∨ vp_in v1_40 12) → lv_has ls 3 [(0, .ref (a 0)), (1, .int v1_40), (2, .int (nI k4))] → W p l e ({ frames := 1, cells := 0, slots := 0, locals := 21 } : Room) s m ([.ref (a 0)] : List Value).toArray below meth c s.heap [] 0 0 (MQ below (roO (some (.int z))) ([.ref (a 0)] : List Value).toArray s 0 0 (fun _ => False)) (F0 m 40 ls []) := by
        intro v1_40 ls hz iv40_0 hl
        refine lv_iinc (v := (nI (k4 + 1))) (lv' := [(2, .int (nI (k4 + 1))), (0, .ref (a 0)), (1, .int v1_40)]) hx hb dX1_cheapestWithoutBridge_40 hl (k := 2) rfl (by exact nI_1 _) (by decide) rfl (fun ls hl => ?_)
        refine lv_goto (tgt := 4) hx hb dX1_cheapestWithoutBridge_43 (by decide) ?_
        exact ih4 (k4 + 1) (v1_40) ls (by omega) (by rw [hq4, hz]; rfl) (by first | assumption | exact Or.inl rfl | exact Or.inr (vp_in_nI (by omega) (by decide))) (lv_sub hl [1, 2, 0] rfl)
      have J38 : ∀  (ls : Array Slot), z4 = f_X1_cheapestWithoutBridge_j38 k4 → lv_has ls 3 [(0, .ref (a 0)), (2, .int (nI k4))] → W p l e ({ frames := 1, cells := 0, slots := 0, locals := 21 } : Room) s m ([.ref (a 0)] : List Value).toArray below meth c s.heap [] 0 0 (MQ below (roO (some (.int z))) ([.ref (a 0)] : List Value).toArray s 0 0 (fun _ => False)) (F0 m 38 ls []) := by
        intro  ls hz  hl
        refine lv_iload_n hx hb dX1_cheapestWithoutBridge_38 rfl (lv_at hl 1 rfl) ?_
        refine lv_istore_n (lv' := [(1, .int (nI k4)), (0, .ref (a 0)), (2, .int (nI k4))]) hx hb dX1_cheapestWithoutBridge_39 rfl hl (by decide) rfl (fun ls hl => ?_)
        exact J40 ((nI k4)) ls hz (by first | assumption | exact Or.inl rfl | exact Or.inr (vp_in_nI (by omega) (by decide))) (lv_sub hl [1, 0, 2] rfl)
      refine lv_iload_n hx hb dX1_cheapestWithoutBridge_4 rfl (lv_at hl 2 rfl) ?_
      refine lv_aload_n hx hb dX1_cheapestWithoutBridge_5 rfl (lv_at hl 0 rfl) ?_
      refine va_get (D := D) (ci := 4) (v := .int (nI (gS G))) (C := RX1) (T := TX1) (N := 16) hx hb hts hinX1 hown hK hP 0 rfl rfl 5 (by decide) (hts (.fieldLink RX1 28 "BridgeAuction$Game" "sites" "I") (by decide +kernel)) (fun _ h9 => h9) rfl dX1_cheapestWithoutBridge_6 ?_
      refine lv_icmp_ge (tgt := 46) hx hb dX1_cheapestWithoutBridge_9 (by decide) (fun c_9 => absurd c_9 (nI_ge (by omega) (by omega))) (fun c_9 => ?_)
      refine lv_aload_n hx hb dX1_cheapestWithoutBridge_12 rfl (lv_at hl 0 rfl) ?_
      refine lv_iload_n hx hb dX1_cheapestWithoutBridge_13 rfl (lv_at hl 2 rfl) ?_
      refine callRo (va_runV (As := [.int (nI k4)]) (rest := []) ⟨hx, hb, hml, hown, hts⟩ (c_X1_hasBridge l D C a G (k4) hG (by omega)) (cwV 1 hts gX1_cheapestWithoutBridge_X1_hasBridge rfl rfl rfl (by decide +kernel) ⟨Nat.le_of_ble_eq_true rfl, Nat.le_of_ble_eq_true rfl⟩) (roP_v hP hK hE (va_recv hK hP (ci := 4) (q0 := 0) rfl rfl)) rfl rfl hl.1 rfl (lv_room (Nat.le_of_ble_eq_true rfl)) dX1_cheapestWithoutBridge_14 ⟨Nat.le_refl _, Nat.le_refl _⟩) ?_
      refine bif_ne (tgt := 40) hx hb dX1_cheapestWithoutBridge_17 (by decide) (fun c_17 => ?_) (fun c_17 => ?_)
      · have hz := hz.trans (ifB_t c_17)
        exact J40 (v1_4) ls hz (by first | assumption | exact Or.inl rfl | exact Or.inr (vp_in_nI (by omega) (by decide))) (lv_sub hl [0, 1, 2] rfl)
      · have hz := hz.trans (ifB_f c_17)
        refine lv_iload_n hx hb dX1_cheapestWithoutBridge_20 rfl (lv_at hl 1 rfl) ?_
        refine lv_iconst (v := (-1)) hx hb dX1_cheapestWithoutBridge_21 (by decide) ?_
        refine lv_icmp_eq (tgt := 38) hx hb dX1_cheapestWithoutBridge_22 (by decide) (fun c_22 => ?_) (fun c_22 => ?_)
        · have hz := hz.trans (if_pos c_22)
          exact J38  ls hz  (lv_sub hl [0, 2] rfl)
        · have hz := hz.trans (if_neg c_22)
          refine lv_aload_n hx hb dX1_cheapestWithoutBridge_25 rfl (lv_at hl 0 rfl) ?_
          refine lv_iload_n hx hb dX1_cheapestWithoutBridge_26 rfl (lv_at hl 2 rfl) ?_
          refine callRo (va_runV (As := [.int (nI k4)]) (rest := []) ⟨hx, hb, hml, hown, hts⟩ (c_X1_costOf l D C a G (k4) hG (by omega)) (cwV 1 hts gX1_cheapestWithoutBridge_X1_costOf rfl rfl rfl (by decide +kernel) ⟨Nat.le_of_ble_eq_true rfl, Nat.le_of_ble_eq_true rfl⟩) (roP_v hP hK hE (va_recv hK hP (ci := 4) (q0 := 0) rfl rfl)) rfl rfl hl.1 rfl (lv_room (Nat.le_of_ble_eq_true rfl)) dX1_cheapestWithoutBridge_27 ⟨Nat.le_refl _, Nat.le_refl _⟩) ?_
          refine lv_aload_n hx hb dX1_cheapestWithoutBridge_30 rfl (lv_at hl 0 rfl) ?_
          refine lv_iload_n hx hb dX1_cheapestWithoutBridge_31 rfl (lv_at hl 1 rfl) ?_
          obtain ⟨ehn_1, lhn_1⟩ := nat_of (x := v1_4) (n := 12) (by exact iv4_0.resolve_left c_22) (by omega)
          refine topN ehn_1 ?_
          refine callRo (va_runV (As := [.int (nI v1_4.toNatClampNeg)]) (rest := [.int (f_X1_costOf G (k4))]) ⟨hx, hb, hml, hown, hts⟩ (c_X1_costOf l D C a G (v1_4.toNatClampNeg) hG (by omega)) (cwV 1 hts gX1_cheapestWithoutBridge_X1_costOf rfl rfl rfl (by decide +kernel) ⟨Nat.le_of_ble_eq_true rfl, Nat.le_of_ble_eq_true rfl⟩) (roP_v hP hK hE (va_recv hK hP (ci := 4) (q0 := 0) rfl rfl)) rfl rfl hl.1 rfl (lv_room (Nat.le_of_ble_eq_true rfl)) dX1_cheapestWithoutBridge_32 ⟨Nat.le_refl _, Nat.le_refl _⟩) ?_
          refine lv_icmp_ge (tgt := 40) hx hb dX1_cheapestWithoutBridge_35 (by decide) (fun c_35 => ?_) (fun c_35 => ?_)
          · have hz := hz.trans (if_pos c_35)
            exact J40 (v1_4) ls hz (by first | assumption | exact Or.inl rfl | exact Or.inr (vp_in_nI (by omega) (by decide))) (lv_sub hl [0, 1, 2] rfl)
          · have hz := hz.trans (if_neg c_35)
            exact J38  ls hz  (lv_sub hl [0, 2] rfl)
  refine lv_iconst (v := (-1)) hx hb dX1_cheapestWithoutBridge_0 (by decide) ?_
  refine lv_istore_n (lv' := [(1, .int (-1)), (0, .ref (a 0))]) hx hb dX1_cheapestWithoutBridge_1 rfl hl (by decide) rfl (fun ls hl => ?_)
  refine lv_iconst (v := 0) hx hb dX1_cheapestWithoutBridge_2 (by decide) ?_
  refine lv_istore_n (lv' := [(2, .int 0), (1, .int (-1)), (0, .ref (a 0))]) hx hb dX1_cheapestWithoutBridge_3 rfl hl (by decide) rfl (fun ls hl => ?_)
  exact J4 (gS G) 0 ((-1)) ls (by omega) hz (by first | assumption | exact Or.inl rfl | exact Or.inr (vp_in_nI (by omega) (by decide))) (lv_sub hl [2, 1, 0] rfl)

def f_X1_winnerOf_j55  (v2_55 : Int32) (v3_55 : Int32) : Sum (Int32) (Int32 × Int32) := (Sum.inr (v2_55, v3_55))
def f_X1_winnerOf_l24b (G : GS) (k : Nat) (k24 : Nat) (v2_24 : Int32) (v3_24 : Int32) : Sum (Int32) (Int32 × Int32) := (if (f_X1_amountOf G (k24) (k)) ≤ v3_24 then (f_X1_winnerOf_j55 (v2_24) (v3_24)) else (f_X1_winnerOf_j55 ((nI k24)) ((f_X1_amountOf G (k24) (k)))))
def f_X1_winnerOf_l24x (G : GS) (k : Nat) (v2_24 : Int32) (v3_24 : Int32) : Int32 := v2_24
def f_X1_winnerOf_l24s (G : GS) (k : Nat) (k24 : Nat) (q_ : Int32 × Int32) : Sum (Int32) (Int32 × Int32) := f_X1_winnerOf_l24b G k k24 (q_.1) (q_.2)
def f_X1_winnerOf_l24e (G : GS) (k : Nat) (q_ : Int32 × Int32) : Int32 := f_X1_winnerOf_l24x G k (q_.1) (q_.2)
def f_X1_winnerOf_l24 (G : GS) (k : Nat) (n24 k24 : Nat) (v2_24 : Int32) (v3_24 : Int32) : Int32 := lpF (f_X1_winnerOf_l24s G k) (f_X1_winnerOf_l24e G k) n24 k24 (v2_24, v3_24)
def f_X1_winnerOf (G : GS) (k : Nat) : Int32 := (if ((gFer G) k) = (-1) then (f_X1_winnerOf_l24 G k (gP G) 0 ((-1)) (0)) else ((gFer G) k))
set_option maxHeartbeats 4000000 in
set_option maxRecDepth 100000 in
theorem c_X1_winnerOf (l : Launch) (D : va_G) (C : Nat → ClassId) (a : Nat → Nat) (G : GS) (k : Nat) (hG : GSafe G) (h_k : k < 12) : Met l yX1_winnerOf wsX1_winnerOf ({ frames := 2, cells := 0, slots := 0, locals := 43 } : Room) (roP [.ref (a 0), .int (nI k)] D C (gcells C a G)) (roO (some (.int (f_X1_winnerOf G k)))) 0 0 (fun _ => False) := by
  refine Met.ofW (cc := cX1_winnerOf) (maxL := 5) (ret := (some .int)) (by decide) rfl ?_
  intro p e s m args below meth c s₁ B hml hv
  obtain ⟨rfl, hP, hK, hE⟩ := hv
  have hx := B.exec
  have hb := B.bytes
  have hr := B.returns
  have hts := atoms_spec (ws := wsX1_winnerOf) B.pre
  have hown : s.vm.findClass RX1 = some m.cls := findClass_of_methodNamed B.named
  have hlocks := B.notSynchronized
  obtain ⟨hS12, hP4, hlo, hhi⟩ := id hG
  have hinX1 : ∀ w ∈ u_ws RX1 TX1 16, w ∈ wsX1_winnerOf := by decide +kernel
  have hl := lv_entry ([.ref (a 0), .int (nI k)]) (n := 5) (Nat.le_of_ble_eq_true rfl)
  rw [lg_entry_eq]
  generalize (lg_sl ([.ref (a 0), .int (nI k)]) ++ List.replicate (5 - (lg_sl ([.ref (a 0), .int (nI k)])).length) Slot.unset).toArray = ls at hl ⊢
  have hl : lv_has ls 5 [(0, .ref (a 0)), (1, .int (nI k))] := hl
  obtain ⟨z, hz⟩ : ∃ z, z = f_X1_winnerOf G k := ⟨_, rfl⟩
  rw [← hz]
  have J24 : ∀ (n24 k24 : Nat) (v2_24 : Int32) (v3_24 : Int32) (ls : Array Slot), k24 + n24 = gP G → z = f_X1_winnerOf_l24 G k n24 k24 v2_24 v3_24 → lv_has ls 5 [(0, .ref (a 0)), (1, .int (nI k)), (2, .int v2_24), (3, .int v3_24), (4, .int (nI k24))] → W p l e ({ frames := 2, cells := 0, slots := 0, locals := 43 } : Room) s m ([.ref (a 0), .int (nI k)] : List Value).toArray below meth c s.heap [] 0 0 (MQ below (roO (some (.int z))) ([.ref (a 0), .int (nI k)] : List Value).toArray s 0 0 (fun _ => False)) (F0 m 24 ls []) := by
    intro n24
    induction n24 with
    | zero =>
      intro k24 v2_24 v3_24 ls hk24 hz  hl
      have hz : z = f_X1_winnerOf_l24x G k v2_24 v3_24 := hz
      refine lv_iload hx hb dX1_winnerOf_24 (lv_at hl 4 rfl) ?_
      refine lv_aload_n hx hb dX1_winnerOf_26 rfl (lv_at hl 0 rfl) ?_
      refine va_get (D := D) (ci := 4) (v := .int (nI (gP G))) (C := RX1) (T := TX1) (N := 16) hx hb hts hinX1 hown hK hP 0 rfl rfl 2 (by decide) (hts (.fieldLink RX1 19 "BridgeAuction$Game" "players" "I") (by decide +kernel)) (fun _ h9 => h9) rfl dX1_winnerOf_27 ?_
      refine lv_icmp_ge (tgt := 61) hx hb dX1_winnerOf_30 (by decide) (fun c_30 => ?_) (fun c_30 => absurd (nI_le (by omega) (by omega)) c_30)
      refine lv_iload_n hx hb dX1_winnerOf_61 rfl (lv_at hl 2 rfl) ?_
      exact ro_ret hx hb hr hz dX1_winnerOf_62 hlocks
    | succ n24 ih24 =>
      intro k24 v2_24 v3_24 ls hk24 hz24  hl
      obtain ⟨z24, hz⟩ : ∃ zz_, zz_ = f_X1_winnerOf_l24b G k k24 v2_24 v3_24 := ⟨_, rfl⟩
      have hq24 : z = sE id (fun q_ => lpF (f_X1_winnerOf_l24s G k) (f_X1_winnerOf_l24e G k) n24 (k24 + 1) q_) z24 := by rw [hz24, hz]; rfl
      have J55 : ∀ (v2_55 : Int32) (v3_55 : Int32)  (ls : Array Slot), z24 = f_X1_winnerOf_j55 v2_55 v3_55 → lv_has ls 5 [(0, .ref (a 0)), (1, .int (nI k)), (2, .int v2_55), (3, .int v3_55), (4, .int (nI k24))] → W p l e ({ frames := 2, cells := 0, slots := 0, locals := 43 } : Room) s m ([.ref (a 0), .int (nI k)] : List Value).toArray below meth c s.heap [] 0 0 (MQ below (roO (some (.int z))) ([.ref (a 0), .int (nI k)] : List Value).toArray s 0 0 (fun _ => False)) (F0 m 55 ls []) := by
        intro v2_55 v3_55 ls hz  hl
        refine lv_iinc (v := (nI (k24 + 1))) (lv' := [(4, .int (nI (k24 + 1))), (0, .ref (a 0)), (1, .int (nI k)), (2, .int v2_55), (3, .int v3_55)]) hx hb dX1_winnerOf_55 hl (k := 4) rfl (by exact nI_1 _) (by decide) rfl (fun ls hl => ?_)
        refine lv_goto (tgt := 24) hx hb dX1_winnerOf_58 (by decide) ?_
        exact ih24 (k24 + 1) (v2_55) (v3_55) ls (by omega) (by rw [hq24, hz]; rfl)  (lv_sub hl [1, 2, 3, 4, 0] rfl)
      refine lv_iload hx hb dX1_winnerOf_24 (lv_at hl 4 rfl) ?_
      refine lv_aload_n hx hb dX1_winnerOf_26 rfl (lv_at hl 0 rfl) ?_
      refine va_get (D := D) (ci := 4) (v := .int (nI (gP G))) (C := RX1) (T := TX1) (N := 16) hx hb hts hinX1 hown hK hP 0 rfl rfl 2 (by decide) (hts (.fieldLink RX1 19 "BridgeAuction$Game" "players" "I") (by decide +kernel)) (fun _ h9 => h9) rfl dX1_winnerOf_27 ?_
      refine lv_icmp_ge (tgt := 61) hx hb dX1_winnerOf_30 (by decide) (fun c_30 => absurd c_30 (nI_ge (by omega) (by omega))) (fun c_30 => ?_)
      refine lv_aload_n hx hb dX1_winnerOf_33 rfl (lv_at hl 0 rfl) ?_
      refine lv_iload hx hb dX1_winnerOf_34 (lv_at hl 4 rfl) ?_
      refine lv_iload_n hx hb dX1_winnerOf_36 rfl (lv_at hl 1 rfl) ?_
      refine callRo (va_runV (As := [.int (nI k24), .int (nI k)]) (rest := []) ⟨hx, hb, hml, hown, hts⟩ (c_X1_amountOf l D C a G (k24) (k) hG (by omega) (by omega)) (cwV 2 hts gX1_winnerOf_X1_amountOf rfl rfl rfl (by decide +kernel) ⟨Nat.le_of_ble_eq_true rfl, Nat.le_of_ble_eq_true rfl⟩) (roP_v hP hK hE (va_recv hK hP (ci := 4) (q0 := 0) rfl rfl)) rfl rfl hl.1 rfl (lv_room (Nat.le_of_ble_eq_true rfl)) dX1_winnerOf_37 ⟨Nat.le_refl _, Nat.le_refl _⟩) ?_
      refine lv_iload_n hx hb dX1_winnerOf_40 rfl (lv_at hl 3 rfl) ?_
      refine lv_icmp_le (tgt := 55) hx hb dX1_winnerOf_41 (by decide) (fun c_41 => ?_) (fun c_41 => ?_)
      · have hz := hz.trans (if_pos c_41)
        exact J55 (v2_24) (v3_24) ls hz  (lv_sub hl [0, 1, 2, 3, 4] rfl)
      · have hz := hz.trans (if_neg c_41)
        refine lv_iload hx hb dX1_winnerOf_44 (lv_at hl 4 rfl) ?_
        refine lv_istore_n (lv' := [(2, .int (nI k24)), (0, .ref (a 0)), (1, .int (nI k)), (3, .int v3_24), (4, .int (nI k24))]) hx hb dX1_winnerOf_46 rfl hl (by decide) rfl (fun ls hl => ?_)
        refine lv_aload_n hx hb dX1_winnerOf_47 rfl (lv_at hl 1 rfl) ?_
        refine lv_iload hx hb dX1_winnerOf_48 (lv_at hl 4 rfl) ?_
        refine lv_iload_n hx hb dX1_winnerOf_50 rfl (lv_at hl 2 rfl) ?_
        refine callRo (va_runV (As := [.int (nI k24), .int (nI k)]) (rest := []) ⟨hx, hb, hml, hown, hts⟩ (c_X1_amountOf l D C a G (k24) (k) hG (by omega) (by omega)) (cwV 2 hts gX1_winnerOf_X1_amountOf rfl rfl rfl (by decide +kernel) ⟨Nat.le_of_ble_eq_true rfl, Nat.le_of_ble_eq_true rfl⟩) (roP_v hP hK hE (va_recv hK hP (ci := 4) (q0 := 0) rfl rfl)) rfl rfl hl.1 rfl (lv_room (Nat.le_of_ble_eq_true rfl)) dX1_winnerOf_51 ⟨Nat.le_refl _, Nat.le_refl _⟩) ?_
        refine lv_istore_n (lv' := [(3, .int (f_X1_amountOf G (k24) (k))), (2, .int (nI k24)), (0, .ref (a 0)), (1, .int (nI k)), (4, .int (nI k24))]) hx hb dX1_winnerOf_54 rfl hl (by decide) rfl (fun ls hl => ?_)
        exact J55 ((nI k24)) ((f_X1_amountOf G (k24) (k))) ls hz  (lv_sub hl [2, 3, 1, 0, 4] rfl)
  refine lv_aload_n hx hb dX1_winnerOf_0 rfl (lv_at hl 0 rfl) ?_
  refine va_get (D := D) (ci := 4) (v := .ref (a 7)) (C := RX1) (T := TX1) (N := 16) hx hb hts hinX1 hown hK hP 0 rfl rfl 10 (by decide) (hts (.fieldLink RX1 43 "BridgeAuction$Game" "ferries" "[I") (by decide +kernel)) (fun _ h9 => h9) rfl dX1_winnerOf_1 ?_
  refine lv_iload_n hx hb dX1_winnerOf_4 rfl (lv_at hl 1 rfl) ?_
  refine ialdN (tys := tyA C) hx hb hK hP 7 0 rfl rfl (i := k) (by omega) (by decide) dX1_winnerOf_5 ?_
  refine lv_iconst (v := (-1)) hx hb dX1_winnerOf_6 (by decide) ?_
  refine lv_icmp_eq (tgt := 17) hx hb dX1_winnerOf_7 (by decide) (fun c_7 => ?_) (fun c_7 => ?_)
  · have hz := hz.trans (if_pos c_7)
    refine lv_iconst (v := (-1)) hx hb dX1_winnerOf_17 (by decide) ?_
    refine lv_istore_n (lv' := [(2, .int (-1)), (0, .ref (a 0)), (1, .int (nI k))]) hx hb dX1_winnerOf_18 rfl hl (by decide) rfl (fun ls hl => ?_)
    refine lv_iconst (v := 0) hx hb dX1_winnerOf_19 (by decide) ?_
    refine lv_istore_n (lv' := [(3, .int 0), (2, .int (-1)), (0, .ref (a 0)), (1, .int (nI k))]) hx hb dX1_winnerOf_20 rfl hl (by decide) rfl (fun ls hl => ?_)
    refine lv_iconst (v := 0) hx hb dX1_winnerOf_21 (by decide) ?_
    refine lv_istore (lv' := [(4, .int 0), (3, .int 0), (2, .int (-1)), (0, .ref (a 0)), (1, .int (nI k))]) hx hb dX1_winnerOf_22 hl (by decide) rfl (fun ls hl => ?_)
    exact J24 (gP G) 0 ((-1)) (0) ls (by omega) hz  (lv_sub hl [3, 4, 2, 1, 0] rfl)
  · have hz := hz.trans (if_neg c_7)
    refine lv_aload_n hx hb dX1_winnerOf_10 rfl (lv_at hl 0 rfl) ?_
    refine va_get (D := D) (ci := 4) (v := .ref (a 7)) (C := RX1) (T := TX1) (N := 16) hx hb hts hinX1 hown hK hP 0 rfl rfl 10 (by decide) (hts (.fieldLink RX1 43 "BridgeAuction$Game" "ferries" "[I") (by decide +kernel)) (fun _ h9 => h9) rfl dX1_winnerOf_11 ?_
    refine lv_iload_n hx hb dX1_winnerOf_14 rfl (lv_at hl 1 rfl) ?_
    refine ialdN (tys := tyA C) hx hb hK hP 7 0 rfl rfl (i := k) (by omega) (by decide) dX1_winnerOf_15 ?_
    exact ro_ret hx hb hr hz dX1_winnerOf_16 hlocks

def f_X1_buildsWith_j19  (s0_19 : Bool) : Bool := s0_19
def f_X1_buildsWith (G : GS) (q : Nat) (k : Nat) : Bool := (if (f_X1_reservedBy G (q) (k)) < (f_X1_costOf G (k)) then (f_X1_buildsWith_j19 (false)) else (f_X1_buildsWith_j19 (true)))
set_option maxHeartbeats 4000000 in
set_option maxRecDepth 100000 in
theorem c_X1_buildsWith (l : Launch) (D : va_G) (C : Nat → ClassId) (a : Nat → Nat) (G : GS) (q : Nat) (k : Nat) (hG : GSafe G) (h_q : q < 4) (h_k : k < 12) : Met l yX1_buildsWith wsX1_buildsWith ({ frames := 2, cells := 0, slots := 0, locals := 43 } : Room) (roP [.ref (a 0), .int (nI q), .int (nI k)] D C (gcells C a G)) (roO (some (.int (bI (f_X1_buildsWith G q k))))) 0 0 (fun _ => False) := by
  refine Met.ofW (cc := cX1_buildsWith) (maxL := 3) (ret := (some .boolean)) (by decide) rfl ?_
  intro p e s m args below meth c s₁ B hml hv
  obtain ⟨rfl, hP, hK, hE⟩ := hv
  have hx := B.exec
  have hb := B.bytes
  have hr := B.returns
  have hts := atoms_spec (ws := wsX1_buildsWith) B.pre
  have hown : s.vm.findClass RX1 = some m.cls := findClass_of_methodNamed B.named
  have hlocks := B.notSynchronized
  obtain ⟨hS12, hP4, hlo, hhi⟩ := id hG
  have hl := lv_entry ([.ref (a 0), .int (nI q), .int (nI k)]) (n := 3) (Nat.le_of_ble_eq_true rfl)
  rw [lg_entry_eq]
  generalize (lg_sl ([.ref (a 0), .int (nI q), .int (nI k)]) ++ List.replicate (3 - (lg_sl ([.ref (a 0), .int (nI q), .int (nI k)])).length) Slot.unset).toArray = ls at hl ⊢
  have hl : lv_has ls 3 [(0, .ref (a 0)), (1, .int (nI q)), (2, .int (nI k))] := hl
  obtain ⟨z, hz⟩ : ∃ z, z = f_X1_buildsWith G q k := ⟨_, rfl⟩
  rw [← hz]
  have J19 : ∀ (s0_19 : Bool)  (ls : Array Slot), z = f_X1_buildsWith_j19 s0_19 → lv_has ls 3 [] → W p l e ({ frames := 2, cells := 0, slots := 0, locals := 43 } : Room) s m ([.ref (a 0), .int (nI q), .int (nI k)] : List Value).toArray below meth c s.heap [] 0 0 (MQ below (roO (some (.int (bI z)))) ([.ref (a 0), .int (nI q), .int (nI k)] : List Value).toArray s 0 0 (fun _ => False)) (F0 m 19 ls [.int (bI s0_19)]) := by
    intro s0_19 ls hz  hl
    exact ro_retB hx hb hr (show _ = s0_19 from hz) dX1_buildsWith_19 hlocks
  refine lv_aload_n hx hb dX1_buildsWith_0 rfl (lv_at hl 0 rfl) ?_
  refine lv_iload_n hx hb dX1_buildsWith_1 rfl (lv_at hl 1 rfl) ?_
  refine lv_iload_n hx hb dX1_buildsWith_2 rfl (lv_at hl 2 rfl) ?_
  refine callRo (va_runV (As := [.int (nI q), .int (nI k)]) (rest := []) ⟨hx, hb, hml, hown, hts⟩ (c_X1_reservedBy l D C a G (q) (k) hG (by omega) (by omega)) (cwV 2 hts gX1_buildsWith_X1_reservedBy rfl rfl rfl (by decide +kernel) ⟨Nat.le_of_ble_eq_true rfl, Nat.le_of_ble_eq_true rfl⟩) (roP_v hP hK hE (va_recv hK hP (ci := 4) (q0 := 0) rfl rfl)) rfl rfl hl.1 rfl (lv_room (Nat.le_of_ble_eq_true rfl)) dX1_buildsWith_3 ⟨Nat.le_refl _, Nat.le_refl _⟩) ?_
  refine lv_aload_n hx hb dX1_buildsWith_6 rfl (lv_at hl 0 rfl) ?_
  refine lv_iload_n hx hb dX1_buildsWith_7 rfl (lv_at hl 2 rfl) ?_
  refine callRo (va_runV (As := [.int (nI k)]) (rest := [.int (f_X1_reservedBy G (q) (k))]) ⟨hx, hb, hml, hown, hts⟩ (c_X1_costOf l D C a G (k) hG (by omega)) (cwV 1 hts gX1_buildsWith_X1_costOf rfl rfl rfl (by decide +kernel) ⟨Nat.le_of_ble_eq_true rfl, Nat.le_of_ble_eq_true rfl⟩) (roP_v hP hK hE (va_recv hK hP (ci := 4) (q0 := 0) rfl rfl)) rfl rfl hl.1 rfl (lv_room (Nat.le_of_ble_eq_true rfl)) dX1_buildsWith_8 ⟨Nat.le_refl _, Nat.le_refl _⟩) ?_
  refine lv_icmp_lt (tgt := 18) hx hb dX1_buildsWith_11 (by decide) (fun c_11 => ?_) (fun c_11 => ?_)
  · have hz := hz.trans (if_pos c_11)
    refine lv_iconst (v := 0) hx hb dX1_buildsWith_18 (by decide) ?_
    exact J19 (false) ls hz  (lv_sub hl [] rfl)
  · have hz := hz.trans (if_neg c_11)
    refine lv_iconst (v := 1) hx hb dX1_buildsWith_14 (by decide) ?_
    refine lv_goto (tgt := 19) hx hb dX1_buildsWith_15 (by decide) ?_
    exact J19 (true) ls hz  (lv_sub hl [] rfl)

def f_J6_compare_7cf53_j19  (s0_19 : Int32) : Int32 := s0_19
def f_J6_compare_7cf53 (x : Int32) (y : Int32) : Int32 := (if y ≤ x then (if x = y then (f_J6_compare_7cf53_j19 (0)) else (f_J6_compare_7cf53_j19 (1))) else (f_J6_compare_7cf53_j19 ((-1))))
set_option maxHeartbeats 4000000 in
set_option maxRecDepth 100000 in
theorem c_J6_compare_7cf53 (l : Launch) (D : va_G) (C : Nat → ClassId) (x : Int32) (y : Int32) : Met l yJ6_compare_7cf53 wsJ6_compare_7cf53 ({ frames := 0, cells := 0, slots := 0, locals := 0 } : Room) (roP [.int x, .int y] D C ([] : va_W)) (roO (some (.int (f_J6_compare_7cf53 x y)))) 0 0 (fun _ => False) := by
  refine Met.ofW (cc := cJ6_compare_7cf53) (maxL := 2) (ret := (some .int)) (by decide) rfl ?_
  intro p e s m args below meth c s₁ B hml hv
  obtain ⟨rfl, hP, hK, hE⟩ := hv
  have hx := B.exec
  have hb := B.bytes
  have hr := B.returns
  have hts := atoms_spec (ws := wsJ6_compare_7cf53) B.pre
  have hown : s.vm.findClass RJ6 = some m.cls := findClass_of_methodNamed B.named
  have hlocks := B.notSynchronized
  have hl := lv_entry ([.int x, .int y]) (n := 2) (Nat.le_of_ble_eq_true rfl)
  rw [lg_entry_eq]
  generalize (lg_sl ([.int x, .int y]) ++ List.replicate (2 - (lg_sl ([.int x, .int y])).length) Slot.unset).toArray = ls at hl ⊢
  have hl : lv_has ls 2 [(0, .int x), (1, .int y)] := hl
  obtain ⟨z, hz⟩ : ∃ z, z = f_J6_compare_7cf53 x y := ⟨_, rfl⟩
  rw [← hz]
  have J19 : ∀ (s0_19 : Int32)  (ls : Array Slot), z = f_J6_compare_7cf53_j19 s0_19 → lv_has ls 2 [] → W p l e ({ frames := 0, cells := 0, slots := 0, locals := 0 } : Room) s m ([.int x, .int y] : List Value).toArray below meth c s.heap [] 0 0 (MQ below (roO (some (.int z))) ([.int x, .int y] : List Value).toArray s 0 0 (fun _ => False)) (F0 m 19 ls [.int s0_19]) := by
    intro s0_19 ls hz  hl
    exact ro_ret hx hb hr hz dJ6_compare_7cf53_19 hlocks
  refine lv_iload_n hx hb dJ6_compare_7cf53_0 rfl (lv_at hl 0 rfl) ?_
  refine lv_iload_n hx hb dJ6_compare_7cf53_1 rfl (lv_at hl 1 rfl) ?_
  refine lv_icmp_ge (tgt := 9) hx hb dJ6_compare_7cf53_2 (by decide) (fun c_2 => ?_) (fun c_2 => ?_)
  · have hz := hz.trans (if_pos c_2)
    refine lv_iload_n hx hb dJ6_compare_7cf53_9 rfl (lv_at hl 0 rfl) ?_
    refine lv_iload_n hx hb dJ6_compare_7cf53_10 rfl (lv_at hl 1 rfl) ?_
    refine lv_icmp_ne (tgt := 18) hx hb dJ6_compare_7cf53_11 (by decide) (fun c_11 => ?_) (fun c_11 => ?_)
    · have hz := hz.trans (if_neg c_11)
      refine lv_iconst (v := 1) hx hb dJ6_compare_7cf53_18 (by decide) ?_
      exact J19 (1) ls hz  (lv_sub hl [] rfl)
    · have hz := hz.trans (if_pos c_11)
      refine lv_iconst (v := 0) hx hb dJ6_compare_7cf53_14 (by decide) ?_
      refine lv_goto (tgt := 19) hx hb dJ6_compare_7cf53_15 (by decide) ?_
      exact J19 (0) ls hz  (lv_sub hl [] rfl)
  · have hz := hz.trans (if_neg c_2)
    refine lv_iconst (v := (-1)) hx hb dJ6_compare_7cf53_5 (by decide) ?_
    refine lv_goto (tgt := 19) hx hb dJ6_compare_7cf53_6 (by decide) ?_
    exact J19 ((-1)) ls hz  (lv_sub hl [] rfl)

def f_X1_isAhead_j73  (s0_73 : Bool) : Bool := s0_73
def f_X1_isAhead_j27  (s0_27 : Bool) : Bool := s0_27
def f_X1_isAhead (G : GS) (i : Nat) (j : Nat) : Bool := (if (f_J6_compare_7cf53 ((f_X1_scoreOf G ((nI i)))) ((f_X1_scoreOf G ((nI j))))) = 0 then (if (f_J6_compare_7cf53 (((gMon G) i)) (((gMon G) j))) = 0 then (if (nI j) ≤ (nI i) then (f_X1_isAhead_j73 (false)) else (f_X1_isAhead_j73 (true))) else (if (f_J6_compare_7cf53 (((gMon G) i)) (((gMon G) j))) ≤ 0 then (f_X1_isAhead_j73 (false)) else (f_X1_isAhead_j73 (true)))) else (if (f_J6_compare_7cf53 ((f_X1_scoreOf G ((nI i)))) ((f_X1_scoreOf G ((nI j))))) ≤ 0 then (f_X1_isAhead_j27 (false)) else (f_X1_isAhead_j27 (true))))
set_option maxHeartbeats 4000000 in
set_option maxRecDepth 100000 in
theorem c_X1_isAhead (l : Launch) (D : va_G) (C : Nat → ClassId) (a : Nat → Nat) (G : GS) (i : Nat) (j : Nat) (hG : GSafe G) (h_i : i < 4) (h_j : j < 4) : Met l yX1_isAhead wsX1_isAhead ({ frames := 1, cells := 0, slots := 0, locals := 23 } : Room) (roP [.ref (a 0), .int (nI i), .int (nI j)] D C (gcells C a G)) (roO (some (.int (bI (f_X1_isAhead G i j))))) 0 0 (fun _ => False) := by
  refine Met.ofW (cc := cX1_isAhead) (maxL := 5) (ret := (some .boolean)) (by decide) rfl ?_
  intro p e s m args below meth c s₁ B hml hv
  obtain ⟨rfl, hP, hK, hE⟩ := hv
  have hx := B.exec
  have hb := B.bytes
  have hr := B.returns
  have hts := atoms_spec (ws := wsX1_isAhead) B.pre
  have hown : s.vm.findClass RX1 = some m.cls := findClass_of_methodNamed B.named
  have hlocks := B.notSynchronized
  obtain ⟨hS12, hP4, hlo, hhi⟩ := id hG
  have hinX1 : ∀ w ∈ u_ws RX1 TX1 16, w ∈ wsX1_isAhead := by decide +kernel
  have hl := lv_entry ([.ref (a 0), .int (nI i), .int (nI j)]) (n := 5) (Nat.le_of_ble_eq_true rfl)
  rw [lg_entry_eq]
  generalize (lg_sl ([.ref (a 0), .int (nI i), .int (nI j)]) ++ List.replicate (5 - (lg_sl ([.ref (a 0), .int (nI i), .int (nI j)])).length) Slot.unset).toArray = ls at hl ⊢
  have hl : lv_has ls 5 [(0, .ref (a 0)), (1, .int (nI i)), (2, .int (nI j))] := hl
  obtain ⟨z, hz⟩ : ∃ z, z = f_X1_isAhead G i j := ⟨_, rfl⟩
  rw [← hz]
  have J73 : ∀ (s0_73 : Bool)  (ls : Array Slot), z = f_X1_isAhead_j73 s0_73 → lv_has ls 5 [] → W p l e ({ frames := 1, cells := 0, slots := 0, locals := 23 } : Room) s m ([.ref (a 0), .int (nI i), .int (nI j)] : List Value).toArray below meth c s.heap [] 0 0 (MQ below (roO (some (.int (bI z)))) ([.ref (a 0), .int (nI i), .int (nI j)] : List Value).toArray s 0 0 (fun _ => False)) (F0 m 73 ls [.int (bI s0_73)]) := by
    intro s0_73 ls hz  hl
    exact ro_retB hx hb hr (show _ = s0_73 from hz) dX1_isAhead_73 hlocks
  have J27 : ∀ (s0_27 : Bool)  (ls : Array Slot), z = f_X1_isAhead_j27 s0_27 → lv_has ls 5 [] → W p l e ({ frames := 1, cells := 0, slots := 0, locals := 23 } : Room) s m ([.ref (a 0), .int (nI i), .int (nI j)] : List Value).toArray below meth c s.heap [] 0 0 (MQ below (roO (some (.int (bI z)))) ([.ref (a 0), .int (nI i), .int (nI j)] : List Value).toArray s 0 0 (fun _ => False)) (F0 m 27 ls [.int (bI s0_27)]) := by
    intro s0_27 ls hz  hl
    exact ro_retB hx hb hr (show _ = s0_27 from hz) dX1_isAhead_27 hlocks
  refine lv_aload_n hx hb dX1_isAhead_0 rfl (lv_at hl 0 rfl) ?_
  refine lv_iload_n hx hb dX1_isAhead_1 rfl (lv_at hl 1 rfl) ?_
  refine callRo (va_runV (As := [.int (nI i)]) (rest := []) ⟨hx, hb, hml, hown, hts⟩ (c_X1_scoreOf l D C a G ((nI i)) hG) (cwV 1 hts gX1_isAhead_X1_scoreOf rfl rfl rfl (by decide +kernel) ⟨Nat.le_of_ble_eq_true rfl, Nat.le_of_ble_eq_true rfl⟩) (roP_v hP hK hE (va_recv hK hP (ci := 4) (q0 := 0) rfl rfl)) rfl rfl hl.1 rfl (lv_room (Nat.le_of_ble_eq_true rfl)) dX1_isAhead_2 ⟨Nat.le_refl _, Nat.le_refl _⟩) ?_
  refine lv_aload_n hx hb dX1_isAhead_5 rfl (lv_at hl 0 rfl) ?_
  refine lv_iload_n hx hb dX1_isAhead_6 rfl (lv_at hl 2 rfl) ?_
  refine callRo (va_runV (As := [.int (nI j)]) (rest := [.int (f_X1_scoreOf G ((nI i)))]) ⟨hx, hb, hml, hown, hts⟩ (c_X1_scoreOf l D C a G ((nI j)) hG) (cwV 1 hts gX1_isAhead_X1_scoreOf rfl rfl rfl (by decide +kernel) ⟨Nat.le_of_ble_eq_true rfl, Nat.le_of_ble_eq_true rfl⟩) (roP_v hP hK hE (va_recv hK hP (ci := 4) (q0 := 0) rfl rfl)) rfl rfl hl.1 rfl (lv_room (Nat.le_of_ble_eq_true rfl)) dX1_isAhead_7 ⟨Nat.le_refl _, Nat.le_refl _⟩) ?_
  refine callRo (va_runS (As := [.int (f_X1_scoreOf G ((nI i))), .int (f_X1_scoreOf G ((nI j)))]) (rest := []) ⟨hx, hb, hml, hown, hts⟩ (c_J6_compare_7cf53 l D C ((f_X1_scoreOf G ((nI i)))) ((f_X1_scoreOf G ((nI j))))) (va_cwS 2 hts gX1_isAhead_J6_compare_7cf53 rfl rfl rfl (by decide +kernel) ⟨Nat.le_of_ble_eq_true rfl, Nat.le_of_ble_eq_true rfl⟩) (roP_s (hP.sub (ws' := ([] : va_W)) [] rfl) hK hE) rfl rfl hl.1 rfl (lv_room (Nat.le_of_ble_eq_true rfl)) dX1_isAhead_10 ⟨Nat.le_refl _, Nat.le_refl _⟩) ?_
  refine lv_istore_n (lv' := [(3, .int (f_J6_compare_7cf53 ((f_X1_scoreOf G ((nI i)))) ((f_X1_scoreOf G ((nI j)))))), (0, .ref (a 0)), (1, .int (nI i)), (2, .int (nI j))]) hx hb dX1_isAhead_13 rfl hl (by decide) rfl (fun ls hl => ?_)
  refine lv_iload_n hx hb dX1_isAhead_14 rfl (lv_at hl 0 rfl) ?_
  refine lv_if_eq (tgt := 28) hx hb dX1_isAhead_15 (by decide) (fun c_15 => ?_) (fun c_15 => ?_)
  · have hz := hz.trans (if_pos c_15)
    refine lv_aload_n hx hb dX1_isAhead_28 rfl (lv_at hl 1 rfl) ?_
    refine va_get (D := D) (ci := 4) (v := .ref (a 2)) (C := RX1) (T := TX1) (N := 16) hx hb hts hinX1 hown hK hP 0 rfl rfl 3 (by decide) (hts (.fieldLink RX1 22 "BridgeAuction$Game" "moneys" "[I") (by decide +kernel)) (fun _ h9 => h9) rfl dX1_isAhead_29 ?_
    refine lv_iload_n hx hb dX1_isAhead_32 rfl (lv_at hl 2 rfl) ?_
    refine ialdN (tys := tyA C) hx hb hK hP 2 0 rfl rfl (i := i) (by omega) (by decide) dX1_isAhead_33 ?_
    refine lv_aload_n hx hb dX1_isAhead_34 rfl (lv_at hl 1 rfl) ?_
    refine va_get (D := D) (ci := 4) (v := .ref (a 2)) (C := RX1) (T := TX1) (N := 16) hx hb hts hinX1 hown hK hP 0 rfl rfl 3 (by decide) (hts (.fieldLink RX1 22 "BridgeAuction$Game" "moneys" "[I") (by decide +kernel)) (fun _ h9 => h9) rfl dX1_isAhead_35 ?_
    refine lv_iload_n hx hb dX1_isAhead_38 rfl (lv_at hl 3 rfl) ?_
    refine ialdN (tys := tyA C) hx hb hK hP 2 0 rfl rfl (i := j) (by omega) (by decide) dX1_isAhead_39 ?_
    refine callRo (va_runS (As := [.int ((gMon G) i), .int ((gMon G) j)]) (rest := []) ⟨hx, hb, hml, hown, hts⟩ (c_J6_compare_7cf53 l D C (((gMon G) i)) (((gMon G) j))) (va_cwS 2 hts gX1_isAhead_J6_compare_7cf53 rfl rfl rfl (by decide +kernel) ⟨Nat.le_of_ble_eq_true rfl, Nat.le_of_ble_eq_true rfl⟩) (roP_s (hP.sub (ws' := ([] : va_W)) [] rfl) hK hE) rfl rfl hl.1 rfl (lv_room (Nat.le_of_ble_eq_true rfl)) dX1_isAhead_40 ⟨Nat.le_refl _, Nat.le_refl _⟩) ?_
    refine lv_istore (lv' := [(4, .int (f_J6_compare_7cf53 (((gMon G) i)) (((gMon G) j)))), (3, .int (f_J6_compare_7cf53 ((f_X1_scoreOf G ((nI i)))) ((f_X1_scoreOf G ((nI j)))))), (0, .ref (a 0)), (1, .int (nI i)), (2, .int (nI j))]) hx hb dX1_isAhead_43 hl (by decide) rfl (fun ls hl => ?_)
    refine lv_iload hx hb dX1_isAhead_45 (lv_at hl 0 rfl) ?_
    refine lv_if_eq (tgt := 63) hx hb dX1_isAhead_47 (by decide) (fun c_47 => ?_) (fun c_47 => ?_)
    · have hz := hz.trans (if_pos c_47)
      refine lv_iload_n hx hb dX1_isAhead_63 rfl (lv_at hl 3 rfl) ?_
      refine lv_iload_n hx hb dX1_isAhead_64 rfl (lv_at hl 4 rfl) ?_
      refine lv_icmp_ge (tgt := 72) hx hb dX1_isAhead_65 (by decide) (fun c_65 => ?_) (fun c_65 => ?_)
      · have hz := hz.trans (if_pos c_65)
        refine lv_iconst (v := 0) hx hb dX1_isAhead_72 (by decide) ?_
        exact J73 (false) ls hz  (lv_sub hl [] rfl)
      · have hz := hz.trans (if_neg c_65)
        refine lv_iconst (v := 1) hx hb dX1_isAhead_68 (by decide) ?_
        refine lv_goto (tgt := 73) hx hb dX1_isAhead_69 (by decide) ?_
        exact J73 (true) ls hz  (lv_sub hl [] rfl)
    · have hz := hz.trans (if_neg c_47)
      refine lv_iload hx hb dX1_isAhead_50 (lv_at hl 0 rfl) ?_
      refine lv_if_le (tgt := 59) hx hb dX1_isAhead_52 (by decide) (fun c_52 => ?_) (fun c_52 => ?_)
      · have hz := hz.trans (if_pos c_52)
        refine lv_iconst (v := 0) hx hb dX1_isAhead_59 (by decide) ?_
        refine lv_goto (tgt := 73) hx hb dX1_isAhead_60 (by decide) ?_
        exact J73 (false) ls hz  (lv_sub hl [] rfl)
      · have hz := hz.trans (if_neg c_52)
        refine lv_iconst (v := 1) hx hb dX1_isAhead_55 (by decide) ?_
        refine lv_goto (tgt := 73) hx hb dX1_isAhead_56 (by decide) ?_
        exact J73 (true) ls hz  (lv_sub hl [] rfl)
  · have hz := hz.trans (if_neg c_15)
    refine lv_iload_n hx hb dX1_isAhead_18 rfl (lv_at hl 0 rfl) ?_
    refine lv_if_le (tgt := 26) hx hb dX1_isAhead_19 (by decide) (fun c_19 => ?_) (fun c_19 => ?_)
    · have hz := hz.trans (if_pos c_19)
      refine lv_iconst (v := 0) hx hb dX1_isAhead_26 (by decide) ?_
      exact J27 (false) ls hz  (lv_sub hl [] rfl)
    · have hz := hz.trans (if_neg c_19)
      refine lv_iconst (v := 1) hx hb dX1_isAhead_22 (by decide) ?_
      refine lv_goto (tgt := 27) hx hb dX1_isAhead_23 (by decide) ?_
      exact J27 (true) ls hz  (lv_sub hl [] rfl)

def f_X1_rankOf_j27  (s0_27 : Bool) (s1_27 : Int32) : Sum (Int32) (Int32) := (Sum.inr (s1_27 + (bI s0_27)))
def f_X1_rankOf_l4b (G : GS) (q : Nat) (k4 : Nat) (v2_4 : Int32) : Sum (Int32) (Int32) := (if (f_X1_isAhead G (k4) (q)) = true then (f_X1_rankOf_j27 (true) (v2_4)) else (f_X1_rankOf_j27 (false) (v2_4)))
def f_X1_rankOf_l4x (G : GS) (q : Nat) (v2_4 : Int32) : Int32 := v2_4
def f_X1_rankOf_l4s (G : GS) (q : Nat) (k4 : Nat) (q_ : Int32) : Sum (Int32) (Int32) := f_X1_rankOf_l4b G q k4 (q_)
def f_X1_rankOf_l4e (G : GS) (q : Nat) (q_ : Int32) : Int32 := f_X1_rankOf_l4x G q (q_)
def f_X1_rankOf_l4 (G : GS) (q : Nat) (n4 k4 : Nat) (v2_4 : Int32) : Int32 := lpF (f_X1_rankOf_l4s G q) (f_X1_rankOf_l4e G q) n4 k4 v2_4
def f_X1_rankOf (G : GS) (q : Nat) : Int32 := (f_X1_rankOf_l4 G q (gP G) 0 (0))
set_option maxHeartbeats 4000000 in
set_option maxRecDepth 100000 in
theorem c_X1_rankOf (l : Launch) (D : va_G) (C : Nat → ClassId) (a : Nat → Nat) (G : GS) (q : Nat) (hG : GSafe G) (h_q : q < 4) : Met l yX1_rankOf wsX1_rankOf ({ frames := 2, cells := 0, slots := 0, locals := 47 } : Room) (roP [.ref (a 0), .int (nI q)] D C (gcells C a G)) (roO (some (.int (f_X1_rankOf G q)))) 0 0 (fun _ => False) := by
  refine Met.ofW (cc := cX1_rankOf) (maxL := 4) (ret := (some .int)) (by decide) rfl ?_
  intro p e s m args below meth c s₁ B hml hv
  obtain ⟨rfl, hP, hK, hE⟩ := hv
  have hx := B.exec
  have hb := B.bytes
  have hr := B.returns
  have hts := atoms_spec (ws := wsX1_rankOf) B.pre
  have hown : s.vm.findClass RX1 = some m.cls := findClass_of_methodNamed B.named
  have hlocks := B.notSynchronized
  obtain ⟨hS12, hP4, hlo, hhi⟩ := id hG
  have hinX1 : ∀ w ∈ u_ws RX1 TX1 16, w ∈ wsX1_rankOf := by decide +kernel
  have hl := lv_entry ([.ref (a 0), .int (nI q)]) (n := 4) (Nat.le_of_ble_eq_true rfl)
  rw [lg_entry_eq]
  generalize (lg_sl ([.ref (a 0), .int (nI q)]) ++ List.replicate (4 - (lg_sl ([.ref (a 0), .int (nI q)])).length) Slot.unset).toArray = ls at hl ⊢
  have hl : lv_has ls 4 [(0, .ref (a 0)), (1, .int (nI q))] := hl
  obtain ⟨z, hz⟩ : ∃ z, z = f_X1_rankOf G q := ⟨_, rfl⟩
  rw [← hz]
  have J4 : ∀ (n4 k4 : Nat) (v2_4 : Int32) (ls : Array Slot), k4 + n4 = gP G → z = f_X1_rankOf_l4 G q n4 k4 v2_4 → lv_has ls 4 [(0, .ref (a 0)), (1, .int (nI q)), (2, .int v2_4), (3, .int (nI k4))] → W p l e ({ frames := 2, cells := 0, slots := 0, locals := 47 } : Room) s m ([.ref (a 0), .int (nI q)] : List Value).toArray below meth c s.heap [] 0 0 (MQ below (roO (some (.int z))) ([.ref (a 0), .int (nI q)] : List Value).toArray s 0 0 (fun _ => False)) (F0 m 4 ls []) := by
    intro n4
    induction n4 with
    | zero =>
      intro k4 v2_4 ls hk4 hz  hl
      have hz : z = f_X1_rankOf_l4x G q v2_4 := hz
      refine lv_iload_n hx hb dX1_rankOf_4 rfl (lv_at hl 3 rfl) ?_
      refine lv_aload_n hx hb dX1_rankOf_5 rfl (lv_at hl 0 rfl) ?_
      refine va_get (D := D) (ci := 4) (v := .int (nI (gP G))) (C := RX1) (T := TX1) (N := 16) hx hb hts hinX1 hown hK hP 0 rfl rfl 2 (by decide) (hts (.fieldLink RX1 19 "BridgeAuction$Game" "players" "I") (by decide +kernel)) (fun _ h9 => h9) rfl dX1_rankOf_6 ?_
      refine lv_icmp_ge (tgt := 35) hx hb dX1_rankOf_9 (by decide) (fun c_9 => ?_) (fun c_9 => absurd (nI_le (by omega) (by omega)) c_9)
      refine lv_iload_n hx hb dX1_rankOf_35 rfl (lv_at hl 2 rfl) ?_
      exact ro_ret hx hb hr hz dX1_rankOf_36 hlocks
    | succ n4 ih4 =>
      intro k4 v2_4 ls hk4 hz4  hl
      obtain ⟨z4, hz⟩ : ∃ zz_, zz_ = f_X1_rankOf_l4b G q k4 v2_4 := ⟨_, rfl⟩
      have hq4 : z = sE id (fun q_ => lpF (f_X1_rankOf_l4s G q) (f_X1_rankOf_l4e G q) n4 (k4 + 1) q_) z4 := by rw [hz4, hz]; rfl
      have J27 : ∀ (s0_27 : Bool) (s1_27 : Int32)  (ls : Array Slot), z4 = f_X1_rankOf_j27 s0_27 s1_27 → lv_has ls 4 [(0, .ref (a 0)), (1, .int (nI q)), (3, .int (nI k4))] → W p l e ({ frames := 2, cells := 0, slots := 0, locals := 47 } : Room) s m ([.ref (a 0), .int (nI q)] : List Value).toArray below meth c s.heap [] 0 0 (MQ below (roO (some (.int z))) ([.ref (a 0), .int (nI q)] : List Value).toArray s 0 0 (fun _ => False)) (F0 m 27 ls [.int (bI s0_27), .int s1_27]) := by
        intro s0_27 s1_27 ls hz  hl
        refine lv_iadd hx hb dX1_rankOf_27 ?_
        refine lv_istore_n (lv' := [(2, .int (s1_27 + (bI s0_27))), (0, .ref (a 0)), (1, .int (nI q)), (3, .int (nI k4))]) hx hb dX1_rankOf_28 rfl hl (by decide) rfl (fun ls hl => ?_)
        refine lv_iinc (v := (nI (k4 + 1))) (lv' := [(3, .int (nI (k4 + 1))), (2, .int (s1_27 + (bI s0_27))), (0, .ref (a 0)), (1, .int (nI q))]) hx hb dX1_rankOf_29 hl (k := 3) rfl (by exact nI_1 _) (by decide) rfl (fun ls hl => ?_)
        refine lv_goto (tgt := 4) hx hb dX1_rankOf_32 (by decide) ?_
        exact ih4 (k4 + 1) ((s1_27 + (bI s0_27))) ls (by omega) (by rw [hq4, hz]; rfl)  (lv_sub hl [2, 3, 1, 0] rfl)
      refine lv_iload_n hx hb dX1_rankOf_4 rfl (lv_at hl 3 rfl) ?_
      refine lv_aload_n hx hb dX1_rankOf_5 rfl (lv_at hl 0 rfl) ?_
      refine va_get (D := D) (ci := 4) (v := .int (nI (gP G))) (C := RX1) (T := TX1) (N := 16) hx hb hts hinX1 hown hK hP 0 rfl rfl 2 (by decide) (hts (.fieldLink RX1 19 "BridgeAuction$Game" "players" "I") (by decide +kernel)) (fun _ h9 => h9) rfl dX1_rankOf_6 ?_
      refine lv_icmp_ge (tgt := 35) hx hb dX1_rankOf_9 (by decide) (fun c_9 => absurd c_9 (nI_ge (by omega) (by omega))) (fun c_9 => ?_)
      refine lv_iload_n hx hb dX1_rankOf_12 rfl (lv_at hl 2 rfl) ?_
      refine lv_aload_n hx hb dX1_rankOf_13 rfl (lv_at hl 0 rfl) ?_
      refine lv_iload_n hx hb dX1_rankOf_14 rfl (lv_at hl 3 rfl) ?_
      refine lv_iload_n hx hb dX1_rankOf_15 rfl (lv_at hl 1 rfl) ?_
      refine callRo (va_runV (As := [.int (nI k4), .int (nI q)]) (rest := [.int v2_4]) ⟨hx, hb, hml, hown, hts⟩ (c_X1_isAhead l D C a G (k4) (q) hG (by omega) (by omega)) (cwV 2 hts gX1_rankOf_X1_isAhead rfl rfl rfl (by decide +kernel) ⟨Nat.le_of_ble_eq_true rfl, Nat.le_of_ble_eq_true rfl⟩) (roP_v hP hK hE (va_recv hK hP (ci := 4) (q0 := 0) rfl rfl)) rfl rfl hl.1 rfl (lv_room (Nat.le_of_ble_eq_true rfl)) dX1_rankOf_16 ⟨Nat.le_refl _, Nat.le_refl _⟩) ?_
      refine bif_eq (tgt := 26) hx hb dX1_rankOf_19 (by decide) (fun c_19 => ?_) (fun c_19 => ?_)
      · have hz := hz.trans (ifB_f c_19)
        refine lv_iconst (v := 0) hx hb dX1_rankOf_26 (by decide) ?_
        exact J27 (false) (v2_4) ls hz  (lv_sub hl [0, 1, 3] rfl)
      · have hz := hz.trans (ifB_t c_19)
        refine lv_iconst (v := 1) hx hb dX1_rankOf_22 (by decide) ?_
        refine lv_goto (tgt := 27) hx hb dX1_rankOf_23 (by decide) ?_
        exact J27 (true) (v2_4) ls hz  (lv_sub hl [0, 1, 3] rfl)
  refine lv_iconst (v := 0) hx hb dX1_rankOf_0 (by decide) ?_
  refine lv_istore_n (lv' := [(2, .int 0), (0, .ref (a 0)), (1, .int (nI q))]) hx hb dX1_rankOf_1 rfl hl (by decide) rfl (fun ls hl => ?_)
  refine lv_iconst (v := 0) hx hb dX1_rankOf_2 (by decide) ?_
  refine lv_istore_n (lv' := [(3, .int 0), (2, .int 0), (0, .ref (a 0)), (1, .int (nI q))]) hx hb dX1_rankOf_3 rfl hl (by decide) rfl (fun ls hl => ?_)
  exact J4 (gP G) 0 (0) ls (by omega) hz  (lv_sub hl [2, 3, 1, 0] rfl)

def f_X1_playerAtRank_l2b (G : GS) (x : Int32) (k2 : Nat) : Sum (Int32) (Unit) := (if (f_X1_rankOf G (k2)) = x then (Sum.inl (nI k2)) else (Sum.inr ()))
def f_X1_playerAtRank_l2x (G : GS) (x : Int32) : Int32 := (-1)
def f_X1_playerAtRank_l2s (G : GS) (x : Int32) (k2 : Nat) (q_ : Unit) : Sum (Int32) (Unit) := f_X1_playerAtRank_l2b G x k2 
def f_X1_playerAtRank_l2e (G : GS) (x : Int32) (q_ : Unit) : Int32 := f_X1_playerAtRank_l2x G x 
def f_X1_playerAtRank_l2 (G : GS) (x : Int32) (n2 k2 : Nat) : Int32 := lpF (f_X1_playerAtRank_l2s G x) (f_X1_playerAtRank_l2e G x) n2 k2 ()
def f_X1_playerAtRank (G : GS) (x : Int32) : Int32 := (f_X1_playerAtRank_l2 G x (gP G) 0)
set_option maxHeartbeats 4000000 in
set_option maxRecDepth 100000 in
theorem c_X1_playerAtRank (l : Launch) (D : va_G) (C : Nat → ClassId) (a : Nat → Nat) (G : GS) (x : Int32) (hG : GSafe G) : Met l yX1_playerAtRank wsX1_playerAtRank ({ frames := 3, cells := 0, slots := 0, locals := 70 } : Room) (roP [.ref (a 0), .int x] D C (gcells C a G)) (roO (some (.int (f_X1_playerAtRank G x)))) 0 0 (fun _ => False) := by
  refine Met.ofW (cc := cX1_playerAtRank) (maxL := 3) (ret := (some .int)) (by decide) rfl ?_
  intro p e s m args below meth c s₁ B hml hv
  obtain ⟨rfl, hP, hK, hE⟩ := hv
  have hx := B.exec
  have hb := B.bytes
  have hr := B.returns
  have hts := atoms_spec (ws := wsX1_playerAtRank) B.pre
  have hown : s.vm.findClass RX1 = some m.cls := findClass_of_methodNamed B.named
  have hlocks := B.notSynchronized
  obtain ⟨hS12, hP4, hlo, hhi⟩ := id hG
  have hinX1 : ∀ w ∈ u_ws RX1 TX1 16, w ∈ wsX1_playerAtRank := by decide +kernel
  have hl := lv_entry ([.ref (a 0), .int x]) (n := 3) (Nat.le_of_ble_eq_true rfl)
  rw [lg_entry_eq]
  generalize (lg_sl ([.ref (a 0), .int x]) ++ List.replicate (3 - (lg_sl ([.ref (a 0), .int x])).length) Slot.unset).toArray = ls at hl ⊢
  have hl : lv_has ls 3 [(0, .ref (a 0)), (1, .int x)] := hl
  obtain ⟨z, hz⟩ : ∃ z, z = f_X1_playerAtRank G x := ⟨_, rfl⟩
  rw [← hz]
  have J2 : ∀ (n2 k2 : Nat) (ls : Array Slot), k2 + n2 = gP G → z = f_X1_playerAtRank_l2 G x n2 k2  → lv_has ls 3 [(0, .ref (a 0)), (1, .int x), (2, .int (nI k2))] → W p l e ({ frames := 3, cells := 0, slots := 0, locals := 70 } : Room) s m ([.ref (a 0), .int x] : List Value).toArray below meth c s.heap [] 0 0 (MQ below (roO (some (.int z))) ([.ref (a 0), .int x] : List Value).toArray s 0 0 (fun _ => False)) (F0 m 2 ls []) := by
    intro n2
    induction n2 with
    | zero =>
      intro k2  ls hk2 hz  hl
      have hz : z = f_X1_playerAtRank_l2x G x  := hz
      refine lv_iload_n hx hb dX1_playerAtRank_2 rfl (lv_at hl 2 rfl) ?_
      refine lv_aload_n hx hb dX1_playerAtRank_3 rfl (lv_at hl 0 rfl) ?_
      refine va_get (D := D) (ci := 4) (v := .int (nI (gP G))) (C := RX1) (T := TX1) (N := 16) hx hb hts hinX1 hown hK hP 0 rfl rfl 2 (by decide) (hts (.fieldLink RX1 19 "BridgeAuction$Game" "players" "I") (by decide +kernel)) (fun _ h9 => h9) rfl dX1_playerAtRank_4 ?_
      refine lv_icmp_ge (tgt := 27) hx hb dX1_playerAtRank_7 (by decide) (fun c_7 => ?_) (fun c_7 => absurd (nI_le (by omega) (by omega)) c_7)
      refine lv_iconst (v := (-1)) hx hb dX1_playerAtRank_27 (by decide) ?_
      exact ro_ret hx hb hr hz dX1_playerAtRank_28 hlocks
    | succ n2 ih2 =>
      intro k2  ls hk2 hz2  hl
      obtain ⟨z2, hz⟩ : ∃ zz_, zz_ = f_X1_playerAtRank_l2b G x k2  := ⟨_, rfl⟩
      have hq2 : z = sE id (fun q_ => lpF (f_X1_playerAtRank_l2s G x) (f_X1_playerAtRank_l2e G x) n2 (k2 + 1) q_) z2 := by rw [hz2, hz]; rfl
      refine lv_iload_n hx hb dX1_playerAtRank_2 rfl (lv_at hl 2 rfl) ?_
      refine lv_aload_n hx hb dX1_playerAtRank_3 rfl (lv_at hl 0 rfl) ?_
      refine va_get (D := D) (ci := 4) (v := .int (nI (gP G))) (C := RX1) (T := TX1) (N := 16) hx hb hts hinX1 hown hK hP 0 rfl rfl 2 (by decide) (hts (.fieldLink RX1 19 "BridgeAuction$Game" "players" "I") (by decide +kernel)) (fun _ h9 => h9) rfl dX1_playerAtRank_4 ?_
      refine lv_icmp_ge (tgt := 27) hx hb dX1_playerAtRank_7 (by decide) (fun c_7 => absurd c_7 (nI_ge (by omega) (by omega))) (fun c_7 => ?_)
      refine lv_aload_n hx hb dX1_playerAtRank_10 rfl (lv_at hl 0 rfl) ?_
      refine lv_iload_n hx hb dX1_playerAtRank_11 rfl (lv_at hl 2 rfl) ?_
      refine callRo (va_runV (As := [.int (nI k2)]) (rest := []) ⟨hx, hb, hml, hown, hts⟩ (c_X1_rankOf l D C a G (k2) hG (by omega)) (cwV 1 hts gX1_playerAtRank_X1_rankOf rfl rfl rfl (by decide +kernel) ⟨Nat.le_of_ble_eq_true rfl, Nat.le_of_ble_eq_true rfl⟩) (roP_v hP hK hE (va_recv hK hP (ci := 4) (q0 := 0) rfl rfl)) rfl rfl hl.1 rfl (lv_room (Nat.le_of_ble_eq_true rfl)) dX1_playerAtRank_12 ⟨Nat.le_refl _, Nat.le_refl _⟩) ?_
      refine lv_iload_n hx hb dX1_playerAtRank_15 rfl (lv_at hl 1 rfl) ?_
      refine lv_icmp_ne (tgt := 21) hx hb dX1_playerAtRank_16 (by decide) (fun c_16 => ?_) (fun c_16 => ?_)
      · have hz := hz.trans (if_neg c_16)
        refine lv_iinc (v := (nI (k2 + 1))) (lv' := [(2, .int (nI (k2 + 1))), (0, .ref (a 0)), (1, .int x)]) hx hb dX1_playerAtRank_21 hl (k := 2) rfl (by exact nI_1 _) (by decide) rfl (fun ls hl => ?_)
        refine lv_goto (tgt := 2) hx hb dX1_playerAtRank_24 (by decide) ?_
        exact ih2 (k2 + 1)  ls (by omega) (by rw [hq2, hz]; rfl)  (lv_sub hl [1, 2, 0] rfl)
      · have hz := hz.trans (if_pos c_16)
        refine lv_iload_n hx hb dX1_playerAtRank_19 rfl (lv_at hl 2 rfl) ?_
        have hz := up1 hq2 hz
        exact ro_ret hx hb hr hz dX1_playerAtRank_20 hlocks
  refine lv_iconst (v := 0) hx hb dX1_playerAtRank_0 (by decide) ?_
  refine lv_istore_n (lv' := [(2, .int 0), (0, .ref (a 0)), (1, .int x)]) hx hb dX1_playerAtRank_1 rfl hl (by decide) rfl (fun ls hl => ?_)
  exact J2 (gP G) 0  ls (by omega) hz  (lv_sub hl [1, 2, 0] rfl)

def f_X1_isEveryPlayerSolvent_l2b (G : GS) (k2 : Nat) : Sum (Bool) (Unit) := (if 0 ≤ (f_X1_availableTo G (k2)) then (Sum.inr ()) else (Sum.inl false))
def f_X1_isEveryPlayerSolvent_l2x (G : GS) : Bool := true
def f_X1_isEveryPlayerSolvent_l2s (G : GS) (k2 : Nat) (q_ : Unit) : Sum (Bool) (Unit) := f_X1_isEveryPlayerSolvent_l2b G k2 
def f_X1_isEveryPlayerSolvent_l2e (G : GS) (q_ : Unit) : Bool := f_X1_isEveryPlayerSolvent_l2x G 
def f_X1_isEveryPlayerSolvent_l2 (G : GS) (n2 k2 : Nat) : Bool := lpF (f_X1_isEveryPlayerSolvent_l2s G) (f_X1_isEveryPlayerSolvent_l2e G) n2 k2 ()
def f_X1_isEveryPlayerSolvent (G : GS) : Bool := (f_X1_isEveryPlayerSolvent_l2 G (gP G) 0)
set_option maxHeartbeats 4000000 in
set_option maxRecDepth 100000 in
theorem c_X1_isEveryPlayerSolvent (l : Launch) (D : va_G) (C : Nat → ClassId) (a : Nat → Nat) (G : GS) (hG : GSafe G) : Met l yX1_isEveryPlayerSolvent wsX1_isEveryPlayerSolvent ({ frames := 3, cells := 0, slots := 0, locals := 66 } : Room) (roP [.ref (a 0)] D C (gcells C a G)) (roO (some (.int (bI (f_X1_isEveryPlayerSolvent G))))) 0 0 (fun _ => False) := by
  refine Met.ofW (cc := cX1_isEveryPlayerSolvent) (maxL := 2) (ret := (some .boolean)) (by decide) rfl ?_
  intro p e s m args below meth c s₁ B hml hv
  obtain ⟨rfl, hP, hK, hE⟩ := hv
  have hx := B.exec
  have hb := B.bytes
  have hr := B.returns
  have hts := atoms_spec (ws := wsX1_isEveryPlayerSolvent) B.pre
  have hown : s.vm.findClass RX1 = some m.cls := findClass_of_methodNamed B.named
  have hlocks := B.notSynchronized
  obtain ⟨hS12, hP4, hlo, hhi⟩ := id hG
  have hinX1 : ∀ w ∈ u_ws RX1 TX1 16, w ∈ wsX1_isEveryPlayerSolvent := by decide +kernel
  have hl := lv_entry ([.ref (a 0)]) (n := 2) (Nat.le_of_ble_eq_true rfl)
  rw [lg_entry_eq]
  generalize (lg_sl ([.ref (a 0)]) ++ List.replicate (2 - (lg_sl ([.ref (a 0)])).length) Slot.unset).toArray = ls at hl ⊢
  have hl : lv_has ls 2 [(0, .ref (a 0))] := hl
  obtain ⟨z, hz⟩ : ∃ z, z = f_X1_isEveryPlayerSolvent G := ⟨_, rfl⟩
  rw [← hz]
  have J2 : ∀ (n2 k2 : Nat) (ls : Array Slot), k2 + n2 = gP G → z = f_X1_isEveryPlayerSolvent_l2 G n2 k2  → lv_has ls 2 [(0, .ref (a 0)), (1, .int (nI k2))] → W p l e ({ frames := 3, cells := 0, slots := 0, locals := 66 } : Room) s m ([.ref (a 0)] : List Value).toArray below meth c s.heap [] 0 0 (MQ below (roO (some (.int (bI z)))) ([.ref (a 0)] : List Value).toArray s 0 0 (fun _ => False)) (F0 m 2 ls []) := by
    intro n2
    induction n2 with
    | zero =>
      intro k2  ls hk2 hz  hl
      have hz : z = f_X1_isEveryPlayerSolvent_l2x G  := hz
      refine lv_iload_n hx hb dX1_isEveryPlayerSolvent_2 rfl (lv_at hl 1 rfl) ?_
      refine lv_aload_n hx hb dX1_isEveryPlayerSolvent_3 rfl (lv_at hl 0 rfl) ?_
      refine va_get (D := D) (ci := 4) (v := .int (nI (gP G))) (C := RX1) (T := TX1) (N := 16) hx hb hts hinX1 hown hK hP 0 rfl rfl 2 (by decide) (hts (.fieldLink RX1 19 "BridgeAuction$Game" "players" "I") (by decide +kernel)) (fun _ h9 => h9) rfl dX1_isEveryPlayerSolvent_4 ?_
      refine lv_icmp_ge (tgt := 26) hx hb dX1_isEveryPlayerSolvent_7 (by decide) (fun c_7 => ?_) (fun c_7 => absurd (nI_le (by omega) (by omega)) c_7)
      refine lv_iconst (v := 1) hx hb dX1_isEveryPlayerSolvent_26 (by decide) ?_
      exact ro_retB hx hb hr (show _ = true from hz) dX1_isEveryPlayerSolvent_27 hlocks
    | succ n2 ih2 =>
      intro k2  ls hk2 hz2  hl
      obtain ⟨z2, hz⟩ : ∃ zz_, zz_ = f_X1_isEveryPlayerSolvent_l2b G k2  := ⟨_, rfl⟩
      have hq2 : z = sE id (fun q_ => lpF (f_X1_isEveryPlayerSolvent_l2s G) (f_X1_isEveryPlayerSolvent_l2e G) n2 (k2 + 1) q_) z2 := by rw [hz2, hz]; rfl
      refine lv_iload_n hx hb dX1_isEveryPlayerSolvent_2 rfl (lv_at hl 1 rfl) ?_
      refine lv_aload_n hx hb dX1_isEveryPlayerSolvent_3 rfl (lv_at hl 0 rfl) ?_
      refine va_get (D := D) (ci := 4) (v := .int (nI (gP G))) (C := RX1) (T := TX1) (N := 16) hx hb hts hinX1 hown hK hP 0 rfl rfl 2 (by decide) (hts (.fieldLink RX1 19 "BridgeAuction$Game" "players" "I") (by decide +kernel)) (fun _ h9 => h9) rfl dX1_isEveryPlayerSolvent_4 ?_
      refine lv_icmp_ge (tgt := 26) hx hb dX1_isEveryPlayerSolvent_7 (by decide) (fun c_7 => absurd c_7 (nI_ge (by omega) (by omega))) (fun c_7 => ?_)
      refine lv_aload_n hx hb dX1_isEveryPlayerSolvent_10 rfl (lv_at hl 0 rfl) ?_
      refine lv_iload_n hx hb dX1_isEveryPlayerSolvent_11 rfl (lv_at hl 1 rfl) ?_
      refine callRo (va_runV (As := [.int (nI k2)]) (rest := []) ⟨hx, hb, hml, hown, hts⟩ (c_X1_availableTo l D C a G (k2) hG (by omega)) (cwV 1 hts gX1_isEveryPlayerSolvent_X1_availableTo rfl rfl rfl (by decide +kernel) ⟨Nat.le_of_ble_eq_true rfl, Nat.le_of_ble_eq_true rfl⟩) (roP_v hP hK hE (va_recv hK hP (ci := 4) (q0 := 0) rfl rfl)) rfl rfl hl.1 rfl (lv_room (Nat.le_of_ble_eq_true rfl)) dX1_isEveryPlayerSolvent_12 ⟨Nat.le_refl _, Nat.le_refl _⟩) ?_
      refine lv_if_ge (tgt := 20) hx hb dX1_isEveryPlayerSolvent_15 (by decide) (fun c_15 => ?_) (fun c_15 => ?_)
      · have hz := hz.trans (if_pos c_15)
        refine lv_iinc (v := (nI (k2 + 1))) (lv' := [(1, .int (nI (k2 + 1))), (0, .ref (a 0))]) hx hb dX1_isEveryPlayerSolvent_20 hl (k := 1) rfl (by exact nI_1 _) (by decide) rfl (fun ls hl => ?_)
        refine lv_goto (tgt := 2) hx hb dX1_isEveryPlayerSolvent_23 (by decide) ?_
        exact ih2 (k2 + 1)  ls (by omega) (by rw [hq2, hz]; rfl)  (lv_sub hl [1, 0] rfl)
      · have hz := hz.trans (if_neg c_15)
        refine lv_iconst (v := 0) hx hb dX1_isEveryPlayerSolvent_18 (by decide) ?_
        have hz := up1 hq2 hz
        exact ro_retB hx hb hr (show _ = false from hz) dX1_isEveryPlayerSolvent_19 hlocks
  refine lv_iconst (v := 0) hx hb dX1_isEveryPlayerSolvent_0 (by decide) ?_
  refine lv_istore_n (lv' := [(1, .int 0), (0, .ref (a 0))]) hx hb dX1_isEveryPlayerSolvent_1 rfl hl (by decide) rfl (fun ls hl => ?_)
  exact J2 (gP G) 0  ls (by omega) hz  (lv_sub hl [1, 0] rfl)

def f_X1_isMoneyKept_j43  (s0_43 : Bool) : Bool := s0_43
def f_X1_isMoneyKept_l7b (G : GS) (k7 : Nat) (v1_7 : Int32) : Sum (Bool) (Int32) := (Sum.inr (v1_7 + ((gMon G) k7)))
def f_X1_isMoneyKept_l7x (G : GS) (v1_7 : Int32) : Bool := (if v1_7 = (gIni G) then (f_X1_isMoneyKept_j43 (true)) else (f_X1_isMoneyKept_j43 (false)))
def f_X1_isMoneyKept_l7s (G : GS) (k7 : Nat) (q_ : Int32) : Sum (Bool) (Int32) := f_X1_isMoneyKept_l7b G k7 (q_)
def f_X1_isMoneyKept_l7e (G : GS) (q_ : Int32) : Bool := f_X1_isMoneyKept_l7x G (q_)
def f_X1_isMoneyKept_l7 (G : GS) (n7 k7 : Nat) (v1_7 : Int32) : Bool := lpF (f_X1_isMoneyKept_l7s G) (f_X1_isMoneyKept_l7e G) n7 k7 v1_7
def f_X1_isMoneyKept (G : GS) : Bool := (f_X1_isMoneyKept_l7 G (gP G) 0 ((gBank G)))
set_option maxHeartbeats 4000000 in
set_option maxRecDepth 100000 in
theorem c_X1_isMoneyKept (l : Launch) (D : va_G) (C : Nat → ClassId) (a : Nat → Nat) (G : GS) (hG : GSafe G) : Met l yX1_isMoneyKept wsX1_isMoneyKept ({ frames := 0, cells := 0, slots := 0, locals := 0 } : Room) (roP [.ref (a 0)] D C (gcells C a G)) (roO (some (.int (bI (f_X1_isMoneyKept G))))) 0 0 (fun _ => False) := by
  refine Met.ofW (cc := cX1_isMoneyKept) (maxL := 3) (ret := (some .boolean)) (by decide) rfl ?_
  intro p e s m args below meth c s₁ B hml hv
  obtain ⟨rfl, hP, hK, hE⟩ := hv
  have hx := B.exec
  have hb := B.bytes
  have hr := B.returns
  have hts := atoms_spec (ws := wsX1_isMoneyKept) B.pre
  have hown : s.vm.findClass RX1 = some m.cls := findClass_of_methodNamed B.named
  have hlocks := B.notSynchronized
  obtain ⟨hS12, hP4, hlo, hhi⟩ := id hG
  have hinX1 : ∀ w ∈ u_ws RX1 TX1 16, w ∈ wsX1_isMoneyKept := by decide +kernel
  have hl := lv_entry ([.ref (a 0)]) (n := 3) (Nat.le_of_ble_eq_true rfl)
  rw [lg_entry_eq]
  generalize (lg_sl ([.ref (a 0)]) ++ List.replicate (3 - (lg_sl ([.ref (a 0)])).length) Slot.unset).toArray = ls at hl ⊢
  have hl : lv_has ls 3 [(0, .ref (a 0))] := hl
  obtain ⟨z, hz⟩ : ∃ z, z = f_X1_isMoneyKept G := ⟨_, rfl⟩
  rw [← hz]
  have J43 : ∀ (s0_43 : Bool)  (ls : Array Slot), z = f_X1_isMoneyKept_j43 s0_43 → lv_has ls 3 [] → W p l e ({ frames := 0, cells := 0, slots := 0, locals := 0 } : Room) s m ([.ref (a 0)] : List Value).toArray below meth c s.heap [] 0 0 (MQ below (roO (some (.int (bI z)))) ([.ref (a 0)] : List Value).toArray s 0 0 (fun _ => False)) (F0 m 43 ls [.int (bI s0_43)]) := by
    intro s0_43 ls hz  hl
    exact ro_retB hx hb hr (show _ = s0_43 from hz) dX1_isMoneyKept_43 hlocks
  have J7 : ∀ (n7 k7 : Nat) (v1_7 : Int32) (ls : Array Slot), k7 + n7 = gP G → z = f_X1_isMoneyKept_l7 G n7 k7 v1_7 → lv_has ls 3 [(0, .ref (a 0)), (1, .int v1_7), (2, .int (nI k7))] → W p l e ({ frames := 0, cells := 0, slots := 0, locals := 0 } : Room) s m ([.ref (a 0)] : List Value).toArray below meth c s.heap [] 0 0 (MQ below (roO (some (.int (bI z)))) ([.ref (a 0)] : List Value).toArray s 0 0 (fun _ => False)) (F0 m 7 ls []) := by
    intro n7
    induction n7 with
    | zero =>
      intro k7 v1_7 ls hk7 hz  hl
      have hz : z = f_X1_isMoneyKept_l7x G v1_7 := hz
      refine lv_iload_n hx hb dX1_isMoneyKept_7 rfl (lv_at hl 2 rfl) ?_
      refine lv_aload_n hx hb dX1_isMoneyKept_8 rfl (lv_at hl 0 rfl) ?_
      refine va_get (D := D) (ci := 4) (v := .int (nI (gP G))) (C := RX1) (T := TX1) (N := 16) hx hb hts hinX1 hown hK hP 0 rfl rfl 2 (by decide) (hts (.fieldLink RX1 19 "BridgeAuction$Game" "players" "I") (by decide +kernel)) (fun _ h9 => h9) rfl dX1_isMoneyKept_9 ?_
      refine lv_icmp_ge (tgt := 30) hx hb dX1_isMoneyKept_12 (by decide) (fun c_12 => ?_) (fun c_12 => absurd (nI_le (by omega) (by omega)) c_12)
      refine lv_iload_n hx hb dX1_isMoneyKept_30 rfl (lv_at hl 1 rfl) ?_
      refine lv_aload_n hx hb dX1_isMoneyKept_31 rfl (lv_at hl 0 rfl) ?_
      refine va_get (D := D) (ci := 4) (v := .int (gIni G)) (C := RX1) (T := TX1) (N := 16) hx hb hts hinX1 hown hK hP 0 rfl rfl 12 (by decide) (hts (.fieldLink RX1 49 "BridgeAuction$Game" "initialMoney" "I") (by decide +kernel)) (fun _ h9 => h9) rfl dX1_isMoneyKept_32 ?_
      refine lv_icmp_ne (tgt := 42) hx hb dX1_isMoneyKept_35 (by decide) (fun c_35 => ?_) (fun c_35 => ?_)
      · have hz := hz.trans (if_neg c_35)
        refine lv_iconst (v := 0) hx hb dX1_isMoneyKept_42 (by decide) ?_
        exact J43 (false) ls hz  (lv_sub hl [] rfl)
      · have hz := hz.trans (if_pos c_35)
        refine lv_iconst (v := 1) hx hb dX1_isMoneyKept_38 (by decide) ?_
        refine lv_goto (tgt := 43) hx hb dX1_isMoneyKept_39 (by decide) ?_
        exact J43 (true) ls hz  (lv_sub hl [] rfl)
    | succ n7 ih7 =>
      intro k7 v1_7 ls hk7 hz7  hl
      obtain ⟨z7, hz⟩ : ∃ zz_, zz_ = f_X1_isMoneyKept_l7b G k7 v1_7 := ⟨_, rfl⟩
      have hq7 : z = sE id (fun q_ => lpF (f_X1_isMoneyKept_l7s G) (f_X1_isMoneyKept_l7e G) n7 (k7 + 1) q_) z7 := by rw [hz7, hz]; rfl
      refine lv_iload_n hx hb dX1_isMoneyKept_7 rfl (lv_at hl 2 rfl) ?_
      refine lv_aload_n hx hb dX1_isMoneyKept_8 rfl (lv_at hl 0 rfl) ?_
      refine va_get (D := D) (ci := 4) (v := .int (nI (gP G))) (C := RX1) (T := TX1) (N := 16) hx hb hts hinX1 hown hK hP 0 rfl rfl 2 (by decide) (hts (.fieldLink RX1 19 "BridgeAuction$Game" "players" "I") (by decide +kernel)) (fun _ h9 => h9) rfl dX1_isMoneyKept_9 ?_
      refine lv_icmp_ge (tgt := 30) hx hb dX1_isMoneyKept_12 (by decide) (fun c_12 => absurd c_12 (nI_ge (by omega) (by omega))) (fun c_12 => ?_)
      refine lv_iload_n hx hb dX1_isMoneyKept_15 rfl (lv_at hl 1 rfl) ?_
      refine lv_aload_n hx hb dX1_isMoneyKept_16 rfl (lv_at hl 0 rfl) ?_
      refine va_get (D := D) (ci := 4) (v := .ref (a 2)) (C := RX1) (T := TX1) (N := 16) hx hb hts hinX1 hown hK hP 0 rfl rfl 3 (by decide) (hts (.fieldLink RX1 22 "BridgeAuction$Game" "moneys" "[I") (by decide +kernel)) (fun _ h9 => h9) rfl dX1_isMoneyKept_17 ?_
      refine lv_iload_n hx hb dX1_isMoneyKept_20 rfl (lv_at hl 2 rfl) ?_
      refine ialdN (tys := tyA C) hx hb hK hP 2 0 rfl rfl (i := k7) (by omega) (by decide) dX1_isMoneyKept_21 ?_
      refine lv_iadd hx hb dX1_isMoneyKept_22 ?_
      refine lv_istore_n (lv' := [(1, .int (v1_7 + ((gMon G) k7))), (0, .ref (a 0)), (2, .int (nI k7))]) hx hb dX1_isMoneyKept_23 rfl hl (by decide) rfl (fun ls hl => ?_)
      refine lv_iinc (v := (nI (k7 + 1))) (lv' := [(2, .int (nI (k7 + 1))), (1, .int (v1_7 + ((gMon G) k7))), (0, .ref (a 0))]) hx hb dX1_isMoneyKept_24 hl (k := 2) rfl (by exact nI_1 _) (by decide) rfl (fun ls hl => ?_)
      refine lv_goto (tgt := 7) hx hb dX1_isMoneyKept_27 (by decide) ?_
      exact ih7 (k7 + 1) ((v1_7 + ((gMon G) k7))) ls (by omega) (by rw [hq7, hz]; rfl)  (lv_sub hl [2, 1, 0] rfl)
  refine lv_aload_n hx hb dX1_isMoneyKept_0 rfl (lv_at hl 0 rfl) ?_
  refine va_get (D := D) (ci := 4) (v := .int (gBank G)) (C := RX1) (T := TX1) (N := 16) hx hb hts hinX1 hown hK hP 0 rfl rfl 13 (by decide) (hts (.fieldLink RX1 52 "BridgeAuction$Game" "bank" "I") (by decide +kernel)) (fun _ h9 => h9) rfl dX1_isMoneyKept_1 ?_
  refine lv_istore_n (lv' := [(1, .int (gBank G)), (0, .ref (a 0))]) hx hb dX1_isMoneyKept_4 rfl hl (by decide) rfl (fun ls hl => ?_)
  refine lv_iconst (v := 0) hx hb dX1_isMoneyKept_5 (by decide) ?_
  refine lv_istore_n (lv' := [(2, .int 0), (1, .int (gBank G)), (0, .ref (a 0))]) hx hb dX1_isMoneyKept_6 rfl hl (by decide) rfl (fun ls hl => ?_)
  exact J7 (gP G) 0 ((gBank G)) ls (by omega) hz  (lv_sub hl [2, 1, 0] rfl)
