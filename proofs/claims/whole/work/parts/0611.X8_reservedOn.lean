def f_X8_reservedOn_j24  (s0_24 : Int32) : Int32 := s0_24
def f_X8_reservedOn (nw : (Nat → Int32)) (q : Nat) (x : Int32) : Int32 := (if (f_X8_of nw (x) ((9 + q))) = 0 then (f_X8_reservedOn_j24 ((f_X8_of nw (x) ((5 + q))))) else (f_X8_reservedOn_j24 (0)))
set_option maxHeartbeats 4000000 in
set_option maxRecDepth 100000 in
theorem c_X8_reservedOn (l : Launch) (D : va_G) (C : Nat → ClassId) (b : Nat → Nat) (M : MS) (q : Nat) (x : Int32) (hM : MSafe M) (h_q : q < 4) : Met l yX8_reservedOn wsX8_reservedOn ({ frames := 3, cells := 0, slots := 0, locals := 65 } : Room) (roP [.ref (b 0), .int (nI q), .int x] D C (mcells C b M)) (roO (some (.int (f_X8_reservedOn (mNow M) q x)))) 0 0 (fun _ => False) := by
  refine Met.ofW (cc := cX8_reservedOn) (maxL := 3) (ret := (some .int)) (by decide) rfl ?_
  intro p e s m args below meth c s₁ B hml hv
  obtain ⟨rfl, hP, hK, hE⟩ := hv
  have hx := B.exec
  have hb := B.bytes
  have hr := B.returns
  have hts := atoms_spec (ws := wsX8_reservedOn) B.pre
  have hown : s.vm.findClass RX8 = some m.cls := findClass_of_methodNamed B.named
  have hlocks := B.notSynchronized
  obtain ⟨⟨hS2, hS12⟩, ⟨hP2, hP4⟩, hLH, hFE⟩ := id hM
  have hl := lv_entry ([.ref (b 0), .int (nI q), .int x]) (n := 3) (Nat.le_of_ble_eq_true rfl)
  rw [lg_entry_eq]
  generalize (lg_sl ([.ref (b 0), .int (nI q), .int x]) ++ List.replicate (3 - (lg_sl ([.ref (b 0), .int (nI q), .int x])).length) Slot.unset).toArray = ls at hl ⊢
  have hl : lv_has ls 3 [(0, .ref (b 0)), (1, .int (nI q)), (2, .int x)] := hl
  obtain ⟨z, hz⟩ : ∃ z, z = f_X8_reservedOn (mNow M) q x := ⟨_, rfl⟩
  rw [← hz]
  have J24 : ∀ (s0_24 : Int32)  (ls : Array Slot), z = f_X8_reservedOn_j24 s0_24 → lv_has ls 3 [] → W p l e ({ frames := 3, cells := 0, slots := 0, locals := 65 } : Room) s m ([.ref (b 0), .int (nI q), .int x] : List Value).toArray below meth c s.heap [] 0 0 (MQ below (roO (some (.int z))) ([.ref (b 0), .int (nI q), .int x] : List Value).toArray s 0 0 (fun _ => False)) (F0 m 24 ls [.int s0_24]) := by
    intro s0_24 ls hz  hl
    exact ro_ret hx hb hr hz dX8_reservedOn_24 hlocks
  refine lv_aload_n hx hb dX8_reservedOn_0 rfl (lv_at hl 0 rfl) ?_
  refine lv_iload_n hx hb dX8_reservedOn_1 rfl (lv_at hl 2 rfl) ?_
  refine lv_bipush (v := 9) hx hb dX8_reservedOn_2 (by decide +kernel) ?_
  refine lv_iload_n hx hb dX8_reservedOn_4 rfl (lv_at hl 1 rfl) ?_
  refine topN2 (k := 9) (by decide +kernel) ?_
  refine addN hx hb dX8_reservedOn_5 ?_
  refine callRo (va_runV (As := [.int x, .int (nI (9 + q))]) (rest := []) ⟨hx, hb, hml, hown, hts⟩ (c_X8_of l D C b M (x) ((9 + q)) hM (by omega)) (cwV 2 hts gX8_reservedOn_X8_of rfl rfl rfl (by decide +kernel) ⟨Nat.le_of_ble_eq_true rfl, Nat.le_of_ble_eq_true rfl⟩) (roP_v hP hK hE (va_recv hK hP (ci := 9) (q0 := 0) rfl rfl)) rfl rfl hl.1 rfl (lv_room (Nat.le_of_ble_eq_true rfl)) dX8_reservedOn_6 ⟨Nat.le_refl _, Nat.le_refl _⟩) ?_
  refine lv_if_ne (tgt := 23) hx hb dX8_reservedOn_9 (by decide) (fun c_9 => ?_) (fun c_9 => ?_)
  · have hz := hz.trans (if_neg c_9)
    refine lv_iconst (v := 0) hx hb dX8_reservedOn_23 (by decide) ?_
    exact J24 (0) ls hz  (lv_sub hl [] rfl)
  · have hz := hz.trans (if_pos c_9)
    refine lv_aload_n hx hb dX8_reservedOn_12 rfl (lv_at hl 0 rfl) ?_
    refine lv_iload_n hx hb dX8_reservedOn_13 rfl (lv_at hl 2 rfl) ?_
    refine lv_iconst (v := 5) hx hb dX8_reservedOn_14 (by decide) ?_
    refine lv_iload_n hx hb dX8_reservedOn_15 rfl (lv_at hl 1 rfl) ?_
    refine topN2 (k := 5) (by decide +kernel) ?_
    refine addN hx hb dX8_reservedOn_16 ?_
    refine callRo (va_runV (As := [.int x, .int (nI (5 + q))]) (rest := []) ⟨hx, hb, hml, hown, hts⟩ (c_X8_of l D C b M (x) ((5 + q)) hM (by omega)) (cwV 2 hts gX8_reservedOn_X8_of rfl rfl rfl (by decide +kernel) ⟨Nat.le_of_ble_eq_true rfl, Nat.le_of_ble_eq_true rfl⟩) (roP_v hP hK hE (va_recv hK hP (ci := 9) (q0 := 0) rfl rfl)) rfl rfl hl.1 rfl (lv_room (Nat.le_of_ble_eq_true rfl)) dX8_reservedOn_17 ⟨Nat.le_refl _, Nat.le_refl _⟩) ?_
    refine lv_goto (tgt := 24) hx hb dX8_reservedOn_20 (by decide) ?_
    exact J24 ((f_X8_of (mNow M) (x) ((5 + q)))) ls hz  (lv_sub hl [] rfl)

