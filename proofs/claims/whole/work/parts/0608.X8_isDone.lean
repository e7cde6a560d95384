def f_X8_isDone_j23  (s0_23 : Bool) : Bool := s0_23
def f_X8_isDone_j22  : Bool := (f_X8_isDone_j23 (false))
def f_X8_isDone (nw : (Nat → Int32)) (x : Int32) : Bool := (if (f_X8_isSite nw (x)) = true then (if (f_X8_of nw (x) (3)) = (-1) then (f_X8_isDone_j22) else (f_X8_isDone_j23 (true))) else (f_X8_isDone_j22))
set_option maxHeartbeats 4000000 in
set_option maxRecDepth 100000 in
theorem c_X8_isDone (l : Launch) (D : va_G) (C : Nat → ClassId) (b : Nat → Nat) (M : MS) (x : Int32) (hM : MSafe M) : Met l yX8_isDone wsX8_isDone ({ frames := 3, cells := 0, slots := 0, locals := 65 } : Room) (roP [.ref (b 0), .int x] D C (mcells C b M)) (roO (some (.int (bI (f_X8_isDone (mNow M) x))))) 0 0 (fun _ => False) := by
  refine Met.ofW (cc := cX8_isDone) (maxL := 2) (ret := (some .boolean)) (by decide) rfl ?_
  intro p e s m args below meth c s₁ B hml hv
  obtain ⟨rfl, hP, hK, hE⟩ := hv
  have hx := B.exec
  have hb := B.bytes
  have hr := B.returns
  have hts := atoms_spec (ws := wsX8_isDone) B.pre
  have hown : s.vm.findClass RX8 = some m.cls := findClass_of_methodNamed B.named
  have hlocks := B.notSynchronized
  obtain ⟨⟨hS2, hS12⟩, ⟨hP2, hP4⟩, hLH, hFE⟩ := id hM
  have hl := lv_entry ([.ref (b 0), .int x]) (n := 2) (Nat.le_of_ble_eq_true rfl)
  rw [lg_entry_eq]
  generalize (lg_sl ([.ref (b 0), .int x]) ++ List.replicate (2 - (lg_sl ([.ref (b 0), .int x])).length) Slot.unset).toArray = ls at hl ⊢
  have hl : lv_has ls 2 [(0, .ref (b 0)), (1, .int x)] := hl
  obtain ⟨z, hz⟩ : ∃ z, z = f_X8_isDone (mNow M) x := ⟨_, rfl⟩
  rw [← hz]
  have J23 : ∀ (s0_23 : Bool)  (ls : Array Slot), z = f_X8_isDone_j23 s0_23 → lv_has ls 2 [] → W p l e ({ frames := 3, cells := 0, slots := 0, locals := 65 } : Room) s m ([.ref (b 0), .int x] : List Value).toArray below meth c s.heap [] 0 0 (MQ below (roO (some (.int (bI z)))) ([.ref (b 0), .int x] : List Value).toArray s 0 0 (fun _ => False)) (F0 m 23 ls [.int (bI s0_23)]) := by
    intro s0_23 ls hz  hl
    exact ro_retB hx hb hr (show _ = s0_23 from hz) dX8_isDone_23 hlocks
  have J22 : ∀  (ls : Array Slot), z = f_X8_isDone_j22 → lv_has ls 2 [] → W p l e ({ frames := 3, cells := 0, slots := 0, locals := 65 } : Room) s m ([.ref (b 0), .int x] : List Value).toArray below meth c s.heap [] 0 0 (MQ below (roO (some (.int (bI z)))) ([.ref (b 0), .int x] : List Value).toArray s 0 0 (fun _ => False)) (F0 m 22 ls []) := by
    intro  ls hz  hl
    refine lv_iconst (v := 0) hx hb dX8_isDone_22 (by decide) ?_
    exact J23 (false) ls hz  (lv_sub hl [] rfl)
  refine lv_aload_n hx hb dX8_isDone_0 rfl (lv_at hl 0 rfl) ?_
  refine lv_iload_n hx hb dX8_isDone_1 rfl (lv_at hl 1 rfl) ?_
  refine callRo (va_runV (As := [.int x]) (rest := []) ⟨hx, hb, hml, hown, hts⟩ (c_X8_isSite l D C b M (x) hM) (cwV 1 hts gX8_isDone_X8_isSite rfl rfl rfl (by decide +kernel) ⟨Nat.le_of_ble_eq_true rfl, Nat.le_of_ble_eq_true rfl⟩) (roP_v hP hK hE (va_recv hK hP (ci := 9) (q0 := 0) rfl rfl)) rfl rfl hl.1 rfl (lv_room (Nat.le_of_ble_eq_true rfl)) dX8_isDone_2 ⟨Nat.le_refl _, Nat.le_refl _⟩) ?_
  refine bif_eq (tgt := 22) hx hb dX8_isDone_5 (by decide) (fun c_5 => ?_) (fun c_5 => ?_)
  · have hz := hz.trans (ifB_f c_5)
    exact J22  ls hz  (lv_sub hl [] rfl)
  · have hz := hz.trans (ifB_t c_5)
    refine lv_aload_n hx hb dX8_isDone_8 rfl (lv_at hl 0 rfl) ?_
    refine lv_iload_n hx hb dX8_isDone_9 rfl (lv_at hl 1 rfl) ?_
    refine lv_iconst (v := 3) hx hb dX8_isDone_10 (by decide) ?_
    refine topN (k := 3) (by decide +kernel) ?_
    refine callRo (va_runV (As := [.int x, .int (nI 3)]) (rest := []) ⟨hx, hb, hml, hown, hts⟩ (c_X8_of l D C b M (x) (3) hM (by omega)) (cwV 2 hts gX8_isDone_X8_of rfl rfl rfl (by decide +kernel) ⟨Nat.le_of_ble_eq_true rfl, Nat.le_of_ble_eq_true rfl⟩) (roP_v hP hK hE (va_recv hK hP (ci := 9) (q0 := 0) rfl rfl)) rfl rfl hl.1 rfl (lv_room (Nat.le_of_ble_eq_true rfl)) dX8_isDone_11 ⟨Nat.le_refl _, Nat.le_refl _⟩) ?_
    refine lv_iconst (v := (-1)) hx hb dX8_isDone_14 (by decide) ?_
    refine lv_icmp_eq (tgt := 22) hx hb dX8_isDone_15 (by decide) (fun c_15 => ?_) (fun c_15 => ?_)
    · have hz := hz.trans (if_pos c_15)
      exact J22  ls hz  (lv_sub hl [] rfl)
    · have hz := hz.trans (if_neg c_15)
      refine lv_iconst (v := 1) hx hb dX8_isDone_18 (by decide) ?_
      refine lv_goto (tgt := 23) hx hb dX8_isDone_19 (by decide) ?_
      exact J23 (true) ls hz  (lv_sub hl [] rfl)

