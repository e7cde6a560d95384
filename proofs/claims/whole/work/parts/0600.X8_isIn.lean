def f_X8_isIn_j15  (s0_15 : Bool) : Bool := s0_15
def f_X8_isIn_j14  : Bool := (f_X8_isIn_j15 (false))
def f_X8_isIn (x : Int32) (y : Int32) (w : Int32) : Bool := (if x < y then (f_X8_isIn_j14) else (if w < x then (f_X8_isIn_j14) else (f_X8_isIn_j15 (true))))
set_option maxHeartbeats 4000000 in
set_option maxRecDepth 100000 in
theorem c_X8_isIn (l : Launch) (D : va_G) (C : Nat → ClassId) (x : Int32) (y : Int32) (w : Int32) : Met l yX8_isIn wsX8_isIn ({ frames := 0, cells := 0, slots := 0, locals := 0 } : Room) (roP [.int x, .int y, .int w] D C ([] : va_W)) (roO (some (.int (bI (f_X8_isIn x y w))))) 0 0 (fun _ => False) := by
  refine Met.ofW (cc := cX8_isIn) (maxL := 3) (ret := (some .boolean)) (by decide) rfl ?_
  intro p e s m args below meth c s₁ B hml hv
  obtain ⟨rfl, hP, hK, hE⟩ := hv
  have hx := B.exec
  have hb := B.bytes
  have hr := B.returns
  have hts := atoms_spec (ws := wsX8_isIn) B.pre
  have hown : s.vm.findClass RX8 = some m.cls := findClass_of_methodNamed B.named
  have hlocks := B.notSynchronized
  have hl := lv_entry ([.int x, .int y, .int w]) (n := 3) (Nat.le_of_ble_eq_true rfl)
  rw [lg_entry_eq]
  generalize (lg_sl ([.int x, .int y, .int w]) ++ List.replicate (3 - (lg_sl ([.int x, .int y, .int w])).length) Slot.unset).toArray = ls at hl ⊢
  have hl : lv_has ls 3 [(0, .int x), (1, .int y), (2, .int w)] := hl
  obtain ⟨z, hz⟩ : ∃ z, z = f_X8_isIn x y w := ⟨_, rfl⟩
  rw [← hz]
  have J15 : ∀ (s0_15 : Bool)  (ls : Array Slot), z = f_X8_isIn_j15 s0_15 → lv_has ls 3 [] → W p l e ({ frames := 0, cells := 0, slots := 0, locals := 0 } : Room) s m ([.int x, .int y, .int w] : List Value).toArray below meth c s.heap [] 0 0 (MQ below (roO (some (.int (bI z)))) ([.int x, .int y, .int w] : List Value).toArray s 0 0 (fun _ => False)) (F0 m 15 ls [.int (bI s0_15)]) := by
    intro s0_15 ls hz  hl
    exact ro_retB hx hb hr (show _ = s0_15 from hz) dX8_isIn_15 hlocks
  have J14 : ∀  (ls : Array Slot), z = f_X8_isIn_j14 → lv_has ls 3 [] → W p l e ({ frames := 0, cells := 0, slots := 0, locals := 0 } : Room) s m ([.int x, .int y, .int w] : List Value).toArray below meth c s.heap [] 0 0 (MQ below (roO (some (.int (bI z)))) ([.int x, .int y, .int w] : List Value).toArray s 0 0 (fun _ => False)) (F0 m 14 ls []) := by
    intro  ls hz  hl
    refine lv_iconst (v := 0) hx hb dX8_isIn_14 (by decide) ?_
    exact J15 (false) ls hz  (lv_sub hl [] rfl)
  refine lv_iload_n hx hb dX8_isIn_0 rfl (lv_at hl 0 rfl) ?_
  refine lv_iload_n hx hb dX8_isIn_1 rfl (lv_at hl 1 rfl) ?_
  refine lv_icmp_lt (tgt := 14) hx hb dX8_isIn_2 (by decide) (fun c_2 => ?_) (fun c_2 => ?_)
  · have hz := hz.trans (if_pos c_2)
    exact J14  ls hz  (lv_sub hl [] rfl)
  · have hz := hz.trans (if_neg c_2)
    refine lv_iload_n hx hb dX8_isIn_5 rfl (lv_at hl 0 rfl) ?_
    refine lv_iload_n hx hb dX8_isIn_6 rfl (lv_at hl 2 rfl) ?_
    refine lv_icmp_gt (tgt := 14) hx hb dX8_isIn_7 (by decide) (fun c_7 => ?_) (fun c_7 => ?_)
    · have hz := hz.trans (if_pos c_7)
      exact J14  ls hz  (lv_sub hl [] rfl)
    · have hz := hz.trans (if_neg c_7)
      refine lv_iconst (v := 1) hx hb dX8_isIn_10 (by decide) ?_
      refine lv_goto (tgt := 15) hx hb dX8_isIn_11 (by decide) ?_
      exact J15 (true) ls hz  (lv_sub hl [] rfl)

