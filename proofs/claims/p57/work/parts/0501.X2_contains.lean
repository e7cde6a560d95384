def f_X2_contains_j13  (s0_13 : Bool) : Bool := s0_13
def f_X2_contains (x : Int32) (i : Int32) : Bool := (if (x &&& (1 <<< (i &&& 31))) = 0 then (f_X2_contains_j13 (false)) else (f_X2_contains_j13 (true)))
set_option maxHeartbeats 4000000 in
set_option maxRecDepth 100000 in
theorem c_X2_contains (l : Launch) (D : va_G) (C : Nat → ClassId) (x : Int32) (i : Int32) : Met l yX2_contains wsX2_contains ({ frames := 0, cells := 0, slots := 0, locals := 0 } : Room) (roP [.int x, .int i] D C ([] : va_W)) (roO (some (.int (bI (f_X2_contains x i))))) 0 0 (fun _ => False) := by
  refine Met.ofW (cc := cX2_contains) (maxL := 2) (ret := (some .boolean)) (by decide) rfl ?_
  intro p e s m args below meth c s₁ B hml hv
  obtain ⟨rfl, hP, hK, hE⟩ := hv
  have hx := B.exec
  have hb := B.bytes
  have hr := B.returns
  have hts := atoms_spec (ws := wsX2_contains) B.pre
  have hown : s.vm.findClass RX2 = some m.cls := findClass_of_methodNamed B.named
  have hlocks := B.notSynchronized
  have hl := lv_entry ([.int x, .int i]) (n := 2) (Nat.le_of_ble_eq_true rfl)
  rw [lg_entry_eq]
  generalize (lg_sl ([.int x, .int i]) ++ List.replicate (2 - (lg_sl ([.int x, .int i])).length) Slot.unset).toArray = ls at hl ⊢
  have hl : lv_has ls 2 [(0, .int x), (1, .int i)] := hl
  obtain ⟨z, hz⟩ : ∃ z, z = f_X2_contains x i := ⟨_, rfl⟩
  rw [← hz]
  have J13 : ∀ (s0_13 : Bool)  (ls : Array Slot), z = f_X2_contains_j13 s0_13 → lv_has ls 2 [] → W p l e ({ frames := 0, cells := 0, slots := 0, locals := 0 } : Room) s m ([.int x, .int i] : List Value).toArray below meth c s.heap [] 0 0 (MQ below (roO (some (.int (bI z)))) ([.int x, .int i] : List Value).toArray s 0 0 (fun _ => False)) (F0 m 13 ls [.int (bI s0_13)]) := by
    intro s0_13 ls hz  hl
    exact ro_retB hx hb hr (show _ = s0_13 from hz) dX2_contains_13 hlocks
  refine lv_iload_n hx hb dX2_contains_0 rfl (lv_at hl 0 rfl) ?_
  refine lv_iconst (v := 1) hx hb dX2_contains_1 (by decide) ?_
  refine lv_iload_n hx hb dX2_contains_2 rfl (lv_at hl 1 rfl) ?_
  refine lv_ishl hx hb dX2_contains_3 ?_
  refine lv_iand hx hb dX2_contains_4 ?_
  refine lv_if_eq (tgt := 12) hx hb dX2_contains_5 (by decide) (fun c_5 => ?_) (fun c_5 => ?_)
  · have hz := hz.trans (if_pos c_5)
    refine lv_iconst (v := 0) hx hb dX2_contains_12 (by decide) ?_
    exact J13 (false) ls hz  (lv_sub hl [] rfl)
  · have hz := hz.trans (if_neg c_5)
    refine lv_iconst (v := 1) hx hb dX2_contains_8 (by decide) ?_
    refine lv_goto (tgt := 13) hx hb dX2_contains_9 (by decide) ?_
    exact J13 (true) ls hz  (lv_sub hl [] rfl)

