def f_X1_judgeTide_j19  (s0_19 : Nat) : Nat := s0_19
def f_X1_judgeTide_j10  : Nat := (f_X1_judgeTide_j19 (2))
def f_X1_judgeTide (x : Int32) : Nat := (if x < 0 then (f_X1_judgeTide_j10) else (if x ≤ 9 then (f_X1_judgeTide_j19 (0)) else (f_X1_judgeTide_j10)))
set_option maxHeartbeats 4000000 in
set_option maxRecDepth 100000 in
theorem c_X1_judgeTide (l : Launch) (D : va_G) (C : Nat → ClassId) (ev : Nat → Nat) (x : Int32) : Met l yX1_judgeTide wsX1_judgeTide ({ frames := 0, cells := 0, slots := 0, locals := 0 } : Room) (roPE [.int x] D C ev ([] : va_W)) (roO (some (.ref (ev (f_X1_judgeTide x))))) 0 0 (fun _ => False) := by
  refine Met.ofW (cc := cX1_judgeTide) (maxL := 1) (ret := (some (.object "BridgeAuction$Verdict"))) (by decide) rfl ?_
  intro p e s m args below meth c s₁ B hml hv
  obtain ⟨rfl, hP, hK, hE, hR, hX⟩ := hv
  have hx := B.exec
  have hb := B.bytes
  have hr := B.returns
  have hts := atoms_spec (ws := wsX1_judgeTide) B.pre
  have hown : s.vm.findClass RX1 = some m.cls := findClass_of_methodNamed B.named
  have hlocks := B.notSynchronized
  have hS : va_S (fun _ => False) s.heap s.heap [] := va_S.rf
  obtain ⟨⟨hV, hB, hMV, hMB, hAL, hEk, hEa, hTX, hXZ⟩, hCS, hSF⟩ := id hX
  have hl := lv_entry ([.int x]) (n := 1) (Nat.le_of_ble_eq_true rfl)
  rw [lg_entry_eq]
  generalize (lg_sl ([.int x]) ++ List.replicate (1 - (lg_sl ([.int x])).length) Slot.unset).toArray = ls at hl ⊢
  have hl : lv_has ls 1 [(0, .int x)] := hl
  obtain ⟨z, hz⟩ : ∃ z, z = f_X1_judgeTide x := ⟨_, rfl⟩
  rw [← hz]
  have J19 : ∀ (s0_19 : Nat)  (ls : Array Slot), z = f_X1_judgeTide_j19 s0_19 → lv_has ls 1 [] → W p l e ({ frames := 0, cells := 0, slots := 0, locals := 0 } : Room) s m ([.int x] : List Value).toArray below meth c s.heap [] 0 0 (MQ below (roO (some (.ref (ev z)))) ([.int x] : List Value).toArray s 0 0 (fun _ => False)) (F0 m 19 ls [.ref (ev s0_19)]) := by
    intro s0_19 ls hz  hl
    exact ro_retA hx hb hr (congrArg (fun q => ev q) (show _ = s0_19 from hz)) dX1_judgeTide_19 hlocks
  have J10 : ∀  (ls : Array Slot), z = f_X1_judgeTide_j10 → lv_has ls 1 [] → W p l e ({ frames := 0, cells := 0, slots := 0, locals := 0 } : Room) s m ([.int x] : List Value).toArray below meth c s.heap [] 0 0 (MQ below (roO (some (.ref (ev z)))) ([.int x] : List Value).toArray s 0 0 (fun _ => False)) (F0 m 10 ls []) := by
    intro  ls hz  hl
    refine va_gets (v := .ref (ev 2)) (C := "BridgeAuction$Verdict") (n := "BAD_ARGUMENT") (d := "LBridgeAuction$Verdict;") hx hb (hV.1 2 (by decide)).1 hS hown (hts (.fieldLink RX1 108 "BridgeAuction$Verdict" "BAD_ARGUMENT" "LBridgeAuction$Verdict;") (by decide +kernel)) (fun _ h9 => h9) dX1_judgeTide_10 ?_
    refine lv_goto (tgt := 19) hx hb dX1_judgeTide_13 (by decide) ?_
    exact J19 (2) ls hz  (lv_sub hl [] rfl)
  refine lv_iload_n hx hb dX1_judgeTide_0 rfl (lv_at hl 0 rfl) ?_
  refine lv_if_lt (tgt := 10) hx hb dX1_judgeTide_1 (by decide) (fun c_1 => ?_) (fun c_1 => ?_)
  · have hz := hz.trans (if_pos c_1)
    exact J10  ls hz  (lv_sub hl [] rfl)
  · have hz := hz.trans (if_neg c_1)
    refine lv_iload_n hx hb dX1_judgeTide_4 rfl (lv_at hl 0 rfl) ?_
    refine lv_bipush (v := 9) hx hb dX1_judgeTide_5 (by decide +kernel) ?_
    refine lv_icmp_le (tgt := 16) hx hb dX1_judgeTide_7 (by decide) (fun c_7 => ?_) (fun c_7 => ?_)
    · have hz := hz.trans (if_pos c_7)
      refine va_gets (v := .ref (ev 0)) (C := "BridgeAuction$Verdict") (n := "FINE") (d := "LBridgeAuction$Verdict;") hx hb (hV.1 0 (by decide)).1 hS hown (hts (.fieldLink RX1 117 "BridgeAuction$Verdict" "FINE" "LBridgeAuction$Verdict;") (by decide +kernel)) (fun _ h9 => h9) dX1_judgeTide_16 ?_
      exact J19 (0) ls hz  (lv_sub hl [] rfl)
    · have hz := hz.trans (if_neg c_7)
      exact J10  ls hz  (lv_sub hl [] rfl)

