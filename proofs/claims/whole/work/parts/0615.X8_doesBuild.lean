theorem X8_winner_in {nw : Nat → Int32} (hM : NowOK nw) (x : Int32) : vp_in (f_X8_winner nw x) 4 := by
  refine lpF_invN (step := f_X8_winner_l4s nw x) (ex := f_X8_winner_l4e nw x) 4 (fun _ v => v < 4) (fun r => vp_in r 4) ?_ ?_ ?_ (4 - 1) 1 _ rfl (by decide)
  · intro k s r _ hI h
    simp only [f_X8_winner_l4s, f_X8_winner_l4b, f_X8_winner_j33] at h
    split at h
    all_goals cases h
  · intro k s s' hk hI h
    simp only [f_X8_winner_l4s, f_X8_winner_l4b, f_X8_winner_j33] at h
    split at h
    · cases h; exact hI
    · cases h; exact hk
  · intro s hI
    simp only [f_X8_winner_l4e, f_X8_winner_l4x, f_X8_winner_j60]
    obtain ⟨k, hk, e⟩ := X8_of_at hM x
    split
    · exact vp_in_nI hI (by decide)
    · rename_i h9
      rw [e 4] at h9 ⊢
      exact (hM.2.2.2 k hk).resolve_left h9
def f_X8_doesBuild_j39  (s0_39 : Bool) : Bool := s0_39
def f_X8_doesBuild_j38  : Bool := (f_X8_doesBuild_j39 (false))
def f_X8_doesBuild (nw : (Nat → Int32)) (x : Int32) : Bool := (if (f_X8_of nw (x) (((9 + (f_X8_winner nw (x)))).toNatClampNeg)) = 0 then (if (f_X8_of nw (x) (((5 + (f_X8_winner nw (x)))).toNatClampNeg)) < (f_X8_costOf nw (x)) then (f_X8_doesBuild_j38) else (f_X8_doesBuild_j39 (true))) else (f_X8_doesBuild_j38))
set_option maxHeartbeats 4000000 in
set_option maxRecDepth 100000 in
theorem c_X8_doesBuild (l : Launch) (D : va_G) (C : Nat → ClassId) (b : Nat → Nat) (M : MS) (x : Int32) (hM : MSafe M) : Met l yX8_doesBuild wsX8_doesBuild ({ frames := 4, cells := 0, slots := 0, locals := 88 } : Room) (roP [.ref (b 0), .int x] D C (mcells C b M)) (roO (some (.int (bI (f_X8_doesBuild (mNow M) x))))) 0 0 (fun _ => False) := by
  refine Met.ofW (cc := cX8_doesBuild) (maxL := 3) (ret := (some .boolean)) (by decide) rfl ?_
  intro p e s m args below meth c s₁ B hml hv
  obtain ⟨rfl, hP, hK, hE⟩ := hv
  have hx := B.exec
  have hb := B.bytes
  have hr := B.returns
  have hts := atoms_spec (ws := wsX8_doesBuild) B.pre
  have hown : s.vm.findClass RX8 = some m.cls := findClass_of_methodNamed B.named
  have hlocks := B.notSynchronized
  obtain ⟨⟨hS2, hS12⟩, ⟨hP2, hP4⟩, hLH, hFE⟩ := id hM
  have hl := lv_entry ([.ref (b 0), .int x]) (n := 3) (Nat.le_of_ble_eq_true rfl)
  rw [lg_entry_eq]
  generalize (lg_sl ([.ref (b 0), .int x]) ++ List.replicate (3 - (lg_sl ([.ref (b 0), .int x])).length) Slot.unset).toArray = ls at hl ⊢
  have hl : lv_has ls 3 [(0, .ref (b 0)), (1, .int x)] := hl
  obtain ⟨z, hz⟩ : ∃ z, z = f_X8_doesBuild (mNow M) x := ⟨_, rfl⟩
  rw [← hz]
  have J39 : ∀ (s0_39 : Bool)  (ls : Array Slot), z = f_X8_doesBuild_j39 s0_39 → lv_has ls 3 [] → W p l e ({ frames := 4, cells := 0, slots := 0, locals := 88 } : Room) s m ([.ref (b 0), .int x] : List Value).toArray below meth c s.heap [] 0 0 (MQ below (roO (some (.int (bI z)))) ([.ref (b 0), .int x] : List Value).toArray s 0 0 (fun _ => False)) (F0 m 39 ls [.int (bI s0_39)]) := by
    intro s0_39 ls hz  hl
    exact ro_retB hx hb hr (show _ = s0_39 from hz) dX8_doesBuild_39 hlocks
  have J38 : ∀  (ls : Array Slot), z = f_X8_doesBuild_j38 → lv_has ls 3 [] → W p l e ({ frames := 4, cells := 0, slots := 0, locals := 88 } : Room) s m ([.ref (b 0), .int x] : List Value).toArray below meth c s.heap [] 0 0 (MQ below (roO (some (.int (bI z)))) ([.ref (b 0), .int x] : List Value).toArray s 0 0 (fun _ => False)) (F0 m 38 ls []) := by
    intro  ls hz  hl
    refine lv_iconst (v := 0) hx hb dX8_doesBuild_38 (by decide) ?_
    exact J39 (false) ls hz  (lv_sub hl [] rfl)
  refine lv_aload_n hx hb dX8_doesBuild_0 rfl (lv_at hl 0 rfl) ?_
  refine lv_iload_n hx hb dX8_doesBuild_1 rfl (lv_at hl 1 rfl) ?_
  refine callRo (va_runV (As := [.int x]) (rest := []) ⟨hx, hb, hml, hown, hts⟩ (c_X8_winner l D C b M (x) hM) (cwV 1 hts gX8_doesBuild_X8_winner rfl rfl rfl (by decide +kernel) ⟨Nat.le_of_ble_eq_true rfl, Nat.le_of_ble_eq_true rfl⟩) (roP_v hP hK hE (va_recv hK hP (ci := 9) (q0 := 0) rfl rfl)) rfl rfl hl.1 rfl (lv_room (Nat.le_of_ble_eq_true rfl)) dX8_doesBuild_2 ⟨Nat.le_refl _, Nat.le_refl _⟩) ?_
  refine lv_istore_n (lv' := [(2, .int (f_X8_winner (mNow M) (x))), (0, .ref (b 0)), (1, .int x)]) hx hb dX8_doesBuild_5 rfl hl (by decide) rfl (fun ls hl => ?_)
  refine lv_aload_n hx hb dX8_doesBuild_6 rfl (lv_at hl 1 rfl) ?_
  refine lv_iload_n hx hb dX8_doesBuild_7 rfl (lv_at hl 2 rfl) ?_
  refine lv_bipush (v := 9) hx hb dX8_doesBuild_8 (by decide +kernel) ?_
  refine lv_iload_n hx hb dX8_doesBuild_10 rfl (lv_at hl 0 rfl) ?_
  refine lv_iadd hx hb dX8_doesBuild_11 ?_
  obtain ⟨ehn_1, lhn_1⟩ := nat_of (x := (9 + (f_X8_winner (mNow M) (x)))) (n := 13) (by exact vp_add 9 (X8_winner_in hM _) rfl (by decide) (by decide)) (by omega)
  refine topN ehn_1 ?_
  refine callRo (va_runV (As := [.int x, .int (nI ((9 + (f_X8_winner (mNow M) (x)))).toNatClampNeg)]) (rest := []) ⟨hx, hb, hml, hown, hts⟩ (c_X8_of l D C b M (x) (((9 + (f_X8_winner (mNow M) (x)))).toNatClampNeg) hM (by omega)) (cwV 2 hts gX8_doesBuild_X8_of rfl rfl rfl (by decide +kernel) ⟨Nat.le_of_ble_eq_true rfl, Nat.le_of_ble_eq_true rfl⟩) (roP_v hP hK hE (va_recv hK hP (ci := 9) (q0 := 0) rfl rfl)) rfl rfl hl.1 rfl (lv_room (Nat.le_of_ble_eq_true rfl)) dX8_doesBuild_12 ⟨Nat.le_refl _, Nat.le_refl _⟩) ?_
  refine lv_if_ne (tgt := 38) hx hb dX8_doesBuild_15 (by decide) (fun c_15 => ?_) (fun c_15 => ?_)
  · have hz := hz.trans (if_neg c_15)
    exact J38  ls hz  (lv_sub hl [] rfl)
  · have hz := hz.trans (if_pos c_15)
    refine lv_aload_n hx hb dX8_doesBuild_18 rfl (lv_at hl 1 rfl) ?_
    refine lv_iload_n hx hb dX8_doesBuild_19 rfl (lv_at hl 2 rfl) ?_
    refine lv_iconst (v := 5) hx hb dX8_doesBuild_20 (by decide) ?_
    refine lv_iload_n hx hb dX8_doesBuild_21 rfl (lv_at hl 0 rfl) ?_
    refine lv_iadd hx hb dX8_doesBuild_22 ?_
    obtain ⟨ehn_2, lhn_2⟩ := nat_of (x := (5 + (f_X8_winner (mNow M) (x)))) (n := 13) (by exact vp_add 5 (X8_winner_in hM _) rfl (by decide) (by decide)) (by omega)
    refine topN ehn_2 ?_
    refine callRo (va_runV (As := [.int x, .int (nI ((5 + (f_X8_winner (mNow M) (x)))).toNatClampNeg)]) (rest := []) ⟨hx, hb, hml, hown, hts⟩ (c_X8_of l D C b M (x) (((5 + (f_X8_winner (mNow M) (x)))).toNatClampNeg) hM (by omega)) (cwV 2 hts gX8_doesBuild_X8_of rfl rfl rfl (by decide +kernel) ⟨Nat.le_of_ble_eq_true rfl, Nat.le_of_ble_eq_true rfl⟩) (roP_v hP hK hE (va_recv hK hP (ci := 9) (q0 := 0) rfl rfl)) rfl rfl hl.1 rfl (lv_room (Nat.le_of_ble_eq_true rfl)) dX8_doesBuild_23 ⟨Nat.le_refl _, Nat.le_refl _⟩) ?_
    refine lv_aload_n hx hb dX8_doesBuild_26 rfl (lv_at hl 1 rfl) ?_
    refine lv_iload_n hx hb dX8_doesBuild_27 rfl (lv_at hl 2 rfl) ?_
    refine callRo (va_runV (As := [.int x]) (rest := [.int (f_X8_of (mNow M) (x) (((5 + (f_X8_winner (mNow M) (x)))).toNatClampNeg))]) ⟨hx, hb, hml, hown, hts⟩ (c_X8_costOf l D C b M (x) hM) (cwV 1 hts gX8_doesBuild_X8_costOf rfl rfl rfl (by decide +kernel) ⟨Nat.le_of_ble_eq_true rfl, Nat.le_of_ble_eq_true rfl⟩) (roP_v hP hK hE (va_recv hK hP (ci := 9) (q0 := 0) rfl rfl)) rfl rfl hl.1 rfl (lv_room (Nat.le_of_ble_eq_true rfl)) dX8_doesBuild_28 ⟨Nat.le_refl _, Nat.le_refl _⟩) ?_
    refine lv_icmp_lt (tgt := 38) hx hb dX8_doesBuild_31 (by decide) (fun c_31 => ?_) (fun c_31 => ?_)
    · have hz := hz.trans (if_pos c_31)
      exact J38  ls hz  (lv_sub hl [] rfl)
    · have hz := hz.trans (if_neg c_31)
      refine lv_iconst (v := 1) hx hb dX8_doesBuild_34 (by decide) ?_
      refine lv_goto (tgt := 39) hx hb dX8_doesBuild_35 (by decide) ?_
      exact J39 (true) ls hz  (lv_sub hl [] rfl)

