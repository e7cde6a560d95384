theorem X8_of_eq {nw : Nat → Int32} (hM : NowOK nw) {k : Nat} (hk : k < mS nw) (j : Nat) : f_X8_of nw (nI k) j = nw (22 + 13 * k + j) := by
  have h12 := hM.1.2
  unfold f_X8_of f_X8_isSite f_X8_of_j17
  rw [if_pos (X8_isIn_on (by omega) (vp_in_nI hk (by omega))), nI_clamp (by omega)]
theorem X8_of_at {nw : Nat → Int32} (hM : NowOK nw) (x : Int32) : ∃ k, k < 12 ∧ ∀ j, f_X8_of nw x j = nw (22 + 13 * k + j) := by
  have h12 := hM.1.2
  by_cases c : f_X8_isSite nw x = true
  · obtain ⟨k, hk, rfl⟩ := vp_in_of (X8_isSite_in hM c) (by omega)
    exact ⟨k, by omega, fun j => X8_of_eq hM hk j⟩
  · refine ⟨0, by decide, fun j => ?_⟩
    unfold f_X8_of
    rw [if_neg c]
    rfl
theorem X8_lo_in {nw : Nat → Int32} (hM : NowOK nw) {k : Nat} (hk : k < mS nw) : vp_in (f_X8_of nw (nI k) 0) 8 := by
  rw [X8_of_eq hM hk]; exact (hM.2.2.1 k (by have := hM.1.2; omega)).1
theorem X8_hi_in {nw : Nat → Int32} (hM : NowOK nw) {k : Nat} (hk : k < mS nw) : vp_in (f_X8_of nw (nI k) 1) 8 := by
  rw [X8_of_eq hM hk]; exact (hM.2.2.1 k (by have := hM.1.2; omega)).2
theorem vp_add {x c : Int32} (e : Nat) {n : Nat} (h : vp_in x n) (hc : c = nI e) {k : Nat} (hk : e + n ≤ k) (h2 : k < 2 ^ 31) : vp_in (c + x) k := by
  obtain ⟨j, hj, rfl⟩ := vp_in_of h (by omega)
  rw [hc, nI_add]
  exact vp_in_nI (by omega) h2
def f_X8_amountOf_j28  (s0_28 : Int32) : Int32 := s0_28
def f_X8_amountOf_j27  : Int32 := (f_X8_amountOf_j28 (0))
def f_X8_amountOf (nw : (Nat → Int32)) (x : Int32) (y : Int32) : Int32 := (if (f_X8_isPlayer nw (x)) = true then (if (f_X8_isSite nw (y)) = true then (f_X8_amountOf_j28 ((f_X8_of nw (y) (((5 + x)).toNatClampNeg)))) else (f_X8_amountOf_j27)) else (f_X8_amountOf_j27))
set_option maxHeartbeats 4000000 in
set_option maxRecDepth 100000 in
theorem c_X8_amountOf (l : Launch) (D : va_G) (C : Nat → ClassId) (b : Nat → Nat) (M : MS) (x : Int32) (y : Int32) (hM : MSafe M) : Met l yX8_amountOf wsX8_amountOf ({ frames := 3, cells := 0, slots := 0, locals := 65 } : Room) (roP [.ref (b 0), .int x, .int y] D C (mcells C b M)) (roO (some (.int (f_X8_amountOf (mNow M) x y)))) 0 0 (fun _ => False) := by
  refine Met.ofW (cc := cX8_amountOf) (maxL := 3) (ret := (some .int)) (by decide) rfl ?_
  intro p e s m args below meth c s₁ B hml hv
  obtain ⟨rfl, hP, hK, hE⟩ := hv
  have hx := B.exec
  have hb := B.bytes
  have hr := B.returns
  have hts := atoms_spec (ws := wsX8_amountOf) B.pre
  have hown : s.vm.findClass RX8 = some m.cls := findClass_of_methodNamed B.named
  have hlocks := B.notSynchronized
  obtain ⟨⟨hS2, hS12⟩, ⟨hP2, hP4⟩, hLH, hFE⟩ := id hM
  have hl := lv_entry ([.ref (b 0), .int x, .int y]) (n := 3) (Nat.le_of_ble_eq_true rfl)
  rw [lg_entry_eq]
  generalize (lg_sl ([.ref (b 0), .int x, .int y]) ++ List.replicate (3 - (lg_sl ([.ref (b 0), .int x, .int y])).length) Slot.unset).toArray = ls at hl ⊢
  have hl : lv_has ls 3 [(0, .ref (b 0)), (1, .int x), (2, .int y)] := hl
  obtain ⟨z, hz⟩ : ∃ z, z = f_X8_amountOf (mNow M) x y := ⟨_, rfl⟩
  rw [← hz]
  have J28 : ∀ (s0_28 : Int32)  (ls : Array Slot), z = f_X8_amountOf_j28 s0_28 → lv_has ls 3 [] → W p l e ({ frames := 3, cells := 0, slots := 0, locals := 65 } : Room) s m ([.ref (b 0), .int x, .int y] : List Value).toArray below meth c s.heap [] 0 0 (MQ below (roO (some (.int z))) ([.ref (b 0), .int x, .int y] : List Value).toArray s 0 0 (fun _ => False)) (F0 m 28 ls [.int s0_28]) := by
    intro s0_28 ls hz  hl
    exact ro_ret hx hb hr hz dX8_amountOf_28 hlocks
  have J27 : ∀  (ls : Array Slot), z = f_X8_amountOf_j27 → lv_has ls 3 [] → W p l e ({ frames := 3, cells := 0, slots := 0, locals := 65 } : Room) s m ([.ref (b 0), .int x, .int y] : List Value).toArray below meth c s.heap [] 0 0 (MQ below (roO (some (.int z))) ([.ref (b 0), .int x, .int y] : List Value).toArray s 0 0 (fun _ => False)) (F0 m 27 ls []) := by
    intro  ls hz  hl
    refine lv_iconst (v := 0) hx hb dX8_amountOf_27 (by decide) ?_
    exact J28 (0) ls hz  (lv_sub hl [] rfl)
  refine lv_aload_n hx hb dX8_amountOf_0 rfl (lv_at hl 0 rfl) ?_
  refine lv_iload_n hx hb dX8_amountOf_1 rfl (lv_at hl 1 rfl) ?_
  refine callRo (va_runV (As := [.int x]) (rest := []) ⟨hx, hb, hml, hown, hts⟩ (c_X8_isPlayer l D C b M (x) hM) (cwV 1 hts gX8_amountOf_X8_isPlayer rfl rfl rfl (by decide +kernel) ⟨Nat.le_of_ble_eq_true rfl, Nat.le_of_ble_eq_true rfl⟩) (roP_v hP hK hE (va_recv hK hP (ci := 9) (q0 := 0) rfl rfl)) rfl rfl hl.1 rfl (lv_room (Nat.le_of_ble_eq_true rfl)) dX8_amountOf_2 ⟨Nat.le_refl _, Nat.le_refl _⟩) ?_
  refine bif_eq (tgt := 27) hx hb dX8_amountOf_5 (by decide) (fun c_5 => ?_) (fun c_5 => ?_)
  · have hz := hz.trans (ifB_f c_5)
    exact J27  ls hz  (lv_sub hl [] rfl)
  · have hz := hz.trans (ifB_t c_5)
    refine lv_aload_n hx hb dX8_amountOf_8 rfl (lv_at hl 0 rfl) ?_
    refine lv_iload_n hx hb dX8_amountOf_9 rfl (lv_at hl 2 rfl) ?_
    refine callRo (va_runV (As := [.int y]) (rest := []) ⟨hx, hb, hml, hown, hts⟩ (c_X8_isSite l D C b M (y) hM) (cwV 1 hts gX8_amountOf_X8_isSite rfl rfl rfl (by decide +kernel) ⟨Nat.le_of_ble_eq_true rfl, Nat.le_of_ble_eq_true rfl⟩) (roP_v hP hK hE (va_recv hK hP (ci := 9) (q0 := 0) rfl rfl)) rfl rfl hl.1 rfl (lv_room (Nat.le_of_ble_eq_true rfl)) dX8_amountOf_10 ⟨Nat.le_refl _, Nat.le_refl _⟩) ?_
    refine bif_eq (tgt := 27) hx hb dX8_amountOf_13 (by decide) (fun c_13 => ?_) (fun c_13 => ?_)
    · have hz := hz.trans (ifB_f c_13)
      exact J27  ls hz  (lv_sub hl [] rfl)
    · have hz := hz.trans (ifB_t c_13)
      refine lv_aload_n hx hb dX8_amountOf_16 rfl (lv_at hl 0 rfl) ?_
      refine lv_iload_n hx hb dX8_amountOf_17 rfl (lv_at hl 2 rfl) ?_
      refine lv_iconst (v := 5) hx hb dX8_amountOf_18 (by decide) ?_
      refine lv_iload_n hx hb dX8_amountOf_19 rfl (lv_at hl 1 rfl) ?_
      refine lv_iadd hx hb dX8_amountOf_20 ?_
      obtain ⟨ehn_1, lhn_1⟩ := nat_of (x := (5 + x)) (n := 13) (by exact vp_add 5 (vp_mono (X8_isPlayer_in hM c_5) hP4) rfl (by decide) (by decide)) (by omega)
      refine topN ehn_1 ?_
      refine callRo (va_runV (As := [.int y, .int (nI ((5 + x)).toNatClampNeg)]) (rest := []) ⟨hx, hb, hml, hown, hts⟩ (c_X8_of l D C b M (y) (((5 + x)).toNatClampNeg) hM (by omega)) (cwV 2 hts gX8_amountOf_X8_of rfl rfl rfl (by decide +kernel) ⟨Nat.le_of_ble_eq_true rfl, Nat.le_of_ble_eq_true rfl⟩) (roP_v hP hK hE (va_recv hK hP (ci := 9) (q0 := 0) rfl rfl)) rfl rfl hl.1 rfl (lv_room (Nat.le_of_ble_eq_true rfl)) dX8_amountOf_21 ⟨Nat.le_refl _, Nat.le_refl _⟩) ?_
      refine lv_goto (tgt := 28) hx hb dX8_amountOf_24 (by decide) ?_
      exact J28 ((f_X8_of (mNow M) (y) (((5 + x)).toNatClampNeg))) ls hz  (lv_sub hl [] rfl)

