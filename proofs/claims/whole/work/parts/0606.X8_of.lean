theorem X8_isIn_of {x : Int32} {n : Nat} (hn : n < 2 ^ 30) (h : f_X8_isIn x 0 (nI n - 1) = true) : vp_in x n := by
  have e := nI_m1 hn
  simp only [f_X8_isIn, f_X8_isIn_j14, f_X8_isIn_j15] at h
  rw [vp_in_iff]
  split at h
  · exact absurd h (by decide)
  · rename_i h0
    split at h
    · exact absurd h (by decide)
    · rename_i h1
      rw [Int32.lt_iff_toInt_lt, Int32.toInt_zero] at h0
      rw [Int32.lt_iff_toInt_lt, e] at h1
      omega
theorem X8_isIn_on {x : Int32} {n : Nat} (hn : n < 2 ^ 30) (h : vp_in x n) : f_X8_isIn x 0 (nI n - 1) = true := by
  have e := nI_m1 hn
  rw [vp_in_iff] at h
  simp only [f_X8_isIn, f_X8_isIn_j14, f_X8_isIn_j15]
  rw [if_neg (by rw [Int32.lt_iff_toInt_lt, Int32.toInt_zero]; omega), if_neg (by rw [Int32.lt_iff_toInt_lt, e]; omega)]
theorem X8_isSite_in {nw : Nat → Int32} (hM : NowOK nw) {x : Int32} (h : f_X8_isSite nw x = true) : vp_in x (mS nw) := by
  obtain ⟨⟨_, h12⟩, -⟩ := hM
  exact X8_isIn_of (by omega) h
theorem X8_isPlayer_in {nw : Nat → Int32} (hM : NowOK nw) {x : Int32} (h : f_X8_isPlayer nw x = true) : vp_in x (mP nw) := by
  obtain ⟨-, ⟨_, h12⟩, -⟩ := hM
  exact X8_isIn_of (by omega) h
theorem vp_mono {x : Int32} {n k : Nat} (h : vp_in x n) (hn : n ≤ k) : vp_in x k := by
  rw [vp_in_iff] at h ⊢
  omega
def f_X8_of_j17 (nw : (Nat → Int32)) (j : Nat) (s0_17 : Int32) : Int32 := (nw ((22 + 13 * s0_17.toNatClampNeg) + j))
def f_X8_of (nw : (Nat → Int32)) (x : Int32) (j : Nat) : Int32 := (if (f_X8_isSite nw (x)) = true then (f_X8_of_j17 nw j (x)) else (f_X8_of_j17 nw j (0)))
set_option maxHeartbeats 4000000 in
set_option maxRecDepth 100000 in
theorem c_X8_of (l : Launch) (D : va_G) (C : Nat → ClassId) (b : Nat → Nat) (M : MS) (x : Int32) (j : Nat) (hM : MSafe M) (h_j : j < 13) : Met l yX8_of wsX8_of ({ frames := 2, cells := 0, slots := 0, locals := 43 } : Room) (roP [.ref (b 0), .int x, .int (nI j)] D C (mcells C b M)) (roO (some (.int (f_X8_of (mNow M) x j)))) 0 0 (fun _ => False) := by
  refine Met.ofW (cc := cX8_of) (maxL := 3) (ret := (some .int)) (by decide) rfl ?_
  intro p e s m args below meth c s₁ B hml hv
  obtain ⟨rfl, hP, hK, hE⟩ := hv
  have hx := B.exec
  have hb := B.bytes
  have hr := B.returns
  have hts := atoms_spec (ws := wsX8_of) B.pre
  have hown : s.vm.findClass RX8 = some m.cls := findClass_of_methodNamed B.named
  have hlocks := B.notSynchronized
  obtain ⟨⟨hS2, hS12⟩, ⟨hP2, hP4⟩, hLH, hFE⟩ := id hM
  have hinX8 : ∀ w ∈ u_ws RX8 TX8 20, w ∈ wsX8_of := by decide +kernel
  have hl := lv_entry ([.ref (b 0), .int x, .int (nI j)]) (n := 3) (Nat.le_of_ble_eq_true rfl)
  rw [lg_entry_eq]
  generalize (lg_sl ([.ref (b 0), .int x, .int (nI j)]) ++ List.replicate (3 - (lg_sl ([.ref (b 0), .int x, .int (nI j)])).length) Slot.unset).toArray = ls at hl ⊢
  have hl : lv_has ls 3 [(0, .ref (b 0)), (1, .int x), (2, .int (nI j))] := hl
  obtain ⟨z, hz⟩ : ∃ z, z = f_X8_of (mNow M) x j := ⟨_, rfl⟩
  rw [← hz]
  have J17 : ∀ (s0_17 : Int32)  (ls : Array Slot), z = f_X8_of_j17 (mNow M) j s0_17 → (vp_in s0_17 12) → lv_has ls 3 [(2, .int (nI j))] → W p l e ({ frames := 2, cells := 0, slots := 0, locals := 43 } : Room) s m ([.ref (b 0), .int x, .int (nI j)] : List Value).toArray below meth c s.heap [] 0 0 (MQ below (roO (some (.int z))) ([.ref (b 0), .int x, .int (nI j)] : List Value).toArray s 0 0 (fun _ => False)) (F0 m 17 ls [.int s0_17, .ref (b 1)]) := by
    intro s0_17 ls hz iv17_0 hl
    obtain ⟨ehn_1, lhn_1⟩ := nat_of (x := s0_17) (n := 12) (by exact iv17_0) (by omega)
    refine topN ehn_1 ?_
    refine callRo (va_runS (As := [.int (nI s0_17.toNatClampNeg)]) (rest := [.ref (b 1)]) ⟨hx, hb, hml, hown, hts⟩ (c_X8_siteAt l D C (s0_17.toNatClampNeg) (by omega)) (va_cwS 1 hts gX8_of_X8_siteAt rfl rfl rfl (by decide +kernel) ⟨Nat.le_of_ble_eq_true rfl, Nat.le_of_ble_eq_true rfl⟩) (roP_s (hP.sub (ws' := ([] : va_W)) [] rfl) hK hE) rfl rfl hl.1 rfl (lv_room (Nat.le_of_ble_eq_true rfl)) dX8_of_17 ⟨Nat.le_refl _, Nat.le_refl _⟩) ?_
    refine topN (k := (22 + 13 * s0_17.toNatClampNeg)) rfl ?_
    refine lv_iload_n hx hb dX8_of_20 rfl (lv_at hl 0 rfl) ?_
    refine addN hx hb dX8_of_21 ?_
    refine ialdN (tys := tyA C) hx hb hK hP 1 0 rfl rfl (i := ((22 + 13 * s0_17.toNatClampNeg) + j)) (by omega) (by decide) dX8_of_22 ?_
    exact ro_ret hx hb hr hz dX8_of_23 hlocks
  refine lv_aload_n hx hb dX8_of_0 rfl (lv_at hl 0 rfl) ?_
  refine va_get (D := D) (ci := 9) (v := .ref (b 1)) (C := RX8) (T := TX8) (N := 20) hx hb hts hinX8 hown hK hP 0 rfl rfl 0 (by decide) (hts (.fieldLink RX8 9 "BridgeAuctionModel" "now" "[I") (by decide +kernel)) (fun _ h9 => h9) rfl dX8_of_1 ?_
  refine lv_aload_n hx hb dX8_of_4 rfl (lv_at hl 0 rfl) ?_
  refine lv_iload_n hx hb dX8_of_5 rfl (lv_at hl 1 rfl) ?_
  refine callRo (va_runV (As := [.int x]) (rest := [.ref (b 1)]) ⟨hx, hb, hml, hown, hts⟩ (c_X8_isSite l D C b M (x) hM) (cwV 1 hts gX8_of_X8_isSite rfl rfl rfl (by decide +kernel) ⟨Nat.le_of_ble_eq_true rfl, Nat.le_of_ble_eq_true rfl⟩) (roP_v hP hK hE (va_recv hK hP (ci := 9) (q0 := 0) rfl rfl)) rfl rfl hl.1 rfl (lv_room (Nat.le_of_ble_eq_true rfl)) dX8_of_6 ⟨Nat.le_refl _, Nat.le_refl _⟩) ?_
  refine bif_eq (tgt := 16) hx hb dX8_of_9 (by decide) (fun c_9 => ?_) (fun c_9 => ?_)
  · have hz := hz.trans (ifB_f c_9)
    refine lv_iconst (v := 0) hx hb dX8_of_16 (by decide) ?_
    exact J17 (0) ls hz (by first | assumption | exact vp_mono (X8_isSite_in hM (by assumption)) hS12 | (exact vp_in_nI (n := 0) (by decide) (by decide))) (lv_sub hl [2] rfl)
  · have hz := hz.trans (ifB_t c_9)
    refine lv_iload_n hx hb dX8_of_12 rfl (lv_at hl 1 rfl) ?_
    refine lv_goto (tgt := 17) hx hb dX8_of_13 (by decide) ?_
    exact J17 (x) ls hz (by first | assumption | exact vp_mono (X8_isSite_in hM (by assumption)) hS12 | (exact vp_in_nI (n := 0) (by decide) (by decide))) (lv_sub hl [2] rfl)

