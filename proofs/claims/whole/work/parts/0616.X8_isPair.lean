def f_X8_isPair_j55  (s0_55 : Bool) : Sum (Bool) (Bool) := (Sum.inr s0_55)
def f_X8_isPair_j54  : Sum (Bool) (Bool) := (f_X8_isPair_j55 (false))
def f_X8_isPair_j50  : Sum (Bool) (Bool) := (f_X8_isPair_j55 (true))
def f_X8_isPair_l5b (nw : (Nat → Int32)) (x : Int32) (y : Int32) (k5 : Nat) (v3_5 : Bool) : Sum (Bool) (Bool) := (if v3_5 = true then (f_X8_isPair_j50) else (if (f_X8_of nw ((nI k5)) (0)) = (imin x y) then (if (f_X8_of nw ((nI k5)) (1)) = (imax x y) then (f_X8_isPair_j50) else (f_X8_isPair_j54)) else (f_X8_isPair_j54)))
def f_X8_isPair_l5x (nw : (Nat → Int32)) (x : Int32) (y : Int32) (v3_5 : Bool) : Bool := v3_5
def f_X8_isPair_l5s (nw : (Nat → Int32)) (x : Int32) (y : Int32) (k5 : Nat) (q_ : Bool) : Sum (Bool) (Bool) := f_X8_isPair_l5b nw x y k5 (q_)
def f_X8_isPair_l5e (nw : (Nat → Int32)) (x : Int32) (y : Int32) (q_ : Bool) : Bool := f_X8_isPair_l5x nw x y (q_)
def f_X8_isPair_l5 (nw : (Nat → Int32)) (x : Int32) (y : Int32) (n5 k5 : Nat) (v3_5 : Bool) : Bool := lpF (f_X8_isPair_l5s nw x y) (f_X8_isPair_l5e nw x y) n5 k5 v3_5
def f_X8_isPair (nw : (Nat → Int32)) (x : Int32) (y : Int32) : Bool := (f_X8_isPair_l5 nw x y (mS nw) 0 (false))
set_option maxHeartbeats 4000000 in
set_option maxRecDepth 100000 in
theorem c_X8_isPair (l : Launch) (D : va_G) (C : Nat → ClassId) (b : Nat → Nat) (M : MS) (x : Int32) (y : Int32) (hM : MSafe M) : Met l yX8_isPair wsX8_isPair ({ frames := 3, cells := 0, slots := 0, locals := 65 } : Room) (roP [.ref (b 0), .int x, .int y] D C (mcells C b M)) (roO (some (.int (bI (f_X8_isPair (mNow M) x y))))) 0 0 (fun _ => False) := by
  refine Met.ofW (cc := cX8_isPair) (maxL := 5) (ret := (some .boolean)) (by decide) rfl ?_
  intro p e s m args below meth c s₁ B hml hv
  obtain ⟨rfl, hP, hK, hE⟩ := hv
  have hx := B.exec
  have hb := B.bytes
  have hr := B.returns
  have hts := atoms_spec (ws := wsX8_isPair) B.pre
  have hown : s.vm.findClass RX8 = some m.cls := findClass_of_methodNamed B.named
  have hlocks := B.notSynchronized
  obtain ⟨⟨hS2, hS12⟩, ⟨hP2, hP4⟩, hLH, hFE⟩ := id hM
  have hinX8 : ∀ w ∈ u_ws RX8 TX8 20, w ∈ wsX8_isPair := by decide +kernel
  have hl := lv_entry ([.ref (b 0), .int x, .int y]) (n := 5) (Nat.le_of_ble_eq_true rfl)
  rw [lg_entry_eq]
  generalize (lg_sl ([.ref (b 0), .int x, .int y]) ++ List.replicate (5 - (lg_sl ([.ref (b 0), .int x, .int y])).length) Slot.unset).toArray = ls at hl ⊢
  have hl : lv_has ls 5 [(0, .ref (b 0)), (1, .int x), (2, .int y)] := hl
  obtain ⟨z, hz⟩ : ∃ z, z = f_X8_isPair (mNow M) x y := ⟨_, rfl⟩
  rw [← hz]
  have J5 : ∀ (n5 k5 : Nat) (v3_5 : Bool) (ls : Array Slot), k5 + n5 = mS (mNow M) → z = f_X8_isPair_l5 (mNow M) x y n5 k5 v3_5 → lv_has ls 5 [(0, .ref (b 0)), (1, .int x), (2, .int y), (3, .int (bI v3_5)), (4, .int (nI k5))] → W p l e ({ frames := 3, cells := 0, slots := 0, locals := 65 } : Room) s m ([.ref (b 0), .int x, .int y] : List Value).toArray below meth c s.heap [] 0 0 (MQ below (roO (some (.int (bI z)))) ([.ref (b 0), .int x, .int y] : List Value).toArray s 0 0 (fun _ => False)) (F0 m 5 ls []) := by
    intro n5
    induction n5 with
    | zero =>
      intro k5 v3_5 ls hk5 hz  hl
      have hz : z = f_X8_isPair_l5x (mNow M) x y v3_5 := hz
      refine lv_iload hx hb dX8_isPair_5 (lv_at hl 4 rfl) ?_
      refine lv_aload_n hx hb dX8_isPair_7 rfl (lv_at hl 0 rfl) ?_
      refine va_get (D := D) (ci := 9) (v := .ref (b 1)) (C := RX8) (T := TX8) (N := 20) hx hb hts hinX8 hown hK hP 0 rfl rfl 0 (by decide) (hts (.fieldLink RX8 9 "BridgeAuctionModel" "now" "[I") (by decide +kernel)) (fun _ h9 => h9) rfl dX8_isPair_8 ?_
      refine lv_iconst (v := 2) hx hb dX8_isPair_11 (by decide) ?_
      refine topN (k := 2) (by decide +kernel) ?_
      refine ialdN (tys := tyA C) hx hb hK hP 1 0 rfl rfl (i := 2) (by omega) (by decide) dX8_isPair_12 ?_
      refine topN (k := mS (mNow M)) (by first | exact hS2 | exact hP2) ?_
      refine lv_icmp_ge (tgt := 62) hx hb dX8_isPair_13 (by decide) (fun c_13 => ?_) (fun c_13 => absurd (nI_le (by omega) (by omega)) c_13)
      refine lv_iload_n hx hb dX8_isPair_62 rfl (lv_at hl 3 rfl) ?_
      exact ro_retB hx hb hr (show _ = v3_5 from hz) dX8_isPair_63 hlocks
    | succ n5 ih5 =>
      intro k5 v3_5 ls hk5 hz5  hl
      obtain ⟨z5, hz⟩ : ∃ zz_, zz_ = f_X8_isPair_l5b (mNow M) x y k5 v3_5 := ⟨_, rfl⟩
      have hq5 : z = sE id (fun q_ => lpF (f_X8_isPair_l5s (mNow M) x y) (f_X8_isPair_l5e (mNow M) x y) n5 (k5 + 1) q_) z5 := by rw [hz5, hz]; rfl
      have J55 : ∀ (s0_55 : Bool)  (ls : Array Slot), z5 = f_X8_isPair_j55 s0_55 → lv_has ls 5 [(0, .ref (b 0)), (1, .int x), (2, .int y), (4, .int (nI k5))] → W p l e ({ frames := 3, cells := 0, slots := 0, locals := 65 } : Room) s m ([.ref (b 0), .int x, .int y] : List Value).toArray below meth c s.heap [] 0 0 (MQ below (roO (some (.int (bI z)))) ([.ref (b 0), .int x, .int y] : List Value).toArray s 0 0 (fun _ => False)) (F0 m 55 ls [.int (bI s0_55)]) := by
        intro s0_55 ls hz  hl
        refine lv_istore_n (lv' := [(3, .int (bI s0_55)), (0, .ref (b 0)), (1, .int x), (2, .int y), (4, .int (nI k5))]) hx hb dX8_isPair_55 rfl hl (by decide) rfl (fun ls hl => ?_)
        refine lv_iinc (v := (nI (k5 + 1))) (lv' := [(4, .int (nI (k5 + 1))), (3, .int (bI s0_55)), (0, .ref (b 0)), (1, .int x), (2, .int y)]) hx hb dX8_isPair_56 hl (k := 4) rfl (by exact nI_1 _) (by decide) rfl (fun ls hl => ?_)
        refine lv_goto (tgt := 5) hx hb dX8_isPair_59 (by decide) ?_
        exact ih5 (k5 + 1) (s0_55) ls (by omega) (by rw [hq5, hz]; rfl)  (lv_sub hl [2, 3, 4, 1, 0] rfl)
      have J54 : ∀  (ls : Array Slot), z5 = f_X8_isPair_j54 → lv_has ls 5 [(0, .ref (b 0)), (1, .int x), (2, .int y), (4, .int (nI k5))] → W p l e ({ frames := 3, cells := 0, slots := 0, locals := 65 } : Room) s m ([.ref (b 0), .int x, .int y] : List Value).toArray below meth c s.heap [] 0 0 (MQ below (roO (some (.int (bI z)))) ([.ref (b 0), .int x, .int y] : List Value).toArray s 0 0 (fun _ => False)) (F0 m 54 ls []) := by
        intro  ls hz  hl
        refine lv_iconst (v := 0) hx hb dX8_isPair_54 (by decide) ?_
        exact J55 (false) ls hz  (lv_sub hl [0, 1, 2, 3] rfl)
      have J50 : ∀  (ls : Array Slot), z5 = f_X8_isPair_j50 → lv_has ls 5 [(0, .ref (b 0)), (1, .int x), (2, .int y), (4, .int (nI k5))] → W p l e ({ frames := 3, cells := 0, slots := 0, locals := 65 } : Room) s m ([.ref (b 0), .int x, .int y] : List Value).toArray below meth c s.heap [] 0 0 (MQ below (roO (some (.int (bI z)))) ([.ref (b 0), .int x, .int y] : List Value).toArray s 0 0 (fun _ => False)) (F0 m 50 ls []) := by
        intro  ls hz  hl
        refine lv_iconst (v := 1) hx hb dX8_isPair_50 (by decide) ?_
        refine lv_goto (tgt := 55) hx hb dX8_isPair_51 (by decide) ?_
        exact J55 (true) ls hz  (lv_sub hl [0, 1, 2, 3] rfl)
      refine lv_iload hx hb dX8_isPair_5 (lv_at hl 4 rfl) ?_
      refine lv_aload_n hx hb dX8_isPair_7 rfl (lv_at hl 0 rfl) ?_
      refine va_get (D := D) (ci := 9) (v := .ref (b 1)) (C := RX8) (T := TX8) (N := 20) hx hb hts hinX8 hown hK hP 0 rfl rfl 0 (by decide) (hts (.fieldLink RX8 9 "BridgeAuctionModel" "now" "[I") (by decide +kernel)) (fun _ h9 => h9) rfl dX8_isPair_8 ?_
      refine lv_iconst (v := 2) hx hb dX8_isPair_11 (by decide) ?_
      refine topN (k := 2) (by decide +kernel) ?_
      refine ialdN (tys := tyA C) hx hb hK hP 1 0 rfl rfl (i := 2) (by omega) (by decide) dX8_isPair_12 ?_
      refine topN (k := mS (mNow M)) (by first | exact hS2 | exact hP2) ?_
      refine lv_icmp_ge (tgt := 62) hx hb dX8_isPair_13 (by decide) (fun c_13 => absurd c_13 (nI_ge (by omega) (by omega))) (fun c_13 => ?_)
      refine lv_iload_n hx hb dX8_isPair_16 rfl (lv_at hl 3 rfl) ?_
      refine bif_ne (tgt := 50) hx hb dX8_isPair_17 (by decide) (fun c_17 => ?_) (fun c_17 => ?_)
      · have hz := hz.trans (ifB_t c_17)
        exact J50  ls hz  (lv_sub hl [0, 1, 2, 4] rfl)
      · have hz := hz.trans (ifB_f c_17)
        refine lv_aload_n hx hb dX8_isPair_20 rfl (lv_at hl 0 rfl) ?_
        refine lv_iload hx hb dX8_isPair_21 (lv_at hl 4 rfl) ?_
        refine lv_iconst (v := 0) hx hb dX8_isPair_23 (by decide) ?_
        refine topN (k := 0) (by decide +kernel) ?_
        refine callRo (va_runV (As := [.int (nI k5), .int (nI 0)]) (rest := []) ⟨hx, hb, hml, hown, hts⟩ (c_X8_of l D C b M ((nI k5)) (0) hM (by omega)) (cwV 2 hts gX8_isPair_X8_of rfl rfl rfl (by decide +kernel) ⟨Nat.le_of_ble_eq_true rfl, Nat.le_of_ble_eq_true rfl⟩) (roP_v hP hK hE (va_recv hK hP (ci := 9) (q0 := 0) rfl rfl)) rfl rfl hl.1 rfl (lv_room (Nat.le_of_ble_eq_true rfl)) dX8_isPair_24 ⟨Nat.le_refl _, Nat.le_refl _⟩) ?_
        refine lv_iload_n hx hb dX8_isPair_27 rfl (lv_at hl 1 rfl) ?_
        refine lv_iload_n hx hb dX8_isPair_28 rfl (lv_at hl 2 rfl) ?_
        refine va_mmin hx hb (hml.trans hl.1.symm) hown (hts (.methodLink RX8 114 Lib.Math.min.name) (by decide +kernel)) (hts (.static Lib.Math.min.name) (by decide +kernel)) (hts (.initialized "java/lang/Math") (by decide +kernel)) (hts (.code Lib.Math.min.name Lib.Math.min.code 2 (some .int)) (by decide +kernel)) (Nat.le_of_ble_eq_true rfl) (Nat.le_of_ble_eq_true rfl) (Nat.le_of_ble_eq_true rfl) (Nat.le_of_ble_eq_true rfl) dX8_isPair_29 ?_
        refine topI (y := (imin x y)) rfl ?_
        refine lv_icmp_ne (tgt := 54) hx hb dX8_isPair_32 (by decide) (fun c_32 => ?_) (fun c_32 => ?_)
        · have hz := hz.trans (if_neg c_32)
          exact J54  ls hz  (lv_sub hl [0, 1, 2, 4] rfl)
        · have hz := hz.trans (if_pos c_32)
          refine lv_aload_n hx hb dX8_isPair_35 rfl (lv_at hl 0 rfl) ?_
          refine lv_iload hx hb dX8_isPair_36 (lv_at hl 4 rfl) ?_
          refine lv_iconst (v := 1) hx hb dX8_isPair_38 (by decide) ?_
          refine topN (k := 1) (by decide +kernel) ?_
          refine callRo (va_runV (As := [.int (nI k5), .int (nI 1)]) (rest := []) ⟨hx, hb, hml, hown, hts⟩ (c_X8_of l D C b M ((nI k5)) (1) hM (by omega)) (cwV 2 hts gX8_isPair_X8_of rfl rfl rfl (by decide +kernel) ⟨Nat.le_of_ble_eq_true rfl, Nat.le_of_ble_eq_true rfl⟩) (roP_v hP hK hE (va_recv hK hP (ci := 9) (q0 := 0) rfl rfl)) rfl rfl hl.1 rfl (lv_room (Nat.le_of_ble_eq_true rfl)) dX8_isPair_39 ⟨Nat.le_refl _, Nat.le_refl _⟩) ?_
          refine lv_iload_n hx hb dX8_isPair_42 rfl (lv_at hl 1 rfl) ?_
          refine lv_iload_n hx hb dX8_isPair_43 rfl (lv_at hl 2 rfl) ?_
          refine va_mmax hx hb (hml.trans hl.1.symm) hown (hts (.methodLink RX8 88 Lib.Math.max.name) (by decide +kernel)) (hts (.static Lib.Math.max.name) (by decide +kernel)) (hts (.initialized "java/lang/Math") (by decide +kernel)) (hts (.code Lib.Math.max.name Lib.Math.max.code 2 (some .int)) (by decide +kernel)) (Nat.le_of_ble_eq_true rfl) (Nat.le_of_ble_eq_true rfl) (Nat.le_of_ble_eq_true rfl) (Nat.le_of_ble_eq_true rfl) dX8_isPair_44 ?_
          refine topI (y := (imax x y)) rfl ?_
          refine lv_icmp_ne (tgt := 54) hx hb dX8_isPair_47 (by decide) (fun c_47 => ?_) (fun c_47 => ?_)
          · have hz := hz.trans (if_neg c_47)
            exact J54  ls hz  (lv_sub hl [0, 1, 2, 4] rfl)
          · have hz := hz.trans (if_pos c_47)
            exact J50  ls hz  (lv_sub hl [0, 1, 2, 4] rfl)
  refine lv_iconst (v := 0) hx hb dX8_isPair_0 (by decide) ?_
  refine lv_istore_n (lv' := [(3, .int 0), (0, .ref (b 0)), (1, .int x), (2, .int y)]) hx hb dX8_isPair_1 rfl hl (by decide) rfl (fun ls hl => ?_)
  refine lv_iconst (v := 0) hx hb dX8_isPair_2 (by decide) ?_
  refine lv_istore (lv' := [(4, .int 0), (3, .int 0), (0, .ref (b 0)), (1, .int x), (2, .int y)]) hx hb dX8_isPair_3 hl (by decide) rfl (fun ls hl => ?_)
  exact J5 (mS (mNow M)) 0 (false) ls (by omega) hz  (lv_sub hl [2, 3, 4, 1, 0] rfl)

