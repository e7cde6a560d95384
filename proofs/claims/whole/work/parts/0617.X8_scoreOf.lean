def f_X8_scoreOf_j84  (s0_84 : Int32) (s1_84 : Int32) : Sum (Int32) (Int32) := (Sum.inr (s1_84 + s0_84))
def f_X8_scoreOf_j79  (s0_79 : Int32) (s1_79 : Int32) (s2_79 : Int32) : Sum (Int32) (Int32) := (f_X8_scoreOf_j84 ((s1_79 + s0_79)) (s2_79))
def f_X8_scoreOf_j50 (nw : (Nat → Int32)) (x : Int32) (k4 : Nat) (v2_50 : Int32) (s0_50 : Bool) : Sum (Int32) (Int32) := (if (f_X8_of nw ((nI k4)) (3)) = x then (if s0_50 = true then (f_X8_scoreOf_j79 (3) ((f_X8_of nw ((nI k4)) (2))) (v2_50)) else (f_X8_scoreOf_j79 (0) ((f_X8_of nw ((nI k4)) (2))) (v2_50))) else (f_X8_scoreOf_j84 (0) (v2_50)))
def f_X8_scoreOf_l4b (nw : (Nat → Int32)) (x : Int32) (k4 : Nat) (v2_4 : Int32) : Sum (Int32) (Int32) := (if (nw ((6 + (f_X8_of nw ((nI k4)) (0)))).toNatClampNeg) = (nw ((6 + (f_X8_of nw ((nI k4)) (1)))).toNatClampNeg) then (f_X8_scoreOf_j50 nw x k4 (v2_4) (true)) else (f_X8_scoreOf_j50 nw x k4 (v2_4) (false)))
def f_X8_scoreOf_l4x (nw : (Nat → Int32)) (x : Int32) (v2_4 : Int32) : Int32 := v2_4
def f_X8_scoreOf_l4s (nw : (Nat → Int32)) (x : Int32) (k4 : Nat) (q_ : Int32) : Sum (Int32) (Int32) := f_X8_scoreOf_l4b nw x k4 (q_)
def f_X8_scoreOf_l4e (nw : (Nat → Int32)) (x : Int32) (q_ : Int32) : Int32 := f_X8_scoreOf_l4x nw x (q_)
def f_X8_scoreOf_l4 (nw : (Nat → Int32)) (x : Int32) (n4 k4 : Nat) (v2_4 : Int32) : Int32 := lpF (f_X8_scoreOf_l4s nw x) (f_X8_scoreOf_l4e nw x) n4 k4 v2_4
def f_X8_scoreOf (nw : (Nat → Int32)) (x : Int32) : Int32 := (f_X8_scoreOf_l4 nw x (mS nw) 0 (0))
set_option maxHeartbeats 4000000 in
set_option maxRecDepth 100000 in
theorem c_X8_scoreOf (l : Launch) (D : va_G) (C : Nat → ClassId) (b : Nat → Nat) (M : MS) (x : Int32) (hM : MSafe M) : Met l yX8_scoreOf wsX8_scoreOf ({ frames := 3, cells := 0, slots := 0, locals := 65 } : Room) (roP [.ref (b 0), .int x] D C (mcells C b M)) (roO (some (.int (f_X8_scoreOf (mNow M) x)))) 0 0 (fun _ => False) := by
  refine Met.ofW (cc := cX8_scoreOf) (maxL := 5) (ret := (some .int)) (by decide) rfl ?_
  intro p e s m args below meth c s₁ B hml hv
  obtain ⟨rfl, hP, hK, hE⟩ := hv
  have hx := B.exec
  have hb := B.bytes
  have hr := B.returns
  have hts := atoms_spec (ws := wsX8_scoreOf) B.pre
  have hown : s.vm.findClass RX8 = some m.cls := findClass_of_methodNamed B.named
  have hlocks := B.notSynchronized
  obtain ⟨⟨hS2, hS12⟩, ⟨hP2, hP4⟩, hLH, hFE⟩ := id hM
  have hinX8 : ∀ w ∈ u_ws RX8 TX8 20, w ∈ wsX8_scoreOf := by decide +kernel
  have hl := lv_entry ([.ref (b 0), .int x]) (n := 5) (Nat.le_of_ble_eq_true rfl)
  rw [lg_entry_eq]
  generalize (lg_sl ([.ref (b 0), .int x]) ++ List.replicate (5 - (lg_sl ([.ref (b 0), .int x])).length) Slot.unset).toArray = ls at hl ⊢
  have hl : lv_has ls 5 [(0, .ref (b 0)), (1, .int x)] := hl
  obtain ⟨z, hz⟩ : ∃ z, z = f_X8_scoreOf (mNow M) x := ⟨_, rfl⟩
  rw [← hz]
  have J4 : ∀ (n4 k4 : Nat) (v2_4 : Int32) (ls : Array Slot), k4 + n4 = mS (mNow M) → z = f_X8_scoreOf_l4 (mNow M) x n4 k4 v2_4 → lv_has ls 5 [(0, .ref (b 0)), (1, .int x), (2, .int v2_4), (3, .int (nI k4))] → W p l e ({ frames := 3, cells := 0, slots := 0, locals := 65 } : Room) s m ([.ref (b 0), .int x] : List Value).toArray below meth c s.heap [] 0 0 (MQ below (roO (some (.int z))) ([.ref (b 0), .int x] : List Value).toArray s 0 0 (fun _ => False)) (F0 m 4 ls []) := by
    intro n4
    induction n4 with
    | zero =>
      intro k4 v2_4 ls hk4 hz  hl
      have hz : z = f_X8_scoreOf_l4x (mNow M) x v2_4 := hz
      refine lv_iload_n hx hb dX8_scoreOf_4 rfl (lv_at hl 3 rfl) ?_
      refine lv_aload_n hx hb dX8_scoreOf_5 rfl (lv_at hl 0 rfl) ?_
      refine va_get (D := D) (ci := 9) (v := .ref (b 1)) (C := RX8) (T := TX8) (N := 20) hx hb hts hinX8 hown hK hP 0 rfl rfl 0 (by decide) (hts (.fieldLink RX8 9 "BridgeAuctionModel" "now" "[I") (by decide +kernel)) (fun _ h9 => h9) rfl dX8_scoreOf_6 ?_
      refine lv_iconst (v := 2) hx hb dX8_scoreOf_9 (by decide) ?_
      refine topN (k := 2) (by decide +kernel) ?_
      refine ialdN (tys := tyA C) hx hb hK hP 1 0 rfl rfl (i := 2) (by omega) (by decide) dX8_scoreOf_10 ?_
      refine topN (k := mS (mNow M)) (by first | exact hS2 | exact hP2) ?_
      refine lv_icmp_ge (tgt := 92) hx hb dX8_scoreOf_11 (by decide) (fun c_11 => ?_) (fun c_11 => absurd (nI_le (by omega) (by omega)) c_11)
      refine lv_iload_n hx hb dX8_scoreOf_92 rfl (lv_at hl 2 rfl) ?_
      exact ro_ret hx hb hr hz dX8_scoreOf_93 hlocks
    | succ n4 ih4 =>
      intro k4 v2_4 ls hk4 hz4  hl
      obtain ⟨z4, hz⟩ : ∃ zz_, zz_ = f_X8_scoreOf_l4b (mNow M) x k4 v2_4 := ⟨_, rfl⟩
      have hq4 : z = sE id (fun q_ => lpF (f_X8_scoreOf_l4s (mNow M) x) (f_X8_scoreOf_l4e (mNow M) x) n4 (k4 + 1) q_) z4 := by rw [hz4, hz]; rfl
      have J84 : ∀ (s0_84 : Int32) (s1_84 : Int32)  (ls : Array Slot), z4 = f_X8_scoreOf_j84 s0_84 s1_84 → lv_has ls 5 [(0, .ref (b 0)), (1, .int x), (3, .int (nI k4))] → W p l e ({ frames := 3, cells := 0, slots := 0, locals := 65 } : Room) s m ([.ref (b 0), .int x] : List Value).toArray below meth c s.heap [] 0 0 (MQ below (roO (some (.int z))) ([.ref (b 0), .int x] : List Value).toArray s 0 0 (fun _ => False)) (F0 m 84 ls [.int s0_84, .int s1_84]) := by
        intro s0_84 s1_84 ls hz  hl
        refine lv_iadd hx hb dX8_scoreOf_84 ?_
        refine lv_istore_n (lv' := [(2, .int (s1_84 + s0_84)), (0, .ref (b 0)), (1, .int x), (3, .int (nI k4))]) hx hb dX8_scoreOf_85 rfl hl (by decide) rfl (fun ls hl => ?_)
        refine lv_iinc (v := (nI (k4 + 1))) (lv' := [(3, .int (nI (k4 + 1))), (2, .int (s1_84 + s0_84)), (0, .ref (b 0)), (1, .int x)]) hx hb dX8_scoreOf_86 hl (k := 3) rfl (by exact nI_1 _) (by decide) rfl (fun ls hl => ?_)
        refine lv_goto (tgt := 4) hx hb dX8_scoreOf_89 (by decide) ?_
        exact ih4 (k4 + 1) ((s1_84 + s0_84)) ls (by omega) (by rw [hq4, hz]; rfl)  (lv_sub hl [2, 3, 1, 0] rfl)
      have J79 : ∀ (s0_79 : Int32) (s1_79 : Int32) (s2_79 : Int32)  (ls : Array Slot), z4 = f_X8_scoreOf_j79 s0_79 s1_79 s2_79 → lv_has ls 5 [(0, .ref (b 0)), (1, .int x), (3, .int (nI k4))] → W p l e ({ frames := 3, cells := 0, slots := 0, locals := 65 } : Room) s m ([.ref (b 0), .int x] : List Value).toArray below meth c s.heap [] 0 0 (MQ below (roO (some (.int z))) ([.ref (b 0), .int x] : List Value).toArray s 0 0 (fun _ => False)) (F0 m 79 ls [.int s0_79, .int s1_79, .int s2_79]) := by
        intro s0_79 s1_79 s2_79 ls hz  hl
        refine lv_iadd hx hb dX8_scoreOf_79 ?_
        refine lv_goto (tgt := 84) hx hb dX8_scoreOf_80 (by decide) ?_
        exact J84 ((s1_79 + s0_79)) (s2_79) ls hz  (lv_sub hl [0, 1, 2] rfl)
      have J50 : ∀ (v2_50 : Int32) (s0_50 : Bool)  (ls : Array Slot), z4 = f_X8_scoreOf_j50 (mNow M) x k4 v2_50 s0_50 → lv_has ls 5 [(0, .ref (b 0)), (1, .int x), (2, .int v2_50), (3, .int (nI k4))] → W p l e ({ frames := 3, cells := 0, slots := 0, locals := 65 } : Room) s m ([.ref (b 0), .int x] : List Value).toArray below meth c s.heap [] 0 0 (MQ below (roO (some (.int z))) ([.ref (b 0), .int x] : List Value).toArray s 0 0 (fun _ => False)) (F0 m 50 ls [.int (bI s0_50)]) := by
        intro v2_50 s0_50 ls hz  hl
        refine lv_istore (lv' := [(4, .int (bI s0_50)), (0, .ref (b 0)), (1, .int x), (2, .int v2_50), (3, .int (nI k4))]) hx hb dX8_scoreOf_50 hl (by decide) rfl (fun ls hl => ?_)
        refine lv_iload_n hx hb dX8_scoreOf_52 rfl (lv_at hl 3 rfl) ?_
        refine lv_aload_n hx hb dX8_scoreOf_53 rfl (lv_at hl 1 rfl) ?_
        refine lv_iload_n hx hb dX8_scoreOf_54 rfl (lv_at hl 4 rfl) ?_
        refine lv_iconst (v := 3) hx hb dX8_scoreOf_55 (by decide) ?_
        refine topN (k := 3) (by decide +kernel) ?_
        refine callRo (va_runV (As := [.int (nI k4), .int (nI 3)]) (rest := [.int v2_50]) ⟨hx, hb, hml, hown, hts⟩ (c_X8_of l D C b M ((nI k4)) (3) hM (by omega)) (cwV 2 hts gX8_scoreOf_X8_of rfl rfl rfl (by decide +kernel) ⟨Nat.le_of_ble_eq_true rfl, Nat.le_of_ble_eq_true rfl⟩) (roP_v hP hK hE (va_recv hK hP (ci := 9) (q0 := 0) rfl rfl)) rfl rfl hl.1 rfl (lv_room (Nat.le_of_ble_eq_true rfl)) dX8_scoreOf_56 ⟨Nat.le_refl _, Nat.le_refl _⟩) ?_
        refine lv_iload_n hx hb dX8_scoreOf_59 rfl (lv_at hl 2 rfl) ?_
        refine lv_icmp_ne (tgt := 83) hx hb dX8_scoreOf_60 (by decide) (fun c_60 => ?_) (fun c_60 => ?_)
        · have hz := hz.trans (if_neg c_60)
          refine lv_iconst (v := 0) hx hb dX8_scoreOf_83 (by decide) ?_
          exact J84 (0) (v2_50) ls hz  (lv_sub hl [1, 2, 4] rfl)
        · have hz := hz.trans (if_pos c_60)
          refine lv_aload_n hx hb dX8_scoreOf_63 rfl (lv_at hl 1 rfl) ?_
          refine lv_iload_n hx hb dX8_scoreOf_64 rfl (lv_at hl 4 rfl) ?_
          refine lv_iconst (v := 2) hx hb dX8_scoreOf_65 (by decide) ?_
          refine topN (k := 2) (by decide +kernel) ?_
          refine callRo (va_runV (As := [.int (nI k4), .int (nI 2)]) (rest := [.int v2_50]) ⟨hx, hb, hml, hown, hts⟩ (c_X8_of l D C b M ((nI k4)) (2) hM (by omega)) (cwV 2 hts gX8_scoreOf_X8_of rfl rfl rfl (by decide +kernel) ⟨Nat.le_of_ble_eq_true rfl, Nat.le_of_ble_eq_true rfl⟩) (roP_v hP hK hE (va_recv hK hP (ci := 9) (q0 := 0) rfl rfl)) rfl rfl hl.1 rfl (lv_room (Nat.le_of_ble_eq_true rfl)) dX8_scoreOf_66 ⟨Nat.le_refl _, Nat.le_refl _⟩) ?_
          refine lv_iload hx hb dX8_scoreOf_69 (lv_at hl 0 rfl) ?_
          refine bif_eq (tgt := 78) hx hb dX8_scoreOf_71 (by decide) (fun c_71 => ?_) (fun c_71 => ?_)
          · have hz := hz.trans (ifB_f c_71)
            refine lv_iconst (v := 0) hx hb dX8_scoreOf_78 (by decide) ?_
            exact J79 (0) ((f_X8_of (mNow M) ((nI k4)) (2))) (v2_50) ls hz  (lv_sub hl [1, 2, 4] rfl)
          · have hz := hz.trans (ifB_t c_71)
            refine lv_iconst (v := 3) hx hb dX8_scoreOf_74 (by decide) ?_
            refine lv_goto (tgt := 79) hx hb dX8_scoreOf_75 (by decide) ?_
            exact J79 (3) ((f_X8_of (mNow M) ((nI k4)) (2))) (v2_50) ls hz  (lv_sub hl [1, 2, 4] rfl)
      refine lv_iload_n hx hb dX8_scoreOf_4 rfl (lv_at hl 3 rfl) ?_
      refine lv_aload_n hx hb dX8_scoreOf_5 rfl (lv_at hl 0 rfl) ?_
      refine va_get (D := D) (ci := 9) (v := .ref (b 1)) (C := RX8) (T := TX8) (N := 20) hx hb hts hinX8 hown hK hP 0 rfl rfl 0 (by decide) (hts (.fieldLink RX8 9 "BridgeAuctionModel" "now" "[I") (by decide +kernel)) (fun _ h9 => h9) rfl dX8_scoreOf_6 ?_
      refine lv_iconst (v := 2) hx hb dX8_scoreOf_9 (by decide) ?_
      refine topN (k := 2) (by decide +kernel) ?_
      refine ialdN (tys := tyA C) hx hb hK hP 1 0 rfl rfl (i := 2) (by omega) (by decide) dX8_scoreOf_10 ?_
      refine topN (k := mS (mNow M)) (by first | exact hS2 | exact hP2) ?_
      refine lv_icmp_ge (tgt := 92) hx hb dX8_scoreOf_11 (by decide) (fun c_11 => absurd c_11 (nI_ge (by omega) (by omega))) (fun c_11 => ?_)
      refine lv_aload_n hx hb dX8_scoreOf_14 rfl (lv_at hl 0 rfl) ?_
      refine va_get (D := D) (ci := 9) (v := .ref (b 1)) (C := RX8) (T := TX8) (N := 20) hx hb hts hinX8 hown hK hP 0 rfl rfl 0 (by decide) (hts (.fieldLink RX8 9 "BridgeAuctionModel" "now" "[I") (by decide +kernel)) (fun _ h9 => h9) rfl dX8_scoreOf_15 ?_
      refine lv_bipush (v := 6) hx hb dX8_scoreOf_18 (by decide +kernel) ?_
      refine lv_aload_n hx hb dX8_scoreOf_20 rfl (lv_at hl 0 rfl) ?_
      refine lv_iload_n hx hb dX8_scoreOf_21 rfl (lv_at hl 3 rfl) ?_
      refine lv_iconst (v := 0) hx hb dX8_scoreOf_22 (by decide) ?_
      refine topN (k := 0) (by decide +kernel) ?_
      refine callRo (va_runV (As := [.int (nI k4), .int (nI 0)]) (rest := [.int 6, .ref (b 1)]) ⟨hx, hb, hml, hown, hts⟩ (c_X8_of l D C b M ((nI k4)) (0) hM (by omega)) (cwV 2 hts gX8_scoreOf_X8_of rfl rfl rfl (by decide +kernel) ⟨Nat.le_of_ble_eq_true rfl, Nat.le_of_ble_eq_true rfl⟩) (roP_v hP hK hE (va_recv hK hP (ci := 9) (q0 := 0) rfl rfl)) rfl rfl hl.1 rfl (lv_room (Nat.le_of_ble_eq_true rfl)) dX8_scoreOf_23 ⟨Nat.le_refl _, Nat.le_refl _⟩) ?_
      refine lv_iadd hx hb dX8_scoreOf_26 ?_
      obtain ⟨ehn_1, lhn_1⟩ := nat_of (x := (6 + (f_X8_of (mNow M) ((nI k4)) (0)))) (n := 178) (by exact vp_add 6 (X8_lo_in hM (by omega)) rfl (by decide) (by decide)) (by omega)
      refine topN ehn_1 ?_
      refine ialdN (tys := tyA C) hx hb hK hP 1 0 rfl rfl (i := ((6 + (f_X8_of (mNow M) ((nI k4)) (0)))).toNatClampNeg) (by omega) (by decide) dX8_scoreOf_27 ?_
      refine lv_aload_n hx hb dX8_scoreOf_28 rfl (lv_at hl 0 rfl) ?_
      refine va_get (D := D) (ci := 9) (v := .ref (b 1)) (C := RX8) (T := TX8) (N := 20) hx hb hts hinX8 hown hK hP 0 rfl rfl 0 (by decide) (hts (.fieldLink RX8 9 "BridgeAuctionModel" "now" "[I") (by decide +kernel)) (fun _ h9 => h9) rfl dX8_scoreOf_29 ?_
      refine lv_bipush (v := 6) hx hb dX8_scoreOf_32 (by decide +kernel) ?_
      refine lv_aload_n hx hb dX8_scoreOf_34 rfl (lv_at hl 0 rfl) ?_
      refine lv_iload_n hx hb dX8_scoreOf_35 rfl (lv_at hl 3 rfl) ?_
      refine lv_iconst (v := 1) hx hb dX8_scoreOf_36 (by decide) ?_
      refine topN (k := 1) (by decide +kernel) ?_
      refine callRo (va_runV (As := [.int (nI k4), .int (nI 1)]) (rest := [.int 6, .ref (b 1), .int ((mNow M) ((6 + (f_X8_of (mNow M) ((nI k4)) (0)))).toNatClampNeg)]) ⟨hx, hb, hml, hown, hts⟩ (c_X8_of l D C b M ((nI k4)) (1) hM (by omega)) (cwV 2 hts gX8_scoreOf_X8_of rfl rfl rfl (by decide +kernel) ⟨Nat.le_of_ble_eq_true rfl, Nat.le_of_ble_eq_true rfl⟩) (roP_v hP hK hE (va_recv hK hP (ci := 9) (q0 := 0) rfl rfl)) rfl rfl hl.1 rfl (lv_room (Nat.le_of_ble_eq_true rfl)) dX8_scoreOf_37 ⟨Nat.le_refl _, Nat.le_refl _⟩) ?_
      refine lv_iadd hx hb dX8_scoreOf_40 ?_
      obtain ⟨ehn_2, lhn_2⟩ := nat_of (x := (6 + (f_X8_of (mNow M) ((nI k4)) (1)))) (n := 178) (by exact vp_add 6 (X8_hi_in hM (by omega)) rfl (by decide) (by decide)) (by omega)
      refine topN ehn_2 ?_
      refine ialdN (tys := tyA C) hx hb hK hP 1 0 rfl rfl (i := ((6 + (f_X8_of (mNow M) ((nI k4)) (1)))).toNatClampNeg) (by omega) (by decide) dX8_scoreOf_41 ?_
      refine lv_icmp_ne (tgt := 49) hx hb dX8_scoreOf_42 (by decide) (fun c_42 => ?_) (fun c_42 => ?_)
      · have hz := hz.trans (if_neg c_42)
        refine lv_iconst (v := 0) hx hb dX8_scoreOf_49 (by decide) ?_
        exact J50 (v2_4) (false) ls hz  (lv_sub hl [0, 1, 2, 3] rfl)
      · have hz := hz.trans (if_pos c_42)
        refine lv_iconst (v := 1) hx hb dX8_scoreOf_45 (by decide) ?_
        refine lv_goto (tgt := 50) hx hb dX8_scoreOf_46 (by decide) ?_
        exact J50 (v2_4) (true) ls hz  (lv_sub hl [0, 1, 2, 3] rfl)
  refine lv_iconst (v := 0) hx hb dX8_scoreOf_0 (by decide) ?_
  refine lv_istore_n (lv' := [(2, .int 0), (0, .ref (b 0)), (1, .int x)]) hx hb dX8_scoreOf_1 rfl hl (by decide) rfl (fun ls hl => ?_)
  refine lv_iconst (v := 0) hx hb dX8_scoreOf_2 (by decide) ?_
  refine lv_istore_n (lv' := [(3, .int 0), (2, .int 0), (0, .ref (b 0)), (1, .int x)]) hx hb dX8_scoreOf_3 rfl hl (by decide) rfl (fun ls hl => ?_)
  exact J4 (mS (mNow M)) 0 (0) ls (by omega) hz  (lv_sub hl [2, 3, 1, 0] rfl)

