def f_X8_bidsOn_j26  (s0_26 : Bool) (s1_26 : Int32) : Sum (Int32) (Int32) := (Sum.inr (s1_26 + (bI s0_26)))
def f_X8_bidsOn_l4b (nw : (Nat → Int32)) (x : Int32) (k4 : Nat) (v2_4 : Int32) : Sum (Int32) (Int32) := (if (f_X8_of nw (x) ((5 + k4))) ≤ 0 then (f_X8_bidsOn_j26 (false) (v2_4)) else (f_X8_bidsOn_j26 (true) (v2_4)))
def f_X8_bidsOn_l4x (nw : (Nat → Int32)) (x : Int32) (v2_4 : Int32) : Int32 := v2_4
def f_X8_bidsOn_l4s (nw : (Nat → Int32)) (x : Int32) (k4 : Nat) (q_ : Int32) : Sum (Int32) (Int32) := f_X8_bidsOn_l4b nw x k4 (q_)
def f_X8_bidsOn_l4e (nw : (Nat → Int32)) (x : Int32) (q_ : Int32) : Int32 := f_X8_bidsOn_l4x nw x (q_)
def f_X8_bidsOn_l4 (nw : (Nat → Int32)) (x : Int32) (n4 k4 : Nat) (v2_4 : Int32) : Int32 := lpF (f_X8_bidsOn_l4s nw x) (f_X8_bidsOn_l4e nw x) n4 k4 v2_4
def f_X8_bidsOn (nw : (Nat → Int32)) (x : Int32) : Int32 := (f_X8_bidsOn_l4 nw x (4) 0 (0))
set_option maxHeartbeats 4000000 in
set_option maxRecDepth 100000 in
theorem c_X8_bidsOn (l : Launch) (D : va_G) (C : Nat → ClassId) (b : Nat → Nat) (M : MS) (x : Int32) (hM : MSafe M) : Met l yX8_bidsOn wsX8_bidsOn ({ frames := 3, cells := 0, slots := 0, locals := 65 } : Room) (roP [.ref (b 0), .int x] D C (mcells C b M)) (roO (some (.int (f_X8_bidsOn (mNow M) x)))) 0 0 (fun _ => False) := by
  refine Met.ofW (cc := cX8_bidsOn) (maxL := 4) (ret := (some .int)) (by decide) rfl ?_
  intro p e s m args below meth c s₁ B hml hv
  obtain ⟨rfl, hP, hK, hE⟩ := hv
  have hx := B.exec
  have hb := B.bytes
  have hr := B.returns
  have hts := atoms_spec (ws := wsX8_bidsOn) B.pre
  have hown : s.vm.findClass RX8 = some m.cls := findClass_of_methodNamed B.named
  have hlocks := B.notSynchronized
  obtain ⟨⟨hS2, hS12⟩, ⟨hP2, hP4⟩, hLH, hFE⟩ := id hM
  have hl := lv_entry ([.ref (b 0), .int x]) (n := 4) (Nat.le_of_ble_eq_true rfl)
  rw [lg_entry_eq]
  generalize (lg_sl ([.ref (b 0), .int x]) ++ List.replicate (4 - (lg_sl ([.ref (b 0), .int x])).length) Slot.unset).toArray = ls at hl ⊢
  have hl : lv_has ls 4 [(0, .ref (b 0)), (1, .int x)] := hl
  obtain ⟨z, hz⟩ : ∃ z, z = f_X8_bidsOn (mNow M) x := ⟨_, rfl⟩
  rw [← hz]
  have J4 : ∀ (n4 k4 : Nat) (v2_4 : Int32) (ls : Array Slot), k4 + n4 = 4 → z = f_X8_bidsOn_l4 (mNow M) x n4 k4 v2_4 → lv_has ls 4 [(0, .ref (b 0)), (1, .int x), (2, .int v2_4), (3, .int (nI k4))] → W p l e ({ frames := 3, cells := 0, slots := 0, locals := 65 } : Room) s m ([.ref (b 0), .int x] : List Value).toArray below meth c s.heap [] 0 0 (MQ below (roO (some (.int z))) ([.ref (b 0), .int x] : List Value).toArray s 0 0 (fun _ => False)) (F0 m 4 ls []) := by
    intro n4
    induction n4 with
    | zero =>
      intro k4 v2_4 ls hk4 hz  hl
      have hz : z = f_X8_bidsOn_l4x (mNow M) x v2_4 := hz
      refine lv_iload_n hx hb dX8_bidsOn_4 rfl (lv_at hl 3 rfl) ?_
      refine lv_iconst (v := 4) hx hb dX8_bidsOn_5 (by decide) ?_
      refine lv_icmp_ge (tgt := 34) hx hb dX8_bidsOn_6 (by decide) (fun c_6 => ?_) (fun c_6 => absurd (by have e : (4 : Int32) = nI 4 := (by decide +kernel); rw [e]; exact nI_le (by omega) (by omega)) c_6)
      refine lv_iload_n hx hb dX8_bidsOn_34 rfl (lv_at hl 2 rfl) ?_
      exact ro_ret hx hb hr hz dX8_bidsOn_35 hlocks
    | succ n4 ih4 =>
      intro k4 v2_4 ls hk4 hz4  hl
      obtain ⟨z4, hz⟩ : ∃ zz_, zz_ = f_X8_bidsOn_l4b (mNow M) x k4 v2_4 := ⟨_, rfl⟩
      have hq4 : z = sE id (fun q_ => lpF (f_X8_bidsOn_l4s (mNow M) x) (f_X8_bidsOn_l4e (mNow M) x) n4 (k4 + 1) q_) z4 := by rw [hz4, hz]; rfl
      have J26 : ∀ (s0_26 : Bool) (s1_26 : Int32)  (ls : Array Slot), z4 = f_X8_bidsOn_j26 s0_26 s1_26 → lv_has ls 4 [(0, .ref (b 0)), (1, .int x), (3, .int (nI k4))] → W p l e ({ frames := 3, cells := 0, slots := 0, locals := 65 } : Room) s m ([.ref (b 0), .int x] : List Value).toArray below meth c s.heap [] 0 0 (MQ below (roO (some (.int z))) ([.ref (b 0), .int x] : List Value).toArray s 0 0 (fun _ => False)) (F0 m 26 ls [.int (bI s0_26), .int s1_26]) := by
        intro s0_26 s1_26 ls hz  hl
        refine lv_iadd hx hb dX8_bidsOn_26 ?_
        refine lv_istore_n (lv' := [(2, .int (s1_26 + (bI s0_26))), (0, .ref (b 0)), (1, .int x), (3, .int (nI k4))]) hx hb dX8_bidsOn_27 rfl hl (by decide) rfl (fun ls hl => ?_)
        refine lv_iinc (v := (nI (k4 + 1))) (lv' := [(3, .int (nI (k4 + 1))), (2, .int (s1_26 + (bI s0_26))), (0, .ref (b 0)), (1, .int x)]) hx hb dX8_bidsOn_28 hl (k := 3) rfl (by exact nI_1 _) (by decide) rfl (fun ls hl => ?_)
        refine lv_goto (tgt := 4) hx hb dX8_bidsOn_31 (by decide) ?_
        exact ih4 (k4 + 1) ((s1_26 + (bI s0_26))) ls (by omega) (by rw [hq4, hz]; rfl)  (lv_sub hl [2, 3, 1, 0] rfl)
      refine lv_iload_n hx hb dX8_bidsOn_4 rfl (lv_at hl 3 rfl) ?_
      refine lv_iconst (v := 4) hx hb dX8_bidsOn_5 (by decide) ?_
      refine lv_icmp_ge (tgt := 34) hx hb dX8_bidsOn_6 (by decide) (fun c_6 => absurd c_6 (by have e : (4 : Int32) = nI 4 := (by decide +kernel); rw [e]; exact nI_ge (by omega) (by omega))) (fun c_6 => ?_)
      refine lv_iload_n hx hb dX8_bidsOn_9 rfl (lv_at hl 2 rfl) ?_
      refine lv_aload_n hx hb dX8_bidsOn_10 rfl (lv_at hl 0 rfl) ?_
      refine lv_iload_n hx hb dX8_bidsOn_11 rfl (lv_at hl 1 rfl) ?_
      refine lv_iconst (v := 5) hx hb dX8_bidsOn_12 (by decide) ?_
      refine lv_iload_n hx hb dX8_bidsOn_13 rfl (lv_at hl 3 rfl) ?_
      refine topN2 (k := 5) (by decide +kernel) ?_
      refine addN hx hb dX8_bidsOn_14 ?_
      refine callRo (va_runV (As := [.int x, .int (nI (5 + k4))]) (rest := [.int v2_4]) ⟨hx, hb, hml, hown, hts⟩ (c_X8_of l D C b M (x) ((5 + k4)) hM (by omega)) (cwV 2 hts gX8_bidsOn_X8_of rfl rfl rfl (by decide +kernel) ⟨Nat.le_of_ble_eq_true rfl, Nat.le_of_ble_eq_true rfl⟩) (roP_v hP hK hE (va_recv hK hP (ci := 9) (q0 := 0) rfl rfl)) rfl rfl hl.1 rfl (lv_room (Nat.le_of_ble_eq_true rfl)) dX8_bidsOn_15 ⟨Nat.le_refl _, Nat.le_refl _⟩) ?_
      refine lv_if_le (tgt := 25) hx hb dX8_bidsOn_18 (by decide) (fun c_18 => ?_) (fun c_18 => ?_)
      · have hz := hz.trans (if_pos c_18)
        refine lv_iconst (v := 0) hx hb dX8_bidsOn_25 (by decide) ?_
        exact J26 (false) (v2_4) ls hz  (lv_sub hl [0, 1, 3] rfl)
      · have hz := hz.trans (if_neg c_18)
        refine lv_iconst (v := 1) hx hb dX8_bidsOn_21 (by decide) ?_
        refine lv_goto (tgt := 26) hx hb dX8_bidsOn_22 (by decide) ?_
        exact J26 (true) (v2_4) ls hz  (lv_sub hl [0, 1, 3] rfl)
  refine lv_iconst (v := 0) hx hb dX8_bidsOn_0 (by decide) ?_
  refine lv_istore_n (lv' := [(2, .int 0), (0, .ref (b 0)), (1, .int x)]) hx hb dX8_bidsOn_1 rfl hl (by decide) rfl (fun ls hl => ?_)
  refine lv_iconst (v := 0) hx hb dX8_bidsOn_2 (by decide) ?_
  refine lv_istore_n (lv' := [(3, .int 0), (2, .int 0), (0, .ref (b 0)), (1, .int x)]) hx hb dX8_bidsOn_3 rfl hl (by decide) rfl (fun ls hl => ?_)
  exact J4 (4) 0 (0) ls (by omega) hz  (lv_sub hl [2, 3, 1, 0] rfl)

