/-! a cell of the script, mixed; a number below a bound out of it -/
def ush (x y : Int32) : Int32 := (x.toUInt32 >>> (y.toUInt32 &&& Int32.toUInt32 31)).toInt32
theorem u_nI (z : UInt32) : z.toInt32 = nI z.toNat := by
  apply Int32.toBitVec_inj.mp
  show z.toBitVec = BitVec.ofNat 32 z.toNat
  apply BitVec.eq_of_toNat_eq
  rw [BitVec.toNat_ofNat]
  exact (Nat.mod_eq_of_lt z.toNat_lt).symm
theorem ush_8 (x : Int32) : ush x 8 = nI (x.toUInt32.toNat / 256) := by
  unfold ush
  have e : ((8 : Int32).toUInt32 &&& Int32.toUInt32 31) = 8 := by decide
  rw [e, u_nI]
  have e2 : (x.toUInt32 >>> 8).toNat = x.toUInt32.toNat / 256 := by
    rw [UInt32.toNat_shiftRight]
    show x.toUInt32.toNat >>> 8 = _
    rw [Nat.shiftRight_eq_div_pow]
  rw [e2]
theorem ush_lt (x : Int32) : x.toUInt32.toNat / 256 < 2 ^ 24 := by
  have h := x.toUInt32.toNat_lt
  omega
def scV (xs : Nat → Int32) (L k : Nat) : Int32 := if k < L then xs k else 0
def cell1 (xs : Nat → Int32) (L k : Nat) : Int32 := 69069 * (scV xs L k + 1009 * nI k) + 12345
def cell2 (h : Int32) : Int32 := (h ^^^ ush h 13) * 1103515245
def cellV (xs : Nat → Int32) (L k : Nat) : Int32 := cell2 (cell1 xs L k) ^^^ ush (cell2 (cell1 xs L k)) 16
def pkN (xs : Nat → Int32) (L k m : Nat) : Nat := (cellV xs L k).toUInt32.toNat / 256 % m
theorem pkN_lt {xs : Nat → Int32} {L k m : Nat} (h : 0 < m) : pkN xs L k m < m := Nat.mod_lt _ h
def scP (av : List Value) (a L : Nat) (xs : Nat → Int32) : Array Value → State → Prop := va_Pc av (fun U => va_T .int a L (fun j => .int (xs j)) (fun _ => False) U U.heap)
theorem scP_blind {av : List Value} {a L : Nat} {xs : Nat → Int32} : FrameBlind (scP av a L xs) := fun v U g mk q => by
  obtain ⟨q0, q1⟩ := q
  exact ⟨q0, va_T.moved (u := U) (U := U.calling g mk v) (Vm.Alike.refl U.vm) q1⟩
theorem scP_s {s : State} {H : Heap} {As : List Value} {A : Nat → Prop} {locs : List Loc} {a L : Nat} {xs : Nat → Int32} (hT : va_T .int a L (fun j => .int (xs j)) A s s.heap) (hS : va_S A s.heap H locs) : PreS s H (scP As a L xs) As :=
  ⟨scP_blind, fun U hU hW => ⟨rfl, by show va_T .int a L (fun j => .int (xs j)) (fun _ => False) U U.heap; rw [hU]; exact ((hT.kept hS.2.1).moved hW.alike).narrow (fun _ h => h.elim)⟩⟩
theorem dL_cell_0 : decode cL_cell 0 = .ok (.ldc 7, 2) := by decide +kernel
theorem dL_cell_2 : decode cL_cell 2 = .ok (.iload_n 1, 1) := by decide +kernel
theorem dL_cell_3 : decode cL_cell 3 = .ok (.aload_n 0, 1) := by decide +kernel
theorem dL_cell_4 : decode cL_cell 4 = .ok (.arraylength, 1) := by decide +kernel
theorem dL_cell_5 : decode cL_cell 5 = .ok (.if_icmp .ge 9, 3) := by decide +kernel
theorem dL_cell_8 : decode cL_cell 8 = .ok (.aload_n 0, 1) := by decide +kernel
theorem dL_cell_9 : decode cL_cell 9 = .ok (.iload_n 1, 1) := by decide +kernel
theorem dL_cell_10 : decode cL_cell 10 = .ok (.iaload, 1) := by decide +kernel
theorem dL_cell_11 : decode cL_cell 11 = .ok (.goto 4, 3) := by decide +kernel
theorem dL_cell_14 : decode cL_cell 14 = .ok (.iconst 0, 1) := by decide +kernel
theorem dL_cell_15 : decode cL_cell 15 = .ok (.sipush 1009, 3) := by decide +kernel
theorem dL_cell_18 : decode cL_cell 18 = .ok (.iload_n 1, 1) := by decide +kernel
theorem dL_cell_19 : decode cL_cell 19 = .ok (.imul, 1) := by decide +kernel
theorem dL_cell_20 : decode cL_cell 20 = .ok (.iadd, 1) := by decide +kernel
theorem dL_cell_21 : decode cL_cell 21 = .ok (.imul, 1) := by decide +kernel
theorem dL_cell_22 : decode cL_cell 22 = .ok (.sipush 12345, 3) := by decide +kernel
theorem dL_cell_25 : decode cL_cell 25 = .ok (.iadd, 1) := by decide +kernel
theorem dL_cell_26 : decode cL_cell 26 = .ok (.istore_n 2, 1) := by decide +kernel
theorem dL_cell_27 : decode cL_cell 27 = .ok (.iload_n 2, 1) := by decide +kernel
theorem dL_cell_28 : decode cL_cell 28 = .ok (.iload_n 2, 1) := by decide +kernel
theorem dL_cell_29 : decode cL_cell 29 = .ok (.bipush 13, 2) := by decide +kernel
theorem dL_cell_31 : decode cL_cell 31 = .ok (.iushr, 1) := by decide +kernel
theorem dL_cell_32 : decode cL_cell 32 = .ok (.ixor, 1) := by decide +kernel
theorem dL_cell_33 : decode cL_cell 33 = .ok (.ldc 8, 2) := by decide +kernel
theorem dL_cell_35 : decode cL_cell 35 = .ok (.imul, 1) := by decide +kernel
theorem dL_cell_36 : decode cL_cell 36 = .ok (.istore_n 2, 1) := by decide +kernel
theorem dL_cell_37 : decode cL_cell 37 = .ok (.iload_n 2, 1) := by decide +kernel
theorem dL_cell_38 : decode cL_cell 38 = .ok (.iload_n 2, 1) := by decide +kernel
theorem dL_cell_39 : decode cL_cell 39 = .ok (.bipush 16, 2) := by decide +kernel
theorem dL_cell_41 : decode cL_cell 41 = .ok (.iushr, 1) := by decide +kernel
theorem dL_cell_42 : decode cL_cell 42 = .ok (.ixor, 1) := by decide +kernel
theorem dL_cell_43 : decode cL_cell 43 = .ok (.ireturn, 1) := by decide +kernel
set_option maxHeartbeats 4000000 in
set_option maxRecDepth 100000 in
theorem c_L_cell (l : Launch) (a L : Nat) (xs : Nat → Int32) (k : Nat) (hL : L < 2 ^ 20) (hk : k < 2 ^ 20) : Met l yL_cell wsL_cell ({ frames := 0, cells := 0, slots := 0, locals := 0 } : Room) (scP [.ref a, .int (nI k)] a L xs) (roO (some (.int (cellV xs L k)))) 0 0 (fun _ => False) := by
  refine Met.ofW (cc := cL_cell) (maxL := 3) (ret := some .int) (by decide) rfl ?_
  intro p e s m args below meth c s₁ B hml hv
  obtain ⟨rfl, hT⟩ := hv
  have hx := B.exec
  have hb := B.bytes
  have hr := B.returns
  have hts := atoms_spec (ws := wsL_cell) B.pre
  have hown : s.vm.findClass RL = some m.cls := findClass_of_methodNamed B.named
  have hlocks := B.notSynchronized
  have hS : va_S (fun _ => False) s.heap s.heap [] := va_S.rf
  have hl := lv_entry ([.ref a, .int (nI k)]) (n := 3) (Nat.le_of_ble_eq_true rfl)
  rw [lg_entry_eq]
  generalize (lg_sl ([.ref a, .int (nI k)]) ++ List.replicate (3 - (lg_sl ([.ref a, .int (nI k)])).length) Slot.unset).toArray = ls at hl ⊢
  have hl : lv_has ls 3 [(0, .ref a), (1, .int (nI k))] := hl
  have J15 : W p l e ({ frames := 0, cells := 0, slots := 0, locals := 0 } : Room) s m ([.ref a, .int (nI k)] : List Value).toArray below meth c s.heap [] 0 0 (MQ below (roO (some (.int (cellV xs L k)))) ([.ref a, .int (nI k)] : List Value).toArray s 0 0 (fun _ => False)) (F0 m 15 ls [.int (scV xs L k), .int 69069]) := by
    refine lv_sipush (v := 1009) hx hb dL_cell_15 (by decide +kernel) ?_
    refine lv_iload_n hx hb dL_cell_18 rfl (lv_at hl 1 rfl) ?_
    refine lv_imul hx hb dL_cell_19 ?_
    refine lv_iadd hx hb dL_cell_20 ?_
    refine lv_imul hx hb dL_cell_21 ?_
    refine lv_sipush (v := 12345) hx hb dL_cell_22 (by decide +kernel) ?_
    refine lv_iadd hx hb dL_cell_25 ?_
    refine topI (y := cell1 xs L k) rfl ?_
    refine lv_istore_n (lv' := [(2, .int (cell1 xs L k)), (0, .ref a), (1, .int (nI k))]) hx hb dL_cell_26 rfl hl (by decide) rfl (fun ls hl => ?_)
    refine lv_iload_n hx hb dL_cell_27 rfl (lv_at hl 0 rfl) ?_
    refine lv_iload_n hx hb dL_cell_28 rfl (lv_at hl 0 rfl) ?_
    refine lv_bipush (v := 13) hx hb dL_cell_29 (by decide) ?_
    refine lv_iushr (v := ush (cell1 xs L k) 13) hx hb dL_cell_31 rfl ?_
    refine lv_ixor hx hb dL_cell_32 ?_
    refine lv_ldc (v := 1103515245) hx hb hown (hts (.constant RL 8 (1103515245)) (by decide +kernel)) dL_cell_33 ?_
    refine lv_imul hx hb dL_cell_35 ?_
    refine topI (y := cell2 (cell1 xs L k)) rfl ?_
    refine lv_istore_n (lv' := [(2, .int (cell2 (cell1 xs L k))), (0, .ref a), (1, .int (nI k))]) hx hb dL_cell_36 rfl hl (by decide) rfl (fun ls hl => ?_)
    refine lv_iload_n hx hb dL_cell_37 rfl (lv_at hl 0 rfl) ?_
    refine lv_iload_n hx hb dL_cell_38 rfl (lv_at hl 0 rfl) ?_
    refine lv_bipush (v := 16) hx hb dL_cell_39 (by decide) ?_
    refine lv_iushr (v := ush (cell2 (cell1 xs L k)) 16) hx hb dL_cell_41 rfl ?_
    refine lv_ixor hx hb dL_cell_42 ?_
    exact ro_ret hx hb hr rfl dL_cell_43 hlocks
  refine lv_ldc (v := 69069) hx hb hown (hts (.constant RL 7 (69069)) (by decide +kernel)) dL_cell_0 ?_
  refine lv_iload_n hx hb dL_cell_2 rfl (lv_at hl 1 rfl) ?_
  refine lv_aload_n hx hb dL_cell_3 rfl (lv_at hl 0 rfl) ?_
  refine va_tlen (v := nI L) hx hb hT hS rfl dL_cell_4 ?_
  refine lv_icmp_ge (tgt := 14) hx hb dL_cell_5 (by decide) (fun c_5 => ?_) (fun c_5 => ?_)
  · rw [ile, nI_toInt (by omega), nI_toInt (by omega)] at c_5
    refine lv_iconst (v := 0) hx hb dL_cell_14 (by decide) ?_
    have e0 : scV xs L k = 0 := if_neg (by omega)
    rw [e0] at J15
    exact J15
  · rw [ile, nI_toInt (by omega), nI_toInt (by omega)] at c_5
    have e0 : scV xs L k = xs k := if_pos (by omega)
    refine lv_aload_n hx hb dL_cell_8 rfl (lv_at hl 0 rfl) ?_
    refine lv_iload_n hx hb dL_cell_9 rfl (lv_at hl 1 rfl) ?_
    refine va_ti (v := .int (xs k)) hx hb hT hS (vp_in_nI (by omega) (by omega)) (show Value.int (xs (nI k).toNatClampNeg) = .int (xs k) by rw [nI_clamp (by omega)]) dL_cell_10 ?_
    refine lv_goto (tgt := 15) hx hb dL_cell_11 (by decide) ?_
    rw [e0] at J15
    exact J15
set_option maxRecDepth 20000 in
theorem ggL_pick_L_cell : GoodIn wsL_pick wsL_cell := goodIn_ca (goodIn_r _ [4, 5, 6] (by decide +kernel) (by decide +kernel)) (goodIn_sub (fun _ h => List.mem_cons_of_mem _ (List.mem_append_right _ h)) (by decide +kernel))
set_option maxRecDepth 20000 in
theorem gL_pick_L_cell : GoodIn wsL_pick (va_wsS RL 9 yL_cell wsL_cell) := goodIn_app (goodIn_r _ [1, 2, 3] (by decide +kernel) (by decide +kernel)) ggL_pick_L_cell
theorem dL_pick_0 : decode cL_pick 0 = .ok (.aload_n 0, 1) := by decide +kernel
theorem dL_pick_1 : decode cL_pick 1 = .ok (.iload_n 1, 1) := by decide +kernel
theorem dL_pick_2 : decode cL_pick 2 = .ok (.invokestatic 9, 3) := by decide +kernel
theorem dL_pick_5 : decode cL_pick 5 = .ok (.bipush 8, 2) := by decide +kernel
theorem dL_pick_7 : decode cL_pick 7 = .ok (.iushr, 1) := by decide +kernel
theorem dL_pick_8 : decode cL_pick 8 = .ok (.iload_n 2, 1) := by decide +kernel
theorem dL_pick_9 : decode cL_pick 9 = .ok (.irem, 1) := by decide +kernel
theorem dL_pick_10 : decode cL_pick 10 = .ok (.ireturn, 1) := by decide +kernel
set_option maxHeartbeats 4000000 in
set_option maxRecDepth 100000 in
theorem c_L_pick (l : Launch) (a L : Nat) (xs : Nat → Int32) (k b : Nat) (hL : L < 2 ^ 20) (hk : k < 2 ^ 20) (hb0 : 0 < b) (hb9 : b < 2 ^ 20) : Met l yL_pick wsL_pick ({ frames := 1, cells := 0, slots := 0, locals := 40 } : Room) (scP [.ref a, .int (nI k), .int (nI b)] a L xs) (roO (some (.int (nI (pkN xs L k b))))) 0 0 (fun _ => False) := by
  refine Met.ofW (cc := cL_pick) (maxL := 3) (ret := some .int) (by decide) rfl ?_
  intro p e s m args below meth c s₁ B hml hv
  obtain ⟨rfl, hT⟩ := hv
  have hx := B.exec
  have hb := B.bytes
  have hr := B.returns
  have hts := atoms_spec (ws := wsL_pick) B.pre
  have hown : s.vm.findClass RL = some m.cls := findClass_of_methodNamed B.named
  have hlocks := B.notSynchronized
  have hS : va_S (fun _ => False) s.heap s.heap [] := va_S.rf
  have hl := lv_entry ([.ref a, .int (nI k), .int (nI b)]) (n := 3) (Nat.le_of_ble_eq_true rfl)
  rw [lg_entry_eq]
  generalize (lg_sl ([.ref a, .int (nI k), .int (nI b)]) ++ List.replicate (3 - (lg_sl ([.ref a, .int (nI k), .int (nI b)])).length) Slot.unset).toArray = ls at hl ⊢
  have hl : lv_has ls 3 [(0, .ref a), (1, .int (nI k)), (2, .int (nI b))] := hl
  refine lv_aload_n hx hb dL_pick_0 rfl (lv_at hl 0 rfl) ?_
  refine lv_iload_n hx hb dL_pick_1 rfl (lv_at hl 1 rfl) ?_
  refine callRo (va_runS (As := [.ref a, .int (nI k)]) (rest := []) ⟨hx, hb, hml, hown, hts⟩ (c_L_cell l a L xs k hL hk) (va_cwS 2 hts gL_pick_L_cell rfl rfl rfl (by decide +kernel) ⟨Nat.le_of_ble_eq_true rfl, Nat.le_of_ble_eq_true rfl⟩) (scP_s hT hS) rfl rfl hl.1 rfl (lv_room (Nat.le_of_ble_eq_true rfl)) dL_pick_2 ⟨Nat.le_refl _, Nat.le_refl _⟩) ?_
  refine lv_bipush (v := 8) hx hb dL_pick_5 (by decide) ?_
  refine lv_iushr (v := ush (cellV xs L k) 8) hx hb dL_pick_7 rfl ?_
  refine topI (y := nI ((cellV xs L k).toUInt32.toNat / 256)) (ush_8 _) ?_
  refine lv_iload_n hx hb dL_pick_8 rfl (lv_at hl 2 rfl) ?_
  refine lv_irem hx hb dL_pick_9 (fun h => by have := (nI_eq (b := 0) (by omega) (by decide)).mp h; omega) ?_
  refine topI (y := nI (pkN xs L k b)) (pk_rem (by have := ush_lt (cellV xs L k); omega) hb0 (by omega)) ?_
  exact ro_ret hx hb hr rfl dL_pick_10 hlocks
