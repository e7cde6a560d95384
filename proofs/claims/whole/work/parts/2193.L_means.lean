/-- the answer in the row of doubles -/
def oD (c : Nat) (x : UInt64) (F : Nat → UInt64) : Nat → UInt64 := if c = 0 then vf_upd F 0 x else F
section
variable {p : Program} {l : Launch} {e : Env} {R : Room} {s : State} {m : MethodId} {args : Array Value} {below : List Frame} {meth : Method} {c : Code} {H : Heap} {locs : List Loc} {cells slots : Nat} {Q : State → Prop} {pc : Nat} {ls : Array Slot} {rest : List Value}
theorem topD {x y : UInt64} (h : y = x) (k : W p l e R s m args below meth c H locs cells slots Q (F0 m pc ls (.double y :: rest))) : W p l e R s m args below meth c H locs cells slots Q (F0 m pc ls ((some (Value.double x)).toList ++ rest)) := by
  subst h; exact k
theorem topFl {x y : UInt32} (h : y = x) (k : W p l e R s m args below meth c H locs cells slots Q (F0 m pc ls (.float y :: rest))) : W p l e R s m args below meth c H locs cells slots Q (F0 m pc ls ((some (Value.float x)).toList ++ rest)) := by
  subst h; exact k
end
set_option maxRecDepth 20000 in
theorem ggL_meanBridgeLength_X7_meanBridgeLength : GoodIn wsL_meanBridgeLength wsX7_meanBridgeLength := goodIn_ca (goodIn_ca (goodIn_r _ [6, 7, 8, 9, 10, 11, 12, 13, 14, 15, 16, 17, 18, 19, 20, 21, 22, 23, 24, 25, 26, 27, 28, 29, 30, 31, 32, 33, 34, 35, 36, 37, 38, 39, 40, 41, 42, 43, 44, 45, 46, 47, 48, 49, 50, 51] (by decide +kernel) (by decide +kernel)) (goodIn_sub (fun _ h => List.mem_cons_of_mem _ (List.mem_append_right _ h)) (by decide +kernel))) (goodIn_sub (fun _ h => List.mem_cons_of_mem _ (List.mem_append_left _ (List.mem_append_right _ h))) (by decide +kernel))
set_option maxRecDepth 20000 in
theorem gL_meanBridgeLength_X7_meanBridgeLength : GoodIn wsL_meanBridgeLength (wsV RL 121 RX7 yX7_meanBridgeLength wsX7_meanBridgeLength) := goodIn_app (goodIn_of _ (by decide +kernel)) ggL_meanBridgeLength_X7_meanBridgeLength
theorem dL_meanBridgeLength_0 : decode cL_meanBridgeLength 0 = .ok (.aload_n 1, 1) := by decide +kernel
theorem dL_meanBridgeLength_1 : decode cL_meanBridgeLength 1 = .ok (.iconst 0, 1) := by decide +kernel
theorem dL_meanBridgeLength_2 : decode cL_meanBridgeLength 2 = .ok (.aload_n 0, 1) := by decide +kernel
theorem dL_meanBridgeLength_3 : decode cL_meanBridgeLength 3 = .ok (.invokevirtual 121, 3) := by decide +kernel
theorem dL_meanBridgeLength_6 : decode cL_meanBridgeLength 6 = .ok (.dastore, 1) := by decide +kernel
theorem dL_meanBridgeLength_7 : decode cL_meanBridgeLength 7 = .ok (.goto 6, 3) := by decide +kernel
theorem dL_meanBridgeLength_10 : decode cL_meanBridgeLength 10 = .ok (.astore_n 2, 1) := by decide +kernel
theorem dL_meanBridgeLength_11 : decode cL_meanBridgeLength 11 = .ok (.iconst 1, 1) := by decide +kernel
theorem dL_meanBridgeLength_12 : decode cL_meanBridgeLength 12 = .ok (.ireturn, 1) := by decide +kernel
theorem dL_meanBridgeLength_13 : decode cL_meanBridgeLength 13 = .ok (.iconst 0, 1) := by decide +kernel
theorem dL_meanBridgeLength_14 : decode cL_meanBridgeLength 14 = .ok (.ireturn, 1) := by decide +kernel
set_option maxHeartbeats 4000000 in
set_option maxRecDepth 100000 in
theorem c_L_meanBridgeLength (l : Launch) (D : va_G) (C : Nat → ClassId) (ev : Nat → Nat) (u : Nat → Nat) (o : Nat) (Q : QS) (G : GS) (F : Nat → UInt64) (sz : Nat) (hG : GSafe G) (hl9 : l.stackTraces = false) (hne : f_X1_bridges G ≠ 0 → vf_n64 (FP.ddiv (FP.i2d (f_X1_bridgeLengths G)) (FP.i2d (f_X1_bridges G)))) (hm9 : (f_X7_meanBridgeLength G).1 = 0 ∨ (f_X7_meanBridgeLength G).1 ∈ [6]) : vx_Met l yL_meanBridgeLength wsL_meanBridgeLength ({ frames := 8, cells := 1, slots := 6, locals := 150 } : Room) (hlP [.ref (u 0), .ref o] D C ev (wj [acells C u Q, gcells C (uA u) G, dcells C o F]) sz) (xO 0 (some (.int (thr [6] (f_X7_meanBridgeLength G).1))) D (wj [acells C u Q, gcells C (uA u) G, dcells C o (oD (f_X7_meanBridgeLength G).1 (f_X7_meanBridgeLength G).2 F)]) (va_A (wj [acells C u Q, gcells C (uA u) G, dcells C o F]) sz)) (xC 0 D (wj [acells C u Q, gcells C (uA u) G, dcells C o (oD (f_X7_meanBridgeLength G).1 (f_X7_meanBridgeLength G).2 F)]) (va_A (wj [acells C u Q, gcells C (uA u) G, dcells C o F]) sz)) 1 6 (va_A (wj [acells C u Q, gcells C (uA u) G, dcells C o F]) sz) := by
  refine vx_ofWH (cc := cL_meanBridgeLength) (maxL := 3) (ret := (some .int)) (by decide) rfl ?_
  intro p e s m args below meth c s₁ B hml hv
  obtain ⟨⟨rfl, hsz, hP, hK, hD0, hE, hR, hX, hT9, hV9⟩, hN9, hC9⟩ := hv
  have hx := B.exec
  have hb := B.bytes
  have hr := B.returns
  have hts := atoms_spec (ws := wsL_meanBridgeLength) B.pre
  have htab := vx_table (x := yL_meanBridgeLength) B (hts _ List.mem_cons_self)
  have hown : s.vm.findClass RL = some m.cls := findClass_of_methodNamed B.named
  have hlocks := B.notSynchronized
  subst hsz
  have hD := hD0.self (sz := s.heap.size)
  generalize hAe : va_A (wj [acells C u Q, gcells C (uA u) G, dcells C o F]) s.heap.size = A at hD hX hV9 ⊢
  have hA : ∀ q : Nat, s.heap.size ≤ q → A q := fun q h => by rw [← hAe]; exact Or.inr h
  have hS0 : va_S A s.heap s.heap [] := va_S.rf
  have hP : va_P D vwCl (wj [acells C u Q, gcells C (uA u) G, dcells C o F]) s.heap := hP
  have hS := hS0
  have hl := lv_entry ([.ref (u 0), .ref o]) (n := 3) (Nat.le_of_ble_eq_true rfl)
  rw [lg_entry_eq]
  generalize (lg_sl ([.ref (u 0), .ref o]) ++ List.replicate (3 - (lg_sl ([.ref (u 0), .ref o])).length) Slot.unset).toArray = ls at hl ⊢
  have hl : lv_has ls 3 [(0, .ref (u 0)), (1, .ref o)] := hl
  obtain ⟨z, hz⟩ : ∃ z, z = f_X7_meanBridgeLength G := ⟨_, rfl⟩
  rw [← hz] at hm9  ⊢
  refine lv_aload_n hx hb dL_meanBridgeLength_0 rfl (lv_at hl 1 rfl) ?_
  refine lv_iconst (v := 0) hx hb dL_meanBridgeLength_1 (by decide) ?_
  refine lv_aload_n hx hb dL_meanBridgeLength_2 rfl (lv_at hl 0 rfl) ?_
  have hPc : va_P D vwCl (wj [acells C u Q, gcells C (uA u) G]) _ := wj_P (cs := [acells C u Q, gcells C (uA u) G]) hP [0, 1] rfl
  have hDc : va_D A (wj [acells C u Q, gcells C (uA u) G]) := wj_D (cs := [acells C u Q, gcells C (uA u) G]) hD [0, 1] (by decide) rfl
  have hFc : ∀ q, va_A (wj [acells C u Q, gcells C (uA u) G]) (Array.size _) q → A q := wj_F (cs := [acells C u Q, gcells C (uA u) G]) hD hS hA [0, 1] rfl
  refine callX (vx_runV (As := []) (rest := [.int 0, .ref o]) ⟨hx, hb, hml, hown, hts⟩ (c_X7_meanBridgeLength l D C ev u Q G _ hG hl9 hne) (cwV 0 hts gL_meanBridgeLength_X7_meanBridgeLength rfl rfl rfl (by decide +kernel) ⟨Nat.le_of_ble_eq_true rfl, Nat.le_of_ble_eq_true rfl⟩) (xP_v hPc hK hE hDc hR hX hT9 hV9 hS hFc (va_recv hK hPc (ci := 8) (q0 := 0) rfl rfl)) rfl rfl hl.1 rfl (lv_room (Nat.le_of_ble_eq_true rfl)) dL_meanBridgeLength_3 ⟨Nat.le_of_ble_eq_true rfl, Nat.le_of_ble_eq_true rfl⟩) hS hFc (fun hc0 hc7 ce q9 H1 locs hPn hk hS hcell hcv hcl => ?_) (fun hc0 H1 locs hPn hk hS => ?_)
  · have hc0 : 0 < z.1 := by rw [hz]; exact hc0
    have hcl : s.vm.findClass (xN z.1) = some ce.cls := by rw [hz]; exact hcl
    have hP : va_P D vwCl (wj [acells C u Q, gcells C (uA u) G, dcells C o F]) H1 := jb (bs := [acells C u Q, gcells C (uA u) G, dcells C o F]) (cs := [acells C u Q, gcells C (uA u) G]) (rs := [dcells C o F]) (cs' := [acells C u Q, gcells C (uA u) G]) (bs' := [acells C u Q, gcells C (uA u) G, dcells C o F]) hP hD (bsP 3 [0, 1, 2] rfl (by decide) rfl) (bsP 3 [0, 1, 2] rfl (by decide) rfl) hk hPn
    have hmem := hm9.resolve_left (Nat.ne_of_gt hc0)
    have hmem : z.1 = 6 := List.mem_singleton.mp hmem
    rw [hmem] at hcl ⊢
    refine vx_catch (own := RL) (name := xN 6) (E := xN 6) hown [] _ _ (htab.trans rfl) (fun z h9 => absurd h9 List.not_mem_nil) rfl (by decide) (va_Nw.use rfl (hC9 6 (by decide) (by decide))) (va_Nw.use rfl (hT9.2.2 5 (by decide))) hcell hcv hcl ?_
    refine lv_astore_n (i := 2) hx hb dL_meanBridgeLength_10 rfl hl (Nat.le_of_ble_eq_true rfl) rfl (fun ls' hl' => ?_)
    refine lv_iconst (v := 1) hx hb dL_meanBridgeLength_11 (by decide) ?_
    exact x_ret hx hb hr hP hS rfl (by decide +kernel) (Nat.le_of_ble_eq_true rfl) (Nat.le_of_ble_eq_true rfl) dL_meanBridgeLength_12 hlocks
  · have hc0 : z.1 = 0 := by rw [hz]; exact hc0
    have hP : va_P D vwCl (wj [acells C u Q, gcells C (uA u) G, dcells C o F]) H1 := jb (bs := [acells C u Q, gcells C (uA u) G, dcells C o F]) (cs := [acells C u Q, gcells C (uA u) G]) (rs := [dcells C o F]) (cs' := [acells C u Q, gcells C (uA u) G]) (bs' := [acells C u Q, gcells C (uA u) G, dcells C o F]) hP hD (bsP 3 [0, 1, 2] rfl (by decide) rfl) (bsP 3 [0, 1, 2] rfl (by decide) rfl) hk hPn
    generalize H1 = H at hP hS ⊢
    refine topD (y := z.2) (by rw [hz]) ?_
    refine va_dast (q0 := (wj [acells C u Q, gcells C (uA u) G]).length) (t0 := 5) hx hb hK hP hD hS rfl rfl vp01 dL_meanBridgeLength_6 (fun H2 locs2 hP2 hD2 hS2 => ?_)
    refine lv_goto (tgt := 13) hx hb dL_meanBridgeLength_7 (by decide) ?_
    refine lv_iconst (v := 0) hx hb dL_meanBridgeLength_13 (by decide) ?_
    rw [hc0]
    exact x_ret hx hb hr hP2 hS2 rfl rfl (Nat.le_of_ble_eq_true rfl) (Nat.le_of_ble_eq_true rfl) dL_meanBridgeLength_14 hlocks
set_option maxRecDepth 20000 in
theorem ggL_builtShare_X7_builtShare : GoodIn wsL_builtShare wsX7_builtShare := goodIn_ca (goodIn_ca (goodIn_r _ [6, 7, 8, 9, 10, 11, 12, 13, 14, 15, 16, 17, 18, 19, 20, 21, 22, 23, 24, 25, 26, 27, 28, 29, 30, 31, 32, 33, 34, 35, 36, 37, 38, 39, 40, 41, 42, 43, 44, 45, 46] (by decide +kernel) (by decide +kernel)) (goodIn_sub (fun _ h => List.mem_cons_of_mem _ (List.mem_append_right _ h)) (by decide +kernel))) (goodIn_sub (fun _ h => List.mem_cons_of_mem _ (List.mem_append_left _ (List.mem_append_right _ h))) (by decide +kernel))
set_option maxRecDepth 20000 in
theorem gL_builtShare_X7_builtShare : GoodIn wsL_builtShare (wsV RL 127 RX7 yX7_builtShare wsX7_builtShare) := goodIn_app (goodIn_of _ (by decide +kernel)) ggL_builtShare_X7_builtShare
theorem dL_builtShare_0 : decode cL_builtShare 0 = .ok (.aload_n 1, 1) := by decide +kernel
theorem dL_builtShare_1 : decode cL_builtShare 1 = .ok (.iconst 0, 1) := by decide +kernel
theorem dL_builtShare_2 : decode cL_builtShare 2 = .ok (.aload_n 0, 1) := by decide +kernel
theorem dL_builtShare_3 : decode cL_builtShare 3 = .ok (.invokevirtual 127, 3) := by decide +kernel
theorem dL_builtShare_6 : decode cL_builtShare 6 = .ok (.f2d, 1) := by decide +kernel
theorem dL_builtShare_7 : decode cL_builtShare 7 = .ok (.dastore, 1) := by decide +kernel
theorem dL_builtShare_8 : decode cL_builtShare 8 = .ok (.goto 6, 3) := by decide +kernel
theorem dL_builtShare_11 : decode cL_builtShare 11 = .ok (.astore_n 2, 1) := by decide +kernel
theorem dL_builtShare_12 : decode cL_builtShare 12 = .ok (.iconst 1, 1) := by decide +kernel
theorem dL_builtShare_13 : decode cL_builtShare 13 = .ok (.ireturn, 1) := by decide +kernel
theorem dL_builtShare_14 : decode cL_builtShare 14 = .ok (.iconst 0, 1) := by decide +kernel
theorem dL_builtShare_15 : decode cL_builtShare 15 = .ok (.ireturn, 1) := by decide +kernel
set_option maxHeartbeats 4000000 in
set_option maxRecDepth 100000 in
theorem c_L_builtShare (l : Launch) (D : va_G) (C : Nat → ClassId) (ev : Nat → Nat) (u : Nat → Nat) (o : Nat) (Q : QS) (G : GS) (F : Nat → UInt64) (sz : Nat) (hG : GSafe G) (hl9 : l.stackTraces = false) (hne : nI (gS G) ≠ 0 → vf_n32 (FP.fdiv (FP.i2f (f_X1_bridges G)) (FP.i2f (nI (gS G))))) (hne2 : (f_X7_builtShare G).1 = 0 → vf_n64 (FP.f2d (f_X7_builtShare G).2)) (hm9 : (f_X7_builtShare G).1 = 0 ∨ (f_X7_builtShare G).1 ∈ [6]) : vx_Met l yL_builtShare wsL_builtShare ({ frames := 8, cells := 1, slots := 6, locals := 150 } : Room) (hlP [.ref (u 0), .ref o] D C ev (wj [acells C u Q, gcells C (uA u) G, dcells C o F]) sz) (xO 0 (some (.int (thr [6] (f_X7_builtShare G).1))) D (wj [acells C u Q, gcells C (uA u) G, dcells C o (oD (f_X7_builtShare G).1 (FP.f2d (f_X7_builtShare G).2) F)]) (va_A (wj [acells C u Q, gcells C (uA u) G, dcells C o F]) sz)) (xC 0 D (wj [acells C u Q, gcells C (uA u) G, dcells C o (oD (f_X7_builtShare G).1 (FP.f2d (f_X7_builtShare G).2) F)]) (va_A (wj [acells C u Q, gcells C (uA u) G, dcells C o F]) sz)) 1 6 (va_A (wj [acells C u Q, gcells C (uA u) G, dcells C o F]) sz) := by
  refine vx_ofWH (cc := cL_builtShare) (maxL := 3) (ret := (some .int)) (by decide) rfl ?_
  intro p e s m args below meth c s₁ B hml hv
  obtain ⟨⟨rfl, hsz, hP, hK, hD0, hE, hR, hX, hT9, hV9⟩, hN9, hC9⟩ := hv
  have hx := B.exec
  have hb := B.bytes
  have hr := B.returns
  have hts := atoms_spec (ws := wsL_builtShare) B.pre
  have htab := vx_table (x := yL_builtShare) B (hts _ List.mem_cons_self)
  have hown : s.vm.findClass RL = some m.cls := findClass_of_methodNamed B.named
  have hlocks := B.notSynchronized
  subst hsz
  have hD := hD0.self (sz := s.heap.size)
  generalize hAe : va_A (wj [acells C u Q, gcells C (uA u) G, dcells C o F]) s.heap.size = A at hD hX hV9 ⊢
  have hA : ∀ q : Nat, s.heap.size ≤ q → A q := fun q h => by rw [← hAe]; exact Or.inr h
  have hS0 : va_S A s.heap s.heap [] := va_S.rf
  have hP : va_P D vwCl (wj [acells C u Q, gcells C (uA u) G, dcells C o F]) s.heap := hP
  have hS := hS0
  have hl := lv_entry ([.ref (u 0), .ref o]) (n := 3) (Nat.le_of_ble_eq_true rfl)
  rw [lg_entry_eq]
  generalize (lg_sl ([.ref (u 0), .ref o]) ++ List.replicate (3 - (lg_sl ([.ref (u 0), .ref o])).length) Slot.unset).toArray = ls at hl ⊢
  have hl : lv_has ls 3 [(0, .ref (u 0)), (1, .ref o)] := hl
  obtain ⟨z, hz⟩ : ∃ z, z = f_X7_builtShare G := ⟨_, rfl⟩
  rw [← hz] at hm9 hne2 ⊢
  refine lv_aload_n hx hb dL_builtShare_0 rfl (lv_at hl 1 rfl) ?_
  refine lv_iconst (v := 0) hx hb dL_builtShare_1 (by decide) ?_
  refine lv_aload_n hx hb dL_builtShare_2 rfl (lv_at hl 0 rfl) ?_
  have hPc : va_P D vwCl (wj [acells C u Q, gcells C (uA u) G]) _ := wj_P (cs := [acells C u Q, gcells C (uA u) G]) hP [0, 1] rfl
  have hDc : va_D A (wj [acells C u Q, gcells C (uA u) G]) := wj_D (cs := [acells C u Q, gcells C (uA u) G]) hD [0, 1] (by decide) rfl
  have hFc : ∀ q, va_A (wj [acells C u Q, gcells C (uA u) G]) (Array.size _) q → A q := wj_F (cs := [acells C u Q, gcells C (uA u) G]) hD hS hA [0, 1] rfl
  refine callX (vx_runV (As := []) (rest := [.int 0, .ref o]) ⟨hx, hb, hml, hown, hts⟩ (c_X7_builtShare l D C ev u Q G _ hG hl9 hne) (cwV 0 hts gL_builtShare_X7_builtShare rfl rfl rfl (by decide +kernel) ⟨Nat.le_of_ble_eq_true rfl, Nat.le_of_ble_eq_true rfl⟩) (xP_v hPc hK hE hDc hR hX hT9 hV9 hS hFc (va_recv hK hPc (ci := 8) (q0 := 0) rfl rfl)) rfl rfl hl.1 rfl (lv_room (Nat.le_of_ble_eq_true rfl)) dL_builtShare_3 ⟨Nat.le_of_ble_eq_true rfl, Nat.le_of_ble_eq_true rfl⟩) hS hFc (fun hc0 hc7 ce q9 H1 locs hPn hk hS hcell hcv hcl => ?_) (fun hc0 H1 locs hPn hk hS => ?_)
  · have hc0 : 0 < z.1 := by rw [hz]; exact hc0
    have hcl : s.vm.findClass (xN z.1) = some ce.cls := by rw [hz]; exact hcl
    have hP : va_P D vwCl (wj [acells C u Q, gcells C (uA u) G, dcells C o F]) H1 := jb (bs := [acells C u Q, gcells C (uA u) G, dcells C o F]) (cs := [acells C u Q, gcells C (uA u) G]) (rs := [dcells C o F]) (cs' := [acells C u Q, gcells C (uA u) G]) (bs' := [acells C u Q, gcells C (uA u) G, dcells C o F]) hP hD (bsP 3 [0, 1, 2] rfl (by decide) rfl) (bsP 3 [0, 1, 2] rfl (by decide) rfl) hk hPn
    have hmem := hm9.resolve_left (Nat.ne_of_gt hc0)
    have hmem : z.1 = 6 := List.mem_singleton.mp hmem
    rw [hmem] at hcl ⊢
    refine vx_catch (own := RL) (name := xN 6) (E := xN 6) hown [] _ _ (htab.trans rfl) (fun z h9 => absurd h9 List.not_mem_nil) rfl (by decide) (va_Nw.use rfl (hC9 6 (by decide) (by decide))) (va_Nw.use rfl (hT9.2.2 5 (by decide))) hcell hcv hcl ?_
    refine lv_astore_n (i := 2) hx hb dL_builtShare_11 rfl hl (Nat.le_of_ble_eq_true rfl) rfl (fun ls' hl' => ?_)
    refine lv_iconst (v := 1) hx hb dL_builtShare_12 (by decide) ?_
    exact x_ret hx hb hr hP hS rfl (by decide +kernel) (Nat.le_of_ble_eq_true rfl) (Nat.le_of_ble_eq_true rfl) dL_builtShare_13 hlocks
  · have hc0 : z.1 = 0 := by rw [hz]; exact hc0
    have hP : va_P D vwCl (wj [acells C u Q, gcells C (uA u) G, dcells C o F]) H1 := jb (bs := [acells C u Q, gcells C (uA u) G, dcells C o F]) (cs := [acells C u Q, gcells C (uA u) G]) (rs := [dcells C o F]) (cs' := [acells C u Q, gcells C (uA u) G]) (bs' := [acells C u Q, gcells C (uA u) G, dcells C o F]) hP hD (bsP 3 [0, 1, 2] rfl (by decide) rfl) (bsP 3 [0, 1, 2] rfl (by decide) rfl) hk hPn
    generalize H1 = H at hP hS ⊢
    refine topFl (y := z.2) (by rw [hz]) ?_
    refine lv_f2d hx hb dL_builtShare_6 (hne2 hc0) ?_
    refine va_dast (q0 := (wj [acells C u Q, gcells C (uA u) G]).length) (t0 := 5) hx hb hK hP hD hS rfl rfl vp01 dL_builtShare_7 (fun H2 locs2 hP2 hD2 hS2 => ?_)
    refine lv_goto (tgt := 14) hx hb dL_builtShare_8 (by decide) ?_
    refine lv_iconst (v := 0) hx hb dL_builtShare_14 (by decide) ?_
    rw [hc0]
    exact x_ret hx hb hr hP2 hS2 rfl rfl (Nat.le_of_ble_eq_true rfl) (Nat.le_of_ble_eq_true rfl) dL_builtShare_15 hlocks
