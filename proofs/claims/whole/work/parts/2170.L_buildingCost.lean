set_option maxRecDepth 20000 in
theorem ggL_buildingCost_X7_buildingCost : GoodIn wsL_buildingCost wsX7_buildingCost := goodIn_ca (goodIn_ca (goodIn_r _ [6, 7, 8, 9, 10, 5, 11, 12, 13, 14, 15, 16, 17, 18, 19, 20, 21, 22, 23, 24, 25, 26, 27, 28, 29, 30, 31, 32, 33, 34, 35, 36, 37, 38, 39, 40, 41, 42, 43, 44, 45, 46, 47, 48, 49, 50, 51] (by decide +kernel) (by decide +kernel)) (goodIn_sub (fun _ h => List.mem_cons_of_mem _ (List.mem_append_right _ h)) (by decide +kernel))) (goodIn_sub (fun _ h => List.mem_cons_of_mem _ (List.mem_append_left _ (List.mem_append_right _ h))) (by decide +kernel))
set_option maxRecDepth 20000 in
theorem gL_buildingCost_X7_buildingCost : GoodIn wsL_buildingCost (wsV RL 77 RX7 yX7_buildingCost wsX7_buildingCost) := goodIn_app (goodIn_of _ (by decide +kernel)) ggL_buildingCost_X7_buildingCost
theorem dL_buildingCost_0 : decode cL_buildingCost 0 = .ok (.aload_n 2, 1) := by decide +kernel
theorem dL_buildingCost_1 : decode cL_buildingCost 1 = .ok (.iconst 0, 1) := by decide +kernel
theorem dL_buildingCost_2 : decode cL_buildingCost 2 = .ok (.aload_n 0, 1) := by decide +kernel
theorem dL_buildingCost_3 : decode cL_buildingCost 3 = .ok (.iload_n 1, 1) := by decide +kernel
theorem dL_buildingCost_4 : decode cL_buildingCost 4 = .ok (.invokevirtual 77, 3) := by decide +kernel
theorem dL_buildingCost_7 : decode cL_buildingCost 7 = .ok (.i2l, 1) := by decide +kernel
theorem dL_buildingCost_8 : decode cL_buildingCost 8 = .ok (.lastore, 1) := by decide +kernel
theorem dL_buildingCost_9 : decode cL_buildingCost 9 = .ok (.goto 6, 3) := by decide +kernel
theorem dL_buildingCost_12 : decode cL_buildingCost 12 = .ok (.astore_n 3, 1) := by decide +kernel
theorem dL_buildingCost_13 : decode cL_buildingCost 13 = .ok (.iconst 1, 1) := by decide +kernel
theorem dL_buildingCost_14 : decode cL_buildingCost 14 = .ok (.ireturn, 1) := by decide +kernel
theorem dL_buildingCost_15 : decode cL_buildingCost 15 = .ok (.iconst 0, 1) := by decide +kernel
theorem dL_buildingCost_16 : decode cL_buildingCost 16 = .ok (.ireturn, 1) := by decide +kernel
set_option maxHeartbeats 4000000 in
set_option maxRecDepth 100000 in
theorem c_L_buildingCost (l : Launch) (D : va_G) (C : Nat → ClassId) (ev : Nat → Nat) (u : Nat → Nat) (o : Nat) (Q : QS) (G : GS) (x : Int32) (F : Nat → Int64) (sz : Nat) (hG : GSafe G) (hl9 : l.stackTraces = false) (hm9 : (f_X7_buildingCost Q G x).1 = 0 ∨ (f_X7_buildingCost Q G x).1 ∈ [1]) : vx_Met l yL_buildingCost wsL_buildingCost ({ frames := 8, cells := 1, slots := 6, locals := 150 } : Room) (hlP [.ref (u 0), .int x, .ref o] D C ev (wj [acells C u Q, gcells C (uA u) G, lcells C o F]) sz) (xO 0 (some (.int (thr [1] (f_X7_buildingCost Q G x).1))) D (wj [acells C u Q, gcells C (uA u) G, lcells C o (oF (f_X7_buildingCost Q G x).1 (Int32.toInt64 ((f_X7_buildingCost Q G x).2)) F)]) (va_A (wj [acells C u Q, gcells C (uA u) G, lcells C o F]) sz)) (xC 0 D (wj [acells C u Q, gcells C (uA u) G, lcells C o (oF (f_X7_buildingCost Q G x).1 (Int32.toInt64 ((f_X7_buildingCost Q G x).2)) F)]) (va_A (wj [acells C u Q, gcells C (uA u) G, lcells C o F]) sz)) 1 6 (va_A (wj [acells C u Q, gcells C (uA u) G, lcells C o F]) sz) := by
  refine vx_ofWH (cc := cL_buildingCost) (maxL := 4) (ret := (some .int)) (by decide) rfl ?_
  intro p e s m args below meth c s₁ B hml hv
  obtain ⟨⟨rfl, hsz, hP, hK, hD0, hE, hR, hX, hT9, hV9⟩, hN9, hC9⟩ := hv
  have hx := B.exec
  have hb := B.bytes
  have hr := B.returns
  have hts := atoms_spec (ws := wsL_buildingCost) B.pre
  have htab := vx_table (x := yL_buildingCost) B (hts _ List.mem_cons_self)
  have hown : s.vm.findClass RL = some m.cls := findClass_of_methodNamed B.named
  have hlocks := B.notSynchronized
  subst hsz
  have hD := hD0.self (sz := s.heap.size)
  generalize hAe : va_A (wj [acells C u Q, gcells C (uA u) G, lcells C o F]) s.heap.size = A at hD hX hV9 ⊢
  have hA : ∀ q : Nat, s.heap.size ≤ q → A q := fun q h => by rw [← hAe]; exact Or.inr h
  have hS0 : va_S A s.heap s.heap [] := va_S.rf
  have hP : va_P D vwCl (wj [acells C u Q, gcells C (uA u) G, lcells C o F]) s.heap := hP
  have hS := hS0
  have hl := lv_entry ([.ref (u 0), .int x, .ref o]) (n := 4) (Nat.le_of_ble_eq_true rfl)
  rw [lg_entry_eq]
  generalize (lg_sl ([.ref (u 0), .int x, .ref o]) ++ List.replicate (4 - (lg_sl ([.ref (u 0), .int x, .ref o])).length) Slot.unset).toArray = ls at hl ⊢
  have hl : lv_has ls 4 [(0, .ref (u 0)), (1, .int x), (2, .ref o)] := hl
  obtain ⟨z, hz⟩ : ∃ z, z = f_X7_buildingCost Q G x := ⟨_, rfl⟩
  rw [← hz] at hm9 ⊢
  refine lv_aload_n hx hb dL_buildingCost_0 rfl (lv_at hl 2 rfl) ?_
  refine lv_iconst (v := 0) hx hb dL_buildingCost_1 (by decide) ?_
  refine lv_aload_n hx hb dL_buildingCost_2 rfl (lv_at hl 0 rfl) ?_
  refine lv_iload_n hx hb dL_buildingCost_3 rfl (lv_at hl 1 rfl) ?_
  have hPc : va_P D vwCl (wj [acells C u Q, gcells C (uA u) G]) _ := wj_P (cs := [acells C u Q, gcells C (uA u) G]) hP [0, 1] rfl
  have hDc : va_D A (wj [acells C u Q, gcells C (uA u) G]) := wj_D (cs := [acells C u Q, gcells C (uA u) G]) hD [0, 1] (by decide) rfl
  have hFc : ∀ q, va_A (wj [acells C u Q, gcells C (uA u) G]) (Array.size _) q → A q := wj_F (cs := [acells C u Q, gcells C (uA u) G]) hD hS hA [0, 1] rfl
  refine callX (vx_runV (As := [.int x]) (rest := [.int 0, .ref o]) ⟨hx, hb, hml, hown, hts⟩ (c_X7_buildingCost l D C ev u Q G x _ hG hl9) (cwV 1 hts gL_buildingCost_X7_buildingCost rfl rfl rfl (by decide +kernel) ⟨Nat.le_of_ble_eq_true rfl, Nat.le_of_ble_eq_true rfl⟩) (xP_v hPc hK hE hDc hR hX hT9 hV9 hS hFc (va_recv hK hPc (ci := 8) (q0 := 0) rfl rfl)) rfl rfl hl.1 rfl (lv_room (Nat.le_of_ble_eq_true rfl)) dL_buildingCost_4 ⟨Nat.le_of_ble_eq_true rfl, Nat.le_of_ble_eq_true rfl⟩) hS hFc (fun hc0 hc7 ce q9 H1 locs hPn hk hS hcell hcv hcl => ?_) (fun hc0 H1 locs hPn hk hS => ?_)
  · have hc0 : 0 < z.1 := by rw [hz]; exact hc0
    have hcl : s.vm.findClass (xN z.1) = some ce.cls := by rw [hz]; exact hcl
    have hPn : va_P D vwCl (wj [acells C u Q, gcells C (uA u) G]) H1 := by first | (rw [hz]; exact hPn) | exact hPn
    have hP : va_P D vwCl (wj [acells C u Q, gcells C (uA u) G, lcells C o F]) H1 := jb (bs := [acells C u Q, gcells C (uA u) G, lcells C o F]) (cs := [acells C u Q, gcells C (uA u) G]) (rs := [lcells C o F]) (cs' := [acells C u Q, gcells C (uA u) G]) (bs' := [acells C u Q, gcells C (uA u) G, lcells C o F]) hP hD (bsP 3 [0, 1, 2] rfl (by decide) rfl) (bsP 3 [0, 1, 2] rfl (by decide) rfl) hk hPn
    have hmem := hm9.resolve_left (Nat.ne_of_gt hc0)
    have hmem : z.1 = 1 := List.mem_singleton.mp hmem
    rw [hmem] at hcl ⊢
    refine vx_catch (own := RL) (name := xN 1) (E := xN 1) hown [] _ _ (htab.trans rfl) (fun z h9 => absurd h9 List.not_mem_nil) rfl (by decide) (va_Nw.use rfl (hC9 1 (by decide) (by decide))) (va_Nw.use rfl (hT9.2.2 0 (by decide))) hcell hcv hcl ?_
    refine lv_astore_n (i := 3) hx hb dL_buildingCost_12 rfl hl (Nat.le_of_ble_eq_true rfl) rfl (fun ls' hl' => ?_)
    refine lv_iconst (v := 1) hx hb dL_buildingCost_13 (by decide) ?_
    exact x_ret hx hb hr hP hS rfl (by decide +kernel) (Nat.le_of_ble_eq_true rfl) (Nat.le_of_ble_eq_true rfl) dL_buildingCost_14 hlocks
  · have hc0 : z.1 = 0 := by rw [hz]; exact hc0
    have hPn : va_P D vwCl (wj [acells C u Q, gcells C (uA u) G]) H1 := by first | (rw [hz]; exact hPn) | exact hPn
    have hP : va_P D vwCl (wj [acells C u Q, gcells C (uA u) G, lcells C o F]) H1 := jb (bs := [acells C u Q, gcells C (uA u) G, lcells C o F]) (cs := [acells C u Q, gcells C (uA u) G]) (rs := [lcells C o F]) (cs' := [acells C u Q, gcells C (uA u) G]) (bs' := [acells C u Q, gcells C (uA u) G, lcells C o F]) hP hD (bsP 3 [0, 1, 2] rfl (by decide) rfl) (bsP 3 [0, 1, 2] rfl (by decide) rfl) hk hPn
    have hD : va_D A (wj [acells C u Q, gcells C (uA u) G, lcells C o F]) := adr_D hD rfl
    generalize H1 = H at hP hS ⊢
    refine topI (y := (z.2)) (by rw [hz]) ?_
    refine lv_i2l hx hb dL_buildingCost_7 rfl ?_
    refine va_last (q0 := (wj [acells C u Q, gcells C (uA u) G]).length) (t0 := 4) hx hb hK hP hD hS rfl rfl vp01 dL_buildingCost_8 (fun H2 locs2 hP2 hD2 hS2 => ?_)
    refine lv_goto (tgt := 15) hx hb dL_buildingCost_9 (by decide) ?_
    refine lv_iconst (v := 0) hx hb dL_buildingCost_15 (by decide) ?_
    rw [hc0]
    exact x_ret hx hb hr hP2 hS2 rfl rfl (Nat.le_of_ble_eq_true rfl) (Nat.le_of_ble_eq_true rfl) dL_buildingCost_16 hlocks
