set_option maxRecDepth 20000 in
theorem ggL_distanceByRelaxation_X7_distanceByRelaxation : GoodIn wsL_distanceByRelaxation wsX7_distanceByRelaxation := goodIn_ca (goodIn_ca (goodIn_ca (goodIn_r _ [6, 7, 8, 9, 10, 5, 11, 12, 13, 14, 15, 16, 17, 18, 19, 20, 21, 22, 23, 24, 25, 26, 27, 28, 29, 30, 31, 32, 33, 34, 35, 36, 37, 38, 39, 40, 41, 42, 43, 44, 45, 46, 47, 48, 49, 50, 51, 52, 53, 54, 55, 56, 57, 58, 59, 60, 61, 62, 63, 64, 65, 66, 67, 68, 69, 70, 71, 72, 73, 74] (by decide +kernel) (by decide +kernel)) (goodIn_sub (fun _ h => List.mem_cons_of_mem _ (List.mem_append_left _ (List.mem_append_left _ (List.mem_append_right _ h)))) (by decide +kernel))) (goodIn_sub (fun _ h => List.mem_cons_of_mem _ (List.mem_append_left _ (List.mem_append_right _ h))) (by decide +kernel))) (goodIn_sub (fun _ h => List.mem_cons_of_mem _ (List.mem_append_right _ h)) (by decide +kernel))
set_option maxRecDepth 20000 in
theorem gL_distanceByRelaxation_X7_distanceByRelaxation : GoodIn wsL_distanceByRelaxation (wsV RL 115 RX7 yX7_distanceByRelaxation wsX7_distanceByRelaxation) := goodIn_app (goodIn_of _ (by decide +kernel)) ggL_distanceByRelaxation_X7_distanceByRelaxation
theorem dL_distanceByRelaxation_0 : decode cL_distanceByRelaxation 0 = .ok (.aload_n 3, 1) := by decide +kernel
theorem dL_distanceByRelaxation_1 : decode cL_distanceByRelaxation 1 = .ok (.iconst 0, 1) := by decide +kernel
theorem dL_distanceByRelaxation_2 : decode cL_distanceByRelaxation 2 = .ok (.aload_n 0, 1) := by decide +kernel
theorem dL_distanceByRelaxation_3 : decode cL_distanceByRelaxation 3 = .ok (.iload_n 1, 1) := by decide +kernel
theorem dL_distanceByRelaxation_4 : decode cL_distanceByRelaxation 4 = .ok (.iload_n 2, 1) := by decide +kernel
theorem dL_distanceByRelaxation_5 : decode cL_distanceByRelaxation 5 = .ok (.invokevirtual 115, 3) := by decide +kernel
theorem dL_distanceByRelaxation_8 : decode cL_distanceByRelaxation 8 = .ok (.i2l, 1) := by decide +kernel
theorem dL_distanceByRelaxation_9 : decode cL_distanceByRelaxation 9 = .ok (.lastore, 1) := by decide +kernel
theorem dL_distanceByRelaxation_10 : decode cL_distanceByRelaxation 10 = .ok (.goto 11, 3) := by decide +kernel
theorem dL_distanceByRelaxation_13 : decode cL_distanceByRelaxation 13 = .ok (.astore 4, 2) := by decide +kernel
theorem dL_distanceByRelaxation_15 : decode cL_distanceByRelaxation 15 = .ok (.iconst 1, 1) := by decide +kernel
theorem dL_distanceByRelaxation_16 : decode cL_distanceByRelaxation 16 = .ok (.ireturn, 1) := by decide +kernel
theorem dL_distanceByRelaxation_17 : decode cL_distanceByRelaxation 17 = .ok (.astore 4, 2) := by decide +kernel
theorem dL_distanceByRelaxation_19 : decode cL_distanceByRelaxation 19 = .ok (.iconst 2, 1) := by decide +kernel
theorem dL_distanceByRelaxation_20 : decode cL_distanceByRelaxation 20 = .ok (.ireturn, 1) := by decide +kernel
theorem dL_distanceByRelaxation_21 : decode cL_distanceByRelaxation 21 = .ok (.iconst 0, 1) := by decide +kernel
theorem dL_distanceByRelaxation_22 : decode cL_distanceByRelaxation 22 = .ok (.ireturn, 1) := by decide +kernel
set_option maxHeartbeats 4000000 in
set_option maxRecDepth 100000 in
theorem c_L_distanceByRelaxation (l : Launch) (D : va_G) (C : Nat → ClassId) (ev : Nat → Nat) (u : Nat → Nat) (o : Nat) (Q : QS) (G : GS) (Rr : GR) (x : Int32) (y : Int32) (F : Nat → Int64) (sz : Nat) (hG : GSafe G) (hl9 : l.stackTraces = false) (hm9 : (f_X7_distanceByRelaxation Q G Rr x y).1 = 0 ∨ (f_X7_distanceByRelaxation Q G Rr x y).1 ∈ [1, 5]) : vx_Met l yL_distanceByRelaxation wsL_distanceByRelaxation ({ frames := 8, cells := 3, slots := 18, locals := 149 } : Room) (hlP [.ref (u 0), .int x, .int y, .ref o] D C ev (wj [acells C u Q, gcells C (uA u) G, grcells C (uG u) Rr, lcells C o F]) sz) (xO 0 (some (.int (thr [1, 5] (f_X7_distanceByRelaxation Q G Rr x y).1))) D (wj [acells C u Q, gcells C (uA u) G, grcells C (uG u) ((f_X7_distanceByRelaxation Q G Rr x y).2.2), lcells C o (oF (f_X7_distanceByRelaxation Q G Rr x y).1 (Int32.toInt64 ((f_X7_distanceByRelaxation Q G Rr x y).2.1)) F)]) (va_A (wj [acells C u Q, gcells C (uA u) G, grcells C (uG u) Rr, lcells C o F]) sz)) (xC 0 D (wj [acells C u Q, gcells C (uA u) G, grcells C (uG u) ((f_X7_distanceByRelaxation Q G Rr x y).2.2), lcells C o (oF (f_X7_distanceByRelaxation Q G Rr x y).1 (Int32.toInt64 ((f_X7_distanceByRelaxation Q G Rr x y).2.1)) F)]) (va_A (wj [acells C u Q, gcells C (uA u) G, grcells C (uG u) Rr, lcells C o F]) sz)) 3 18 (va_A (wj [acells C u Q, gcells C (uA u) G, grcells C (uG u) Rr, lcells C o F]) sz) := by
  refine vx_ofWH (cc := cL_distanceByRelaxation) (maxL := 5) (ret := (some .int)) (by decide) rfl ?_
  intro p e s m args below meth c s₁ B hml hv
  obtain ⟨⟨rfl, hsz, hP, hK, hD0, hE, hR, hX, hT9, hV9⟩, hN9, hC9⟩ := hv
  have hx := B.exec
  have hb := B.bytes
  have hr := B.returns
  have hts := atoms_spec (ws := wsL_distanceByRelaxation) B.pre
  have htab := vx_table (x := yL_distanceByRelaxation) B (hts _ List.mem_cons_self)
  have hown : s.vm.findClass RL = some m.cls := findClass_of_methodNamed B.named
  have hlocks := B.notSynchronized
  subst hsz
  have hD := hD0.self (sz := s.heap.size)
  generalize hAe : va_A (wj [acells C u Q, gcells C (uA u) G, grcells C (uG u) Rr, lcells C o F]) s.heap.size = A at hD hX hV9 ⊢
  have hA : ∀ q : Nat, s.heap.size ≤ q → A q := fun q h => by rw [← hAe]; exact Or.inr h
  have hS0 : va_S A s.heap s.heap [] := va_S.rf
  have hP : va_P D vwCl (wj [acells C u Q, gcells C (uA u) G, grcells C (uG u) Rr, lcells C o F]) s.heap := hP
  have hS := hS0
  have hl := lv_entry ([.ref (u 0), .int x, .int y, .ref o]) (n := 5) (Nat.le_of_ble_eq_true rfl)
  rw [lg_entry_eq]
  generalize (lg_sl ([.ref (u 0), .int x, .int y, .ref o]) ++ List.replicate (5 - (lg_sl ([.ref (u 0), .int x, .int y, .ref o])).length) Slot.unset).toArray = ls at hl ⊢
  have hl : lv_has ls 5 [(0, .ref (u 0)), (1, .int x), (2, .int y), (3, .ref o)] := hl
  obtain ⟨z, hz⟩ : ∃ z, z = f_X7_distanceByRelaxation Q G Rr x y := ⟨_, rfl⟩
  rw [← hz] at hm9 ⊢
  refine lv_aload_n hx hb dL_distanceByRelaxation_0 rfl (lv_at hl 3 rfl) ?_
  refine lv_iconst (v := 0) hx hb dL_distanceByRelaxation_1 (by decide) ?_
  refine lv_aload_n hx hb dL_distanceByRelaxation_2 rfl (lv_at hl 0 rfl) ?_
  refine lv_iload_n hx hb dL_distanceByRelaxation_3 rfl (lv_at hl 1 rfl) ?_
  refine lv_iload_n hx hb dL_distanceByRelaxation_4 rfl (lv_at hl 2 rfl) ?_
  have hPc : va_P D vwCl (wj [acells C u Q, gcells C (uA u) G, grcells C (uG u) Rr]) _ := wj_P (cs := [acells C u Q, gcells C (uA u) G, grcells C (uG u) Rr]) hP [0, 1, 2] rfl
  have hDc : va_D A (wj [acells C u Q, gcells C (uA u) G, grcells C (uG u) Rr]) := wj_D (cs := [acells C u Q, gcells C (uA u) G, grcells C (uG u) Rr]) hD [0, 1, 2] (by decide) rfl
  have hFc : ∀ q, va_A (wj [acells C u Q, gcells C (uA u) G, grcells C (uG u) Rr]) (Array.size _) q → A q := wj_F (cs := [acells C u Q, gcells C (uA u) G, grcells C (uG u) Rr]) hD hS hA [0, 1, 2] rfl
  refine callX (vx_runV (As := [.int x, .int y]) (rest := [.int 0, .ref o]) ⟨hx, hb, hml, hown, hts⟩ (c_X7_distanceByRelaxation l D C ev u Q G Rr x y _ hG hl9) (cwV 2 hts gL_distanceByRelaxation_X7_distanceByRelaxation rfl rfl rfl (by decide +kernel) ⟨Nat.le_of_ble_eq_true rfl, Nat.le_of_ble_eq_true rfl⟩) (xP_v hPc hK hE hDc hR hX hT9 hV9 hS hFc (va_recv hK hPc (ci := 8) (q0 := 0) rfl rfl)) rfl rfl hl.1 rfl (lv_room (Nat.le_of_ble_eq_true rfl)) dL_distanceByRelaxation_5 ⟨Nat.le_of_ble_eq_true rfl, Nat.le_of_ble_eq_true rfl⟩) hS hFc (fun hc0 hc7 ce q9 H1 locs hPn hk hS hcell hcv hcl => ?_) (fun hc0 H1 locs hPn hk hS => ?_)
  · have hc0 : 0 < z.1 := by rw [hz]; exact hc0
    have hcl : s.vm.findClass (xN z.1) = some ce.cls := by rw [hz]; exact hcl
    have hPn : va_P D vwCl (wj [acells C u Q, gcells C (uA u) G, grcells C (uG u) (z.2.2)]) H1 := by first | (rw [hz]; exact hPn) | exact hPn
    have hP : va_P D vwCl (wj [acells C u Q, gcells C (uA u) G, grcells C (uG u) (z.2.2), lcells C o F]) H1 := jb (bs := [acells C u Q, gcells C (uA u) G, grcells C (uG u) Rr, lcells C o F]) (cs := [acells C u Q, gcells C (uA u) G, grcells C (uG u) Rr]) (rs := [lcells C o F]) (cs' := [acells C u Q, gcells C (uA u) G, grcells C (uG u) (z.2.2)]) (bs' := [acells C u Q, gcells C (uA u) G, grcells C (uG u) (z.2.2), lcells C o F]) hP hD (bsP 4 [0, 1, 2, 3] rfl (by decide) rfl) (bsP 4 [0, 1, 2, 3] rfl (by decide) rfl) hk hPn
    have hmem := hm9.resolve_left (Nat.ne_of_gt hc0)
    have hmem : z.1 = 1 ∨ z.1 = 5 := by simpa only [List.mem_cons, List.not_mem_nil, or_false] using hmem
    rcases hmem with hmem | hmem
    · rw [hmem] at hcl ⊢
      refine vx_catch (own := RL) (name := xN 1) (E := xN 1) hown [] _ _ (htab.trans rfl) (fun z h9 => absurd h9 List.not_mem_nil) rfl (by decide) (va_Nw.use rfl (hC9 1 (by decide) (by decide))) (va_Nw.use rfl (hT9.2.2 0 (by decide))) hcell hcv hcl ?_
      refine lv_astore hx hb dL_distanceByRelaxation_13 hl (Nat.le_of_ble_eq_true rfl) rfl (fun ls' hl' => ?_)
      refine lv_iconst (v := 1) hx hb dL_distanceByRelaxation_15 (by decide) ?_
      exact x_ret hx hb hr hP hS rfl (by decide +kernel) (Nat.le_of_ble_eq_true rfl) (Nat.le_of_ble_eq_true rfl) dL_distanceByRelaxation_16 hlocks
    · rw [hmem] at hcl ⊢
      refine vx_catch (own := RL) (name := xN 5) (E := xN 5) hown [_] _ _ (htab.trans rfl) (pass1 (Or.inr ⟨by decide, xN 1, va_Nw.use rfl (hC9 1 (by decide) (by decide)), hN9 5 1 (by decide) (by decide) (by decide) (by decide) (by decide)⟩)) rfl (by decide) (va_Nw.use rfl (hC9 5 (by decide) (by decide))) (va_Nw.use rfl (hT9.2.2 4 (by decide))) hcell hcv hcl ?_
      refine lv_astore hx hb dL_distanceByRelaxation_17 hl (Nat.le_of_ble_eq_true rfl) rfl (fun ls' hl' => ?_)
      refine lv_iconst (v := 2) hx hb dL_distanceByRelaxation_19 (by decide) ?_
      exact x_ret hx hb hr hP hS rfl (by decide +kernel) (Nat.le_of_ble_eq_true rfl) (Nat.le_of_ble_eq_true rfl) dL_distanceByRelaxation_20 hlocks
  · have hc0 : z.1 = 0 := by rw [hz]; exact hc0
    have hPn : va_P D vwCl (wj [acells C u Q, gcells C (uA u) G, grcells C (uG u) (z.2.2)]) H1 := by first | (rw [hz]; exact hPn) | exact hPn
    have hP : va_P D vwCl (wj [acells C u Q, gcells C (uA u) G, grcells C (uG u) (z.2.2), lcells C o F]) H1 := jb (bs := [acells C u Q, gcells C (uA u) G, grcells C (uG u) Rr, lcells C o F]) (cs := [acells C u Q, gcells C (uA u) G, grcells C (uG u) Rr]) (rs := [lcells C o F]) (cs' := [acells C u Q, gcells C (uA u) G, grcells C (uG u) (z.2.2)]) (bs' := [acells C u Q, gcells C (uA u) G, grcells C (uG u) (z.2.2), lcells C o F]) hP hD (bsP 4 [0, 1, 2, 3] rfl (by decide) rfl) (bsP 4 [0, 1, 2, 3] rfl (by decide) rfl) hk hPn
    have hD : va_D A (wj [acells C u Q, gcells C (uA u) G, grcells C (uG u) (z.2.2), lcells C o F]) := adr_D hD rfl
    generalize H1 = H at hP hS ⊢
    refine topI (y := (z.2.1)) (by rw [hz]) ?_
    refine lv_i2l hx hb dL_distanceByRelaxation_8 rfl ?_
    refine va_last (q0 := (wj [acells C u Q, gcells C (uA u) G, grcells C (uG u) (z.2.2)]).length) (t0 := 4) hx hb hK hP hD hS rfl rfl vp01 dL_distanceByRelaxation_9 (fun H2 locs2 hP2 hD2 hS2 => ?_)
    refine lv_goto (tgt := 21) hx hb dL_distanceByRelaxation_10 (by decide) ?_
    refine lv_iconst (v := 0) hx hb dL_distanceByRelaxation_21 (by decide) ?_
    rw [hc0]
    exact x_ret hx hb hr hP2 hS2 rfl rfl (Nat.le_of_ble_eq_true rfl) (Nat.le_of_ble_eq_true rfl) dL_distanceByRelaxation_22 hlocks
