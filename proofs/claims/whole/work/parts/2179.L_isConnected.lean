set_option maxRecDepth 20000 in
theorem ggL_isConnected_X7_isConnected : GoodIn wsL_isConnected wsX7_isConnected := goodIn_ca (goodIn_ca (goodIn_r _ [6, 7, 8, 9, 5, 10, 11, 12, 13, 14, 15, 16, 17, 18, 19, 20, 21, 22, 23, 24, 25, 26, 27, 28, 29, 30, 31, 32, 33, 34, 35, 36, 37, 38, 39, 40, 41, 42, 43, 44, 45, 46, 47, 48, 49, 50, 51, 52, 53, 54, 55, 56, 57, 58, 59, 60, 61, 62, 63] (by decide +kernel) (by decide +kernel)) (goodIn_sub (fun _ h => List.mem_cons_of_mem _ (List.mem_append_right _ h)) (by decide +kernel))) (goodIn_sub (fun _ h => List.mem_cons_of_mem _ (List.mem_append_left _ (List.mem_append_right _ h))) (by decide +kernel))
set_option maxRecDepth 20000 in
theorem gL_isConnected_X7_isConnected : GoodIn wsL_isConnected (wsV RL 109 RX7 yX7_isConnected wsX7_isConnected) := goodIn_app (goodIn_of _ (by decide +kernel)) ggL_isConnected_X7_isConnected
theorem dL_isConnected_0 : decode cL_isConnected 0 = .ok (.aload_n 3, 1) := by decide +kernel
theorem dL_isConnected_1 : decode cL_isConnected 1 = .ok (.iconst 0, 1) := by decide +kernel
theorem dL_isConnected_2 : decode cL_isConnected 2 = .ok (.aload_n 0, 1) := by decide +kernel
theorem dL_isConnected_3 : decode cL_isConnected 3 = .ok (.iload_n 1, 1) := by decide +kernel
theorem dL_isConnected_4 : decode cL_isConnected 4 = .ok (.iload_n 2, 1) := by decide +kernel
theorem dL_isConnected_5 : decode cL_isConnected 5 = .ok (.invokevirtual 109, 3) := by decide +kernel
theorem dL_isConnected_8 : decode cL_isConnected 8 = .ok (.ifCond .eq 7, 3) := by decide +kernel
theorem dL_isConnected_11 : decode cL_isConnected 11 = .ok (.lconst 1, 1) := by decide +kernel
theorem dL_isConnected_12 : decode cL_isConnected 12 = .ok (.goto 4, 3) := by decide +kernel
theorem dL_isConnected_15 : decode cL_isConnected 15 = .ok (.lconst 0, 1) := by decide +kernel
theorem dL_isConnected_16 : decode cL_isConnected 16 = .ok (.lastore, 1) := by decide +kernel
theorem dL_isConnected_17 : decode cL_isConnected 17 = .ok (.goto 7, 3) := by decide +kernel
theorem dL_isConnected_20 : decode cL_isConnected 20 = .ok (.astore 4, 2) := by decide +kernel
theorem dL_isConnected_22 : decode cL_isConnected 22 = .ok (.iconst 1, 1) := by decide +kernel
theorem dL_isConnected_23 : decode cL_isConnected 23 = .ok (.ireturn, 1) := by decide +kernel
theorem dL_isConnected_24 : decode cL_isConnected 24 = .ok (.iconst 0, 1) := by decide +kernel
theorem dL_isConnected_25 : decode cL_isConnected 25 = .ok (.ireturn, 1) := by decide +kernel
set_option maxHeartbeats 4000000 in
set_option maxRecDepth 100000 in
theorem c_L_isConnected (l : Launch) (D : va_G) (C : Nat → ClassId) (ev : Nat → Nat) (u : Nat → Nat) (o : Nat) (Q : QS) (G : GS) (Rr : GR) (x : Int32) (y : Int32) (F : Nat → Int64) (sz : Nat) (hG : GSafe G) (hl9 : l.stackTraces = false) (hm9 : (f_X7_isConnected Q G Rr x y).1 = 0 ∨ (f_X7_isConnected Q G Rr x y).1 ∈ [1]) : vx_Met l yL_isConnected wsL_isConnected ({ frames := 12, cells := 2, slots := 12, locals := 312 } : Room) (hlP [.ref (u 0), .int x, .int y, .ref o] D C ev (wj [acells C u Q, gcells C (uA u) G, grcells C (uG u) Rr, lcells C o F]) sz) (xO 0 (some (.int (thr [1] (f_X7_isConnected Q G Rr x y).1))) D (wj [acells C u Q, gcells C (uA u) G, grcells C (uG u) Rr, lcells C o (oF (f_X7_isConnected Q G Rr x y).1 (bL ((f_X7_isConnected Q G Rr x y).2)) F)]) (va_A (wj [acells C u Q, gcells C (uA u) G, grcells C (uG u) Rr, lcells C o F]) sz)) (xC 0 D (wj [acells C u Q, gcells C (uA u) G, grcells C (uG u) Rr, lcells C o (oF (f_X7_isConnected Q G Rr x y).1 (bL ((f_X7_isConnected Q G Rr x y).2)) F)]) (va_A (wj [acells C u Q, gcells C (uA u) G, grcells C (uG u) Rr, lcells C o F]) sz)) 2 12 (va_A (wj [acells C u Q, gcells C (uA u) G, grcells C (uG u) Rr, lcells C o F]) sz) := by
  refine vx_ofWH (cc := cL_isConnected) (maxL := 5) (ret := (some .int)) (by decide) rfl ?_
  intro p e s m args below meth c s₁ B hml hv
  obtain ⟨⟨rfl, hsz, hP, hK, hD0, hE, hR, hX, hT9, hV9⟩, hN9, hC9⟩ := hv
  have hx := B.exec
  have hb := B.bytes
  have hr := B.returns
  have hts := atoms_spec (ws := wsL_isConnected) B.pre
  have htab := vx_table (x := yL_isConnected) B (hts _ List.mem_cons_self)
  have hown : s.vm.findClass RL = some m.cls := findClass_of_methodNamed B.named
  have hlocks := B.notSynchronized
  subst hsz
  have hD := hD0.self (sz := s.heap.size)
  generalize hAe : va_A (wj [acells C u Q, gcells C (uA u) G, grcells C (uG u) Rr, lcells C o F]) s.heap.size = A at hD hX hV9 ⊢
  have hA : ∀ q : Nat, s.heap.size ≤ q → A q := fun q h => by rw [← hAe]; exact Or.inr h
  have hS0 : va_S A s.heap s.heap [] := va_S.rf
  have hP : va_P D vwCl (wj [acells C u Q, gcells C (uA u) G, grcells C (uG u) Rr, lcells C o F]) s.heap := hP
  have hS := hS0
  have hl := lv_entry ([.ref (u 0), .int x, .int y, .ref o]) (n := 5) (Nat.le_of_ble_eq_true rfl)
  rw [lg_entry_eq]
  generalize (lg_sl ([.ref (u 0), .int x, .int y, .ref o]) ++ List.replicate (5 - (lg_sl ([.ref (u 0), .int x, .int y, .ref o])).length) Slot.unset).toArray = ls at hl ⊢
  have hl : lv_has ls 5 [(0, .ref (u 0)), (1, .int x), (2, .int y), (3, .ref o)] := hl
  obtain ⟨z, hz⟩ : ∃ z, z = f_X7_isConnected Q G Rr x y := ⟨_, rfl⟩
  rw [← hz] at hm9 ⊢
  refine lv_aload_n hx hb dL_isConnected_0 rfl (lv_at hl 3 rfl) ?_
  refine lv_iconst (v := 0) hx hb dL_isConnected_1 (by decide) ?_
  refine lv_aload_n hx hb dL_isConnected_2 rfl (lv_at hl 0 rfl) ?_
  refine lv_iload_n hx hb dL_isConnected_3 rfl (lv_at hl 1 rfl) ?_
  refine lv_iload_n hx hb dL_isConnected_4 rfl (lv_at hl 2 rfl) ?_
  have hPc : va_P D vwCl (wj [acells C u Q, gcells C (uA u) G, grcells C (uG u) Rr]) _ := wj_P (cs := [acells C u Q, gcells C (uA u) G, grcells C (uG u) Rr]) hP [0, 1, 2] rfl
  have hDc : va_D A (wj [acells C u Q, gcells C (uA u) G, grcells C (uG u) Rr]) := wj_D (cs := [acells C u Q, gcells C (uA u) G, grcells C (uG u) Rr]) hD [0, 1, 2] (by decide) rfl
  have hFc : ∀ q, va_A (wj [acells C u Q, gcells C (uA u) G, grcells C (uG u) Rr]) (Array.size _) q → A q := wj_F (cs := [acells C u Q, gcells C (uA u) G, grcells C (uG u) Rr]) hD hS hA [0, 1, 2] rfl
  refine callX (vx_runV (As := [.int x, .int y]) (rest := [.int 0, .ref o]) ⟨hx, hb, hml, hown, hts⟩ (c_X7_isConnected l D C ev u Q G Rr x y _ hG hl9) (cwV 2 hts gL_isConnected_X7_isConnected rfl rfl rfl (by decide +kernel) ⟨Nat.le_of_ble_eq_true rfl, Nat.le_of_ble_eq_true rfl⟩) (xP_v hPc hK hE hDc hR hX hT9 hV9 hS hFc (va_recv hK hPc (ci := 8) (q0 := 0) rfl rfl)) rfl rfl hl.1 rfl (lv_room (Nat.le_of_ble_eq_true rfl)) dL_isConnected_5 ⟨Nat.le_of_ble_eq_true rfl, Nat.le_of_ble_eq_true rfl⟩) hS hFc (fun hc0 hc7 ce q9 H1 locs hPn hk hS hcell hcv hcl => ?_) (fun hc0 H1 locs hPn hk hS => ?_)
  · have hc0 : 0 < z.1 := by rw [hz]; exact hc0
    have hcl : s.vm.findClass (xN z.1) = some ce.cls := by rw [hz]; exact hcl
    have hPn : va_P D vwCl (wj [acells C u Q, gcells C (uA u) G, grcells C (uG u) Rr]) H1 := by first | (rw [hz]; exact hPn) | exact hPn
    have hP : va_P D vwCl (wj [acells C u Q, gcells C (uA u) G, grcells C (uG u) Rr, lcells C o F]) H1 := jb (bs := [acells C u Q, gcells C (uA u) G, grcells C (uG u) Rr, lcells C o F]) (cs := [acells C u Q, gcells C (uA u) G, grcells C (uG u) Rr]) (rs := [lcells C o F]) (cs' := [acells C u Q, gcells C (uA u) G, grcells C (uG u) Rr]) (bs' := [acells C u Q, gcells C (uA u) G, grcells C (uG u) Rr, lcells C o F]) hP hD (bsP 4 [0, 1, 2, 3] rfl (by decide) rfl) (bsP 4 [0, 1, 2, 3] rfl (by decide) rfl) hk hPn
    have hmem := hm9.resolve_left (Nat.ne_of_gt hc0)
    have hmem : z.1 = 1 := List.mem_singleton.mp hmem
    rw [hmem] at hcl ⊢
    refine vx_catch (own := RL) (name := xN 1) (E := xN 1) hown [] _ _ (htab.trans rfl) (fun z h9 => absurd h9 List.not_mem_nil) rfl (by decide) (va_Nw.use rfl (hC9 1 (by decide) (by decide))) (va_Nw.use rfl (hT9.2.2 0 (by decide))) hcell hcv hcl ?_
    refine lv_astore hx hb dL_isConnected_20 hl (Nat.le_of_ble_eq_true rfl) rfl (fun ls' hl' => ?_)
    refine lv_iconst (v := 1) hx hb dL_isConnected_22 (by decide) ?_
    exact x_ret hx hb hr hP hS rfl (by decide +kernel) (Nat.le_of_ble_eq_true rfl) (Nat.le_of_ble_eq_true rfl) dL_isConnected_23 hlocks
  · have hc0 : z.1 = 0 := by rw [hz]; exact hc0
    have hPn : va_P D vwCl (wj [acells C u Q, gcells C (uA u) G, grcells C (uG u) Rr]) H1 := by first | (rw [hz]; exact hPn) | exact hPn
    have hP : va_P D vwCl (wj [acells C u Q, gcells C (uA u) G, grcells C (uG u) Rr, lcells C o F]) H1 := jb (bs := [acells C u Q, gcells C (uA u) G, grcells C (uG u) Rr, lcells C o F]) (cs := [acells C u Q, gcells C (uA u) G, grcells C (uG u) Rr]) (rs := [lcells C o F]) (cs' := [acells C u Q, gcells C (uA u) G, grcells C (uG u) Rr]) (bs' := [acells C u Q, gcells C (uA u) G, grcells C (uG u) Rr, lcells C o F]) hP hD (bsP 4 [0, 1, 2, 3] rfl (by decide) rfl) (bsP 4 [0, 1, 2, 3] rfl (by decide) rfl) hk hPn
    have hD : va_D A (wj [acells C u Q, gcells C (uA u) G, grcells C (uG u) Rr, lcells C o F]) := adr_D hD rfl
    generalize H1 = H at hP hS ⊢
    refine topI (y := bI z.2) (by rw [hz]) ?_
    refine lv_if_eq (tgt := 15) hx hb dL_isConnected_8 (by decide) (fun c_9 => ?_) (fun c_9 => ?_)
    · have c_9 : z.2 = false := (bI_0 _).mp c_9
      refine lv_lconst (v := 0) hx hb dL_isConnected_15 (by decide) ?_
      refine va_last (q0 := (wj [acells C u Q, gcells C (uA u) G, grcells C (uG u) Rr]).length) (t0 := 4) hx hb hK hP hD hS rfl rfl vp01 dL_isConnected_16 (fun H2 locs2 hP2 hD2 hS2 => ?_)
      refine lv_goto (tgt := 24) hx hb dL_isConnected_17 (by decide) ?_
      refine lv_iconst (v := 0) hx hb dL_isConnected_24 (by decide) ?_
      rw [hc0, c_9]
      exact x_ret hx hb hr hP2 hS2 rfl rfl (Nat.le_of_ble_eq_true rfl) (Nat.le_of_ble_eq_true rfl) dL_isConnected_25 hlocks
    · have c_9 : z.2 = true := by cases e9 : z.2 with | true => rfl | false => exact absurd ((bI_0 _).mpr e9) c_9
      refine lv_lconst (v := 1) hx hb dL_isConnected_11 (by decide) ?_
      refine lv_goto (tgt := 16) hx hb dL_isConnected_12 (by decide) ?_
      refine va_last (q0 := (wj [acells C u Q, gcells C (uA u) G, grcells C (uG u) Rr]).length) (t0 := 4) hx hb hK hP hD hS rfl rfl vp01 dL_isConnected_16 (fun H2 locs2 hP2 hD2 hS2 => ?_)
      refine lv_goto (tgt := 24) hx hb dL_isConnected_17 (by decide) ?_
      refine lv_iconst (v := 0) hx hb dL_isConnected_24 (by decide) ?_
      rw [hc0, c_9]
      exact x_ret hx hb hr hP2 hS2 rfl rfl (Nat.le_of_ble_eq_true rfl) (Nat.le_of_ble_eq_true rfl) dL_isConnected_25 hlocks
