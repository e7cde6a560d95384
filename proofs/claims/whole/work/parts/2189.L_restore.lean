set_option maxRecDepth 20000 in
theorem ggL_restore_X7_restore : GoodIn wsL_restore wsX7_restore := goodIn_ca (goodIn_r _ [6, 7, 8, 9, 10, 11, 12, 13, 14, 15, 16, 17, 18, 19, 20, 21, 22, 23, 24, 25, 26, 27, 28, 29, 30, 31, 32, 33, 34, 35, 36, 37, 38, 39, 40, 41, 42, 43, 44, 45, 46, 47, 48, 49, 50, 51, 52, 53, 54, 55, 56, 57, 58, 59, 60, 61, 62, 63, 64, 65, 66] (by decide +kernel) (by decide +kernel)) (goodIn_sub (fun _ h => List.mem_cons_of_mem _ (List.mem_append_right _ h)) (by decide +kernel))
set_option maxRecDepth 20000 in
theorem gL_restore_X7_restore : GoodIn wsL_restore (wsV RL 154 RX7 yX7_restore wsX7_restore) := goodIn_app (goodIn_of _ (by decide +kernel)) ggL_restore_X7_restore
theorem dL_restore_0 : decode cL_restore 0 = .ok (.aload_n 1, 1) := by decide +kernel
theorem dL_restore_1 : decode cL_restore 1 = .ok (.iconst 0, 1) := by decide +kernel
theorem dL_restore_2 : decode cL_restore 2 = .ok (.aload_n 0, 1) := by decide +kernel
theorem dL_restore_3 : decode cL_restore 3 = .ok (.invokevirtual 154, 3) := by decide +kernel
theorem dL_restore_6 : decode cL_restore 6 = .ok (.i2l, 1) := by decide +kernel
theorem dL_restore_7 : decode cL_restore 7 = .ok (.lastore, 1) := by decide +kernel
theorem dL_restore_8 : decode cL_restore 8 = .ok (.goto 6, 3) := by decide +kernel
theorem dL_restore_11 : decode cL_restore 11 = .ok (.astore_n 2, 1) := by decide +kernel
theorem dL_restore_12 : decode cL_restore 12 = .ok (.iconst 1, 1) := by decide +kernel
theorem dL_restore_13 : decode cL_restore 13 = .ok (.ireturn, 1) := by decide +kernel
theorem dL_restore_14 : decode cL_restore 14 = .ok (.iconst 0, 1) := by decide +kernel
theorem dL_restore_15 : decode cL_restore 15 = .ok (.ireturn, 1) := by decide +kernel
set_option maxHeartbeats 4000000 in
set_option maxRecDepth 100000 in
theorem c_L_restore (l : Launch) (D : va_G) (C : Nat → ClassId) (ev : Nat → Nat) (u : Nat → Nat) (o : Nat) (Q : QS) (G : GS) (G1 : GS) (S : HS) (F : Nat → Int64) (sz : Nat) (hG : GSafe G) (hG1 : GSafe G1) (hl9 : l.stackTraces = false) (hm9 : (f_X7_restore Q G G1 S).1 = 0 ∨ (f_X7_restore Q G G1 S).1 ∈ [3]) : vx_Met l yL_restore wsL_restore ({ frames := 7, cells := 1, slots := 6, locals := 129 } : Room) (hlP [.ref (u 0), .ref o] D C ev (wj [acells C u Q, gcells C (uA u) G, gcells C (uB u) G1, hcells C (uH u) S, lcells C o F]) sz) (xO 0 (some (.int (thr [3] (f_X7_restore Q G G1 S).1))) D (wj [acells C u ((f_X7_restore Q G G1 S).2.2.1), gcells C (uA u) ((f_X7_restore Q G G1 S).2.2.2.1), gcells C (uB u) G1, hcells C (uH u) ((f_X7_restore Q G G1 S).2.2.2.2), lcells C o (oF (f_X7_restore Q G G1 S).1 (Int32.toInt64 ((f_X7_restore Q G G1 S).2.1)) F)]) (va_A (wj [acells C u Q, gcells C (uA u) G, gcells C (uB u) G1, hcells C (uH u) S, lcells C o F]) sz)) (xC 0 D (wj [acells C u ((f_X7_restore Q G G1 S).2.2.1), gcells C (uA u) ((f_X7_restore Q G G1 S).2.2.2.1), gcells C (uB u) G1, hcells C (uH u) ((f_X7_restore Q G G1 S).2.2.2.2), lcells C o (oF (f_X7_restore Q G G1 S).1 (Int32.toInt64 ((f_X7_restore Q G G1 S).2.1)) F)]) (va_A (wj [acells C u Q, gcells C (uA u) G, gcells C (uB u) G1, hcells C (uH u) S, lcells C o F]) sz)) 1 6 (va_A (wj [acells C u Q, gcells C (uA u) G, gcells C (uB u) G1, hcells C (uH u) S, lcells C o F]) sz) := by
  refine vx_ofWH (cc := cL_restore) (maxL := 3) (ret := (some .int)) (by decide) rfl ?_
  intro p e s m args below meth c s₁ B hml hv
  obtain ⟨⟨rfl, hsz, hP, hK, hD0, hE, hR, hX, hT9, hV9⟩, hN9, hC9⟩ := hv
  have hx := B.exec
  have hb := B.bytes
  have hr := B.returns
  have hts := atoms_spec (ws := wsL_restore) B.pre
  have htab := vx_table (x := yL_restore) B (hts _ List.mem_cons_self)
  have hown : s.vm.findClass RL = some m.cls := findClass_of_methodNamed B.named
  have hlocks := B.notSynchronized
  subst hsz
  have hD := hD0.self (sz := s.heap.size)
  generalize hAe : va_A (wj [acells C u Q, gcells C (uA u) G, gcells C (uB u) G1, hcells C (uH u) S, lcells C o F]) s.heap.size = A at hD hX hV9 ⊢
  have hA : ∀ q : Nat, s.heap.size ≤ q → A q := fun q h => by rw [← hAe]; exact Or.inr h
  have hS0 : va_S A s.heap s.heap [] := va_S.rf
  have hP : va_P D vwCl (wj [acells C u Q, gcells C (uA u) G, gcells C (uB u) G1, hcells C (uH u) S, lcells C o F]) s.heap := hP
  have hS := hS0
  have hl := lv_entry ([.ref (u 0), .ref o]) (n := 3) (Nat.le_of_ble_eq_true rfl)
  rw [lg_entry_eq]
  generalize (lg_sl ([.ref (u 0), .ref o]) ++ List.replicate (3 - (lg_sl ([.ref (u 0), .ref o])).length) Slot.unset).toArray = ls at hl ⊢
  have hl : lv_has ls 3 [(0, .ref (u 0)), (1, .ref o)] := hl
  obtain ⟨z, hz⟩ : ∃ z, z = f_X7_restore Q G G1 S := ⟨_, rfl⟩
  rw [← hz] at hm9 ⊢
  refine lv_aload_n hx hb dL_restore_0 rfl (lv_at hl 1 rfl) ?_
  refine lv_iconst (v := 0) hx hb dL_restore_1 (by decide) ?_
  refine lv_aload_n hx hb dL_restore_2 rfl (lv_at hl 0 rfl) ?_
  have hPc : va_P D vwCl (wj [acells C u Q, gcells C (uA u) G, gcells C (uB u) G1, hcells C (uH u) S]) _ := wj_P (cs := [acells C u Q, gcells C (uA u) G, gcells C (uB u) G1, hcells C (uH u) S]) hP [0, 1, 2, 3] rfl
  have hDc : va_D A (wj [acells C u Q, gcells C (uA u) G, gcells C (uB u) G1, hcells C (uH u) S]) := wj_D (cs := [acells C u Q, gcells C (uA u) G, gcells C (uB u) G1, hcells C (uH u) S]) hD [0, 1, 2, 3] (by decide) rfl
  have hFc : ∀ q, va_A (wj [acells C u Q, gcells C (uA u) G, gcells C (uB u) G1, hcells C (uH u) S]) (Array.size _) q → A q := wj_F (cs := [acells C u Q, gcells C (uA u) G, gcells C (uB u) G1, hcells C (uH u) S]) hD hS hA [0, 1, 2, 3] rfl
  refine callX (vx_runV (As := []) (rest := [.int 0, .ref o]) ⟨hx, hb, hml, hown, hts⟩ (c_X7_restore l D C ev u Q G G1 S _ hG hG1 hl9) (cwV 0 hts gL_restore_X7_restore rfl rfl rfl (by decide +kernel) ⟨Nat.le_of_ble_eq_true rfl, Nat.le_of_ble_eq_true rfl⟩) (xP_v hPc hK hE hDc hR hX hT9 hV9 hS hFc (va_recv hK hPc (ci := 8) (q0 := 0) rfl rfl)) rfl rfl hl.1 rfl (lv_room (Nat.le_of_ble_eq_true rfl)) dL_restore_3 ⟨Nat.le_of_ble_eq_true rfl, Nat.le_of_ble_eq_true rfl⟩) hS hFc (fun hc0 hc7 ce q9 H1 locs hPn hk hS hcell hcv hcl => ?_) (fun hc0 H1 locs hPn hk hS => ?_)
  · have hc0 : 0 < z.1 := by rw [hz]; exact hc0
    have hcl : s.vm.findClass (xN z.1) = some ce.cls := by rw [hz]; exact hcl
    have hPn : va_P D vwCl (wj [acells C u (z.2.2.1), gcells C (uA u) (z.2.2.2.1), gcells C (uB u) G1, hcells C (uH u) (z.2.2.2.2)]) H1 := by first | (rw [hz]; exact hPn) | exact hPn
    have hP : va_P D vwCl (wj [acells C u (z.2.2.1), gcells C (uA u) (z.2.2.2.1), gcells C (uB u) G1, hcells C (uH u) (z.2.2.2.2), lcells C o F]) H1 := jb (bs := [acells C u Q, gcells C (uA u) G, gcells C (uB u) G1, hcells C (uH u) S, lcells C o F]) (cs := [acells C u Q, gcells C (uA u) G, gcells C (uB u) G1, hcells C (uH u) S]) (rs := [lcells C o F]) (cs' := [acells C u (z.2.2.1), gcells C (uA u) (z.2.2.2.1), gcells C (uB u) G1, hcells C (uH u) (z.2.2.2.2)]) (bs' := [acells C u (z.2.2.1), gcells C (uA u) (z.2.2.2.1), gcells C (uB u) G1, hcells C (uH u) (z.2.2.2.2), lcells C o F]) hP hD (bsP 5 [0, 1, 2, 3, 4] rfl (by decide) rfl) (bsP 5 [0, 1, 2, 3, 4] rfl (by decide) rfl) hk hPn
    have hmem := hm9.resolve_left (Nat.ne_of_gt hc0)
    have hmem : z.1 = 3 := List.mem_singleton.mp hmem
    rw [hmem] at hcl ⊢
    refine vx_catch (own := RL) (name := xN 3) (E := xN 3) hown [] _ _ (htab.trans rfl) (fun z h9 => absurd h9 List.not_mem_nil) rfl (by decide) (va_Nw.use rfl (hC9 3 (by decide) (by decide))) (va_Nw.use rfl (hT9.2.2 2 (by decide))) hcell hcv hcl ?_
    refine lv_astore_n (i := 2) hx hb dL_restore_11 rfl hl (Nat.le_of_ble_eq_true rfl) rfl (fun ls' hl' => ?_)
    refine lv_iconst (v := 1) hx hb dL_restore_12 (by decide) ?_
    exact x_ret hx hb hr hP hS rfl (by decide +kernel) (Nat.le_of_ble_eq_true rfl) (Nat.le_of_ble_eq_true rfl) dL_restore_13 hlocks
  · have hc0 : z.1 = 0 := by rw [hz]; exact hc0
    have hPn : va_P D vwCl (wj [acells C u (z.2.2.1), gcells C (uA u) (z.2.2.2.1), gcells C (uB u) G1, hcells C (uH u) (z.2.2.2.2)]) H1 := by first | (rw [hz]; exact hPn) | exact hPn
    have hP : va_P D vwCl (wj [acells C u (z.2.2.1), gcells C (uA u) (z.2.2.2.1), gcells C (uB u) G1, hcells C (uH u) (z.2.2.2.2), lcells C o F]) H1 := jb (bs := [acells C u Q, gcells C (uA u) G, gcells C (uB u) G1, hcells C (uH u) S, lcells C o F]) (cs := [acells C u Q, gcells C (uA u) G, gcells C (uB u) G1, hcells C (uH u) S]) (rs := [lcells C o F]) (cs' := [acells C u (z.2.2.1), gcells C (uA u) (z.2.2.2.1), gcells C (uB u) G1, hcells C (uH u) (z.2.2.2.2)]) (bs' := [acells C u (z.2.2.1), gcells C (uA u) (z.2.2.2.1), gcells C (uB u) G1, hcells C (uH u) (z.2.2.2.2), lcells C o F]) hP hD (bsP 5 [0, 1, 2, 3, 4] rfl (by decide) rfl) (bsP 5 [0, 1, 2, 3, 4] rfl (by decide) rfl) hk hPn
    have hD : va_D A (wj [acells C u (z.2.2.1), gcells C (uA u) (z.2.2.2.1), gcells C (uB u) G1, hcells C (uH u) (z.2.2.2.2), lcells C o F]) := adr_D hD rfl
    generalize H1 = H at hP hS ⊢
    refine topI (y := (z.2.1)) (by rw [hz]) ?_
    refine lv_i2l hx hb dL_restore_6 rfl ?_
    refine va_last (q0 := (wj [acells C u (z.2.2.1), gcells C (uA u) (z.2.2.2.1), gcells C (uB u) G1, hcells C (uH u) (z.2.2.2.2)]).length) (t0 := 4) hx hb hK hP hD hS rfl rfl vp01 dL_restore_7 (fun H2 locs2 hP2 hD2 hS2 => ?_)
    refine lv_goto (tgt := 14) hx hb dL_restore_8 (by decide) ?_
    refine lv_iconst (v := 0) hx hb dL_restore_14 (by decide) ?_
    rw [hc0]
    exact x_ret hx hb hr hP2 hS2 rfl rfl (Nat.le_of_ble_eq_true rfl) (Nat.le_of_ble_eq_true rfl) dL_restore_15 hlocks
