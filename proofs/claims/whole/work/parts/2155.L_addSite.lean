set_option maxRecDepth 20000 in
theorem ggL_addSite_X7_addSite : GoodIn wsL_addSite wsX7_addSite := goodIn_ca (goodIn_ca (goodIn_ca (goodIn_ca (goodIn_ca (goodIn_ca (goodIn_r _ [6, 7, 8, 9, 10, 5, 11, 12, 13, 14, 15, 16, 17, 18, 19, 20, 21, 22, 23, 24, 25, 26, 27, 28, 29, 30, 31, 32, 33, 34, 35, 36, 37, 38, 39, 40, 41, 42, 43, 44, 45, 46, 47, 48, 49, 50, 51, 52, 53, 54, 55, 56, 57, 58, 59, 60, 61, 62, 63, 64, 65, 66, 67, 68, 69, 70, 71, 72, 73, 74, 75, 76, 77, 78, 79, 80, 81, 82, 83, 84, 85, 86, 87, 88, 89, 90, 91, 92, 93, 94, 95, 96, 97, 98, 99, 100, 101, 102, 103, 104, 105, 106, 107, 108, 109, 110, 111, 112, 113, 114, 115, 116, 117, 118, 119, 120, 121, 122, 123, 124, 125, 126, 127, 128, 129, 130, 131, 132, 133, 134, 135, 136, 137, 138, 139, 140, 141, 142, 143, 144, 145, 146, 147, 148, 149, 150, 151, 152, 153, 154, 155, 156, 157, 158, 159, 160, 161, 162, 163, 164, 165, 166, 167, 168, 169, 170, 171, 172, 173, 174, 175, 176, 177, 178, 179, 180, 181, 182, 183, 184, 185, 186, 187, 188, 189, 190, 191, 192, 193, 194, 195, 196, 197, 198, 199, 200, 201, 202, 203, 204, 205, 206, 207, 208, 209, 210, 211, 212, 213, 214, 215, 216, 217, 218, 219, 220, 221, 222, 223, 224, 225, 226, 227, 228, 229, 230, 231, 232, 233, 234, 235, 236, 237, 238, 239, 240, 241, 242, 243, 244, 245, 246, 247, 248, 249, 250, 251, 252, 253, 254, 255, 256, 257, 258] (by decide +kernel) (by decide +kernel)) (goodIn_sub (fun _ h => List.mem_cons_of_mem _ (List.mem_append_left _ (List.mem_append_left _ (List.mem_append_left _ (List.mem_append_left _ (List.mem_append_left _ (List.mem_append_right _ h))))))) (by decide +kernel))) (goodIn_sub (fun _ h => List.mem_cons_of_mem _ (List.mem_append_left _ (List.mem_append_left _ (List.mem_append_left _ (List.mem_append_left _ (List.mem_append_right _ h)))))) (by decide +kernel))) (goodIn_sub (fun _ h => List.mem_cons_of_mem _ (List.mem_append_left _ (List.mem_append_left _ (List.mem_append_left _ (List.mem_append_right _ h))))) (by decide +kernel))) (goodIn_sub (fun _ h => List.mem_cons_of_mem _ (List.mem_append_left _ (List.mem_append_left _ (List.mem_append_right _ h)))) (by decide +kernel))) (goodIn_sub (fun _ h => List.mem_cons_of_mem _ (List.mem_append_left _ (List.mem_append_right _ h))) (by decide +kernel))) (goodIn_sub (fun _ h => List.mem_cons_of_mem _ (List.mem_append_right _ h)) (by decide +kernel))
set_option maxRecDepth 20000 in
theorem gL_addSite_X7_addSite : GoodIn wsL_addSite (wsV RL 17 RX7 yX7_addSite wsX7_addSite) := goodIn_app (goodIn_of _ (by decide +kernel)) ggL_addSite_X7_addSite
theorem dL_addSite_0 : decode cL_addSite 0 = .ok (.aload 4, 2) := by decide +kernel
theorem dL_addSite_2 : decode cL_addSite 2 = .ok (.iconst 0, 1) := by decide +kernel
theorem dL_addSite_3 : decode cL_addSite 3 = .ok (.aload_n 0, 1) := by decide +kernel
theorem dL_addSite_4 : decode cL_addSite 4 = .ok (.iload_n 1, 1) := by decide +kernel
theorem dL_addSite_5 : decode cL_addSite 5 = .ok (.iload_n 2, 1) := by decide +kernel
theorem dL_addSite_6 : decode cL_addSite 6 = .ok (.iload_n 3, 1) := by decide +kernel
theorem dL_addSite_7 : decode cL_addSite 7 = .ok (.invokevirtual 17, 3) := by decide +kernel
theorem dL_addSite_10 : decode cL_addSite 10 = .ok (.i2l, 1) := by decide +kernel
theorem dL_addSite_11 : decode cL_addSite 11 = .ok (.lastore, 1) := by decide +kernel
theorem dL_addSite_12 : decode cL_addSite 12 = .ok (.goto 19, 3) := by decide +kernel
theorem dL_addSite_15 : decode cL_addSite 15 = .ok (.astore 5, 2) := by decide +kernel
theorem dL_addSite_17 : decode cL_addSite 17 = .ok (.iconst 1, 1) := by decide +kernel
theorem dL_addSite_18 : decode cL_addSite 18 = .ok (.ireturn, 1) := by decide +kernel
theorem dL_addSite_19 : decode cL_addSite 19 = .ok (.astore 5, 2) := by decide +kernel
theorem dL_addSite_21 : decode cL_addSite 21 = .ok (.iconst 2, 1) := by decide +kernel
theorem dL_addSite_22 : decode cL_addSite 22 = .ok (.ireturn, 1) := by decide +kernel
theorem dL_addSite_23 : decode cL_addSite 23 = .ok (.astore 5, 2) := by decide +kernel
theorem dL_addSite_25 : decode cL_addSite 25 = .ok (.iconst 3, 1) := by decide +kernel
theorem dL_addSite_26 : decode cL_addSite 26 = .ok (.ireturn, 1) := by decide +kernel
theorem dL_addSite_27 : decode cL_addSite 27 = .ok (.astore 5, 2) := by decide +kernel
theorem dL_addSite_29 : decode cL_addSite 29 = .ok (.iconst 4, 1) := by decide +kernel
theorem dL_addSite_30 : decode cL_addSite 30 = .ok (.ireturn, 1) := by decide +kernel
theorem dL_addSite_31 : decode cL_addSite 31 = .ok (.iconst 0, 1) := by decide +kernel
theorem dL_addSite_32 : decode cL_addSite 32 = .ok (.ireturn, 1) := by decide +kernel
set_option maxHeartbeats 4000000 in
set_option maxRecDepth 100000 in
theorem c_L_addSite (l : Launch) (D : va_G) (C : Nat → ClassId) (ev : Nat → Nat) (u : Nat → Nat) (o : Nat) (Q : QS) (G : GS) (S : HS) (x : Int32) (y : Int32) (w : Int32) (F : Nat → Int64) (sz : Nat) (hG : GSafe G) (hN : hNx S < 8) (hC : hCt S ≤ 8) (hF : FerOK G) (hl9 : l.stackTraces = false) (hm9 : (f_X7_addSite Q G S x y w).1 = 0 ∨ (f_X7_addSite Q G S x y w).1 ∈ [1, 2, 4, 3]) : vx_Met l yL_addSite wsL_addSite ({ frames := 9, cells := 1, slots := 6, locals := 210 } : Room) (hlP [.ref (u 0), .int x, .int y, .int w, .ref o] D C ev (wj [acells C u Q, gcells C (uA u) G, hcells C (uH u) S, lcells C o F]) sz) (xO 0 (some (.int (thr [1, 2, 4, 3] (f_X7_addSite Q G S x y w).1))) D (wj [acells C u Q, gcells C (uA u) ((f_X7_addSite Q G S x y w).2.2.1), hcells C (uH u) ((f_X7_addSite Q G S x y w).2.2.2), lcells C o (oF (f_X7_addSite Q G S x y w).1 (Int32.toInt64 ((f_X7_addSite Q G S x y w).2.1)) F)]) (va_A (wj [acells C u Q, gcells C (uA u) G, hcells C (uH u) S, lcells C o F]) sz)) (xC 0 D (wj [acells C u Q, gcells C (uA u) ((f_X7_addSite Q G S x y w).2.2.1), hcells C (uH u) ((f_X7_addSite Q G S x y w).2.2.2), lcells C o (oF (f_X7_addSite Q G S x y w).1 (Int32.toInt64 ((f_X7_addSite Q G S x y w).2.1)) F)]) (va_A (wj [acells C u Q, gcells C (uA u) G, hcells C (uH u) S, lcells C o F]) sz)) 1 6 (va_A (wj [acells C u Q, gcells C (uA u) G, hcells C (uH u) S, lcells C o F]) sz) := by
  refine vx_ofWH (cc := cL_addSite) (maxL := 6) (ret := (some .int)) (by decide) rfl ?_
  intro p e s m args below meth c s₁ B hml hv
  obtain ⟨⟨rfl, hsz, hP, hK, hD0, hE, hR, hX, hT9, hV9⟩, hN9, hC9⟩ := hv
  have hx := B.exec
  have hb := B.bytes
  have hr := B.returns
  have hts := atoms_spec (ws := wsL_addSite) B.pre
  have htab := vx_table (x := yL_addSite) B (hts _ List.mem_cons_self)
  have hown : s.vm.findClass RL = some m.cls := findClass_of_methodNamed B.named
  have hlocks := B.notSynchronized
  subst hsz
  have hD := hD0.self (sz := s.heap.size)
  generalize hAe : va_A (wj [acells C u Q, gcells C (uA u) G, hcells C (uH u) S, lcells C o F]) s.heap.size = A at hD hX hV9 ⊢
  have hA : ∀ q : Nat, s.heap.size ≤ q → A q := fun q h => by rw [← hAe]; exact Or.inr h
  have hS0 : va_S A s.heap s.heap [] := va_S.rf
  have hP : va_P D vwCl (wj [acells C u Q, gcells C (uA u) G, hcells C (uH u) S, lcells C o F]) s.heap := hP
  have hS := hS0
  have hl := lv_entry ([.ref (u 0), .int x, .int y, .int w, .ref o]) (n := 6) (Nat.le_of_ble_eq_true rfl)
  rw [lg_entry_eq]
  generalize (lg_sl ([.ref (u 0), .int x, .int y, .int w, .ref o]) ++ List.replicate (6 - (lg_sl ([.ref (u 0), .int x, .int y, .int w, .ref o])).length) Slot.unset).toArray = ls at hl ⊢
  have hl : lv_has ls 6 [(0, .ref (u 0)), (1, .int x), (2, .int y), (3, .int w), (4, .ref o)] := hl
  obtain ⟨z, hz⟩ : ∃ z, z = f_X7_addSite Q G S x y w := ⟨_, rfl⟩
  rw [← hz] at hm9 ⊢
  refine lv_aload hx hb dL_addSite_0 (lv_at hl 4 rfl) ?_
  refine lv_iconst (v := 0) hx hb dL_addSite_2 (by decide) ?_
  refine lv_aload_n hx hb dL_addSite_3 rfl (lv_at hl 0 rfl) ?_
  refine lv_iload_n hx hb dL_addSite_4 rfl (lv_at hl 1 rfl) ?_
  refine lv_iload_n hx hb dL_addSite_5 rfl (lv_at hl 2 rfl) ?_
  refine lv_iload_n hx hb dL_addSite_6 rfl (lv_at hl 3 rfl) ?_
  have hPc : va_P D vwCl (wj [acells C u Q, gcells C (uA u) G, hcells C (uH u) S]) _ := wj_P (cs := [acells C u Q, gcells C (uA u) G, hcells C (uH u) S]) hP [0, 1, 2] rfl
  have hDc : va_D A (wj [acells C u Q, gcells C (uA u) G, hcells C (uH u) S]) := wj_D (cs := [acells C u Q, gcells C (uA u) G, hcells C (uH u) S]) hD [0, 1, 2] (by decide) rfl
  have hFc : ∀ q, va_A (wj [acells C u Q, gcells C (uA u) G, hcells C (uH u) S]) (Array.size _) q → A q := wj_F (cs := [acells C u Q, gcells C (uA u) G, hcells C (uH u) S]) hD hS hA [0, 1, 2] rfl
  refine callX (vx_runV (As := [.int x, .int y, .int w]) (rest := [.int 0, .ref o]) ⟨hx, hb, hml, hown, hts⟩ (c_X7_addSite l D C ev u Q G S x y w _ hG hN hC hF hl9) (cwV 3 hts gL_addSite_X7_addSite rfl rfl rfl (by decide +kernel) ⟨Nat.le_of_ble_eq_true rfl, Nat.le_of_ble_eq_true rfl⟩) (xP_v hPc hK hE hDc hR hX hT9 hV9 hS hFc (va_recv hK hPc (ci := 8) (q0 := 0) rfl rfl)) rfl rfl hl.1 rfl (lv_room (Nat.le_of_ble_eq_true rfl)) dL_addSite_7 ⟨Nat.le_of_ble_eq_true rfl, Nat.le_of_ble_eq_true rfl⟩) hS hFc (fun hc0 hc7 ce q9 H1 locs hPn hk hS hcell hcv hcl => ?_) (fun hc0 H1 locs hPn hk hS => ?_)
  · have hc0 : 0 < z.1 := by rw [hz]; exact hc0
    have hcl : s.vm.findClass (xN z.1) = some ce.cls := by rw [hz]; exact hcl
    have hPn : va_P D vwCl (wj [acells C u Q, gcells C (uA u) (z.2.2.1), hcells C (uH u) (z.2.2.2)]) H1 := by first | (rw [hz]; exact hPn) | exact hPn
    have hP : va_P D vwCl (wj [acells C u Q, gcells C (uA u) (z.2.2.1), hcells C (uH u) (z.2.2.2), lcells C o F]) H1 := jb (bs := [acells C u Q, gcells C (uA u) G, hcells C (uH u) S, lcells C o F]) (cs := [acells C u Q, gcells C (uA u) G, hcells C (uH u) S]) (rs := [lcells C o F]) (cs' := [acells C u Q, gcells C (uA u) (z.2.2.1), hcells C (uH u) (z.2.2.2)]) (bs' := [acells C u Q, gcells C (uA u) (z.2.2.1), hcells C (uH u) (z.2.2.2), lcells C o F]) hP hD (bsP 4 [0, 1, 2, 3] rfl (by decide) rfl) (bsP 4 [0, 1, 2, 3] rfl (by decide) rfl) hk hPn
    have hmem := hm9.resolve_left (Nat.ne_of_gt hc0)
    have hmem : z.1 = 1 ∨ z.1 = 2 ∨ z.1 = 4 ∨ z.1 = 3 := by simpa only [List.mem_cons, List.not_mem_nil, or_false] using hmem
    rcases hmem with hmem | hmem | hmem | hmem
    · rw [hmem] at hcl ⊢
      refine vx_catch (own := RL) (name := xN 1) (E := xN 1) hown [] _ _ (htab.trans rfl) (fun z h9 => absurd h9 List.not_mem_nil) rfl (by decide) (va_Nw.use rfl (hC9 1 (by decide) (by decide))) (va_Nw.use rfl (hT9.2.2 0 (by decide))) hcell hcv hcl ?_
      refine lv_astore hx hb dL_addSite_15 hl (Nat.le_of_ble_eq_true rfl) rfl (fun ls' hl' => ?_)
      refine lv_iconst (v := 1) hx hb dL_addSite_17 (by decide) ?_
      exact x_ret hx hb hr hP hS rfl (by decide +kernel) (Nat.le_of_ble_eq_true rfl) (Nat.le_of_ble_eq_true rfl) dL_addSite_18 hlocks
    · rw [hmem] at hcl ⊢
      refine vx_catch (own := RL) (name := xN 2) (E := xN 2) hown [_] _ _ (htab.trans rfl) (pass1 (Or.inr ⟨by decide, xN 1, va_Nw.use rfl (hC9 1 (by decide) (by decide)), hN9 2 1 (by decide) (by decide) (by decide) (by decide) (by decide)⟩)) rfl (by decide) (va_Nw.use rfl (hC9 2 (by decide) (by decide))) (va_Nw.use rfl (hT9.2.2 1 (by decide))) hcell hcv hcl ?_
      refine lv_astore hx hb dL_addSite_19 hl (Nat.le_of_ble_eq_true rfl) rfl (fun ls' hl' => ?_)
      refine lv_iconst (v := 2) hx hb dL_addSite_21 (by decide) ?_
      exact x_ret hx hb hr hP hS rfl (by decide +kernel) (Nat.le_of_ble_eq_true rfl) (Nat.le_of_ble_eq_true rfl) dL_addSite_22 hlocks
    · rw [hmem] at hcl ⊢
      refine vx_catch (own := RL) (name := xN 4) (E := xN 4) hown [_, _] _ _ (htab.trans rfl) (pass2 (Or.inr ⟨by decide, xN 1, va_Nw.use rfl (hC9 1 (by decide) (by decide)), hN9 4 1 (by decide) (by decide) (by decide) (by decide) (by decide)⟩) (Or.inr ⟨by decide, xN 2, va_Nw.use rfl (hC9 2 (by decide) (by decide)), hN9 4 2 (by decide) (by decide) (by decide) (by decide) (by decide)⟩)) rfl (by decide) (va_Nw.use rfl (hC9 4 (by decide) (by decide))) (va_Nw.use rfl (hT9.2.2 3 (by decide))) hcell hcv hcl ?_
      refine lv_astore hx hb dL_addSite_23 hl (Nat.le_of_ble_eq_true rfl) rfl (fun ls' hl' => ?_)
      refine lv_iconst (v := 3) hx hb dL_addSite_25 (by decide) ?_
      exact x_ret hx hb hr hP hS rfl (by decide +kernel) (Nat.le_of_ble_eq_true rfl) (Nat.le_of_ble_eq_true rfl) dL_addSite_26 hlocks
    · rw [hmem] at hcl ⊢
      refine vx_catch (own := RL) (name := xN 3) (E := xN 3) hown [_, _, _] _ _ (htab.trans rfl) (pass3 (Or.inr ⟨by decide, xN 1, va_Nw.use rfl (hC9 1 (by decide) (by decide)), hN9 3 1 (by decide) (by decide) (by decide) (by decide) (by decide)⟩) (Or.inr ⟨by decide, xN 2, va_Nw.use rfl (hC9 2 (by decide) (by decide)), hN9 3 2 (by decide) (by decide) (by decide) (by decide) (by decide)⟩) (Or.inr ⟨by decide, xN 4, va_Nw.use rfl (hC9 4 (by decide) (by decide)), hN9 3 4 (by decide) (by decide) (by decide) (by decide) (by decide)⟩)) rfl (by decide) (va_Nw.use rfl (hC9 3 (by decide) (by decide))) (va_Nw.use rfl (hT9.2.2 2 (by decide))) hcell hcv hcl ?_
      refine lv_astore hx hb dL_addSite_27 hl (Nat.le_of_ble_eq_true rfl) rfl (fun ls' hl' => ?_)
      refine lv_iconst (v := 4) hx hb dL_addSite_29 (by decide) ?_
      exact x_ret hx hb hr hP hS rfl (by decide +kernel) (Nat.le_of_ble_eq_true rfl) (Nat.le_of_ble_eq_true rfl) dL_addSite_30 hlocks
  · have hc0 : z.1 = 0 := by rw [hz]; exact hc0
    have hPn : va_P D vwCl (wj [acells C u Q, gcells C (uA u) (z.2.2.1), hcells C (uH u) (z.2.2.2)]) H1 := by first | (rw [hz]; exact hPn) | exact hPn
    have hP : va_P D vwCl (wj [acells C u Q, gcells C (uA u) (z.2.2.1), hcells C (uH u) (z.2.2.2), lcells C o F]) H1 := jb (bs := [acells C u Q, gcells C (uA u) G, hcells C (uH u) S, lcells C o F]) (cs := [acells C u Q, gcells C (uA u) G, hcells C (uH u) S]) (rs := [lcells C o F]) (cs' := [acells C u Q, gcells C (uA u) (z.2.2.1), hcells C (uH u) (z.2.2.2)]) (bs' := [acells C u Q, gcells C (uA u) (z.2.2.1), hcells C (uH u) (z.2.2.2), lcells C o F]) hP hD (bsP 4 [0, 1, 2, 3] rfl (by decide) rfl) (bsP 4 [0, 1, 2, 3] rfl (by decide) rfl) hk hPn
    have hD : va_D A (wj [acells C u Q, gcells C (uA u) (z.2.2.1), hcells C (uH u) (z.2.2.2), lcells C o F]) := adr_D hD rfl
    generalize H1 = H at hP hS ⊢
    refine topI (y := (z.2.1)) (by rw [hz]) ?_
    refine lv_i2l hx hb dL_addSite_10 rfl ?_
    refine va_last (q0 := (wj [acells C u Q, gcells C (uA u) (z.2.2.1), hcells C (uH u) (z.2.2.2)]).length) (t0 := 4) hx hb hK hP hD hS rfl rfl vp01 dL_addSite_11 (fun H2 locs2 hP2 hD2 hS2 => ?_)
    refine lv_goto (tgt := 31) hx hb dL_addSite_12 (by decide) ?_
    refine lv_iconst (v := 0) hx hb dL_addSite_31 (by decide) ?_
    rw [hc0]
    exact x_ret hx hb hr hP2 hS2 rfl rfl (Nat.le_of_ble_eq_true rfl) (Nat.le_of_ble_eq_true rfl) dL_addSite_32 hlocks
