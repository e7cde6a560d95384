set_option maxRecDepth 20000 in
theorem ggL_renderSite_X7_renderSite : GoodIn wsL_renderSite wsX7_renderSite := goodIn_ca (goodIn_ca (goodIn_r _ [6, 7, 8, 9, 10, 11, 5, 12, 13, 14, 15, 16, 17, 18, 19, 20, 21, 22, 23, 24, 25, 26, 27, 28, 29, 30, 31, 32, 33, 34, 35, 36, 37, 38, 39, 40, 41, 42, 43, 44, 45, 46, 47, 48, 49, 50, 51, 52, 53, 54, 55, 56, 57, 58, 59, 60, 61, 62, 63, 64, 65, 66, 67, 68, 69, 70, 71, 72, 73, 74, 75, 76, 77, 78, 79, 80, 81, 82, 83, 84, 85, 86, 87, 88, 89, 90, 91, 92, 93, 94, 95, 96, 97, 98, 99, 100, 101, 102, 103, 104, 105, 106, 107, 108, 109, 110, 111, 112, 113, 114, 115, 116, 117, 118, 119, 120, 121, 122, 123, 124, 125, 126, 127, 128, 129, 130, 131, 132, 133, 134, 135, 136, 137, 138, 139, 140, 141, 142, 143, 144, 145, 146, 147, 148, 149, 150, 151, 152, 153, 154, 155, 156, 157, 158, 159, 160, 161, 162, 163, 164, 165, 166, 167, 168, 169, 170, 171, 172, 173, 174, 175, 176, 177, 178, 179, 180, 181, 182, 183, 184, 185, 186, 187, 188, 189, 190, 191, 192, 193, 194, 195, 196, 197, 198, 199, 200, 201, 202, 203, 204, 205, 206, 207, 208, 209, 210, 211, 212, 213, 214, 215, 216, 217, 218, 219, 220, 221, 222, 223, 224, 225, 226, 227, 228, 229, 230, 231, 232, 233, 234, 235, 236, 237, 238, 239, 240, 241, 242, 243, 244, 245, 246, 247, 248, 249, 250, 251, 252, 253, 254, 255, 256, 257, 258, 259, 260, 261, 262, 263, 264, 265, 266, 267, 268, 269, 270, 271, 272, 273, 274, 275, 276, 277, 278, 279, 280, 281, 282, 283, 284, 285, 286, 287, 288] (by decide +kernel) (by decide +kernel)) (goodIn_sub (fun _ h => List.mem_cons_of_mem _ (List.mem_append_right _ h)) (by decide +kernel))) (goodIn_sub (fun _ h => List.mem_cons_of_mem _ (List.mem_append_left _ (List.mem_append_right _ h))) (by decide +kernel))
set_option maxRecDepth 20000 in
theorem gL_renderSite_X7_renderSite : GoodIn wsL_renderSite (wsV RL 131 RX7 yX7_renderSite wsX7_renderSite) := goodIn_app (goodIn_of _ (by decide +kernel)) ggL_renderSite_X7_renderSite
theorem dL_renderSite_0 : decode cL_renderSite 0 = .ok (.aload_n 2, 1) := by decide +kernel
theorem dL_renderSite_1 : decode cL_renderSite 1 = .ok (.iconst 0, 1) := by decide +kernel
theorem dL_renderSite_2 : decode cL_renderSite 2 = .ok (.aload_n 0, 1) := by decide +kernel
theorem dL_renderSite_3 : decode cL_renderSite 3 = .ok (.iload_n 1, 1) := by decide +kernel
theorem dL_renderSite_4 : decode cL_renderSite 4 = .ok (.invokevirtual 131, 3) := by decide +kernel
theorem dL_renderSite_7 : decode cL_renderSite 7 = .ok (.i2l, 1) := by decide +kernel
theorem dL_renderSite_8 : decode cL_renderSite 8 = .ok (.lastore, 1) := by decide +kernel
theorem dL_renderSite_9 : decode cL_renderSite 9 = .ok (.goto 6, 3) := by decide +kernel
theorem dL_renderSite_12 : decode cL_renderSite 12 = .ok (.astore_n 3, 1) := by decide +kernel
theorem dL_renderSite_13 : decode cL_renderSite 13 = .ok (.iconst 1, 1) := by decide +kernel
theorem dL_renderSite_14 : decode cL_renderSite 14 = .ok (.ireturn, 1) := by decide +kernel
theorem dL_renderSite_15 : decode cL_renderSite 15 = .ok (.iconst 0, 1) := by decide +kernel
theorem dL_renderSite_16 : decode cL_renderSite 16 = .ok (.ireturn, 1) := by decide +kernel
set_option maxHeartbeats 4000000 in
set_option maxRecDepth 100000 in
theorem c_L_renderSite (l : Launch) (D : va_G) (C : Nat → ClassId) (ev : Nat → Nat) (u : Nat → Nat) (o : Nat) (Q : QS) (G : GS) (T : TX) (O : OS) (x : Int32) (hG : GSafe G) (hd : ∀ k, k < gS G → DOK G k) (hO : OT T O) (F : Nat → Int64) (sz : Nat) (hl9 : l.stackTraces = false) (hm9 : (f_X7_renderSite Q G T x).1 = 0 ∨ (f_X7_renderSite Q G T x).1 ∈ [1]) : vx_Met l yL_renderSite wsL_renderSite ({ frames := 9, cells := 33, slots := 1094, locals := 228 } : Room) (hloP [.ref (u 0), .int x, .ref o] D C ev (wj [acells C u Q, gcells C (uA u) G, ocells C (uO u) O, lcells C o F]) sz) (xE 0 (fun _ : OS => some (.int (thr [1] (f_X7_renderSite Q G T x).1))) D (OT (f_X7_renderSite Q G T x).2) (fun O1 => wj [acells C u Q, gcells C (uA u) G, ocells C (uO u) O1, lcells C o (oF (f_X7_renderSite Q G T x).1 (Int32.toInt64 (nI (f_X7_renderSite Q G T x).2.2)) F)]) (va_A (wj [acells C u Q, gcells C (uA u) G, ocells C (uO u) O, lcells C o F]) sz)) (xC 0 D (wj [acells C u Q, gcells C (uA u) G, ocells C (uO u) O, lcells C o F]) (va_A (wj [acells C u Q, gcells C (uA u) G, ocells C (uO u) O, lcells C o F]) sz)) 33 1094 (va_A (wj [acells C u Q, gcells C (uA u) G, ocells C (uO u) O, lcells C o F]) sz) := by
  refine vx_ofWH (cc := cL_renderSite) (maxL := 4) (ret := (some .int)) (by decide) rfl ?_
  intro p e s m args below meth c s₁ B hml hv
  obtain ⟨⟨⟨rfl, hsz, hP, hK, hD0, hE, hR, hX, hT9, hV9⟩, hV0⟩, hN9, hC9⟩ := hv
  have hx := B.exec
  have hb := B.bytes
  have hr := B.returns
  have hts := atoms_spec (ws := wsL_renderSite) B.pre
  have htab := vx_table (x := yL_renderSite) B (hts _ List.mem_cons_self)
  have hown : s.vm.findClass RL = some m.cls := findClass_of_methodNamed B.named
  have hlocks := B.notSynchronized
  subst hsz
  have hD := hD0.self (sz := s.heap.size)
  generalize hAe : va_A (wj [acells C u Q, gcells C (uA u) G, ocells C (uO u) O, lcells C o F]) s.heap.size = A at hD hX hV9 hV0 ⊢
  have hA : ∀ q : Nat, s.heap.size ≤ q → A q := fun q h => by rw [← hAe]; exact Or.inr h
  have hS0 : va_S A s.heap s.heap [] := va_S.rf
  have hP : va_P D vwCl (wj [acells C u Q, gcells C (uA u) G, ocells C (uO u) O, lcells C o F]) s.heap := hP
  have hS := hS0
  have hl := lv_entry ([.ref (u 0), .int x, .ref o]) (n := 4) (Nat.le_of_ble_eq_true rfl)
  rw [lg_entry_eq]
  generalize (lg_sl ([.ref (u 0), .int x, .ref o]) ++ List.replicate (4 - (lg_sl ([.ref (u 0), .int x, .ref o])).length) Slot.unset).toArray = ls at hl ⊢
  have hl : lv_has ls 4 [(0, .ref (u 0)), (1, .int x), (2, .ref o)] := hl
  have hrx := render_x (Q := Q) (G := G) (T := T) (x := x)
  obtain ⟨z, hz⟩ : ∃ z, z = f_X7_renderSite Q G T x := ⟨_, rfl⟩
  rw [← hz] at hm9 hrx ⊢
  refine lv_aload_n hx hb dL_renderSite_0 rfl (lv_at hl 2 rfl) ?_
  refine lv_iconst (v := 0) hx hb dL_renderSite_1 (by decide) ?_
  refine lv_aload_n hx hb dL_renderSite_2 rfl (lv_at hl 0 rfl) ?_
  refine lv_iload_n hx hb dL_renderSite_3 rfl (lv_at hl 1 rfl) ?_
  have hPc : va_P D vwCl (wj [acells C u Q, gcells C (uA u) G, ocells C (uO u) O]) _ := wj_P (cs := [acells C u Q, gcells C (uA u) G, ocells C (uO u) O]) hP [0, 1, 2] rfl
  have hDc : va_D A (wj [acells C u Q, gcells C (uA u) G, ocells C (uO u) O]) := wj_D (cs := [acells C u Q, gcells C (uA u) G, ocells C (uO u) O]) hD [0, 1, 2] (by decide) rfl
  have hFc : ∀ q, va_A (wj [acells C u Q, gcells C (uA u) G, ocells C (uO u) O]) (Array.size _) q → A q := wj_F (cs := [acells C u Q, gcells C (uA u) G, ocells C (uO u) O]) hD hS hA [0, 1, 2] rfl
  refine callXE (vx_runV (As := [.int x]) (rest := [.int 0, .ref o]) ⟨hx, hb, hml, hown, hts⟩ (c_X7_renderSite l D C ev u Q G T O x hG hd hO _ hl9) (cwV 1 hts gL_renderSite_X7_renderSite rfl rfl rfl (by decide +kernel) ⟨Nat.le_of_ble_eq_true rfl, Nat.le_of_ble_eq_true rfl⟩) (xoP_v hPc hK hE hDc hR hX hT9 hV9 hV0 hS hFc (va_recv hK hPc (ci := 8) (q0 := 0) rfl rfl)) rfl rfl hl.1 rfl (lv_room (Nat.le_of_ble_eq_true rfl)) dL_renderSite_4 ⟨Nat.le_of_ble_eq_true rfl, Nat.le_of_ble_eq_true rfl⟩) hS hFc (fun hc0 hc7 ce q9 H1 locs hPn hk hS hcell hcv hcl => ?_) (fun hc0 O1 H1 locs hF1 hPn hDn hk hS => ?_)
  · have hc0 : 0 < z.1 := by rw [hz]; exact hc0
    have hcl : s.vm.findClass (xN z.1) = some ce.cls := by rw [hz]; exact hcl
    have hP : va_P D vwCl (wj [acells C u Q, gcells C (uA u) G, ocells C (uO u) O, lcells C o F]) H1 := jb (bs := [acells C u Q, gcells C (uA u) G, ocells C (uO u) O, lcells C o F]) (cs := [acells C u Q, gcells C (uA u) G, ocells C (uO u) O]) (rs := [lcells C o F]) (cs' := [acells C u Q, gcells C (uA u) G, ocells C (uO u) O]) (bs' := [acells C u Q, gcells C (uA u) G, ocells C (uO u) O, lcells C o F]) hP hD (bsP 4 [0, 1, 2, 3] rfl (by decide) rfl) (bsP 4 [0, 1, 2, 3] rfl (by decide) rfl) hk hPn
    have hOz : OT z.2 O := by rw [hrx (Nat.ne_of_gt hc0)]; exact hO
    have hmem := hm9.resolve_left (Nat.ne_of_gt hc0)
    have hmem : z.1 = 1 := List.mem_singleton.mp hmem
    rw [hmem] at hcl ⊢
    refine vx_catch (own := RL) (name := xN 1) (E := xN 1) hown [] _ _ (htab.trans rfl) (fun z h9 => absurd h9 List.not_mem_nil) rfl (by decide) (va_Nw.use rfl (hC9 1 (by decide) (by decide))) (va_Nw.use rfl (hT9.2.2 0 (by decide))) hcell hcv hcl ?_
    refine lv_astore_n (i := 3) hx hb dL_renderSite_12 rfl hl (Nat.le_of_ble_eq_true rfl) rfl (fun ls' hl' => ?_)
    refine lv_iconst (v := 1) hx hb dL_renderSite_13 (by decide) ?_
    exact x_retE O (by show some (Value.int (thr [1] 1)) = some (.int 1); exact congrArg (fun q => some (Value.int q)) (by decide +kernel)) hx hb hr rfl hOz hP hD hS (Nat.le_of_ble_eq_true rfl) (Nat.le_of_ble_eq_true rfl) dL_renderSite_14 hlocks
  · have hc0 : z.1 = 0 := by rw [hz]; exact hc0
    have hF1 : OT z.2 O1 := by rw [hz]; exact hF1
    have hPn : va_P D vwCl (wj [acells C u Q, gcells C (uA u) G, ocells C (uO u) O1]) H1 := hPn
    have hD1 : va_D A (wj [acells C u Q, gcells C (uA u) G, ocells C (uO u) O1, lcells C o F]) := jbD (bs := [acells C u Q, gcells C (uA u) G, ocells C (uO u) O, lcells C o F]) (cs := [acells C u Q, gcells C (uA u) G, ocells C (uO u) O]) (rs := [lcells C o F]) (cs' := [acells C u Q, gcells C (uA u) G, ocells C (uO u) O1]) (bs' := [acells C u Q, gcells C (uA u) G, ocells C (uO u) O1, lcells C o F]) hP hD (bsP 4 [0, 1, 2, 3] rfl (by decide) rfl) (bsP 4 [0, 1, 2, 3] rfl (by decide) rfl) hFc hDn
    have hP : va_P D vwCl (wj [acells C u Q, gcells C (uA u) G, ocells C (uO u) O1, lcells C o F]) H1 := jb (bs := [acells C u Q, gcells C (uA u) G, ocells C (uO u) O, lcells C o F]) (cs := [acells C u Q, gcells C (uA u) G, ocells C (uO u) O]) (rs := [lcells C o F]) (cs' := [acells C u Q, gcells C (uA u) G, ocells C (uO u) O1]) (bs' := [acells C u Q, gcells C (uA u) G, ocells C (uO u) O1, lcells C o F]) hP hD (bsP 4 [0, 1, 2, 3] rfl (by decide) rfl) (bsP 4 [0, 1, 2, 3] rfl (by decide) rfl) hk hPn
    have hD := hD1
    generalize H1 = H at hP hS ⊢
    refine topI (y := nI z.2.2) (by rw [hz]) ?_
    refine lv_i2l hx hb dL_renderSite_7 rfl ?_
    refine va_last (q0 := (wj [acells C u Q, gcells C (uA u) G, ocells C (uO u) O1]).length) (t0 := 4) hx hb hK hP hD hS rfl rfl vp01 dL_renderSite_8 (fun H2 locs2 hP2 hD2 hS2 => ?_)
    refine lv_goto (tgt := 15) hx hb dL_renderSite_9 (by decide) ?_
    refine lv_iconst (v := 0) hx hb dL_renderSite_15 (by decide) ?_
    rw [hc0]
    exact x_retE O1 rfl hx hb hr rfl hF1 hP2 hD2 hS2 (Nat.le_of_ble_eq_true rfl) (Nat.le_of_ble_eq_true rfl) dL_renderSite_16 hlocks
