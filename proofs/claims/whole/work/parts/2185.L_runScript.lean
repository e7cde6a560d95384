set_option maxRecDepth 20000 in
theorem ggL_runScript_X7_runScript : GoodIn wsL_runScript wsX7_runScript := goodIn_ca (goodIn_ca (goodIn_ca (goodIn_r _ [6, 7, 8, 9, 10, 11, 12, 13, 14, 15, 16, 17, 18, 19, 20, 21, 22, 23, 24, 25, 26, 27, 28, 29, 30, 31, 32, 33, 34, 35, 36, 37, 38, 39, 40, 41, 42, 43, 44, 45, 46, 47, 48, 49, 50, 51, 52, 53, 54, 55, 56, 57, 58, 59, 60, 61, 62, 63, 64, 65, 66, 67, 68, 69, 70, 71, 72, 73, 74, 75, 76, 77, 78, 79, 80, 81, 82, 83, 84, 85, 86, 87, 88, 89, 90, 91, 92, 93, 94, 95, 96, 97, 98, 99, 100, 101, 102, 103, 104, 105, 106, 107, 108, 109, 110, 111, 112, 113, 114, 115, 116, 117, 118, 119, 120, 121, 122, 123, 124, 125, 126, 127, 128, 129, 130, 131, 132, 133, 134, 135, 136, 137, 138, 139, 140, 141, 142, 143, 144, 145, 146, 147, 148, 149, 150, 151, 152, 153, 154, 155, 156, 157, 158, 159, 160, 161, 162, 163, 164, 165, 166, 167, 168, 169, 170, 171, 172, 173, 174, 175, 176, 177, 178, 179, 180, 181, 182, 183, 184, 185, 186, 187, 188, 189, 190, 191, 192, 193, 194, 195, 196, 197, 198, 199, 200, 201, 202, 203, 204, 205, 206, 207, 208, 209, 210, 211, 212, 213, 214, 215, 216, 217, 218, 219, 220, 221, 222, 223, 224, 225, 226, 227, 228, 229, 230, 231, 232, 233, 234, 235, 236, 237, 238, 239, 240, 241, 242, 243, 244, 245, 246, 247, 248, 249, 250, 251, 252, 253, 254, 255, 256, 257, 258, 259, 260, 261, 262, 263, 264, 265, 266, 267, 268, 269, 270, 271, 272, 273, 274, 275, 276, 277, 278, 279, 280, 281, 282, 283, 284, 285, 286, 287, 288, 289, 290, 291, 292, 293, 294, 295, 296, 297, 298, 299, 300, 301, 302, 303, 304, 305, 306, 307, 308, 309, 310, 311, 312, 313, 314, 315, 316, 317, 318, 319, 320, 321, 322, 323, 324, 325, 326, 327, 328, 329, 330, 331, 332, 333, 334, 335, 336, 337, 338, 339, 340, 341, 342, 343, 344, 345, 346, 347] (by decide +kernel) (by decide +kernel)) (goodIn_sub (fun _ h => List.mem_cons_of_mem _ (List.mem_append_left _ (List.mem_append_right _ h))) (by decide +kernel))) (goodIn_sub (fun _ h => List.mem_cons_of_mem _ (List.mem_append_right _ h)) (by decide +kernel))) (goodIn_sub (fun _ h => List.mem_cons_of_mem _ (List.mem_append_left _ (List.mem_append_left _ (List.mem_append_right _ h)))) (by decide +kernel))
set_option maxRecDepth 20000 in
theorem gL_runScript_X7_runScript : GoodIn wsL_runScript (wsV RL 142 RX7 yX7_runScript wsX7_runScript) := goodIn_app (goodIn_of _ (by decide +kernel)) ggL_runScript_X7_runScript
theorem dL_runScript_0 : decode cL_runScript 0 = .ok (.aload_n 1, 1) := by decide +kernel
theorem dL_runScript_1 : decode cL_runScript 1 = .ok (.iconst 0, 1) := by decide +kernel
theorem dL_runScript_2 : decode cL_runScript 2 = .ok (.aload_n 0, 1) := by decide +kernel
theorem dL_runScript_3 : decode cL_runScript 3 = .ok (.invokevirtual 142, 3) := by decide +kernel
theorem dL_runScript_6 : decode cL_runScript 6 = .ok (.i2l, 1) := by decide +kernel
theorem dL_runScript_7 : decode cL_runScript 7 = .ok (.lastore, 1) := by decide +kernel
theorem dL_runScript_8 : decode cL_runScript 8 = .ok (.goto 9, 3) := by decide +kernel
theorem dL_runScript_11 : decode cL_runScript 11 = .ok (.astore_n 2, 1) := by decide +kernel
theorem dL_runScript_12 : decode cL_runScript 12 = .ok (.iconst 1, 1) := by decide +kernel
theorem dL_runScript_13 : decode cL_runScript 13 = .ok (.ireturn, 1) := by decide +kernel
theorem dL_runScript_14 : decode cL_runScript 14 = .ok (.astore_n 2, 1) := by decide +kernel
theorem dL_runScript_15 : decode cL_runScript 15 = .ok (.iconst 2, 1) := by decide +kernel
theorem dL_runScript_16 : decode cL_runScript 16 = .ok (.ireturn, 1) := by decide +kernel
theorem dL_runScript_17 : decode cL_runScript 17 = .ok (.iconst 0, 1) := by decide +kernel
theorem dL_runScript_18 : decode cL_runScript 18 = .ok (.ireturn, 1) := by decide +kernel
set_option maxHeartbeats 4000000 in
set_option maxRecDepth 100000 in
theorem c_L_runScript (l : Launch) (D : va_G) (C : Nat → ClassId) (ev : Nat → Nat) (u : Nat → Nat) (o : Nat) (Q : QS) (G : GS) (S : HS) (Sc : SS) (G2 : GS) (F : Nat → Int64) (sz : Nat) (hG : GSafe G) (hN : hNx S < 8) (hC : hCt S ≤ 8) (hG2 : GSafe G2) (hF : FerOK G) (hSz : sSiz Sc ≤ 60) (hVb : sVb Sc < 9) (hl9 : l.stackTraces = false) (hm9 : (f_X7_runScript Q G S Sc G2).1 = 0 ∨ (f_X7_runScript Q G S Sc G2).1 ∈ [2, 3]) : vx_Met l yL_runScript wsL_runScript ({ frames := 9, cells := 1, slots := 6, locals := 224 } : Room) (hlP [.ref (u 0), .ref o] D C ev (wj [acells C u Q, gcells C (uA u) G, hcells C (uH u) S, scells C ev (uS u) Sc, gcells C (uC u) G2, lcells C o F]) sz) (xO 0 (some (.int (thr [2, 3] (f_X7_runScript Q G S Sc G2).1))) D (wj [acells C u ((f_X7_runScript Q G S Sc G2).2.2.1), gcells C (uA u) ((f_X7_runScript Q G S Sc G2).2.2.2.1), hcells C (uH u) ((f_X7_runScript Q G S Sc G2).2.2.2.2.1), scells C ev (uS u) ((f_X7_runScript Q G S Sc G2).2.2.2.2.2.1), gcells C (uC u) ((f_X7_runScript Q G S Sc G2).2.2.2.2.2.2), lcells C o (oF (f_X7_runScript Q G S Sc G2).1 (Int32.toInt64 ((f_X7_runScript Q G S Sc G2).2.1)) F)]) (va_A (wj [acells C u Q, gcells C (uA u) G, hcells C (uH u) S, scells C ev (uS u) Sc, gcells C (uC u) G2, lcells C o F]) sz)) (xC 0 D (wj [acells C u ((f_X7_runScript Q G S Sc G2).2.2.1), gcells C (uA u) ((f_X7_runScript Q G S Sc G2).2.2.2.1), hcells C (uH u) ((f_X7_runScript Q G S Sc G2).2.2.2.2.1), scells C ev (uS u) ((f_X7_runScript Q G S Sc G2).2.2.2.2.2.1), gcells C (uC u) ((f_X7_runScript Q G S Sc G2).2.2.2.2.2.2), lcells C o (oF (f_X7_runScript Q G S Sc G2).1 (Int32.toInt64 ((f_X7_runScript Q G S Sc G2).2.1)) F)]) (va_A (wj [acells C u Q, gcells C (uA u) G, hcells C (uH u) S, scells C ev (uS u) Sc, gcells C (uC u) G2, lcells C o F]) sz)) 1 6 (va_A (wj [acells C u Q, gcells C (uA u) G, hcells C (uH u) S, scells C ev (uS u) Sc, gcells C (uC u) G2, lcells C o F]) sz) := by
  refine vx_ofWH (cc := cL_runScript) (maxL := 3) (ret := (some .int)) (by decide) rfl ?_
  intro p e s m args below meth c s₁ B hml hv
  obtain ⟨⟨rfl, hsz, hP, hK, hD0, hE, hR, hX, hT9, hV9⟩, hN9, hC9⟩ := hv
  have hx := B.exec
  have hb := B.bytes
  have hr := B.returns
  have hts := atoms_spec (ws := wsL_runScript) B.pre
  have htab := vx_table (x := yL_runScript) B (hts _ List.mem_cons_self)
  have hown : s.vm.findClass RL = some m.cls := findClass_of_methodNamed B.named
  have hlocks := B.notSynchronized
  subst hsz
  have hD := hD0.self (sz := s.heap.size)
  generalize hAe : va_A (wj [acells C u Q, gcells C (uA u) G, hcells C (uH u) S, scells C ev (uS u) Sc, gcells C (uC u) G2, lcells C o F]) s.heap.size = A at hD hX hV9 ⊢
  have hA : ∀ q : Nat, s.heap.size ≤ q → A q := fun q h => by rw [← hAe]; exact Or.inr h
  have hS0 : va_S A s.heap s.heap [] := va_S.rf
  have hP : va_P D vwCl (wj [acells C u Q, gcells C (uA u) G, hcells C (uH u) S, scells C ev (uS u) Sc, gcells C (uC u) G2, lcells C o F]) s.heap := hP
  have hS := hS0
  have hl := lv_entry ([.ref (u 0), .ref o]) (n := 3) (Nat.le_of_ble_eq_true rfl)
  rw [lg_entry_eq]
  generalize (lg_sl ([.ref (u 0), .ref o]) ++ List.replicate (3 - (lg_sl ([.ref (u 0), .ref o])).length) Slot.unset).toArray = ls at hl ⊢
  have hl : lv_has ls 3 [(0, .ref (u 0)), (1, .ref o)] := hl
  obtain ⟨z, hz⟩ : ∃ z, z = f_X7_runScript Q G S Sc G2 := ⟨_, rfl⟩
  rw [← hz] at hm9 ⊢
  refine lv_aload_n hx hb dL_runScript_0 rfl (lv_at hl 1 rfl) ?_
  refine lv_iconst (v := 0) hx hb dL_runScript_1 (by decide) ?_
  refine lv_aload_n hx hb dL_runScript_2 rfl (lv_at hl 0 rfl) ?_
  have hPc : va_P D vwCl (wj [acells C u Q, gcells C (uA u) G, hcells C (uH u) S, scells C ev (uS u) Sc, gcells C (uC u) G2]) _ := wj_P (cs := [acells C u Q, gcells C (uA u) G, hcells C (uH u) S, scells C ev (uS u) Sc, gcells C (uC u) G2]) hP [0, 1, 2, 3, 4] rfl
  have hDc : va_D A (wj [acells C u Q, gcells C (uA u) G, hcells C (uH u) S, scells C ev (uS u) Sc, gcells C (uC u) G2]) := wj_D (cs := [acells C u Q, gcells C (uA u) G, hcells C (uH u) S, scells C ev (uS u) Sc, gcells C (uC u) G2]) hD [0, 1, 2, 3, 4] (by decide) rfl
  have hFc : ∀ q, va_A (wj [acells C u Q, gcells C (uA u) G, hcells C (uH u) S, scells C ev (uS u) Sc, gcells C (uC u) G2]) (Array.size _) q → A q := wj_F (cs := [acells C u Q, gcells C (uA u) G, hcells C (uH u) S, scells C ev (uS u) Sc, gcells C (uC u) G2]) hD hS hA [0, 1, 2, 3, 4] rfl
  refine callX (vx_runV (As := []) (rest := [.int 0, .ref o]) ⟨hx, hb, hml, hown, hts⟩ (c_X7_runScript l D C ev u Q G S Sc G2 _ hG hN hC hG2 hF hSz hVb hl9) (cwV 0 hts gL_runScript_X7_runScript rfl rfl rfl (by decide +kernel) ⟨Nat.le_of_ble_eq_true rfl, Nat.le_of_ble_eq_true rfl⟩) (xP_v hPc hK hE hDc hR hX hT9 hV9 hS hFc (va_recv hK hPc (ci := 8) (q0 := 0) rfl rfl)) rfl rfl hl.1 rfl (lv_room (Nat.le_of_ble_eq_true rfl)) dL_runScript_3 ⟨Nat.le_of_ble_eq_true rfl, Nat.le_of_ble_eq_true rfl⟩) hS hFc (fun hc0 hc7 ce q9 H1 locs hPn hk hS hcell hcv hcl => ?_) (fun hc0 H1 locs hPn hk hS => ?_)
  · have hc0 : 0 < z.1 := by rw [hz]; exact hc0
    have hcl : s.vm.findClass (xN z.1) = some ce.cls := by rw [hz]; exact hcl
    have hPn : va_P D vwCl (wj [acells C u (z.2.2.1), gcells C (uA u) (z.2.2.2.1), hcells C (uH u) (z.2.2.2.2.1), scells C ev (uS u) (z.2.2.2.2.2.1), gcells C (uC u) (z.2.2.2.2.2.2)]) H1 := by first | (rw [hz]; exact hPn) | exact hPn
    have hP : va_P D vwCl (wj [acells C u (z.2.2.1), gcells C (uA u) (z.2.2.2.1), hcells C (uH u) (z.2.2.2.2.1), scells C ev (uS u) (z.2.2.2.2.2.1), gcells C (uC u) (z.2.2.2.2.2.2), lcells C o F]) H1 := jb (bs := [acells C u Q, gcells C (uA u) G, hcells C (uH u) S, scells C ev (uS u) Sc, gcells C (uC u) G2, lcells C o F]) (cs := [acells C u Q, gcells C (uA u) G, hcells C (uH u) S, scells C ev (uS u) Sc, gcells C (uC u) G2]) (rs := [lcells C o F]) (cs' := [acells C u (z.2.2.1), gcells C (uA u) (z.2.2.2.1), hcells C (uH u) (z.2.2.2.2.1), scells C ev (uS u) (z.2.2.2.2.2.1), gcells C (uC u) (z.2.2.2.2.2.2)]) (bs' := [acells C u (z.2.2.1), gcells C (uA u) (z.2.2.2.1), hcells C (uH u) (z.2.2.2.2.1), scells C ev (uS u) (z.2.2.2.2.2.1), gcells C (uC u) (z.2.2.2.2.2.2), lcells C o F]) hP hD (bsP 6 [0, 1, 2, 3, 4, 5] rfl (by decide) rfl) (bsP 6 [0, 1, 2, 3, 4, 5] rfl (by decide) rfl) hk hPn
    have hmem := hm9.resolve_left (Nat.ne_of_gt hc0)
    have hmem : z.1 = 2 ∨ z.1 = 3 := by simpa only [List.mem_cons, List.not_mem_nil, or_false] using hmem
    rcases hmem with hmem | hmem
    · rw [hmem] at hcl ⊢
      refine vx_catch (own := RL) (name := xN 2) (E := xN 2) hown [] _ _ (htab.trans rfl) (fun z h9 => absurd h9 List.not_mem_nil) rfl (by decide) (va_Nw.use rfl (hC9 2 (by decide) (by decide))) (va_Nw.use rfl (hT9.2.2 1 (by decide))) hcell hcv hcl ?_
      refine lv_astore_n (i := 2) hx hb dL_runScript_11 rfl hl (Nat.le_of_ble_eq_true rfl) rfl (fun ls' hl' => ?_)
      refine lv_iconst (v := 1) hx hb dL_runScript_12 (by decide) ?_
      exact x_ret hx hb hr hP hS rfl (by decide +kernel) (Nat.le_of_ble_eq_true rfl) (Nat.le_of_ble_eq_true rfl) dL_runScript_13 hlocks
    · rw [hmem] at hcl ⊢
      refine vx_catch (own := RL) (name := xN 3) (E := xN 3) hown [_] _ _ (htab.trans rfl) (pass1 (Or.inr ⟨by decide, xN 2, va_Nw.use rfl (hC9 2 (by decide) (by decide)), hN9 3 2 (by decide) (by decide) (by decide) (by decide) (by decide)⟩)) rfl (by decide) (va_Nw.use rfl (hC9 3 (by decide) (by decide))) (va_Nw.use rfl (hT9.2.2 2 (by decide))) hcell hcv hcl ?_
      refine lv_astore_n (i := 2) hx hb dL_runScript_14 rfl hl (Nat.le_of_ble_eq_true rfl) rfl (fun ls' hl' => ?_)
      refine lv_iconst (v := 2) hx hb dL_runScript_15 (by decide) ?_
      exact x_ret hx hb hr hP hS rfl (by decide +kernel) (Nat.le_of_ble_eq_true rfl) (Nat.le_of_ble_eq_true rfl) dL_runScript_16 hlocks
  · have hc0 : z.1 = 0 := by rw [hz]; exact hc0
    have hPn : va_P D vwCl (wj [acells C u (z.2.2.1), gcells C (uA u) (z.2.2.2.1), hcells C (uH u) (z.2.2.2.2.1), scells C ev (uS u) (z.2.2.2.2.2.1), gcells C (uC u) (z.2.2.2.2.2.2)]) H1 := by first | (rw [hz]; exact hPn) | exact hPn
    have hP : va_P D vwCl (wj [acells C u (z.2.2.1), gcells C (uA u) (z.2.2.2.1), hcells C (uH u) (z.2.2.2.2.1), scells C ev (uS u) (z.2.2.2.2.2.1), gcells C (uC u) (z.2.2.2.2.2.2), lcells C o F]) H1 := jb (bs := [acells C u Q, gcells C (uA u) G, hcells C (uH u) S, scells C ev (uS u) Sc, gcells C (uC u) G2, lcells C o F]) (cs := [acells C u Q, gcells C (uA u) G, hcells C (uH u) S, scells C ev (uS u) Sc, gcells C (uC u) G2]) (rs := [lcells C o F]) (cs' := [acells C u (z.2.2.1), gcells C (uA u) (z.2.2.2.1), hcells C (uH u) (z.2.2.2.2.1), scells C ev (uS u) (z.2.2.2.2.2.1), gcells C (uC u) (z.2.2.2.2.2.2)]) (bs' := [acells C u (z.2.2.1), gcells C (uA u) (z.2.2.2.1), hcells C (uH u) (z.2.2.2.2.1), scells C ev (uS u) (z.2.2.2.2.2.1), gcells C (uC u) (z.2.2.2.2.2.2), lcells C o F]) hP hD (bsP 6 [0, 1, 2, 3, 4, 5] rfl (by decide) rfl) (bsP 6 [0, 1, 2, 3, 4, 5] rfl (by decide) rfl) hk hPn
    have hD : va_D A (wj [acells C u (z.2.2.1), gcells C (uA u) (z.2.2.2.1), hcells C (uH u) (z.2.2.2.2.1), scells C ev (uS u) (z.2.2.2.2.2.1), gcells C (uC u) (z.2.2.2.2.2.2), lcells C o F]) := adr_D hD rfl
    generalize H1 = H at hP hS ⊢
    refine topI (y := (z.2.1)) (by rw [hz]) ?_
    refine lv_i2l hx hb dL_runScript_6 rfl ?_
    refine va_last (q0 := (wj [acells C u (z.2.2.1), gcells C (uA u) (z.2.2.2.1), hcells C (uH u) (z.2.2.2.2.1), scells C ev (uS u) (z.2.2.2.2.2.1), gcells C (uC u) (z.2.2.2.2.2.2)]).length) (t0 := 4) hx hb hK hP hD hS rfl rfl vp01 dL_runScript_7 (fun H2 locs2 hP2 hD2 hS2 => ?_)
    refine lv_goto (tgt := 17) hx hb dL_runScript_8 (by decide) ?_
    refine lv_iconst (v := 0) hx hb dL_runScript_17 (by decide) ?_
    rw [hc0]
    exact x_ret hx hb hr hP2 hS2 rfl rfl (Nat.le_of_ble_eq_true rfl) (Nat.le_of_ble_eq_true rfl) dL_runScript_18 hlocks
