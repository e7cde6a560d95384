set_option maxRecDepth 20000 in
theorem ggL_ask_L_asked : GoodIn wsL_ask wsL_asked := goodIn_ca (goodIn_ca (goodIn_ca (goodIn_ca (goodIn_ca (goodIn_ca (goodIn_r _ [5, 6, 7, 8, 9, 10, 11, 12, 13, 14, 15, 16, 17, 18, 19, 20, 21, 22, 23, 24, 25, 26, 27, 28, 29, 30, 31, 32, 33, 34, 35, 36, 37, 38, 39, 40, 41, 42, 43, 44, 45, 46, 47, 48, 49, 50, 51, 52, 53, 54, 55, 56, 57, 58, 59, 60, 61, 62, 63, 64, 65, 66, 67, 68, 69, 70, 71, 72, 73, 74, 75, 76, 77, 78, 79, 80, 81, 82, 83, 84, 85, 86, 87, 88, 89, 90, 91, 92, 93, 94, 95, 96, 97, 98, 99, 100, 101, 102, 103, 104, 105, 106, 107, 108, 109, 110, 111, 112, 113, 114, 115, 116, 117, 118, 119, 120, 121, 122, 123, 124, 125, 126, 127, 128, 129, 130, 131, 132, 133, 134, 135, 136, 137, 138, 139, 140, 141, 142, 143, 144, 145, 146, 147, 148, 149, 150, 151, 152, 153, 154, 155, 156, 157, 158, 159, 160, 161, 162, 163, 164, 165, 166, 167, 168, 169, 170, 171, 172, 173, 174, 175, 176, 177, 178, 179, 180, 181, 182, 183, 184, 185, 186, 187, 188, 189, 190, 191, 192, 193, 194, 195, 196, 197, 198, 199, 200, 201, 202, 203, 204, 205, 206, 207, 208, 209, 210, 211, 212, 213, 214, 215, 216, 217, 218, 219, 220, 221, 222, 223, 224, 225, 226, 227, 228, 229, 230, 231, 232, 233, 234, 235, 236, 237, 238, 239, 240, 241, 242, 243, 244, 245, 246, 247, 248, 249, 250, 251, 252, 253, 254, 255, 256, 257, 258, 259, 260, 261, 262, 263, 264, 265, 266, 267, 268, 269, 270, 271, 272, 273, 274, 275, 276, 277, 278, 279, 280, 281, 282, 283, 284, 285, 286, 287, 288, 289, 290, 291, 292, 293, 294, 295, 296, 297, 298, 299, 300, 301, 302, 303, 304, 305, 306, 307, 308, 309, 310, 311, 312, 313, 314, 315, 316, 317, 318, 319, 320, 321, 322, 323, 324, 325, 326, 327, 328, 329, 330, 331, 332, 333, 334, 335, 336, 337, 338] (by decide +kernel) (by decide +kernel)) (goodIn_sub (fun _ h => List.mem_cons_of_mem _ (List.mem_append_left _ (List.mem_append_left _ (List.mem_append_left _ (List.mem_append_left _ (List.mem_append_left _ (List.mem_append_right _ h))))))) (by decide +kernel))) (goodIn_sub (fun _ h => List.mem_cons_of_mem _ (List.mem_append_left _ (List.mem_append_left _ (List.mem_append_left _ (List.mem_append_left _ (List.mem_append_right _ h)))))) (by decide +kernel))) (goodIn_sub (fun _ h => List.mem_cons_of_mem _ (List.mem_append_left _ (List.mem_append_left _ (List.mem_append_left _ (List.mem_append_right _ h))))) (by decide +kernel))) (goodIn_sub (fun _ h => List.mem_cons_of_mem _ (List.mem_append_left _ (List.mem_append_left _ (List.mem_append_right _ h)))) (by decide +kernel))) (goodIn_sub (fun _ h => List.mem_cons_of_mem _ (List.mem_append_left _ (List.mem_append_right _ h))) (by decide +kernel))) (goodIn_sub (fun _ h => List.mem_cons_of_mem _ (List.mem_append_right _ h)) (by decide +kernel))
set_option maxRecDepth 20000 in
theorem gL_ask_L_asked : GoodIn wsL_ask (va_wsS RL 109 yL_asked wsL_asked) := goodIn_app (goodIn_r _ [2, 3, 4] (by decide +kernel) (by decide +kernel)) ggL_ask_L_asked
theorem dL_ask_0 : decode cL_ask 0 = .ok (.aload_n 0, 1) := by decide +kernel
theorem dL_ask_1 : decode cL_ask 1 = .ok (.iload_n 1, 1) := by decide +kernel
theorem dL_ask_2 : decode cL_ask 2 = .ok (.iload_n 2, 1) := by decide +kernel
theorem dL_ask_3 : decode cL_ask 3 = .ok (.iload_n 3, 1) := by decide +kernel
theorem dL_ask_4 : decode cL_ask 4 = .ok (.invokestatic 109, 3) := by decide +kernel
theorem dL_ask_7 : decode cL_ask 7 = .ok (.ireturn, 1) := by decide +kernel
theorem dL_ask_8 : decode cL_ask 8 = .ok (.astore 4, 2) := by decide +kernel
theorem dL_ask_10 : decode cL_ask 10 = .ok (.sipush (-2002), 3) := by decide +kernel
theorem dL_ask_13 : decode cL_ask 13 = .ok (.ireturn, 1) := by decide +kernel
theorem dL_ask_14 : decode cL_ask 14 = .ok (.astore 4, 2) := by decide +kernel
theorem dL_ask_16 : decode cL_ask 16 = .ok (.sipush (-2005), 3) := by decide +kernel
theorem dL_ask_19 : decode cL_ask 19 = .ok (.ireturn, 1) := by decide +kernel
theorem dL_ask_20 : decode cL_ask 20 = .ok (.astore 4, 2) := by decide +kernel
theorem dL_ask_22 : decode cL_ask 22 = .ok (.sipush (-2004), 3) := by decide +kernel
theorem dL_ask_25 : decode cL_ask 25 = .ok (.ireturn, 1) := by decide +kernel
set_option maxHeartbeats 4000000 in
set_option maxRecDepth 100000 in
theorem c_L_ask (l : Launch) (D : va_G) (C : Nat → ClassId) (ev u : Nat → Nat) (K : CT) (T : TX) (n : Nat) (a b : Int32) (hl9 : l.stackTraces = false) (hI : GI (kG K)) (hFe : FerOK (kG K)) (hn : n < 14) (hm9 : (aqs K n a b).1 = 0 ∨ (aqs K n a b).1 = 1 ∨ (aqs K n a b).1 = 3 ∨ (aqs K n a b).1 = 5) : KM l yL_ask wsL_ask ({ frames := 10, cells := 3, slots := 18, locals := 191 } : Room) [.ref (u 0), .int (nI n), .int a, .int b] D C ev u K T T (some (.int (askV K n a b))) 3 18 := by
  intro x sz hF
  refine Met_vx (vx_ofWH (XC := fun _ _ _ => False) (cc := cL_ask) (maxL := 5) (ret := (some .int)) (by decide) rfl ?_)
  intro p e s m args below meth c s₁ B hml hv
  obtain ⟨⟨⟨rfl, hsz, hP, hK, hD0, hE, hR, hX, hT9, hV9⟩, hDV⟩, hN, hC⟩ := hv
  have hx := B.exec
  have hb := B.bytes
  have hr := B.returns
  have hts := atoms_spec (ws := wsL_ask) B.pre
  have htab := vx_table (x := yL_ask) B (hts _ List.mem_cons_self)
  have hown : s.vm.findClass RL = some m.cls := findClass_of_methodNamed B.named
  have hlocks := B.notSynchronized
  subst hsz
  have hD := hD0.self (sz := s.heap.size)
  generalize hAe : va_A (kW C ev u K x) s.heap.size = A at hD hX hV9 hDV ⊢
  have hA : ∀ q : Nat, s.heap.size ≤ q → A q := fun q h => by rw [← hAe]; exact Or.inr h
  have hS : va_S A s.heap s.heap [] := va_S.rf
  have hl := lv_entry ([.ref (u 0), .int (nI n), .int a, .int b]) (n := 5) (Nat.le_of_ble_eq_true rfl)
  rw [lg_entry_eq]
  generalize (lg_sl ([.ref (u 0), .int (nI n), .int a, .int b]) ++ List.replicate (5 - (lg_sl ([.ref (u 0), .int (nI n), .int a, .int b])).length) Slot.unset).toArray = ls at hl ⊢
  have hl : lv_has ls 5 [(0, .ref (u 0)), (1, .int (nI n)), (2, .int a), (3, .int b)] := hl
  refine lv_aload_n hx hb dL_ask_0 rfl (lv_at hl 0 rfl) ?_
  refine lv_iload_n hx hb dL_ask_1 rfl (lv_at hl 1 rfl) ?_
  refine lv_iload_n hx hb dL_ask_2 rfl (lv_at hl 2 rfl) ?_
  refine lv_iload_n hx hb dL_ask_3 rfl (lv_at hl 3 rfl) ?_
  refine callKV (vx_runS (As := [.ref (u 0), .int (nI n), .int a, .int b]) (rest := []) ⟨hx, hb, hml, hown, hts⟩ (c_L_asked l D C ev u K T n a b hl9 hI hFe hn x _ hF) (va_cwS 4 hts gL_ask_L_asked rfl rfl rfl (by decide +kernel) ⟨Nat.le_of_ble_eq_true rfl, Nat.le_of_ble_eq_true rfl⟩) (hloP_s hP hK hE hD hR hX hT9 hV9 hDV hN hC hS (all_F hD hS hA)) rfl rfl hl.1 rfl (lv_room (Nat.le_of_ble_eq_true rfl)) dL_ask_4 ⟨Nat.le_of_ble_eq_true rfl, Nat.le_of_ble_eq_true rfl⟩) hD hS hA (fun hc0 hc7 x ce q9 H1 locs hF hP hD hS hcell hcv hcl => ?_) (fun hc0 x H1 locs hF hP hD hS => ?_)
  · have hmem := hm9.resolve_left (Nat.ne_of_gt hc0)
    rcases hmem with hmem | hmem | hmem
    · rw [hmem] at hcl
      refine vx_catch (own := RL) (name := xN 1) (E := xN 1) hown [] _ _ (htab.trans rfl) (fun z h9 => absurd h9 List.not_mem_nil) rfl (by decide) (va_Nw.use rfl (hC 1 (by decide) (by decide))) (va_Nw.use rfl (hT9.2.2 0 (by decide))) hcell hcv hcl ?_
      refine lv_astore (i := 4) hx hb dL_ask_8 hl (Nat.le_of_ble_eq_true rfl) rfl (fun ls' hl' => ?_)
      refine lv_sipush (v := (-2002)) hx hb dL_ask_10 (by decide +kernel) ?_
      exact kx_retI hx hb hr hF hP hD hS (by unfold askV aCode; rw [hmem]; rfl) (Nat.le_of_ble_eq_true rfl) (Nat.le_of_ble_eq_true rfl) dL_ask_13 hlocks
    · rw [hmem] at hcl
      refine vx_catch (own := RL) (name := xN 3) (E := xN 3) hown [_] _ _ (htab.trans rfl) (pass1 (Or.inr ⟨by decide, xN 1, va_Nw.use rfl (hC 1 (by decide) (by decide)), hN 3 1 (by decide) (by decide) (by decide) (by decide) (by decide)⟩)) rfl (by decide) (va_Nw.use rfl (hC 3 (by decide) (by decide))) (va_Nw.use rfl (hT9.2.2 2 (by decide))) hcell hcv hcl ?_
      refine lv_astore (i := 4) hx hb dL_ask_14 hl (Nat.le_of_ble_eq_true rfl) rfl (fun ls' hl' => ?_)
      refine lv_sipush (v := (-2005)) hx hb dL_ask_16 (by decide +kernel) ?_
      exact kx_retI hx hb hr hF hP hD hS (by unfold askV aCode; rw [hmem]; rfl) (Nat.le_of_ble_eq_true rfl) (Nat.le_of_ble_eq_true rfl) dL_ask_19 hlocks
    · rw [hmem] at hcl
      refine vx_catch (own := RL) (name := xN 5) (E := xN 5) hown [_, _] _ _ (htab.trans rfl) (pass2 (Or.inr ⟨by decide, xN 1, va_Nw.use rfl (hC 1 (by decide) (by decide)), hN 5 1 (by decide) (by decide) (by decide) (by decide) (by decide)⟩) (Or.inr ⟨by decide, xN 3, va_Nw.use rfl (hC 3 (by decide) (by decide)), hN 5 3 (by decide) (by decide) (by decide) (by decide) (by decide)⟩)) rfl (by decide) (va_Nw.use rfl (hC 5 (by decide) (by decide))) (va_Nw.use rfl (hT9.2.2 4 (by decide))) hcell hcv hcl ?_
      refine lv_astore (i := 4) hx hb dL_ask_20 hl (Nat.le_of_ble_eq_true rfl) rfl (fun ls' hl' => ?_)
      refine lv_sipush (v := (-2004)) hx hb dL_ask_22 (by decide +kernel) ?_
      exact kx_retI hx hb hr hF hP hD hS (by unfold askV aCode; rw [hmem]; rfl) (Nat.le_of_ble_eq_true rfl) (Nat.le_of_ble_eq_true rfl) dL_ask_25 hlocks
  · exact kx_retI hx hb hr hF hP hD hS (by unfold askV aCode; rw [if_pos hc0]) (Nat.le_of_ble_eq_true rfl) (Nat.le_of_ble_eq_true rfl) dL_ask_7 hlocks
