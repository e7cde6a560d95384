set_option maxRecDepth 20000 in
theorem ggL_deed_L_plain : GoodIn wsL_deed wsL_plain := goodIn_ca (goodIn_ca (goodIn_ca (goodIn_ca (goodIn_ca (goodIn_ca (goodIn_r _ [5, 6, 7, 8, 9, 10, 11, 12, 13, 14, 15, 16, 17, 18, 19, 20, 21, 22, 23, 24, 25, 26, 27, 28, 29, 30, 31, 32, 33, 34, 35, 36, 37, 38, 39, 40, 41, 42, 43, 44, 45, 46, 47, 48, 49, 50, 51, 52, 53, 54, 55, 56, 57, 58, 59, 60, 61, 62, 63, 64, 65, 66, 67, 68, 69, 70, 71, 72, 73, 74, 75, 76, 77, 78, 79, 80, 81, 82, 83, 84, 85, 86, 87, 88, 89, 90, 91, 92, 93, 94, 95, 96, 97, 98, 99, 100, 101, 102, 103, 104, 105, 106, 107, 108, 109, 110, 111, 112, 113, 114, 115, 116, 117, 118, 119, 120, 121, 122, 123, 124, 125, 126, 127, 128, 129, 130, 131, 132, 133, 134, 135, 136, 137, 138, 139, 140, 141, 142, 143, 144, 145, 146, 147, 148, 149, 150, 151, 152, 153, 154, 155, 156, 157, 158, 159, 160, 161, 162, 163, 164, 165, 166, 167, 168, 169, 170, 171, 172, 173, 174, 175, 176, 177, 178, 179, 180, 181, 182, 183, 184, 185, 186, 187, 188, 189, 190, 191, 192, 193, 194, 195, 196, 197, 198, 199, 200, 201, 202, 203, 204, 205, 206, 207, 208, 209, 210, 211, 212, 213, 214, 215, 216, 217, 218, 219, 220, 221, 222, 223, 224, 225, 226, 227, 228, 229, 230, 231, 232, 233, 234, 235, 236, 237, 238, 239, 240, 241, 242, 243, 244, 245, 246, 247, 248, 249, 250, 251, 252, 253, 254, 255, 256, 257, 258, 259, 260, 261, 262, 263, 264, 265, 266, 267, 268, 269, 270, 271, 272, 273, 274, 275, 276, 277, 278, 279, 280, 281, 282, 283, 284, 285, 286, 287, 288, 289, 290, 291, 292, 293, 294, 295, 296, 297, 298, 299, 300, 301, 302, 303, 304, 305, 306, 307, 308, 309, 310, 311, 312, 313, 314, 315, 316, 317, 318, 319, 320, 321, 322, 323, 324, 325, 326, 327, 328, 329, 330, 331, 332, 333, 334, 335, 336, 337, 338, 339, 340, 341, 342, 343, 344, 345, 346, 347, 348, 349, 350, 351, 352, 353, 354, 355, 356, 357, 358, 359, 360, 361, 362, 363, 364, 365, 366, 367, 368, 369, 370, 371, 372, 373, 374, 375, 376, 377, 378, 379, 380, 381, 382, 383, 384, 385, 386, 387, 388, 389, 390, 391, 392, 393, 394, 395, 396, 397, 398, 399, 400, 401, 402, 403, 404, 405, 406, 407, 408, 409, 410, 411, 412, 413, 414, 415] (by decide +kernel) (by decide +kernel)) (goodIn_sub (fun _ h => List.mem_cons_of_mem _ (List.mem_append_left _ (List.mem_append_left _ (List.mem_append_left _ (List.mem_append_left _ (List.mem_append_left _ (List.mem_append_right _ h))))))) (by decide +kernel))) (goodIn_sub (fun _ h => List.mem_cons_of_mem _ (List.mem_append_left _ (List.mem_append_left _ (List.mem_append_left _ (List.mem_append_left _ (List.mem_append_right _ h)))))) (by decide +kernel))) (goodIn_sub (fun _ h => List.mem_cons_of_mem _ (List.mem_append_left _ (List.mem_append_left _ (List.mem_append_left _ (List.mem_append_right _ h))))) (by decide +kernel))) (goodIn_sub (fun _ h => List.mem_cons_of_mem _ (List.mem_append_left _ (List.mem_append_left _ (List.mem_append_right _ h)))) (by decide +kernel))) (goodIn_sub (fun _ h => List.mem_cons_of_mem _ (List.mem_append_left _ (List.mem_append_right _ h))) (by decide +kernel))) (goodIn_sub (fun _ h => List.mem_cons_of_mem _ (List.mem_append_right _ h)) (by decide +kernel))
set_option maxRecDepth 20000 in
theorem gL_deed_L_plain : GoodIn wsL_deed (va_wsS RL 52 yL_plain wsL_plain) := goodIn_app (goodIn_r _ [2, 3, 4] (by decide +kernel) (by decide +kernel)) ggL_deed_L_plain
theorem dL_deed_0 : decode cL_deed 0 = .ok (.aload_n 0, 1) := by decide +kernel
theorem dL_deed_1 : decode cL_deed 1 = .ok (.iload_n 1, 1) := by decide +kernel
theorem dL_deed_2 : decode cL_deed 2 = .ok (.iload_n 2, 1) := by decide +kernel
theorem dL_deed_3 : decode cL_deed 3 = .ok (.iload_n 3, 1) := by decide +kernel
theorem dL_deed_4 : decode cL_deed 4 = .ok (.iload 4, 2) := by decide +kernel
theorem dL_deed_6 : decode cL_deed 6 = .ok (.invokestatic 52, 3) := by decide +kernel
theorem dL_deed_9 : decode cL_deed 9 = .ok (.ireturn, 1) := by decide +kernel
theorem dL_deed_10 : decode cL_deed 10 = .ok (.astore 5, 2) := by decide +kernel
theorem dL_deed_12 : decode cL_deed 12 = .ok (.sipush (-2002), 3) := by decide +kernel
theorem dL_deed_15 : decode cL_deed 15 = .ok (.ireturn, 1) := by decide +kernel
theorem dL_deed_16 : decode cL_deed 16 = .ok (.astore 5, 2) := by decide +kernel
theorem dL_deed_18 : decode cL_deed 18 = .ok (.sipush (-2003), 3) := by decide +kernel
theorem dL_deed_21 : decode cL_deed 21 = .ok (.ireturn, 1) := by decide +kernel
theorem dL_deed_22 : decode cL_deed 22 = .ok (.astore 5, 2) := by decide +kernel
theorem dL_deed_24 : decode cL_deed 24 = .ok (.sipush (-2005), 3) := by decide +kernel
theorem dL_deed_27 : decode cL_deed 27 = .ok (.ireturn, 1) := by decide +kernel
theorem dL_deed_28 : decode cL_deed 28 = .ok (.astore 5, 2) := by decide +kernel
theorem dL_deed_30 : decode cL_deed 30 = .ok (.sipush (-2001), 3) := by decide +kernel
theorem dL_deed_33 : decode cL_deed 33 = .ok (.ireturn, 1) := by decide +kernel
theorem dL_deed_34 : decode cL_deed 34 = .ok (.astore 5, 2) := by decide +kernel
theorem dL_deed_36 : decode cL_deed 36 = .ok (.sipush (-2004), 3) := by decide +kernel
theorem dL_deed_39 : decode cL_deed 39 = .ok (.ireturn, 1) := by decide +kernel
def deedV (r : Nat × Int32) : Int32 := if r.1 = 0 then r.2 else if r.1 = 1 then -2002 else if r.1 = 2 then -2003 else if r.1 = 3 then -2005 else if r.1 = 4 then -2001 else -2004
theorem pass4 {α : Type} {P : α → Prop} {a b c d : α} (h : P a) (g : P b) (k : P c) (j : P d) : ∀ z ∈ [a, b, c, d], P z := fun z hz => by
  rcases List.mem_cons.mp hz with e | e
  · rw [e]; exact h
  · exact pass3 g k j z e
section
variable {p : Program} {l : Launch} {e : Env} {R : Room} {s : State} {m : MethodId} {args : Array Value} {below : List Frame} {meth : Method} {c : Code} {H : Heap} {locs : List Loc} {cells slots mc ms : Nat} {Q : State → Prop} {cc : ByteArray} {pc : Nat} {ls : Array Slot} {rest st0 : List Value} {A : Nat → Prop} {D : va_G} {C : Nat → ClassId} {ev u : Nat → Nat} {K : CT} {T T' : TX} {v : Option Value} {x : KX} {owns : List va_W} {cz : Nat}
theorem kd_retI {K' : CT} {i z : Int32} {XC : String → State → State → Prop} (hx : p.tables.exec = Jvm.exec) (hb : c.code = cc) (hr : meth.sig.returnType = some .int) (hF : kF T x) (hP : va_P D vwCl (kW C ev u K' x) H) (hD : va_D A (kW C ev u K' x)) (hS : va_S A s.heap H locs) (hz : z = i) (h1 : cells ≤ mc) (h2 : slots ≤ ms) (hdg : decode cc pc = .ok (.ireturn, 1)) (hlocks : meth.locks = false) : W p l e R s m args below meth c H locs cells slots (vx_MQ below (eO (fun _ : KX => some (.int z)) D (kF T) (kW C ev u K') A) XC args s mc ms A) (F0 m pc ls [.int i]) :=
  W.widen h1 h2 (vx_ret (W.iret (v := i) hx hb hr (fun t ht hW => ⟨⟨x, by rw [hz], hF, by rw [ht]; exact hP, hD⟩, hS.F ht⟩) hS.2.2 hdg hlocks))
end
set_option maxHeartbeats 4000000 in
set_option maxRecDepth 100000 in
theorem c_L_deed (l : Launch) (D : va_G) (C : Nat → ClassId) (ev u : Nat → Nat) (K : CT) (T : TX) (n : Nat) (a b w : Int32) (hl9 : l.stackTraces = false) (hd : DI K) (hn : n < 9) : KMD l yL_deed wsL_deed ({ frames := 10, cells := 1, slots := 6, locals := 218 } : Room) [.ref (u 0), .int (nI n), .int a, .int b, .int w] D C ev u K (plK K n a b w) T (some (.int (deedV ((plF K n a b w).1, (plF K n a b w).2.1)))) 1 6 := by
  intro x sz hF
  refine Met_vx (vx_ofWH (XC := fun _ _ _ => False) (cc := cL_deed) (maxL := 6) (ret := (some .int)) (by decide) rfl ?_)
  intro p e s m args below meth c s₁ B hml hv
  obtain ⟨⟨⟨rfl, hsz, hP, hK, hD0, hE, hR, hX, hT9, hV9⟩, hDV⟩, hN, hC⟩ := hv
  have hx := B.exec
  have hb := B.bytes
  have hr := B.returns
  have hts := atoms_spec (ws := wsL_deed) B.pre
  have hown : s.vm.findClass RL = some m.cls := findClass_of_methodNamed B.named
  have htab := vx_table (x := yL_deed) B (hts _ List.mem_cons_self)
  have hlocks := B.notSynchronized
  subst hsz
  have hD := hD0.self (sz := s.heap.size)
  generalize hAe : va_A (kW C ev u K x) s.heap.size = A at hD hX hV9 hDV ⊢
  have hA : ∀ q : Nat, s.heap.size ≤ q → A q := fun q h => by rw [← hAe]; exact Or.inr h
  have hS : va_S A s.heap s.heap [] := va_S.rf
  have h6 := (deed_all hd hn a b w).2.1
  have hl := lv_entry ([.ref (u 0), .int (nI n), .int a, .int b, .int w]) (n := 6) (Nat.le_of_ble_eq_true rfl)
  rw [lg_entry_eq]
  generalize (lg_sl ([.ref (u 0), .int (nI n), .int a, .int b, .int w]) ++ List.replicate (6 - (lg_sl ([.ref (u 0), .int (nI n), .int a, .int b, .int w])).length) Slot.unset).toArray = ls at hl ⊢
  have hl : lv_has ls 6 [(0, .ref (u 0)), (1, .int (nI n)), (2, .int a), (3, .int b), (4, .int w)] := hl
  refine lv_aload_n hx hb dL_deed_0 rfl (lv_at hl 0 rfl) ?_
  refine lv_iload_n hx hb dL_deed_1 rfl (lv_at hl 1 rfl) ?_
  refine lv_iload_n hx hb dL_deed_2 rfl (lv_at hl 2 rfl) ?_
  refine lv_iload_n hx hb dL_deed_3 rfl (lv_at hl 3 rfl) ?_
  refine lv_iload hx hb dL_deed_4 (lv_at hl 4 rfl) ?_
  refine callKVD (vx_runS (As := [.ref (u 0), .int (nI n), .int a, .int b, .int w]) (rest := []) ⟨hx, hb, hml, hown, hts⟩ (c_L_plain l D C ev u K T n a b w hl9 hd hn x _ hF) (va_cwS 5 hts gL_deed_L_plain rfl rfl rfl (by decide +kernel) ⟨Nat.le_of_ble_eq_true rfl, Nat.le_of_ble_eq_true rfl⟩) (hloP_s hP hK hE hD hR hX hT9 hV9 hDV hN hC hS (all_F hD hS hA)) rfl rfl hl.1 rfl (lv_room (Nat.le_of_ble_eq_true rfl)) dL_deed_6 ⟨Nat.le_of_ble_eq_true rfl, Nat.le_of_ble_eq_true rfl⟩) hD hS hA (fun hc0 hc7 x ce q9 H1 locs hF hP hD hS hcell hcv hcl => ?_) (fun hc0 x H1 locs hF hP hD hS => ?_)
  · have hmem : (plF K n a b w).1 = 1 ∨ (plF K n a b w).1 = 2 ∨ (plF K n a b w).1 = 3 ∨ (plF K n a b w).1 = 4 ∨ (plF K n a b w).1 = 5 := by omega
    rcases hmem with hmem | hmem | hmem | hmem | hmem
    · rw [hmem] at hcl
      refine vx_catch (own := RL) (name := xN 1) (E := xN 1) hown [] _ _ (htab.trans rfl) (fun z h9 => absurd h9 List.not_mem_nil) rfl (by decide) (va_Nw.use rfl (hC 1 (by decide) (by decide))) (va_Nw.use rfl (hT9.2.2 0 (by decide))) hcell hcv hcl ?_
      refine lv_astore (i := 5) hx hb dL_deed_10 hl (Nat.le_of_ble_eq_true rfl) rfl (fun ls' hl' => ?_)
      refine lv_sipush (v := (-2002)) hx hb dL_deed_12 (by decide +kernel) ?_
      exact kd_retI hx hb hr hF hP hD hS (by unfold deedV; rw [hmem]; rfl) (Nat.le_of_ble_eq_true rfl) (Nat.le_of_ble_eq_true rfl) dL_deed_15 hlocks
    · rw [hmem] at hcl
      refine vx_catch (own := RL) (name := xN 2) (E := xN 2) hown [_] _ _ (htab.trans rfl) (pass1 (Or.inr ⟨by decide, xN 1, va_Nw.use rfl (hC 1 (by decide) (by decide)), hN 2 1 (by decide) (by decide) (by decide) (by decide) (by decide)⟩)) rfl (by decide) (va_Nw.use rfl (hC 2 (by decide) (by decide))) (va_Nw.use rfl (hT9.2.2 1 (by decide))) hcell hcv hcl ?_
      refine lv_astore (i := 5) hx hb dL_deed_16 hl (Nat.le_of_ble_eq_true rfl) rfl (fun ls' hl' => ?_)
      refine lv_sipush (v := (-2003)) hx hb dL_deed_18 (by decide +kernel) ?_
      exact kd_retI hx hb hr hF hP hD hS (by unfold deedV; rw [hmem]; rfl) (Nat.le_of_ble_eq_true rfl) (Nat.le_of_ble_eq_true rfl) dL_deed_21 hlocks
    · rw [hmem] at hcl
      refine vx_catch (own := RL) (name := xN 3) (E := xN 3) hown [_, _] _ _ (htab.trans rfl) (pass2 (Or.inr ⟨by decide, xN 1, va_Nw.use rfl (hC 1 (by decide) (by decide)), hN 3 1 (by decide) (by decide) (by decide) (by decide) (by decide)⟩) (Or.inr ⟨by decide, xN 2, va_Nw.use rfl (hC 2 (by decide) (by decide)), hN 3 2 (by decide) (by decide) (by decide) (by decide) (by decide)⟩)) rfl (by decide) (va_Nw.use rfl (hC 3 (by decide) (by decide))) (va_Nw.use rfl (hT9.2.2 2 (by decide))) hcell hcv hcl ?_
      refine lv_astore (i := 5) hx hb dL_deed_22 hl (Nat.le_of_ble_eq_true rfl) rfl (fun ls' hl' => ?_)
      refine lv_sipush (v := (-2005)) hx hb dL_deed_24 (by decide +kernel) ?_
      exact kd_retI hx hb hr hF hP hD hS (by unfold deedV; rw [hmem]; rfl) (Nat.le_of_ble_eq_true rfl) (Nat.le_of_ble_eq_true rfl) dL_deed_27 hlocks
    · rw [hmem] at hcl
      refine vx_catch (own := RL) (name := xN 4) (E := xN 4) hown [_, _, _] _ _ (htab.trans rfl) (pass3 (Or.inr ⟨by decide, xN 1, va_Nw.use rfl (hC 1 (by decide) (by decide)), hN 4 1 (by decide) (by decide) (by decide) (by decide) (by decide)⟩) (Or.inr ⟨by decide, xN 2, va_Nw.use rfl (hC 2 (by decide) (by decide)), hN 4 2 (by decide) (by decide) (by decide) (by decide) (by decide)⟩) (Or.inr ⟨by decide, xN 3, va_Nw.use rfl (hC 3 (by decide) (by decide)), hN 4 3 (by decide) (by decide) (by decide) (by decide) (by decide)⟩)) rfl (by decide) (va_Nw.use rfl (hC 4 (by decide) (by decide))) (va_Nw.use rfl (hT9.2.2 3 (by decide))) hcell hcv hcl ?_
      refine lv_astore (i := 5) hx hb dL_deed_28 hl (Nat.le_of_ble_eq_true rfl) rfl (fun ls' hl' => ?_)
      refine lv_sipush (v := (-2001)) hx hb dL_deed_30 (by decide +kernel) ?_
      exact kd_retI hx hb hr hF hP hD hS (by unfold deedV; rw [hmem]; rfl) (Nat.le_of_ble_eq_true rfl) (Nat.le_of_ble_eq_true rfl) dL_deed_33 hlocks
    · rw [hmem] at hcl
      refine vx_catch (own := RL) (name := xN 5) (E := xN 5) hown [_, _, _, _] _ _ (htab.trans rfl) (pass4 (Or.inr ⟨by decide, xN 1, va_Nw.use rfl (hC 1 (by decide) (by decide)), hN 5 1 (by decide) (by decide) (by decide) (by decide) (by decide)⟩) (Or.inr ⟨by decide, xN 2, va_Nw.use rfl (hC 2 (by decide) (by decide)), hN 5 2 (by decide) (by decide) (by decide) (by decide) (by decide)⟩) (Or.inr ⟨by decide, xN 3, va_Nw.use rfl (hC 3 (by decide) (by decide)), hN 5 3 (by decide) (by decide) (by decide) (by decide) (by decide)⟩) (Or.inr ⟨by decide, xN 4, va_Nw.use rfl (hC 4 (by decide) (by decide)), hN 5 4 (by decide) (by decide) (by decide) (by decide) (by decide)⟩)) rfl (by decide) (va_Nw.use rfl (hC 5 (by decide) (by decide))) (va_Nw.use rfl (hT9.2.2 4 (by decide))) hcell hcv hcl ?_
      refine lv_astore (i := 5) hx hb dL_deed_34 hl (Nat.le_of_ble_eq_true rfl) rfl (fun ls' hl' => ?_)
      refine lv_sipush (v := (-2004)) hx hb dL_deed_36 (by decide +kernel) ?_
      exact kd_retI hx hb hr hF hP hD hS (by unfold deedV; rw [hmem]; rfl) (Nat.le_of_ble_eq_true rfl) (Nat.le_of_ble_eq_true rfl) dL_deed_39 hlocks
  · exact kd_retI hx hb hr hF hP hD hS (by unfold deedV; rw [if_pos hc0]) (Nat.le_of_ble_eq_true rfl) (Nat.le_of_ble_eq_true rfl) dL_deed_9 hlocks
