theorem gd_tr {a b c : List Cond} (h1 : GoodIn a b) (h2 : GoodIn b c) : GoodIn a c := fun w hw => ⟨(h1 w (h2 w hw).1).1, (h2 w hw).2⟩
set_option maxRecDepth 20000 in
theorem ggL_bid_L_ask : GoodIn wsL_bid wsL_ask := goodIn_ca (goodIn_ca (goodIn_ca (goodIn_ca (goodIn_ca (goodIn_ca (goodIn_r _ [8, 9, 10, 11, 7, 12, 13, 14, 15, 16, 17, 18, 19, 20, 21, 22, 23, 24, 25, 26, 27, 28, 29, 30, 31, 32, 33, 34, 35, 36, 37, 38, 39, 40, 41, 42, 43, 44, 45, 46, 47, 48, 49, 50, 51, 3, 52, 53, 54, 55, 56, 57, 58, 59, 60, 61, 62, 63, 64, 65, 66, 67, 68, 69, 70, 71, 72, 73, 74, 75, 76, 77, 78, 79, 80, 81, 82, 83, 84, 85, 86, 87, 88, 89, 90, 91, 92, 93, 94, 95, 96, 97, 98, 99, 100, 101, 102, 103, 104, 105, 106, 107, 108, 109, 110, 111, 112, 113, 114, 115, 116, 117, 118, 119, 120, 121, 122, 123, 124, 125, 126, 127, 128, 129, 130, 131, 132, 133, 134, 135, 136, 137, 138, 139, 140, 141, 142, 143, 144, 145, 146, 147, 148, 149, 150, 151, 152, 153, 154, 155, 156, 157, 158, 159, 160, 161, 162, 163, 164, 165, 166, 167, 168, 169, 170, 171, 172, 173, 174, 175, 176, 177, 178, 179, 180, 181, 182, 183, 2, 4, 184, 185, 186, 187, 188, 189, 190, 191, 192, 193, 194, 195, 196, 197, 198, 199, 200, 201, 202, 203, 204, 205, 206, 207, 208, 209, 210, 211, 212, 213, 214, 215, 216, 217, 218, 219, 220, 221, 222, 223, 224, 225, 226, 227, 228, 229, 230, 231, 232, 233, 234, 235, 236, 237, 238, 239, 240, 241, 242, 243, 244, 245, 246, 247, 248, 249, 250, 251, 252, 253, 254, 255, 256, 257, 258, 259, 260, 261, 262, 263, 264, 265, 266, 267, 268, 269, 270, 271, 272, 273, 274, 275, 276, 277, 278, 279, 280, 281, 282, 283, 284, 285, 286, 287, 288, 289, 290, 291, 292, 293, 294, 295, 296, 297, 298, 299, 300, 301, 302, 303, 304, 305, 306, 307, 308, 309, 310, 311, 312, 313, 314, 315, 316, 317, 318, 319, 320, 321, 322, 323, 324, 325, 326, 327, 328, 329, 330, 331, 332, 333, 334, 335, 336, 337, 338, 339, 340, 341, 342] (by decide +kernel) (by decide +kernel)) (goodIn_sub (fun _ h => List.mem_cons_of_mem _ (List.mem_append_left _ (List.mem_append_left _ (List.mem_append_left _ (List.mem_append_left _ (List.mem_append_left _ (List.mem_append_right _ h))))))) (by decide +kernel))) (goodIn_sub (fun _ h => List.mem_cons_of_mem _ (List.mem_append_left _ (List.mem_append_left _ (List.mem_append_left _ (List.mem_append_left _ (List.mem_append_right _ h)))))) (by decide +kernel))) (goodIn_sub (fun _ h => List.mem_cons_of_mem _ (List.mem_append_left _ (List.mem_append_left _ (List.mem_append_left _ (List.mem_append_right _ h))))) (by decide +kernel))) (goodIn_sub (fun _ h => List.mem_cons_of_mem _ (List.mem_append_left _ (List.mem_append_left _ (List.mem_append_right _ h)))) (by decide +kernel))) (goodIn_sub (fun _ h => List.mem_cons_of_mem _ (List.mem_append_left _ (List.mem_append_right _ h))) (by decide +kernel))) (goodIn_sub (fun _ h => List.mem_cons_of_mem _ (List.mem_append_right _ h)) (by decide +kernel))
set_option maxRecDepth 20000 in
theorem gL_bid_L_ask : GoodIn wsL_bid (va_wsS RL 131 yL_ask wsL_ask) := goodIn_app (goodIn_r _ [5, 6, 7] (by decide +kernel) (by decide +kernel)) ggL_bid_L_ask
theorem dL_bid_0 : decode cL_bid 0 = .ok (.iconst 0, 1) := by decide +kernel
theorem dL_bid_1 : decode cL_bid 1 = .ok (.aload_n 0, 1) := by decide +kernel
theorem dL_bid_2 : decode cL_bid 2 = .ok (.iconst 3, 1) := by decide +kernel
theorem dL_bid_3 : decode cL_bid 3 = .ok (.iload_n 1, 1) := by decide +kernel
theorem dL_bid_4 : decode cL_bid 4 = .ok (.iload_n 2, 1) := by decide +kernel
theorem dL_bid_5 : decode cL_bid 5 = .ok (.invokestatic 131, 3) := by decide +kernel
theorem dL_bid_8 : decode cL_bid 8 = .ok (.invokestatic 123, 3) := by decide +kernel
theorem dL_bid_11 : decode cL_bid 11 = .ok (.ireturn, 1) := by decide +kernel
def f_L_bid (K : CT) (i : Int32) (j : Int32) : Int32 := (imax 0 (askV K (3) (i) (j)))
set_option maxHeartbeats 40000000 in
set_option maxRecDepth 100000 in
theorem c_L_bid (l : Launch) (D : va_G) (C : Nat → ClassId) (ev u : Nat → Nat) (K : CT) (T : TX) (i : Int32) (j : Int32) (hl9 : l.stackTraces = false) (hI : GI (kG K)) (hFe : FerOK (kG K)) : KM l yL_bid wsL_bid ({ frames := 11, cells := 3, slots := 18, locals := 215 } : Room) [.ref (u 0), .int i, .int j] D C ev u K T T (some (.int (f_L_bid K i j))) 3 18 := by
  intro x sz hF
  refine Met.ofW (cc := cL_bid) (maxL := 3) (ret := (some .int)) (by decide) rfl ?_
  intro p e s m args below meth c s₁ B hml hv
  obtain ⟨⟨⟨rfl, hsz, hP, hK, hD0, hE, hR, hX, hT9, hV9⟩, hDV⟩, hN, hC⟩ := hv
  have hx := B.exec
  have hb := B.bytes
  have hr := B.returns
  have hts := atoms_spec (ws := wsL_bid) B.pre
  have hown : s.vm.findClass RL = some m.cls := findClass_of_methodNamed B.named
  have hlocks := B.notSynchronized
  subst hsz
  have hD := hD0.self (sz := s.heap.size)
  generalize hAe : va_A (kW C ev u K x) s.heap.size = A at hD hX hV9 hDV ⊢
  have hA : ∀ q : Nat, s.heap.size ≤ q → A q := fun q h => by rw [← hAe]; exact Or.inr h
  have hS : va_S A s.heap s.heap [] := va_S.rf
  have hP : va_P D vwCl (wj [kW C ev u K x]) s.heap := hP
  have hD : va_D A (wj [kW C ev u K x]) := hD
  obtain ⟨hS12, hP4, hlo, hhi⟩ := GI_safe hI
  have hl := lv_entry ([.ref (u 0), .int i, .int j]) (n := 3) (Nat.le_of_ble_eq_true rfl)
  rw [lg_entry_eq]
  generalize (lg_sl ([.ref (u 0), .int i, .int j]) ++ List.replicate (3 - (lg_sl ([.ref (u 0), .int i, .int j])).length) Slot.unset).toArray = ls at hl ⊢
  have hl : lv_has ls 3 [(0, .ref (u 0)), (1, .int i), (2, .int j)] := hl
  obtain ⟨z, hz⟩ : ∃ z, z = f_L_bid K i j := ⟨_, rfl⟩
  rw [← hz]
  suffices hh : ∀ cells slots : Nat, cells = 0 → slots = 0 → W p l e ({ frames := 11, cells := 3, slots := 18, locals := 215 } : Room) s m ([.ref (u 0), .int i, .int j] : List Value).toArray below meth c s.heap [] cells slots (MQ below (eO (fun _ : KX => (some (.int z))) D (kF T) (kW C ev u K) A) ([.ref (u 0), .int i, .int j] : List Value).toArray s 3 18 A) (F0 m 0 ls []) from hh 0 0 rfl rfl
  intro cells slots hc0 hs0
  have hc : cells + (3) ≤ 3 := by omega
  have hs : slots + (18) ≤ 18 := by omega
  clear hc0 hs0
  refine lv_iconst (v := 0) hx hb dL_bid_0 (by decide) ?_
  refine lv_aload_n hx hb dL_bid_1 rfl (lv_at hl 0 rfl) ?_
  refine lv_iconst (v := 3) hx hb dL_bid_2 (by decide) ?_
  refine lv_iload_n hx hb dL_bid_3 rfl (lv_at hl 1 rfl) ?_
  refine lv_iload_n hx hb dL_bid_4 rfl (lv_at hl 2 rfl) ?_
  refine callK (vx_runSW (As := [.ref (u 0), .int 3, .int i, .int j]) (rest := [.int 0]) ⟨hx, hb, hml, hown, hts⟩ (c_L_ask l D C ev u K T (3) (i) (j) hl9 hI hFe (by decide) (ask_ok hI (by decide) _ _) x _ hF) (vx_cwSW 4 hts gL_bid_L_ask rfl rfl rfl (by decide +kernel) ⟨Nat.le_of_ble_eq_true rfl, Nat.le_of_ble_eq_true rfl⟩) (hloP_s (kP hP) hK hE (kD hD) hR hX hT9 hV9 hDV hN hC hS (kFr hD hS hA)) rfl rfl hl.1 rfl (lv_room (Nat.le_of_ble_eq_true rfl)) dL_bid_5 ⟨show _ ≤ 3 from by omega, show _ ≤ 18 from by omega⟩) hP hD hS hA (fun x H locs hF hP hD hS => ?_)
  refine va_mmax hx hb (hml.trans hl.1.symm) hown (hts (.methodLink RL 123 Lib.Math.max.name) (by decide +kernel)) (hts (.static Lib.Math.max.name) (by decide +kernel)) (hts (.initialized "java/lang/Math") (by decide +kernel)) (hts (.code Lib.Math.max.name Lib.Math.max.code 2 (some .int)) (by decide +kernel)) (Nat.le_of_ble_eq_true rfl) (Nat.le_of_ble_eq_true rfl) (show _ ≤ 3 from by omega) (show _ ≤ 18 from by omega) dL_bid_8 ?_
  refine topI (y := (imax 0 (askV K (3) (i) (j)))) rfl ?_
  exact k_retI hx hb hr hF hP hD hS (show _ = (imax 0 (askV K (3) (i) (j))) from hz) (by omega) (by omega) dL_bid_11 hlocks
