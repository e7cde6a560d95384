set_option maxRecDepth 20000 in
theorem ggL_score_X7_siteCount : GoodIn wsL_score wsX7_siteCount := goodIn_r _ [5, 6, 329, 330, 331, 332, 333, 334, 335, 336, 337, 338, 339, 340, 341, 342, 343, 344, 345, 346, 347, 348, 349, 350, 351, 352, 353, 354] (by decide +kernel) (by decide +kernel)
set_option maxRecDepth 20000 in
theorem gL_score_X7_siteCount : GoodIn wsL_score (wsV RL 128 RX7 yX7_siteCount wsX7_siteCount) := goodIn_app (goodIn_r _ [1, 2, 3, 4] (by decide +kernel) (by decide +kernel)) ggL_score_X7_siteCount
set_option maxRecDepth 20000 in
theorem ggL_score_X7_lowerIsland : GoodIn wsL_score wsX7_lowerIsland := goodIn_ca (goodIn_ca (goodIn_r _ [10, 6, 11, 12, 13, 4, 14, 15, 16, 17, 18, 19, 20, 21, 22, 329, 330, 331, 332, 333, 334, 335, 336, 337, 338, 339, 340, 341, 342, 343, 344, 345, 346, 347, 348, 349, 350, 351, 352, 353, 354] (by decide +kernel) (by decide +kernel)) (goodIn_sub (fun _ h => List.mem_cons_of_mem _ (List.mem_append_left _ (List.mem_append_left _ (List.mem_append_left _ (List.mem_append_left _ (List.mem_append_left _ (List.mem_append_right _ h))))))) (by decide +kernel))) (goodIn_sub (fun _ h => List.mem_cons_of_mem _ (List.mem_append_left _ (List.mem_append_left _ (List.mem_append_left _ (List.mem_append_left _ (List.mem_append_right _ h)))))) (by decide +kernel))
set_option maxRecDepth 20000 in
theorem gL_score_X7_lowerIsland : GoodIn wsL_score (wsV RL 162 RX7 yX7_lowerIsland wsX7_lowerIsland) := goodIn_app (goodIn_r _ [7, 8, 9, 4] (by decide +kernel) (by decide +kernel)) ggL_score_X7_lowerIsland
set_option maxRecDepth 20000 in
theorem ggL_score_X7_suit : GoodIn wsL_score wsX7_suit := goodIn_ca (goodIn_ca (goodIn_r _ [26, 6, 27, 28, 4, 29, 15, 16, 30, 31, 20, 32, 329, 330, 331, 332, 333, 334, 335, 336, 337, 338, 339, 340, 341, 342, 343, 344, 345, 346, 347, 348, 349, 350, 351, 352, 353, 354] (by decide +kernel) (by decide +kernel)) (goodIn_sub (fun _ h => List.mem_cons_of_mem _ (List.mem_append_left _ (List.mem_append_left _ (List.mem_append_left _ (List.mem_append_left _ (List.mem_append_left _ (List.mem_append_right _ h))))))) (by decide +kernel))) (goodIn_sub (fun _ h => List.mem_cons_of_mem _ (List.mem_append_left _ (List.mem_append_left _ (List.mem_append_left _ (List.mem_append_left _ (List.mem_append_right _ h)))))) (by decide +kernel))
set_option maxRecDepth 20000 in
theorem gL_score_X7_suit : GoodIn wsL_score (wsV RL 146 RX7 yX7_suit wsX7_suit) := goodIn_app (goodIn_r _ [23, 24, 25, 4] (by decide +kernel) (by decide +kernel)) ggL_score_X7_suit
set_option maxRecDepth 20000 in
theorem ggL_score_X7_higherIsland : GoodIn wsL_score wsX7_higherIsland := goodIn_ca (goodIn_ca (goodIn_r _ [36, 6, 11, 12, 13, 4, 14, 15, 16, 17, 18, 19, 20, 21, 22, 329, 330, 331, 332, 333, 334, 335, 336, 337, 338, 339, 340, 341, 342, 343, 344, 345, 346, 347, 348, 349, 350, 351, 352, 353, 354] (by decide +kernel) (by decide +kernel)) (goodIn_sub (fun _ h => List.mem_cons_of_mem _ (List.mem_append_left _ (List.mem_append_left _ (List.mem_append_left _ (List.mem_append_left _ (List.mem_append_left _ (List.mem_append_right _ h))))))) (by decide +kernel))) (goodIn_sub (fun _ h => List.mem_cons_of_mem _ (List.mem_append_left _ (List.mem_append_left _ (List.mem_append_left _ (List.mem_append_left _ (List.mem_append_right _ h)))))) (by decide +kernel))
set_option maxRecDepth 20000 in
theorem gL_score_X7_higherIsland : GoodIn wsL_score (wsV RL 165 RX7 yX7_higherIsland wsX7_higherIsland) := goodIn_app (goodIn_r _ [33, 34, 35, 4] (by decide +kernel) (by decide +kernel)) ggL_score_X7_higherIsland
set_option maxRecDepth 20000 in
theorem ggL_score_L_ask : GoodIn wsL_score wsL_ask := goodIn_ca (goodIn_ca (goodIn_ca (goodIn_ca (goodIn_ca (goodIn_ca (goodIn_r _ [40, 41, 42, 43, 39, 44, 45, 46, 47, 4, 48, 49, 6, 27, 28, 29, 15, 16, 30, 31, 20, 32, 50, 51, 52, 53, 54, 55, 56, 57, 58, 59, 60, 61, 62, 63, 64, 65, 66, 67, 68, 69, 70, 71, 72, 73, 74, 75, 76, 77, 78, 79, 80, 81, 82, 83, 84, 85, 86, 87, 88, 89, 90, 91, 92, 93, 94, 95, 96, 97, 98, 99, 100, 101, 102, 103, 104, 105, 106, 107, 108, 11, 12, 13, 14, 17, 18, 19, 21, 22, 109, 110, 111, 112, 113, 114, 115, 116, 117, 118, 119, 120, 121, 122, 123, 124, 125, 126, 127, 128, 129, 130, 131, 132, 133, 134, 135, 136, 137, 138, 139, 140, 141, 142, 143, 144, 145, 146, 147, 148, 149, 150, 151, 152, 153, 154, 155, 156, 157, 158, 159, 160, 161, 162, 163, 164, 165, 166, 167, 168, 169, 170, 171, 172, 173, 174, 175, 176, 177, 178, 179, 180, 181, 182, 183, 184, 185, 186, 187, 188, 189, 190, 191, 192, 193, 194, 195, 196, 197, 198, 199, 200, 201, 202, 203, 204, 205, 206, 207, 208, 209, 210, 211, 212, 213, 214, 215, 216, 217, 218, 219, 220, 221, 222, 223, 224, 225, 226, 227, 228, 229, 230, 231, 232, 233, 234, 235, 236, 237, 238, 239, 240, 241, 242, 243, 244, 245, 246, 247, 248, 249, 250, 251, 252, 253, 254, 255, 256, 257, 258, 259, 260, 261, 262, 263, 264, 265, 266, 267, 268, 269, 270, 271, 272, 273, 274, 275, 276, 277, 278, 279, 280, 281, 282, 283, 284, 285, 286, 287, 288, 289, 290, 291, 292, 293, 294, 295, 296, 297, 298, 299, 300, 301, 302, 303, 304, 305, 306, 307, 308, 309, 310, 311, 312, 313, 314, 315, 316, 317, 318, 319, 320, 321, 322, 323, 324, 325, 326, 327, 328, 329, 330, 331, 332, 333, 334, 335, 336, 337, 338, 355, 356, 357, 339, 340, 341, 342, 343, 344, 345, 346, 347, 348, 349, 350, 351, 352, 353, 354] (by decide +kernel) (by decide +kernel)) (goodIn_sub (fun _ h => List.mem_cons_of_mem _ (List.mem_append_left _ (List.mem_append_left _ (List.mem_append_left _ (List.mem_append_left _ (List.mem_append_left _ (List.mem_append_right _ h))))))) (by decide +kernel))) (goodIn_sub (fun _ h => List.mem_cons_of_mem _ (List.mem_append_left _ (List.mem_append_left _ (List.mem_append_left _ (List.mem_append_left _ (List.mem_append_right _ h)))))) (by decide +kernel))) (goodIn_sub (fun _ h => List.mem_cons_of_mem _ (List.mem_append_left _ (List.mem_append_left _ (List.mem_append_left _ (List.mem_append_right _ h))))) (by decide +kernel))) (goodIn_sub (fun _ h => List.mem_cons_of_mem _ (List.mem_append_left _ (List.mem_append_left _ (List.mem_append_right _ h)))) (by decide +kernel))) (goodIn_sub (fun _ h => List.mem_cons_of_mem _ (List.mem_append_left _ (List.mem_append_right _ h))) (by decide +kernel))) (goodIn_sub (fun _ h => List.mem_cons_of_mem _ (List.mem_append_right _ h)) (by decide +kernel))
set_option maxRecDepth 20000 in
theorem gL_score_L_ask : GoodIn wsL_score (va_wsS RL 131 yL_ask wsL_ask) := goodIn_app (goodIn_r _ [37, 38, 39] (by decide +kernel) (by decide +kernel)) ggL_score_L_ask
set_option maxRecDepth 20000 in
theorem ggL_score_X7_length : GoodIn wsL_score wsX7_length := goodIn_ca (goodIn_ca (goodIn_r _ [324, 6, 11, 12, 13, 4, 14, 15, 16, 17, 18, 19, 20, 21, 22, 329, 330, 331, 332, 333, 334, 335, 336, 337, 338, 339, 340, 341, 342, 343, 344, 345, 346, 347, 348, 349, 350, 351, 352, 353, 354] (by decide +kernel) (by decide +kernel)) (goodIn_sub (fun _ h => List.mem_cons_of_mem _ (List.mem_append_left _ (List.mem_append_left _ (List.mem_append_left _ (List.mem_append_left _ (List.mem_append_left _ (List.mem_append_right _ h))))))) (by decide +kernel))) (goodIn_sub (fun _ h => List.mem_cons_of_mem _ (List.mem_append_left _ (List.mem_append_left _ (List.mem_append_left _ (List.mem_append_left _ (List.mem_append_right _ h)))))) (by decide +kernel))
set_option maxRecDepth 20000 in
theorem gL_score_X7_length : GoodIn wsL_score (wsV RL 103 RX7 yX7_length wsX7_length) := goodIn_app (goodIn_r _ [321, 322, 323, 4] (by decide +kernel) (by decide +kernel)) ggL_score_X7_length
theorem dL_score_0 : decode cL_score 0 = .ok (.iconst 0, 1) := by decide +kernel
theorem dL_score_1 : decode cL_score 1 = .ok (.istore_n 2, 1) := by decide +kernel
theorem dL_score_2 : decode cL_score 2 = .ok (.iconst 0, 1) := by decide +kernel
theorem dL_score_3 : decode cL_score 3 = .ok (.istore_n 3, 1) := by decide +kernel
theorem dL_score_4 : decode cL_score 4 = .ok (.iload_n 3, 1) := by decide +kernel
theorem dL_score_5 : decode cL_score 5 = .ok (.aload_n 0, 1) := by decide +kernel
theorem dL_score_6 : decode cL_score 6 = .ok (.invokevirtual 128, 3) := by decide +kernel
theorem dL_score_9 : decode cL_score 9 = .ok (.if_icmp .ge 71, 3) := by decide +kernel
theorem dL_score_12 : decode cL_score 12 = .ok (.aload_n 0, 1) := by decide +kernel
theorem dL_score_13 : decode cL_score 13 = .ok (.aload_n 0, 1) := by decide +kernel
theorem dL_score_14 : decode cL_score 14 = .ok (.iload_n 3, 1) := by decide +kernel
theorem dL_score_15 : decode cL_score 15 = .ok (.invokevirtual 162, 3) := by decide +kernel
theorem dL_score_18 : decode cL_score 18 = .ok (.invokevirtual 146, 3) := by decide +kernel
theorem dL_score_21 : decode cL_score 21 = .ok (.aload_n 0, 1) := by decide +kernel
theorem dL_score_22 : decode cL_score 22 = .ok (.aload_n 0, 1) := by decide +kernel
theorem dL_score_23 : decode cL_score 23 = .ok (.iload_n 3, 1) := by decide +kernel
theorem dL_score_24 : decode cL_score 24 = .ok (.invokevirtual 165, 3) := by decide +kernel
theorem dL_score_27 : decode cL_score 27 = .ok (.invokevirtual 146, 3) := by decide +kernel
theorem dL_score_30 : decode cL_score 30 = .ok (.if_icmp .ne 7, 3) := by decide +kernel
theorem dL_score_33 : decode cL_score 33 = .ok (.iconst 1, 1) := by decide +kernel
theorem dL_score_34 : decode cL_score 34 = .ok (.goto 4, 3) := by decide +kernel
theorem dL_score_37 : decode cL_score 37 = .ok (.iconst 0, 1) := by decide +kernel
theorem dL_score_38 : decode cL_score 38 = .ok (.istore 4, 2) := by decide +kernel
theorem dL_score_40 : decode cL_score 40 = .ok (.iload_n 2, 1) := by decide +kernel
theorem dL_score_41 : decode cL_score 41 = .ok (.aload_n 0, 1) := by decide +kernel
theorem dL_score_42 : decode cL_score 42 = .ok (.iconst 2, 1) := by decide +kernel
theorem dL_score_43 : decode cL_score 43 = .ok (.iload_n 3, 1) := by decide +kernel
theorem dL_score_44 : decode cL_score 44 = .ok (.iconst 0, 1) := by decide +kernel
theorem dL_score_45 : decode cL_score 45 = .ok (.invokestatic 131, 3) := by decide +kernel
theorem dL_score_48 : decode cL_score 48 = .ok (.iload_n 1, 1) := by decide +kernel
theorem dL_score_49 : decode cL_score 49 = .ok (.if_icmp .ne 22, 3) := by decide +kernel
theorem dL_score_52 : decode cL_score 52 = .ok (.aload_n 0, 1) := by decide +kernel
theorem dL_score_53 : decode cL_score 53 = .ok (.iload_n 3, 1) := by decide +kernel
theorem dL_score_54 : decode cL_score 54 = .ok (.invokevirtual 103, 3) := by decide +kernel
theorem dL_score_57 : decode cL_score 57 = .ok (.iload 4, 2) := by decide +kernel
theorem dL_score_59 : decode cL_score 59 = .ok (.ifCond .eq 7, 3) := by decide +kernel
theorem dL_score_62 : decode cL_score 62 = .ok (.iconst 3, 1) := by decide +kernel
theorem dL_score_63 : decode cL_score 63 = .ok (.goto 4, 3) := by decide +kernel
theorem dL_score_66 : decode cL_score 66 = .ok (.iconst 0, 1) := by decide +kernel
theorem dL_score_67 : decode cL_score 67 = .ok (.iadd, 1) := by decide +kernel
theorem dL_score_68 : decode cL_score 68 = .ok (.goto 4, 3) := by decide +kernel
theorem dL_score_71 : decode cL_score 71 = .ok (.iconst 0, 1) := by decide +kernel
theorem dL_score_72 : decode cL_score 72 = .ok (.iadd, 1) := by decide +kernel
theorem dL_score_73 : decode cL_score 73 = .ok (.istore_n 2, 1) := by decide +kernel
theorem dL_score_74 : decode cL_score 74 = .ok (.iinc 3 1, 3) := by decide +kernel
theorem dL_score_77 : decode cL_score 77 = .ok (.goto (-73), 3) := by decide +kernel
theorem dL_score_80 : decode cL_score 80 = .ok (.iload_n 2, 1) := by decide +kernel
theorem dL_score_81 : decode cL_score 81 = .ok (.ireturn, 1) := by decide +kernel
def f_L_score_j72  (s0_72 : Int32) (s1_72 : Int32) : Sum (Int32) (Int32) := (Sum.inr (s1_72 + s0_72))
def f_L_score_j67  (s0_67 : Int32) (s1_67 : Int32) (s2_67 : Int32) : Sum (Int32) (Int32) := (f_L_score_j72 ((s1_67 + s0_67)) (s2_67))
def f_L_score_j38 (K : CT) (i : Int32) (k4 : Nat) (v2_38 : Int32) (s0_38 : Bool) : Sum (Int32) (Int32) := (if (askV K (2) ((nI k4)) (0)) = i then (if s0_38 = true then (f_L_score_j67 (3) ((gLen (kG K) k4)) (v2_38)) else (f_L_score_j67 (0) ((gLen (kG K) k4)) (v2_38))) else (f_L_score_j72 (0) (v2_38)))
def f_L_score_l4b (K : CT) (i : Int32) (k4 : Nat) (v2_4 : Int32) : Sum (Int32) (Int32) := (if (gSuit (kG K) (gLo (kG K) k4)) = (gSuit (kG K) (gHi (kG K) k4)) then (f_L_score_j38 K i k4 (v2_4) (true)) else (f_L_score_j38 K i k4 (v2_4) (false)))
def f_L_score_l4x (K : CT) (i : Int32) (v2_4 : Int32) : Int32 := v2_4
def f_L_score_l4s (K : CT) (i : Int32) (k4 : Nat) (q_ : Int32) : Sum (Int32) (Int32) := f_L_score_l4b K i k4 (q_)
def f_L_score_l4e (K : CT) (i : Int32) (q_ : Int32) : Int32 := f_L_score_l4x K i (q_)
def f_L_score_l4 (K : CT) (i : Int32) (n4 k4 : Nat) (v2_4 : Int32) : Int32 := lpF (f_L_score_l4s K i) (f_L_score_l4e K i) n4 k4 v2_4
def f_L_score (K : CT) (i : Int32) : Int32 := (f_L_score_l4 K i (gS (kG K)) 0 (0))
set_option maxHeartbeats 40000000 in
set_option maxRecDepth 100000 in
theorem c_L_score (l : Launch) (D : va_G) (C : Nat → ClassId) (ev u : Nat → Nat) (K : CT) (T : TX) (i : Int32) (hl9 : l.stackTraces = false) (hI : GI (kG K)) (hFe : FerOK (kG K)) : KM l yL_score wsL_score ({ frames := 11, cells := 104, slots := 624, locals := 215 } : Room) [.ref (u 0), .int i] D C ev u K T T (some (.int (f_L_score K i))) 104 624 := by
  intro x sz hF
  refine Met.ofW (cc := cL_score) (maxL := 5) (ret := (some .int)) (by decide) rfl ?_
  intro p e s m args below meth c s₁ B hml hv
  obtain ⟨⟨⟨rfl, hsz, hP, hK, hD0, hE, hR, hX, hT9, hV9⟩, hDV⟩, hN, hC⟩ := hv
  have hx := B.exec
  have hb := B.bytes
  have hr := B.returns
  have hts := atoms_spec (ws := wsL_score) B.pre
  have hown : s.vm.findClass RL = some m.cls := findClass_of_methodNamed B.named
  have hlocks := B.notSynchronized
  subst hsz
  have hD := hD0.self (sz := s.heap.size)
  generalize hAe : va_A (kW C ev u K x) s.heap.size = A at hD hX hV9 hDV ⊢
  have hA : ∀ q : Nat, s.heap.size ≤ q → A q := fun q h => by rw [← hAe]; exact Or.inr h
  have hS : va_S A s.heap s.heap [] := va_S.rf
  have hP : va_P D vwCl (wj [kW C ev u K x]) s.heap := hP
  have hD : va_D A (wj [kW C ev u K x]) := hD
  obtain ⟨hS12, hP4, hlo, hhi⟩ := GI_safe hI
  have hl := lv_entry ([.ref (u 0), .int i]) (n := 5) (Nat.le_of_ble_eq_true rfl)
  rw [lg_entry_eq]
  generalize (lg_sl ([.ref (u 0), .int i]) ++ List.replicate (5 - (lg_sl ([.ref (u 0), .int i])).length) Slot.unset).toArray = ls at hl ⊢
  have hl : lv_has ls 5 [(0, .ref (u 0)), (1, .int i)] := hl
  obtain ⟨z, hz⟩ : ∃ z, z = f_L_score K i := ⟨_, rfl⟩
  rw [← hz]
  suffices hh : ∀ cells slots : Nat, cells = 0 → slots = 0 → W p l e ({ frames := 11, cells := 104, slots := 624, locals := 215 } : Room) s m ([.ref (u 0), .int i] : List Value).toArray below meth c s.heap [] cells slots (MQ below (eO (fun _ : KX => (some (.int z))) D (kF T) (kW C ev u K) A) ([.ref (u 0), .int i] : List Value).toArray s 104 624 A) (F0 m 0 ls []) from hh 0 0 rfl rfl
  intro cells slots hc0 hs0
  have hc : cells + (104) ≤ 104 := by omega
  have hs : slots + (624) ≤ 624 := by omega
  clear hc0 hs0
  have J4 : ∀ (n4 k4 : Nat) (v2_4 : Int32) (x : KX) (H : Heap) (locs : List Loc) (cells slots : Nat) (ls : Array Slot), k4 + n4 = gS (kG K) → z = f_L_score_l4 K i n4 k4 v2_4 → kF T x → cells + ((n4 + 1) * 8) ≤ 104 → slots + ((n4 + 1) * 48) ≤ 624 → va_P D vwCl (wj [kW C ev u K x]) H → va_D A (wj [kW C ev u K x]) → va_S A s.heap H locs → lv_has ls 5 [(0, .ref (u 0)), (1, .int i), (2, .int v2_4), (3, .int (nI k4))] → W p l e ({ frames := 11, cells := 104, slots := 624, locals := 215 } : Room) s m ([.ref (u 0), .int i] : List Value).toArray below meth c H locs cells slots (MQ below (eO (fun _ : KX => (some (.int z))) D (kF T) (kW C ev u K) A) ([.ref (u 0), .int i] : List Value).toArray s 104 624 A) (F0 m 4 ls []) := by
    intro n4
    induction n4 with
    | zero =>
      intro k4 v2_4 x H locs cells slots ls hk4 hz  hF hc hs hP hD hS hl
      have hz : z = f_L_score_l4x K i v2_4 := hz
      refine lv_iload_n hx hb dL_score_4 rfl (lv_at hl 3 rfl) ?_
      refine lv_aload_n hx hb dL_score_5 rfl (lv_at hl 0 rfl) ?_
      refine callK (va_runV (As := []) (rest := [.int (nI k4)]) ⟨hx, hb, hml, hown, hts⟩ (k_siteCount (l := l) (D := D) (C := C) (ev := ev) (u := u) (T := T) hl9 hI x _ hF) (cwV 0 hts gL_score_X7_siteCount rfl rfl rfl (by decide +kernel) ⟨Nat.le_of_ble_eq_true rfl, Nat.le_of_ble_eq_true rfl⟩) (hloP_v (kP hP) hK hE (kD hD) hR hX hT9 hV9 hDV hN hC hS (kFr hD hS hA) (kRc hK hP)) rfl rfl hl.1 rfl (lv_room (Nat.le_of_ble_eq_true rfl)) dL_score_6 ⟨show _ ≤ 104 from by omega, show _ ≤ 624 from by omega⟩) hP hD hS hA (fun x H locs hF hP hD hS => ?_)
      refine lv_icmp_ge (tgt := 80) hx hb dL_score_9 (by decide) (fun c_9 => ?_) (fun c_9 => absurd (nI_le (by omega) (by omega)) c_9)
      refine lv_iload_n hx hb dL_score_80 rfl (lv_at hl 2 rfl) ?_
      exact k_retI hx hb hr hF hP hD hS (show _ = v2_4 from hz) (by omega) (by omega) dL_score_81 hlocks
    | succ n4 ih4 =>
      intro k4 v2_4 x H locs cells slots ls hk4 hz4  hF hc hs hP hD hS hl
      obtain ⟨z4, hz⟩ : ∃ zz_, zz_ = f_L_score_l4b K i k4 v2_4 := ⟨_, rfl⟩
      have hq4 : z = sE id (fun q_ => lpF (f_L_score_l4s K i) (f_L_score_l4e K i) n4 (k4 + 1) q_) z4 := by rw [hz4, hz]; rfl
      have J72 : ∀ (s0_72 : Int32) (s1_72 : Int32)  (x : KX) (H : Heap) (locs : List Loc) (cells slots : Nat) (ls : Array Slot), z4 = f_L_score_j72 s0_72 s1_72 → kF T x → cells + ((n4 + 1) * 8) ≤ 104 → slots + ((n4 + 1) * 48) ≤ 624 → va_P D vwCl (wj [kW C ev u K x]) H → va_D A (wj [kW C ev u K x]) → va_S A s.heap H locs → lv_has ls 5 [(0, .ref (u 0)), (1, .int i), (3, .int (nI k4))] → W p l e ({ frames := 11, cells := 104, slots := 624, locals := 215 } : Room) s m ([.ref (u 0), .int i] : List Value).toArray below meth c H locs cells slots (MQ below (eO (fun _ : KX => (some (.int z))) D (kF T) (kW C ev u K) A) ([.ref (u 0), .int i] : List Value).toArray s 104 624 A) (F0 m 72 ls [.int s0_72, .int s1_72]) := by
        intro s0_72 s1_72 x H locs cells slots ls hz  hF hc hs hP hD hS hl
        refine lv_iadd hx hb dL_score_72 ?_
        refine lv_istore_n (lv' := [(2, .int (s1_72 + s0_72)), (0, .ref (u 0)), (1, .int i), (3, .int (nI k4))]) hx hb dL_score_73 rfl hl (by decide) rfl (fun ls hl => ?_)
        refine lv_iinc (v := (nI (k4 + 1))) (lv' := [(3, .int (nI (k4 + 1))), (2, .int (s1_72 + s0_72)), (0, .ref (u 0)), (1, .int i)]) hx hb dL_score_74 hl (k := 3) rfl (by exact nI_1 _) (by decide) rfl (fun ls hl => ?_)
        refine lv_goto (tgt := 4) hx hb dL_score_77 (by decide) ?_
        exact ih4 (k4 + 1) ((s1_72 + s0_72)) _ _ _ _ _ ls (by omega) (by rw [hq4, hz]; rfl)  hF (by omega) (by omega) hP hD hS (lv_sub hl [2, 3, 1, 0] rfl)
      have J67 : ∀ (s0_67 : Int32) (s1_67 : Int32) (s2_67 : Int32)  (x : KX) (H : Heap) (locs : List Loc) (cells slots : Nat) (ls : Array Slot), z4 = f_L_score_j67 s0_67 s1_67 s2_67 → kF T x → cells + ((n4 + 1) * 8) ≤ 104 → slots + ((n4 + 1) * 48) ≤ 624 → va_P D vwCl (wj [kW C ev u K x]) H → va_D A (wj [kW C ev u K x]) → va_S A s.heap H locs → lv_has ls 5 [(0, .ref (u 0)), (1, .int i), (3, .int (nI k4))] → W p l e ({ frames := 11, cells := 104, slots := 624, locals := 215 } : Room) s m ([.ref (u 0), .int i] : List Value).toArray below meth c H locs cells slots (MQ below (eO (fun _ : KX => (some (.int z))) D (kF T) (kW C ev u K) A) ([.ref (u 0), .int i] : List Value).toArray s 104 624 A) (F0 m 67 ls [.int s0_67, .int s1_67, .int s2_67]) := by
        intro s0_67 s1_67 s2_67 x H locs cells slots ls hz  hF hc hs hP hD hS hl
        refine lv_iadd hx hb dL_score_67 ?_
        refine lv_goto (tgt := 72) hx hb dL_score_68 (by decide) ?_
        exact J72 ((s1_67 + s0_67)) (s2_67) _ _ _ _ _ ls hz  hF (by omega) (by omega) hP hD hS (lv_sub hl [0, 1, 2] rfl)
      have J38 : ∀ (v2_38 : Int32) (s0_38 : Bool)  (x : KX) (H : Heap) (locs : List Loc) (cells slots : Nat) (ls : Array Slot), z4 = f_L_score_j38 K i k4 v2_38 s0_38 → kF T x → cells + (4 + (n4 + 1) * 8) ≤ 104 → slots + (24 + (n4 + 1) * 48) ≤ 624 → va_P D vwCl (wj [kW C ev u K x]) H → va_D A (wj [kW C ev u K x]) → va_S A s.heap H locs → lv_has ls 5 [(0, .ref (u 0)), (1, .int i), (2, .int v2_38), (3, .int (nI k4))] → W p l e ({ frames := 11, cells := 104, slots := 624, locals := 215 } : Room) s m ([.ref (u 0), .int i] : List Value).toArray below meth c H locs cells slots (MQ below (eO (fun _ : KX => (some (.int z))) D (kF T) (kW C ev u K) A) ([.ref (u 0), .int i] : List Value).toArray s 104 624 A) (F0 m 38 ls [.int (bI s0_38)]) := by
        intro v2_38 s0_38 x H locs cells slots ls hz  hF hc hs hP hD hS hl
        refine lv_istore (lv' := [(4, .int (bI s0_38)), (0, .ref (u 0)), (1, .int i), (2, .int v2_38), (3, .int (nI k4))]) hx hb dL_score_38 hl (by decide) rfl (fun ls hl => ?_)
        refine lv_iload_n hx hb dL_score_40 rfl (lv_at hl 3 rfl) ?_
        refine lv_aload_n hx hb dL_score_41 rfl (lv_at hl 1 rfl) ?_
        refine lv_iconst (v := 2) hx hb dL_score_42 (by decide) ?_
        refine lv_iload_n hx hb dL_score_43 rfl (lv_at hl 4 rfl) ?_
        refine lv_iconst (v := 0) hx hb dL_score_44 (by decide) ?_
        refine callK (vx_runSW (As := [.ref (u 0), .int 2, .int (nI k4), .int 0]) (rest := [.int v2_38]) ⟨hx, hb, hml, hown, hts⟩ (c_L_ask l D C ev u K T (2) ((nI k4)) (0) hl9 hI hFe (by decide) (ask_ok hI (by decide) _ _) x _ hF) (vx_cwSW 4 hts gL_score_L_ask rfl rfl rfl (by decide +kernel) ⟨Nat.le_of_ble_eq_true rfl, Nat.le_of_ble_eq_true rfl⟩) (hloP_s (kP hP) hK hE (kD hD) hR hX hT9 hV9 hDV hN hC hS (kFr hD hS hA)) rfl rfl hl.1 rfl (lv_room (Nat.le_of_ble_eq_true rfl)) dL_score_45 ⟨show _ ≤ 104 from by omega, show _ ≤ 624 from by omega⟩) hP hD hS hA (fun x H locs hF hP hD hS => ?_)
        refine lv_iload_n hx hb dL_score_48 rfl (lv_at hl 2 rfl) ?_
        refine lv_icmp_ne (tgt := 71) hx hb dL_score_49 (by decide) (fun c_49 => ?_) (fun c_49 => ?_)
        · have hz := hz.trans (if_neg c_49)
          refine lv_iconst (v := 0) hx hb dL_score_71 (by decide) ?_
          exact J72 (0) (v2_38) _ _ _ _ _ ls hz  hF (by omega) (by omega) hP hD hS (lv_sub hl [1, 2, 4] rfl)
        · have hz := hz.trans (if_pos c_49)
          refine lv_aload_n hx hb dL_score_52 rfl (lv_at hl 1 rfl) ?_
          refine lv_iload_n hx hb dL_score_53 rfl (lv_at hl 4 rfl) ?_
          refine callK (va_runV (As := [.int (nI k4)]) (rest := [.int v2_38]) ⟨hx, hb, hml, hown, hts⟩ (k_length (l := l) (D := D) (C := C) (ev := ev) (u := u) (T := T) hl9 hI (k := k4) (by omega) x _ hF) (cwV 1 hts gL_score_X7_length rfl rfl rfl (by decide +kernel) ⟨Nat.le_of_ble_eq_true rfl, Nat.le_of_ble_eq_true rfl⟩) (hloP_v (kP hP) hK hE (kD hD) hR hX hT9 hV9 hDV hN hC hS (kFr hD hS hA) (kRc hK hP)) rfl rfl hl.1 rfl (lv_room (Nat.le_of_ble_eq_true rfl)) dL_score_54 ⟨show _ ≤ 104 from by omega, show _ ≤ 624 from by omega⟩) hP hD hS hA (fun x H locs hF hP hD hS => ?_)
          refine lv_iload hx hb dL_score_57 (lv_at hl 0 rfl) ?_
          refine bif_eq (tgt := 66) hx hb dL_score_59 (by decide) (fun c_59 => ?_) (fun c_59 => ?_)
          · have hz := hz.trans (ifB_f c_59)
            refine lv_iconst (v := 0) hx hb dL_score_66 (by decide) ?_
            exact J67 (0) ((gLen (kG K) k4)) (v2_38) _ _ _ _ _ ls hz  hF (by omega) (by omega) hP hD hS (lv_sub hl [1, 2, 4] rfl)
          · have hz := hz.trans (ifB_t c_59)
            refine lv_iconst (v := 3) hx hb dL_score_62 (by decide) ?_
            refine lv_goto (tgt := 67) hx hb dL_score_63 (by decide) ?_
            exact J67 (3) ((gLen (kG K) k4)) (v2_38) _ _ _ _ _ ls hz  hF (by omega) (by omega) hP hD hS (lv_sub hl [1, 2, 4] rfl)
      refine lv_iload_n hx hb dL_score_4 rfl (lv_at hl 3 rfl) ?_
      refine lv_aload_n hx hb dL_score_5 rfl (lv_at hl 0 rfl) ?_
      refine callK (va_runV (As := []) (rest := [.int (nI k4)]) ⟨hx, hb, hml, hown, hts⟩ (k_siteCount (l := l) (D := D) (C := C) (ev := ev) (u := u) (T := T) hl9 hI x _ hF) (cwV 0 hts gL_score_X7_siteCount rfl rfl rfl (by decide +kernel) ⟨Nat.le_of_ble_eq_true rfl, Nat.le_of_ble_eq_true rfl⟩) (hloP_v (kP hP) hK hE (kD hD) hR hX hT9 hV9 hDV hN hC hS (kFr hD hS hA) (kRc hK hP)) rfl rfl hl.1 rfl (lv_room (Nat.le_of_ble_eq_true rfl)) dL_score_6 ⟨show _ ≤ 104 from by omega, show _ ≤ 624 from by omega⟩) hP hD hS hA (fun x H locs hF hP hD hS => ?_)
      refine lv_icmp_ge (tgt := 80) hx hb dL_score_9 (by decide) (fun c_9 => absurd c_9 (nI_ge (by omega) (by omega))) (fun c_9 => ?_)
      refine lv_aload_n hx hb dL_score_12 rfl (lv_at hl 0 rfl) ?_
      refine lv_aload_n hx hb dL_score_13 rfl (lv_at hl 0 rfl) ?_
      refine lv_iload_n hx hb dL_score_14 rfl (lv_at hl 3 rfl) ?_
      refine callK (va_runV (As := [.int (nI k4)]) (rest := [.ref (u 0)]) ⟨hx, hb, hml, hown, hts⟩ (k_lowerIsland (l := l) (D := D) (C := C) (ev := ev) (u := u) (T := T) hl9 hI (k := k4) (by omega) x _ hF) (cwV 1 hts gL_score_X7_lowerIsland rfl rfl rfl (by decide +kernel) ⟨Nat.le_of_ble_eq_true rfl, Nat.le_of_ble_eq_true rfl⟩) (hloP_v (kP hP) hK hE (kD hD) hR hX hT9 hV9 hDV hN hC hS (kFr hD hS hA) (kRc hK hP)) rfl rfl hl.1 rfl (lv_room (Nat.le_of_ble_eq_true rfl)) dL_score_15 ⟨show _ ≤ 104 from by omega, show _ ≤ 624 from by omega⟩) hP hD hS hA (fun x H locs hF hP hD hS => ?_)
      have hb_1 := hlo (k4)
      refine callK (va_runV (As := [.int (nI (gLo (kG K) k4))]) (rest := []) ⟨hx, hb, hml, hown, hts⟩ (k_suit (l := l) (D := D) (C := C) (ev := ev) (u := u) (T := T) hl9 hI (k := (gLo (kG K) k4)) (by omega) x _ hF) (cwV 1 hts gL_score_X7_suit rfl rfl rfl (by decide +kernel) ⟨Nat.le_of_ble_eq_true rfl, Nat.le_of_ble_eq_true rfl⟩) (hloP_v (kP hP) hK hE (kD hD) hR hX hT9 hV9 hDV hN hC hS (kFr hD hS hA) (kRc hK hP)) rfl rfl hl.1 rfl (lv_room (Nat.le_of_ble_eq_true rfl)) dL_score_18 ⟨show _ ≤ 104 from by omega, show _ ≤ 624 from by omega⟩) hP hD hS hA (fun x H locs hF hP hD hS => ?_)
      refine lv_aload_n hx hb dL_score_21 rfl (lv_at hl 0 rfl) ?_
      refine lv_aload_n hx hb dL_score_22 rfl (lv_at hl 0 rfl) ?_
      refine lv_iload_n hx hb dL_score_23 rfl (lv_at hl 3 rfl) ?_
      refine callK (va_runV (As := [.int (nI k4)]) (rest := [.ref (u 0), .int (gSuit (kG K) (gLo (kG K) k4))]) ⟨hx, hb, hml, hown, hts⟩ (k_higherIsland (l := l) (D := D) (C := C) (ev := ev) (u := u) (T := T) hl9 hI (k := k4) (by omega) x _ hF) (cwV 1 hts gL_score_X7_higherIsland rfl rfl rfl (by decide +kernel) ⟨Nat.le_of_ble_eq_true rfl, Nat.le_of_ble_eq_true rfl⟩) (hloP_v (kP hP) hK hE (kD hD) hR hX hT9 hV9 hDV hN hC hS (kFr hD hS hA) (kRc hK hP)) rfl rfl hl.1 rfl (lv_room (Nat.le_of_ble_eq_true rfl)) dL_score_24 ⟨show _ ≤ 104 from by omega, show _ ≤ 624 from by omega⟩) hP hD hS hA (fun x H locs hF hP hD hS => ?_)
      have hb_2 := hhi (k4)
      refine callK (va_runV (As := [.int (nI (gHi (kG K) k4))]) (rest := [.int (gSuit (kG K) (gLo (kG K) k4))]) ⟨hx, hb, hml, hown, hts⟩ (k_suit (l := l) (D := D) (C := C) (ev := ev) (u := u) (T := T) hl9 hI (k := (gHi (kG K) k4)) (by omega) x _ hF) (cwV 1 hts gL_score_X7_suit rfl rfl rfl (by decide +kernel) ⟨Nat.le_of_ble_eq_true rfl, Nat.le_of_ble_eq_true rfl⟩) (hloP_v (kP hP) hK hE (kD hD) hR hX hT9 hV9 hDV hN hC hS (kFr hD hS hA) (kRc hK hP)) rfl rfl hl.1 rfl (lv_room (Nat.le_of_ble_eq_true rfl)) dL_score_27 ⟨show _ ≤ 104 from by omega, show _ ≤ 624 from by omega⟩) hP hD hS hA (fun x H locs hF hP hD hS => ?_)
      refine lv_icmp_ne (tgt := 37) hx hb dL_score_30 (by decide) (fun c_30 => ?_) (fun c_30 => ?_)
      · have hz := hz.trans (if_neg c_30)
        refine lv_iconst (v := 0) hx hb dL_score_37 (by decide) ?_
        exact J38 (v2_4) (false) _ _ _ _ _ ls hz  hF (by omega) (by omega) hP hD hS (lv_sub hl [0, 1, 2, 3] rfl)
      · have hz := hz.trans (if_pos c_30)
        refine lv_iconst (v := 1) hx hb dL_score_33 (by decide) ?_
        refine lv_goto (tgt := 38) hx hb dL_score_34 (by decide) ?_
        exact J38 (v2_4) (true) _ _ _ _ _ ls hz  hF (by omega) (by omega) hP hD hS (lv_sub hl [0, 1, 2, 3] rfl)
  refine lv_iconst (v := 0) hx hb dL_score_0 (by decide) ?_
  refine lv_istore_n (lv' := [(2, .int 0), (0, .ref (u 0)), (1, .int i)]) hx hb dL_score_1 rfl hl (by decide) rfl (fun ls hl => ?_)
  refine lv_iconst (v := 0) hx hb dL_score_2 (by decide) ?_
  refine lv_istore_n (lv' := [(3, .int 0), (2, .int 0), (0, .ref (u 0)), (1, .int i)]) hx hb dL_score_3 rfl hl (by decide) rfl (fun ls hl => ?_)
  exact J4 (gS (kG K)) 0 (0) _ _ _ _ _ ls (by omega) hz  hF (by omega) (by omega) hP hD hS (lv_sub hl [2, 3, 1, 0] rfl)
