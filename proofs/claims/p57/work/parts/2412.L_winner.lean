set_option maxRecDepth 20000 in
theorem ggL_winner_X7_playerCount : GoodIn wsL_winner wsX7_playerCount := goodIn_r _ [316, 15, 321, 322, 323, 324, 325, 326, 327, 328, 329, 330, 334, 335, 336, 337, 338, 339, 340, 341, 342, 343, 344, 345, 346, 347, 348, 349] (by decide +kernel) (by decide +kernel)
set_option maxRecDepth 20000 in
theorem gL_winner_X7_playerCount : GoodIn wsL_winner (wsV RL 120 RX7 yX7_playerCount wsX7_playerCount) := goodIn_app (goodIn_r _ [313, 314, 315, 12] (by decide +kernel) (by decide +kernel)) ggL_winner_X7_playerCount
set_option maxRecDepth 20000 in
theorem ggL_winner_L_bid : GoodIn wsL_winner wsL_bid := goodIn_ca (goodIn_ca (goodIn_ca (goodIn_ca (goodIn_ca (goodIn_ca (goodIn_r _ [319, 320, 181, 48, 182, 1, 2, 3, 4, 5, 6, 7, 8, 9, 10, 11, 12, 13, 14, 15, 16, 17, 18, 19, 20, 21, 22, 23, 24, 25, 26, 27, 28, 29, 30, 31, 32, 33, 34, 35, 36, 37, 38, 39, 40, 41, 42, 43, 44, 45, 46, 47, 49, 50, 51, 52, 53, 54, 55, 56, 57, 58, 59, 60, 61, 62, 63, 64, 65, 66, 67, 68, 69, 70, 71, 72, 73, 74, 75, 76, 77, 78, 79, 80, 81, 82, 83, 84, 85, 86, 87, 88, 89, 90, 91, 92, 93, 94, 95, 96, 97, 98, 99, 100, 101, 102, 103, 104, 105, 106, 107, 108, 109, 110, 111, 112, 113, 114, 115, 116, 117, 118, 119, 120, 121, 122, 123, 124, 125, 126, 127, 128, 129, 130, 131, 132, 133, 134, 135, 136, 137, 138, 139, 140, 141, 142, 143, 144, 145, 146, 147, 148, 149, 150, 151, 152, 153, 154, 155, 156, 157, 158, 159, 160, 161, 162, 163, 164, 165, 166, 167, 168, 169, 170, 171, 172, 173, 174, 175, 176, 177, 178, 179, 180, 183, 184, 185, 186, 187, 188, 189, 190, 191, 192, 193, 194, 195, 196, 197, 198, 199, 200, 201, 202, 203, 204, 205, 206, 207, 208, 209, 210, 211, 212, 213, 214, 215, 216, 217, 218, 219, 220, 221, 222, 223, 224, 225, 226, 227, 228, 229, 230, 231, 232, 233, 234, 235, 236, 237, 238, 239, 240, 241, 242, 243, 244, 245, 246, 247, 248, 249, 250, 251, 252, 253, 254, 255, 256, 257, 258, 259, 260, 261, 262, 263, 264, 265, 266, 267, 268, 269, 270, 271, 272, 273, 274, 275, 276, 277, 278, 279, 280, 281, 282, 283, 284, 285, 286, 287, 288, 289, 290, 291, 292, 293, 294, 295, 296, 297, 298, 299, 300, 301, 302, 303, 304, 305, 306, 307, 308, 309, 310, 311, 312, 321, 322, 323, 324, 325, 326, 327, 328, 329, 330, 331, 332, 333, 334, 335, 336, 337, 338, 339, 340, 341, 342, 343, 344, 345, 346, 347, 348, 349] (by decide +kernel) (by decide +kernel)) (goodIn_sub (fun _ h => List.mem_cons_of_mem _ (List.mem_append_left _ (List.mem_append_left _ (List.mem_append_left _ (List.mem_append_left _ (List.mem_append_left _ (List.mem_append_right _ h))))))) (by decide +kernel))) (goodIn_sub (fun _ h => List.mem_cons_of_mem _ (List.mem_append_left _ (List.mem_append_left _ (List.mem_append_left _ (List.mem_append_left _ (List.mem_append_right _ h)))))) (by decide +kernel))) (goodIn_sub (fun _ h => List.mem_cons_of_mem _ (List.mem_append_left _ (List.mem_append_left _ (List.mem_append_left _ (List.mem_append_right _ h))))) (by decide +kernel))) (goodIn_sub (fun _ h => List.mem_cons_of_mem _ (List.mem_append_left _ (List.mem_append_left _ (List.mem_append_right _ h)))) (by decide +kernel))) (goodIn_sub (fun _ h => List.mem_cons_of_mem _ (List.mem_append_left _ (List.mem_append_right _ h))) (by decide +kernel))) (goodIn_sub (fun _ h => List.mem_cons_of_mem _ (List.mem_append_right _ h)) (by decide +kernel))
set_option maxRecDepth 20000 in
theorem gL_winner_L_bid : GoodIn wsL_winner (va_wsS RL 152 yL_bid wsL_bid) := goodIn_app (goodIn_r _ [317, 318, 3] (by decide +kernel) (by decide +kernel)) ggL_winner_L_bid
theorem ggL_winner_L_ask : GoodIn wsL_winner wsL_ask := gd_tr ggL_winner_L_bid ggL_bid_L_ask
set_option maxRecDepth 20000 in
theorem gL_winner_L_ask : GoodIn wsL_winner (va_wsS RL 131 yL_ask wsL_ask) := goodIn_app (goodIn_r _ [1, 2, 3] (by decide +kernel) (by decide +kernel)) ggL_winner_L_ask
theorem dL_winner_0 : decode cL_winner 0 = .ok (.aload_n 0, 1) := by decide +kernel
theorem dL_winner_1 : decode cL_winner 1 = .ok (.iconst 5, 1) := by decide +kernel
theorem dL_winner_2 : decode cL_winner 2 = .ok (.iload_n 1, 1) := by decide +kernel
theorem dL_winner_3 : decode cL_winner 3 = .ok (.iconst 0, 1) := by decide +kernel
theorem dL_winner_4 : decode cL_winner 4 = .ok (.invokestatic 131, 3) := by decide +kernel
theorem dL_winner_7 : decode cL_winner 7 = .ok (.istore_n 2, 1) := by decide +kernel
theorem dL_winner_8 : decode cL_winner 8 = .ok (.iconst 0, 1) := by decide +kernel
theorem dL_winner_9 : decode cL_winner 9 = .ok (.istore_n 3, 1) := by decide +kernel
theorem dL_winner_10 : decode cL_winner 10 = .ok (.iconst 1, 1) := by decide +kernel
theorem dL_winner_11 : decode cL_winner 11 = .ok (.istore 4, 2) := by decide +kernel
theorem dL_winner_13 : decode cL_winner 13 = .ok (.iload 4, 2) := by decide +kernel
theorem dL_winner_15 : decode cL_winner 15 = .ok (.aload_n 0, 1) := by decide +kernel
theorem dL_winner_16 : decode cL_winner 16 = .ok (.invokevirtual 120, 3) := by decide +kernel
theorem dL_winner_19 : decode cL_winner 19 = .ok (.if_icmp .ge 32, 3) := by decide +kernel
theorem dL_winner_22 : decode cL_winner 22 = .ok (.aload_n 0, 1) := by decide +kernel
theorem dL_winner_23 : decode cL_winner 23 = .ok (.iload 4, 2) := by decide +kernel
theorem dL_winner_25 : decode cL_winner 25 = .ok (.iload_n 1, 1) := by decide +kernel
theorem dL_winner_26 : decode cL_winner 26 = .ok (.invokestatic 152, 3) := by decide +kernel
theorem dL_winner_29 : decode cL_winner 29 = .ok (.aload_n 0, 1) := by decide +kernel
theorem dL_winner_30 : decode cL_winner 30 = .ok (.iload_n 3, 1) := by decide +kernel
theorem dL_winner_31 : decode cL_winner 31 = .ok (.iload_n 1, 1) := by decide +kernel
theorem dL_winner_32 : decode cL_winner 32 = .ok (.invokestatic 152, 3) := by decide +kernel
theorem dL_winner_35 : decode cL_winner 35 = .ok (.if_icmp .le 8, 3) := by decide +kernel
theorem dL_winner_38 : decode cL_winner 38 = .ok (.iload 4, 2) := by decide +kernel
theorem dL_winner_40 : decode cL_winner 40 = .ok (.goto 4, 3) := by decide +kernel
theorem dL_winner_43 : decode cL_winner 43 = .ok (.iload_n 3, 1) := by decide +kernel
theorem dL_winner_44 : decode cL_winner 44 = .ok (.istore_n 3, 1) := by decide +kernel
theorem dL_winner_45 : decode cL_winner 45 = .ok (.iinc 4 1, 3) := by decide +kernel
theorem dL_winner_48 : decode cL_winner 48 = .ok (.goto (-35), 3) := by decide +kernel
theorem dL_winner_51 : decode cL_winner 51 = .ok (.iload_n 2, 1) := by decide +kernel
theorem dL_winner_52 : decode cL_winner 52 = .ok (.ifCond .lt 7, 3) := by decide +kernel
theorem dL_winner_55 : decode cL_winner 55 = .ok (.iload_n 2, 1) := by decide +kernel
theorem dL_winner_56 : decode cL_winner 56 = .ok (.goto 4, 3) := by decide +kernel
theorem dL_winner_59 : decode cL_winner 59 = .ok (.iload_n 3, 1) := by decide +kernel
theorem dL_winner_60 : decode cL_winner 60 = .ok (.ireturn, 1) := by decide +kernel
def f_L_winner_j60  (s0_60 : Int32) : Int32 := s0_60
def f_L_winner_j44  (v2_44 : Int32) (s0_44 : Int32) : Sum (Int32) (Int32 × Int32) := (Sum.inr (v2_44, s0_44))
def f_L_winner_l13b (K : CT) (j : Int32) (k13 : Nat) (v2_13 : Int32) (v3_13 : Int32) : Sum (Int32) (Int32 × Int32) := (if (f_L_bid K ((nI k13)) (j)) ≤ (f_L_bid K (v3_13) (j)) then (f_L_winner_j44 (v2_13) (v3_13)) else (f_L_winner_j44 (v2_13) ((nI k13))))
def f_L_winner_l13x (K : CT) (j : Int32) (v2_13 : Int32) (v3_13 : Int32) : Int32 := (if v2_13 < 0 then (f_L_winner_j60 (v3_13)) else (f_L_winner_j60 (v2_13)))
def f_L_winner_l13s (K : CT) (j : Int32) (k13 : Nat) (q_ : Int32 × Int32) : Sum (Int32) (Int32 × Int32) := f_L_winner_l13b K j k13 (q_.1) (q_.2)
def f_L_winner_l13e (K : CT) (j : Int32) (q_ : Int32 × Int32) : Int32 := f_L_winner_l13x K j (q_.1) (q_.2)
def f_L_winner_l13 (K : CT) (j : Int32) (n13 k13 : Nat) (v2_13 : Int32) (v3_13 : Int32) : Int32 := lpF (f_L_winner_l13s K j) (f_L_winner_l13e K j) n13 k13 (v2_13, v3_13)
def f_L_winner (K : CT) (j : Int32) : Int32 := (f_L_winner_l13 K j (max (gP (kG K)) 1 - 1) 1 ((askV K (5) (j) (0))) (0))
set_option maxHeartbeats 40000000 in
set_option maxRecDepth 100000 in
theorem c_L_winner (l : Launch) (D : va_G) (C : Nat → ClassId) (ev u : Nat → Nat) (K : CT) (T : TX) (j : Int32) (hl9 : l.stackTraces = false) (hI : GI (kG K)) (hFe : FerOK (kG K)) : KM l yL_winner wsL_winner ({ frames := 12, cells := 33, slots := 198, locals := 237 } : Room) [.ref (u 0), .int j] D C ev u K T T (some (.int (f_L_winner K j))) 33 198 := by
  intro x sz hF
  refine Met.ofW (cc := cL_winner) (maxL := 5) (ret := (some .int)) (by decide) rfl ?_
  intro p e s m args below meth c s₁ B hml hv
  obtain ⟨⟨⟨rfl, hsz, hP, hK, hD0, hE, hR, hX, hT9, hV9⟩, hDV⟩, hN, hC⟩ := hv
  have hx := B.exec
  have hb := B.bytes
  have hr := B.returns
  have hts := atoms_spec (ws := wsL_winner) B.pre
  have hown : s.vm.findClass RL = some m.cls := findClass_of_methodNamed B.named
  have hlocks := B.notSynchronized
  subst hsz
  have hD := hD0.self (sz := s.heap.size)
  generalize hAe : va_A (kW C ev u K x) s.heap.size = A at hD hX hV9 hDV ⊢
  have hA : ∀ q : Nat, s.heap.size ≤ q → A q := fun q h => by rw [← hAe]; exact Or.inr h
  have hS : va_S A s.heap s.heap [] := va_S.rf
  have hP : va_P D vwCl (wj [kW C ev u K x]) s.heap := hP
  have hD : va_D A (wj [kW C ev u K x]) := hD
  obtain ⟨hS12, hP4, hlo, hhi⟩ := GI_safe hI
  have hl := lv_entry ([.ref (u 0), .int j]) (n := 5) (Nat.le_of_ble_eq_true rfl)
  rw [lg_entry_eq]
  generalize (lg_sl ([.ref (u 0), .int j]) ++ List.replicate (5 - (lg_sl ([.ref (u 0), .int j])).length) Slot.unset).toArray = ls at hl ⊢
  have hl : lv_has ls 5 [(0, .ref (u 0)), (1, .int j)] := hl
  obtain ⟨z, hz⟩ : ∃ z, z = f_L_winner K j := ⟨_, rfl⟩
  rw [← hz]
  suffices hh : ∀ cells slots : Nat, cells = 0 → slots = 0 → W p l e ({ frames := 12, cells := 33, slots := 198, locals := 237 } : Room) s m ([.ref (u 0), .int j] : List Value).toArray below meth c s.heap [] cells slots (MQ below (eO (fun _ : KX => (some (.int z))) D (kF T) (kW C ev u K) A) ([.ref (u 0), .int j] : List Value).toArray s 33 198 A) (F0 m 0 ls []) from hh 0 0 rfl rfl
  intro cells slots hc0 hs0
  have hc : cells + (33) ≤ 33 := by omega
  have hs : slots + (198) ≤ 198 := by omega
  clear hc0 hs0
  have J60 : ∀ (s0_60 : Int32)  (x : KX) (H : Heap) (locs : List Loc) (cells slots : Nat) (ls : Array Slot), z = f_L_winner_j60 s0_60 → kF T x → cells + (0) ≤ 33 → slots + (0) ≤ 198 → va_P D vwCl (wj [kW C ev u K x]) H → va_D A (wj [kW C ev u K x]) → va_S A s.heap H locs → lv_has ls 5 [] → W p l e ({ frames := 12, cells := 33, slots := 198, locals := 237 } : Room) s m ([.ref (u 0), .int j] : List Value).toArray below meth c H locs cells slots (MQ below (eO (fun _ : KX => (some (.int z))) D (kF T) (kW C ev u K) A) ([.ref (u 0), .int j] : List Value).toArray s 33 198 A) (F0 m 60 ls [.int s0_60]) := by
    intro s0_60 x H locs cells slots ls hz  hF hc hs hP hD hS hl
    exact k_retI hx hb hr hF hP hD hS (show _ = s0_60 from hz) (by omega) (by omega) dL_winner_60 hlocks
  have J13 : ∀ (n13 k13 : Nat) (v2_13 : Int32) (v3_13 : Int32) (x : KX) (H : Heap) (locs : List Loc) (cells slots : Nat) (ls : Array Slot), k13 + n13 = max (gP (kG K)) 1 → z = f_L_winner_l13 K j n13 k13 v2_13 v3_13 → (1 ≤ k13) → kF T x → cells + ((n13 + 1) * 6) ≤ 33 → slots + ((n13 + 1) * 36) ≤ 198 → va_P D vwCl (wj [kW C ev u K x]) H → va_D A (wj [kW C ev u K x]) → va_S A s.heap H locs → lv_has ls 5 [(0, .ref (u 0)), (1, .int j), (2, .int v2_13), (3, .int v3_13), (4, .int (nI k13))] → W p l e ({ frames := 12, cells := 33, slots := 198, locals := 237 } : Room) s m ([.ref (u 0), .int j] : List Value).toArray below meth c H locs cells slots (MQ below (eO (fun _ : KX => (some (.int z))) D (kF T) (kW C ev u K) A) ([.ref (u 0), .int j] : List Value).toArray s 33 198 A) (F0 m 13 ls []) := by
    intro n13
    induction n13 with
    | zero =>
      intro k13 v2_13 v3_13 x H locs cells slots ls hk13 hz iv13_0 hF hc hs hP hD hS hl
      have hz : z = f_L_winner_l13x K j v2_13 v3_13 := hz
      refine lv_iload hx hb dL_winner_13 (lv_at hl 4 rfl) ?_
      refine lv_aload_n hx hb dL_winner_15 rfl (lv_at hl 0 rfl) ?_
      refine callK (va_runV (As := []) (rest := [.int (nI k13)]) ⟨hx, hb, hml, hown, hts⟩ (k_playerCount (l := l) (D := D) (C := C) (ev := ev) (u := u) (T := T) hl9 hI x _ hF) (cwV 0 hts gL_winner_X7_playerCount rfl rfl rfl (by decide +kernel) ⟨Nat.le_of_ble_eq_true rfl, Nat.le_of_ble_eq_true rfl⟩) (hloP_v (kP hP) hK hE (kD hD) hR hX hT9 hV9 hDV hN hC hS (kFr hD hS hA) (kRc hK hP)) rfl rfl hl.1 rfl (lv_room (Nat.le_of_ble_eq_true rfl)) dL_winner_16 ⟨show _ ≤ 33 from by omega, show _ ≤ 198 from by omega⟩) hP hD hS hA (fun x H locs hF hP hD hS => ?_)
      refine lv_icmp_ge (tgt := 51) hx hb dL_winner_19 (by decide) (fun c_19 => ?_) (fun c_19 => absurd (nI_le (by omega) (by omega)) c_19)
      refine lv_iload_n hx hb dL_winner_51 rfl (lv_at hl 2 rfl) ?_
      refine lv_if_lt (tgt := 59) hx hb dL_winner_52 (by decide) (fun c_52 => ?_) (fun c_52 => ?_)
      · have hz := hz.trans (if_pos c_52)
        refine lv_iload_n hx hb dL_winner_59 rfl (lv_at hl 3 rfl) ?_
        exact J60 (v3_13) _ _ _ _ _ ls hz  hF (by omega) (by omega) hP hD hS (lv_sub hl [] rfl)
      · have hz := hz.trans (if_neg c_52)
        refine lv_iload_n hx hb dL_winner_55 rfl (lv_at hl 2 rfl) ?_
        refine lv_goto (tgt := 60) hx hb dL_winner_56 (by decide) ?_
        exact J60 (v2_13) _ _ _ _ _ ls hz  hF (by omega) (by omega) hP hD hS (lv_sub hl [] rfl)
    | succ n13 ih13 =>
      intro k13 v2_13 v3_13 x H locs cells slots ls hk13 hz13 iv13_0 hF hc hs hP hD hS hl
      obtain ⟨z13, hz⟩ : ∃ zz_, zz_ = f_L_winner_l13b K j k13 v2_13 v3_13 := ⟨_, rfl⟩
      have hq13 : z = sE id (fun q_ => lpF (f_L_winner_l13s K j) (f_L_winner_l13e K j) n13 (k13 + 1) q_) z13 := by rw [hz13, hz]; rfl
      have J44 : ∀ (v2_44 : Int32) (s0_44 : Int32)  (x : KX) (H : Heap) (locs : List Loc) (cells slots : Nat) (ls : Array Slot), z13 = f_L_winner_j44 v2_44 s0_44 → kF T x → cells + ((n13 + 1) * 6) ≤ 33 → slots + ((n13 + 1) * 36) ≤ 198 → va_P D vwCl (wj [kW C ev u K x]) H → va_D A (wj [kW C ev u K x]) → va_S A s.heap H locs → lv_has ls 5 [(0, .ref (u 0)), (1, .int j), (2, .int v2_44), (4, .int (nI k13))] → W p l e ({ frames := 12, cells := 33, slots := 198, locals := 237 } : Room) s m ([.ref (u 0), .int j] : List Value).toArray below meth c H locs cells slots (MQ below (eO (fun _ : KX => (some (.int z))) D (kF T) (kW C ev u K) A) ([.ref (u 0), .int j] : List Value).toArray s 33 198 A) (F0 m 44 ls [.int s0_44]) := by
        intro v2_44 s0_44 x H locs cells slots ls hz  hF hc hs hP hD hS hl
        refine lv_istore_n (lv' := [(3, .int s0_44), (0, .ref (u 0)), (1, .int j), (2, .int v2_44), (4, .int (nI k13))]) hx hb dL_winner_44 rfl hl (by decide) rfl (fun ls hl => ?_)
        refine lv_iinc (v := (nI (k13 + 1))) (lv' := [(4, .int (nI (k13 + 1))), (3, .int s0_44), (0, .ref (u 0)), (1, .int j), (2, .int v2_44)]) hx hb dL_winner_45 hl (k := 4) rfl (by exact nI_1 _) (by decide) rfl (fun ls hl => ?_)
        refine lv_goto (tgt := 13) hx hb dL_winner_48 (by decide) ?_
        exact ih13 (k13 + 1) (v2_44) (s0_44) _ _ _ _ _ ls (by omega) (by rw [hq13, hz]; rfl) (by omega) hF (by omega) (by omega) hP hD hS (lv_sub hl [2, 3, 4, 1, 0] rfl)
      refine lv_iload hx hb dL_winner_13 (lv_at hl 4 rfl) ?_
      refine lv_aload_n hx hb dL_winner_15 rfl (lv_at hl 0 rfl) ?_
      refine callK (va_runV (As := []) (rest := [.int (nI k13)]) ⟨hx, hb, hml, hown, hts⟩ (k_playerCount (l := l) (D := D) (C := C) (ev := ev) (u := u) (T := T) hl9 hI x _ hF) (cwV 0 hts gL_winner_X7_playerCount rfl rfl rfl (by decide +kernel) ⟨Nat.le_of_ble_eq_true rfl, Nat.le_of_ble_eq_true rfl⟩) (hloP_v (kP hP) hK hE (kD hD) hR hX hT9 hV9 hDV hN hC hS (kFr hD hS hA) (kRc hK hP)) rfl rfl hl.1 rfl (lv_room (Nat.le_of_ble_eq_true rfl)) dL_winner_16 ⟨show _ ≤ 33 from by omega, show _ ≤ 198 from by omega⟩) hP hD hS hA (fun x H locs hF hP hD hS => ?_)
      refine lv_icmp_ge (tgt := 51) hx hb dL_winner_19 (by decide) (fun c_19 => absurd c_19 (nI_ge (by omega) (by omega))) (fun c_19 => ?_)
      refine lv_aload_n hx hb dL_winner_22 rfl (lv_at hl 0 rfl) ?_
      refine lv_iload hx hb dL_winner_23 (lv_at hl 4 rfl) ?_
      refine lv_iload_n hx hb dL_winner_25 rfl (lv_at hl 1 rfl) ?_
      refine callK (va_runS (As := [.ref (u 0), .int (nI k13), .int j]) (rest := []) ⟨hx, hb, hml, hown, hts⟩ (c_L_bid l D C ev u K T ((nI k13)) (j) hl9 hI hFe x _ hF) (va_cwS 3 hts gL_winner_L_bid rfl rfl rfl (by decide +kernel) ⟨Nat.le_of_ble_eq_true rfl, Nat.le_of_ble_eq_true rfl⟩) (hloP_s (kP hP) hK hE (kD hD) hR hX hT9 hV9 hDV hN hC hS (kFr hD hS hA)) rfl rfl hl.1 rfl (lv_room (Nat.le_of_ble_eq_true rfl)) dL_winner_26 ⟨show _ ≤ 33 from by omega, show _ ≤ 198 from by omega⟩) hP hD hS hA (fun x H locs hF hP hD hS => ?_)
      refine lv_aload_n hx hb dL_winner_29 rfl (lv_at hl 0 rfl) ?_
      refine lv_iload_n hx hb dL_winner_30 rfl (lv_at hl 3 rfl) ?_
      refine lv_iload_n hx hb dL_winner_31 rfl (lv_at hl 1 rfl) ?_
      refine callK (va_runS (As := [.ref (u 0), .int v3_13, .int j]) (rest := [.int (f_L_bid K ((nI k13)) (j))]) ⟨hx, hb, hml, hown, hts⟩ (c_L_bid l D C ev u K T (v3_13) (j) hl9 hI hFe x _ hF) (va_cwS 3 hts gL_winner_L_bid rfl rfl rfl (by decide +kernel) ⟨Nat.le_of_ble_eq_true rfl, Nat.le_of_ble_eq_true rfl⟩) (hloP_s (kP hP) hK hE (kD hD) hR hX hT9 hV9 hDV hN hC hS (kFr hD hS hA)) rfl rfl hl.1 rfl (lv_room (Nat.le_of_ble_eq_true rfl)) dL_winner_32 ⟨show _ ≤ 33 from by omega, show _ ≤ 198 from by omega⟩) hP hD hS hA (fun x H locs hF hP hD hS => ?_)
      refine lv_icmp_le (tgt := 43) hx hb dL_winner_35 (by decide) (fun c_35 => ?_) (fun c_35 => ?_)
      · have hz := hz.trans (if_pos c_35)
        refine lv_iload_n hx hb dL_winner_43 rfl (lv_at hl 3 rfl) ?_
        exact J44 (v2_13) (v3_13) _ _ _ _ _ ls hz  hF (by omega) (by omega) hP hD hS (lv_sub hl [0, 1, 2, 4] rfl)
      · have hz := hz.trans (if_neg c_35)
        refine lv_iload hx hb dL_winner_38 (lv_at hl 4 rfl) ?_
        refine lv_goto (tgt := 44) hx hb dL_winner_40 (by decide) ?_
        exact J44 (v2_13) ((nI k13)) _ _ _ _ _ ls hz  hF (by omega) (by omega) hP hD hS (lv_sub hl [0, 1, 2, 4] rfl)
  refine lv_aload_n hx hb dL_winner_0 rfl (lv_at hl 0 rfl) ?_
  refine lv_iconst (v := 5) hx hb dL_winner_1 (by decide) ?_
  refine lv_iload_n hx hb dL_winner_2 rfl (lv_at hl 1 rfl) ?_
  refine lv_iconst (v := 0) hx hb dL_winner_3 (by decide) ?_
  refine callK (vx_runSW (As := [.ref (u 0), .int 5, .int j, .int 0]) (rest := []) ⟨hx, hb, hml, hown, hts⟩ (c_L_ask l D C ev u K T (5) (j) (0) hl9 hI hFe (by decide) (ask_ok hI (by decide) _ _) x _ hF) (vx_cwSW 4 hts gL_winner_L_ask rfl rfl rfl (by decide +kernel) ⟨Nat.le_of_ble_eq_true rfl, Nat.le_of_ble_eq_true rfl⟩) (hloP_s (kP hP) hK hE (kD hD) hR hX hT9 hV9 hDV hN hC hS (kFr hD hS hA)) rfl rfl hl.1 rfl (lv_room (Nat.le_of_ble_eq_true rfl)) dL_winner_4 ⟨show _ ≤ 33 from by omega, show _ ≤ 198 from by omega⟩) hP hD hS hA (fun x H locs hF hP hD hS => ?_)
  refine lv_istore_n (lv' := [(2, .int (askV K (5) (j) (0))), (0, .ref (u 0)), (1, .int j)]) hx hb dL_winner_7 rfl hl (by decide) rfl (fun ls hl => ?_)
  refine lv_iconst (v := 0) hx hb dL_winner_8 (by decide) ?_
  refine lv_istore_n (lv' := [(3, .int 0), (2, .int (askV K (5) (j) (0))), (0, .ref (u 0)), (1, .int j)]) hx hb dL_winner_9 rfl hl (by decide) rfl (fun ls hl => ?_)
  refine lv_iconst (v := 1) hx hb dL_winner_10 (by decide) ?_
  refine lv_istore (lv' := [(4, .int 1), (3, .int 0), (2, .int (askV K (5) (j) (0))), (0, .ref (u 0)), (1, .int j)]) hx hb dL_winner_11 hl (by decide) rfl (fun ls hl => ?_)
  exact J13 (max (gP (kG K)) 1 - 1) 1 ((askV K (5) (j) (0))) (0) _ _ _ _ _ ls (by omega) hz (by omega) hF (by omega) (by omega) hP hD hS (lv_sub hl [3, 4, 2, 1, 0] rfl)
