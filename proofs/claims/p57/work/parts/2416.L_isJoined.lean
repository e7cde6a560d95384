set_option maxRecDepth 20000 in
theorem ggL_isJoined_X7_lowerIsland : GoodIn wsL_isJoined wsX7_lowerIsland := goodIn_ca (goodIn_ca (goodIn_r _ [5, 6, 7, 8, 9, 4, 10, 11, 12, 13, 14, 15, 16, 17, 18, 23, 24, 25, 26, 27, 28, 29, 30, 31, 32, 33, 34, 35, 36, 37, 38, 39, 40, 41, 42, 43, 44, 45, 46, 47, 48] (by decide +kernel) (by decide +kernel)) (goodIn_sub (fun _ h => List.mem_cons_of_mem _ (List.mem_append_left _ (List.mem_append_right _ h))) (by decide +kernel))) (goodIn_sub (fun _ h => List.mem_cons_of_mem _ (List.mem_append_right _ h)) (by decide +kernel))
set_option maxRecDepth 20000 in
theorem gL_isJoined_X7_lowerIsland : GoodIn wsL_isJoined (wsV RL 162 RX7 yX7_lowerIsland wsX7_lowerIsland) := goodIn_app (goodIn_r _ [1, 2, 3, 4] (by decide +kernel) (by decide +kernel)) ggL_isJoined_X7_lowerIsland
set_option maxRecDepth 20000 in
theorem ggL_isJoined_X7_higherIsland : GoodIn wsL_isJoined wsX7_higherIsland := goodIn_ca (goodIn_ca (goodIn_r _ [22, 6, 7, 8, 9, 4, 10, 11, 12, 13, 14, 15, 16, 17, 18, 23, 24, 25, 26, 27, 28, 29, 30, 31, 32, 33, 34, 35, 36, 37, 38, 39, 40, 41, 42, 43, 44, 45, 46, 47, 48] (by decide +kernel) (by decide +kernel)) (goodIn_sub (fun _ h => List.mem_cons_of_mem _ (List.mem_append_left _ (List.mem_append_right _ h))) (by decide +kernel))) (goodIn_sub (fun _ h => List.mem_cons_of_mem _ (List.mem_append_right _ h)) (by decide +kernel))
set_option maxRecDepth 20000 in
theorem gL_isJoined_X7_higherIsland : GoodIn wsL_isJoined (wsV RL 165 RX7 yX7_higherIsland wsX7_higherIsland) := goodIn_app (goodIn_r _ [19, 20, 21, 4] (by decide +kernel) (by decide +kernel)) ggL_isJoined_X7_higherIsland
theorem dL_isJoined_0 : decode cL_isJoined 0 = .ok (.iconst 1, 1) := by decide +kernel
theorem dL_isJoined_1 : decode cL_isJoined 1 = .ok (.iload_n 2, 1) := by decide +kernel
theorem dL_isJoined_2 : decode cL_isJoined 2 = .ok (.ishl, 1) := by decide +kernel
theorem dL_isJoined_3 : decode cL_isJoined 3 = .ok (.istore 4, 2) := by decide +kernel
theorem dL_isJoined_5 : decode cL_isJoined 5 = .ok (.iconst 0, 1) := by decide +kernel
theorem dL_isJoined_6 : decode cL_isJoined 6 = .ok (.istore 5, 2) := by decide +kernel
theorem dL_isJoined_8 : decode cL_isJoined 8 = .ok (.iload 5, 2) := by decide +kernel
theorem dL_isJoined_10 : decode cL_isJoined 10 = .ok (.iload 4, 2) := by decide +kernel
theorem dL_isJoined_12 : decode cL_isJoined 12 = .ok (.if_icmp .eq 71, 3) := by decide +kernel
theorem dL_isJoined_15 : decode cL_isJoined 15 = .ok (.iload 4, 2) := by decide +kernel
theorem dL_isJoined_17 : decode cL_isJoined 17 = .ok (.istore 5, 2) := by decide +kernel
theorem dL_isJoined_19 : decode cL_isJoined 19 = .ok (.iconst 0, 1) := by decide +kernel
theorem dL_isJoined_20 : decode cL_isJoined 20 = .ok (.istore 6, 2) := by decide +kernel
theorem dL_isJoined_22 : decode cL_isJoined 22 = .ok (.iload 6, 2) := by decide +kernel
theorem dL_isJoined_24 : decode cL_isJoined 24 = .ok (.aload_n 1, 1) := by decide +kernel
theorem dL_isJoined_25 : decode cL_isJoined 25 = .ok (.arraylength, 1) := by decide +kernel
theorem dL_isJoined_26 : decode cL_isJoined 26 = .ok (.if_icmp .ge 54, 3) := by decide +kernel
theorem dL_isJoined_29 : decode cL_isJoined 29 = .ok (.iconst 1, 1) := by decide +kernel
theorem dL_isJoined_30 : decode cL_isJoined 30 = .ok (.aload_n 0, 1) := by decide +kernel
theorem dL_isJoined_31 : decode cL_isJoined 31 = .ok (.iload 6, 2) := by decide +kernel
theorem dL_isJoined_33 : decode cL_isJoined 33 = .ok (.invokevirtual 162, 3) := by decide +kernel
theorem dL_isJoined_36 : decode cL_isJoined 36 = .ok (.ishl, 1) := by decide +kernel
theorem dL_isJoined_37 : decode cL_isJoined 37 = .ok (.iconst 1, 1) := by decide +kernel
theorem dL_isJoined_38 : decode cL_isJoined 38 = .ok (.aload_n 0, 1) := by decide +kernel
theorem dL_isJoined_39 : decode cL_isJoined 39 = .ok (.iload 6, 2) := by decide +kernel
theorem dL_isJoined_41 : decode cL_isJoined 41 = .ok (.invokevirtual 165, 3) := by decide +kernel
theorem dL_isJoined_44 : decode cL_isJoined 44 = .ok (.ishl, 1) := by decide +kernel
theorem dL_isJoined_45 : decode cL_isJoined 45 = .ok (.ior, 1) := by decide +kernel
theorem dL_isJoined_46 : decode cL_isJoined 46 = .ok (.istore 7, 2) := by decide +kernel
theorem dL_isJoined_48 : decode cL_isJoined 48 = .ok (.iload 4, 2) := by decide +kernel
theorem dL_isJoined_50 : decode cL_isJoined 50 = .ok (.aload_n 1, 1) := by decide +kernel
theorem dL_isJoined_51 : decode cL_isJoined 51 = .ok (.iload 6, 2) := by decide +kernel
theorem dL_isJoined_53 : decode cL_isJoined 53 = .ok (.baload, 1) := by decide +kernel
theorem dL_isJoined_54 : decode cL_isJoined 54 = .ok (.ifCond .eq 16, 3) := by decide +kernel
theorem dL_isJoined_57 : decode cL_isJoined 57 = .ok (.iload 4, 2) := by decide +kernel
theorem dL_isJoined_59 : decode cL_isJoined 59 = .ok (.iload 7, 2) := by decide +kernel
theorem dL_isJoined_61 : decode cL_isJoined 61 = .ok (.iand, 1) := by decide +kernel
theorem dL_isJoined_62 : decode cL_isJoined 62 = .ok (.ifCond .eq 8, 3) := by decide +kernel
theorem dL_isJoined_65 : decode cL_isJoined 65 = .ok (.iload 7, 2) := by decide +kernel
theorem dL_isJoined_67 : decode cL_isJoined 67 = .ok (.goto 4, 3) := by decide +kernel
theorem dL_isJoined_70 : decode cL_isJoined 70 = .ok (.iconst 0, 1) := by decide +kernel
theorem dL_isJoined_71 : decode cL_isJoined 71 = .ok (.ior, 1) := by decide +kernel
theorem dL_isJoined_72 : decode cL_isJoined 72 = .ok (.istore 4, 2) := by decide +kernel
theorem dL_isJoined_74 : decode cL_isJoined 74 = .ok (.iinc 6 1, 3) := by decide +kernel
theorem dL_isJoined_77 : decode cL_isJoined 77 = .ok (.goto (-55), 3) := by decide +kernel
theorem dL_isJoined_80 : decode cL_isJoined 80 = .ok (.goto (-72), 3) := by decide +kernel
theorem dL_isJoined_83 : decode cL_isJoined 83 = .ok (.iload 4, 2) := by decide +kernel
theorem dL_isJoined_85 : decode cL_isJoined 85 = .ok (.iload_n 3, 1) := by decide +kernel
theorem dL_isJoined_86 : decode cL_isJoined 86 = .ok (.ishr, 1) := by decide +kernel
theorem dL_isJoined_87 : decode cL_isJoined 87 = .ok (.iconst 1, 1) := by decide +kernel
theorem dL_isJoined_88 : decode cL_isJoined 88 = .ok (.iand, 1) := by decide +kernel
theorem dL_isJoined_89 : decode cL_isJoined 89 = .ok (.iconst 1, 1) := by decide +kernel
theorem dL_isJoined_90 : decode cL_isJoined 90 = .ok (.if_icmp .ne 7, 3) := by decide +kernel
theorem dL_isJoined_93 : decode cL_isJoined 93 = .ok (.iconst 1, 1) := by decide +kernel
theorem dL_isJoined_94 : decode cL_isJoined 94 = .ok (.goto 4, 3) := by decide +kernel
theorem dL_isJoined_97 : decode cL_isJoined 97 = .ok (.iconst 0, 1) := by decide +kernel
theorem dL_isJoined_98 : decode cL_isJoined 98 = .ok (.ireturn, 1) := by decide +kernel
def f_L_isJoined_j98  (s0_98 : Bool) : Bool := s0_98
def f_L_isJoined_j71  (v5_71 : Int32) (s0_71 : Int32) (s1_71 : Int32) : Sum (Sum (Bool) (Int32 × Int32)) (Int32 × Int32) := (Sum.inr ((s1_71 ||| s0_71), v5_71))
def f_L_isJoined_j70  (v5_70 : Int32) (s0_70 : Int32) : Sum (Sum (Bool) (Int32 × Int32)) (Int32 × Int32) := (f_L_isJoined_j71 (v5_70) (0) (s0_70))
def f_L_isJoined_l22b (K : CT) (b : (Nat → Bool)) (k22 : Nat) (v4_22 : Int32) (v5_22 : Int32) : Sum (Sum (Bool) (Int32 × Int32)) (Int32 × Int32) := (if (b k22) = true then (if (v4_22 &&& ((1 <<< ((nI (gLo (kG K) k22)) &&& 31)) ||| (1 <<< ((nI (gHi (kG K) k22)) &&& 31)))) = 0 then (f_L_isJoined_j70 (v5_22) (v4_22)) else (f_L_isJoined_j71 (v5_22) (((1 <<< ((nI (gLo (kG K) k22)) &&& 31)) ||| (1 <<< ((nI (gHi (kG K) k22)) &&& 31)))) (v4_22))) else (f_L_isJoined_j70 (v5_22) (v4_22)))
def f_L_isJoined_l22x (K : CT) (b : (Nat → Bool)) (v4_22 : Int32) (v5_22 : Int32) : Sum (Bool) (Int32 × Int32) := (Sum.inr (v4_22, v5_22))
def f_L_isJoined_l22s (K : CT) (b : (Nat → Bool)) (k22 : Nat) (q_ : Int32 × Int32) : Sum (Sum (Bool) (Int32 × Int32)) (Int32 × Int32) := f_L_isJoined_l22b K b k22 (q_.1) (q_.2)
def f_L_isJoined_l22e (K : CT) (b : (Nat → Bool)) (q_ : Int32 × Int32) : Sum (Bool) (Int32 × Int32) := f_L_isJoined_l22x K b (q_.1) (q_.2)
def f_L_isJoined_l22 (K : CT) (b : (Nat → Bool)) (n22 k22 : Nat) (v4_22 : Int32) (v5_22 : Int32) : Sum (Bool) (Int32 × Int32) := lpF (f_L_isJoined_l22s K b) (f_L_isJoined_l22e K b) n22 k22 (v4_22, v5_22)
def f_L_isJoined_l8b (K : CT) (b : (Nat → Bool)) (j : Nat) (v4_8 : Int32) (v5_8 : Int32) : Sum (Bool) (Int32 × Int32) := (if v5_8 = v4_8 then (if ((v4_8 >>> ((nI j) &&& 31)) &&& 1) = 1 then (Sum.inl (f_L_isJoined_j98 (true))) else (Sum.inl (f_L_isJoined_j98 (false)))) else (f_L_isJoined_l22 K b (gS (kG K)) 0 (v4_8) (v4_8)))
def f_L_isJoined_l8s (K : CT) (b : (Nat → Bool)) (j : Nat) (q_ : Int32 × Int32) : Sum (Bool) (Int32 × Int32) := f_L_isJoined_l8b K b j (q_.1) (q_.2)
def f_L_isJoined_l8 (K : CT) (b : (Nat → Bool)) (j : Nat) (n8 : Nat) (v4_8 : Int32) (v5_8 : Int32) : Bool := lpW (default : Bool) (f_L_isJoined_l8s K b j) n8 (v4_8, v5_8)
def f_L_isJoined (K : CT) (b : (Nat → Bool)) (i : Nat) (j : Nat) : Bool := (f_L_isJoined_l8 K b j (9) ((1 <<< ((nI i) &&& 31))) (0))
set_option maxHeartbeats 40000000 in
set_option maxRecDepth 100000 in
theorem c_L_isJoined (l : Launch) (D : va_G) (C : Nat → ClassId) (ev u : Nat → Nat) (K : CT) (T : TX) (o : Nat) (b : (Nat → Bool)) (i : Nat) (j : Nat) (hl9 : l.stackTraces = false) (hI : GI (kG K)) (hFe : FerOK (kG K)) (h_i : i < 8) (h_j : j < 8) : KMo l yL_isJoined wsL_isJoined ({ frames := 8, cells := 260, slots := 1560, locals := 124 } : Room) [.ref (u 0), .ref o, .int (nI i), .int (nI j)] D C ev u K T T [stc C o (gS (kG K)) b] (some (.int (bI (f_L_isJoined K b i j)))) 260 1560 := by
  intro x sz hF
  refine Met.ofW (cc := cL_isJoined) (maxL := 8) (ret := (some .boolean)) (by decide) rfl ?_
  intro p e s m args below meth c s₁ B hml hv
  obtain ⟨⟨⟨rfl, hsz, hP, hK, hD0, hE, hR, hX, hT9, hV9⟩, hDV⟩, hN, hC⟩ := hv
  have hx := B.exec
  have hb := B.bytes
  have hr := B.returns
  have hts := atoms_spec (ws := wsL_isJoined) B.pre
  have hown : s.vm.findClass RL = some m.cls := findClass_of_methodNamed B.named
  have hlocks := B.notSynchronized
  subst hsz
  have hD := hD0.self (sz := s.heap.size)
  generalize hAe : va_A (wj [kW C ev u K x, stc C o (gS (kG K)) b]) s.heap.size = A at hD hX hV9 hDV ⊢
  have hA : ∀ q : Nat, s.heap.size ≤ q → A q := fun q h => by rw [← hAe]; exact Or.inr h
  have hS : va_S A s.heap s.heap [] := va_S.rf
  have hP : va_P D vwCl (wj [kW C ev u K x, stc C o (gS (kG K)) b]) s.heap := hP
  have hD : va_D A (wj [kW C ev u K x, stc C o (gS (kG K)) b]) := hD
  obtain ⟨hS12, hP4, hlo, hhi⟩ := GI_safe hI
  have hl := lv_entry ([.ref (u 0), .ref o, .int (nI i), .int (nI j)]) (n := 8) (Nat.le_of_ble_eq_true rfl)
  rw [lg_entry_eq]
  generalize (lg_sl ([.ref (u 0), .ref o, .int (nI i), .int (nI j)]) ++ List.replicate (8 - (lg_sl ([.ref (u 0), .ref o, .int (nI i), .int (nI j)])).length) Slot.unset).toArray = ls at hl ⊢
  have hl : lv_has ls 8 [(0, .ref (u 0)), (1, .ref o), (2, .int (nI i)), (3, .int (nI j))] := hl
  obtain ⟨z, hz⟩ : ∃ z, z = f_L_isJoined K b i j := ⟨_, rfl⟩
  rw [← hz]
  suffices hh : ∀ cells slots : Nat, cells = 0 → slots = 0 → W p l e ({ frames := 8, cells := 260, slots := 1560, locals := 124 } : Room) s m ([.ref (u 0), .ref o, .int (nI i), .int (nI j)] : List Value).toArray below meth c s.heap [] cells slots (MQ below (eO (fun _ : KX => (some (.int (bI z)))) D (kF T) (fun x => wj [kW C ev u K x, stc C o (gS (kG K)) b]) A) ([.ref (u 0), .ref o, .int (nI i), .int (nI j)] : List Value).toArray s 260 1560 A) (F0 m 0 ls []) from hh 0 0 rfl rfl
  intro cells slots hc0 hs0
  have hc : cells + (260) ≤ 260 := by omega
  have hs : slots + (1560) ≤ 1560 := by omega
  clear hc0 hs0
  have J98 : ∀ (s0_98 : Bool)  (x : KX) (H : Heap) (locs : List Loc) (cells slots : Nat) (ls : Array Slot), z = f_L_isJoined_j98 s0_98 → kF T x → cells + (0) ≤ 260 → slots + (0) ≤ 1560 → va_P D vwCl (wj [kW C ev u K x, stc C o (gS (kG K)) b]) H → va_D A (wj [kW C ev u K x, stc C o (gS (kG K)) b]) → va_S A s.heap H locs → lv_has ls 8 [] → W p l e ({ frames := 8, cells := 260, slots := 1560, locals := 124 } : Room) s m ([.ref (u 0), .ref o, .int (nI i), .int (nI j)] : List Value).toArray below meth c H locs cells slots (MQ below (eO (fun _ : KX => (some (.int (bI z)))) D (kF T) (fun x => wj [kW C ev u K x, stc C o (gS (kG K)) b]) A) ([.ref (u 0), .ref o, .int (nI i), .int (nI j)] : List Value).toArray s 260 1560 A) (F0 m 98 ls [.int (bI s0_98)]) := by
    intro s0_98 x H locs cells slots ls hz  hF hc hs hP hD hS hl
    exact ko_retB hx hb hr hF hP hD hS (show _ = s0_98 from hz) (by omega) (by omega) dL_isJoined_98 hlocks
  have J8 : ∀ (n8 : Nat) (v4_8 : Int32) (v5_8 : Int32) (x : KX) (H : Heap) (locs : List Loc) (cells slots : Nat) (ls : Array Slot), jM v5_8 v4_8 < n8 → z = f_L_isJoined_l8 K b j n8 v4_8 v5_8 → kF T x → cells + ((n8 + 1) * 26) ≤ 260 → slots + ((n8 + 1) * 156) ≤ 1560 → va_P D vwCl (wj [kW C ev u K x, stc C o (gS (kG K)) b]) H → va_D A (wj [kW C ev u K x, stc C o (gS (kG K)) b]) → va_S A s.heap H locs → lv_has ls 8 [(0, .ref (u 0)), (1, .ref o), (3, .int (nI j)), (4, .int v4_8), (5, .int v5_8)] → W p l e ({ frames := 8, cells := 260, slots := 1560, locals := 124 } : Room) s m ([.ref (u 0), .ref o, .int (nI i), .int (nI j)] : List Value).toArray below meth c H locs cells slots (MQ below (eO (fun _ : KX => (some (.int (bI z)))) D (kF T) (fun x => wj [kW C ev u K x, stc C o (gS (kG K)) b]) A) ([.ref (u 0), .ref o, .int (nI i), .int (nI j)] : List Value).toArray s 260 1560 A) (F0 m 8 ls []) := by
    intro n8
    induction n8 with
    | zero =>
      intro v4_8 v5_8 x H locs cells slots ls hk8
      exact absurd hk8 (Nat.not_lt_zero _)
    | succ n8 ih8 =>
      intro v4_8 v5_8 x H locs cells slots ls hk8 hz8  hF hc hs hP hD hS hl
      obtain ⟨z8, hz⟩ : ∃ zz_, zz_ = f_L_isJoined_l8b K b j v4_8 v5_8 := ⟨_, rfl⟩
      have hq8 : z = sE id (fun q_ => lpW (default : Bool) (f_L_isJoined_l8s K b j) n8 q_) z8 := by rw [hz8, hz]; rfl
      have J22 : ∀ (n22 k22 : Nat) (v4_22 : Int32) (v5_22 : Int32) (x : KX) (H : Heap) (locs : List Loc) (cells slots : Nat) (ls : Array Slot), k22 + n22 = gS (kG K) → z8 = f_L_isJoined_l22 K b n22 k22 v4_22 v5_22 → (jI v4_8 v4_22) → (v5_22 = v4_8) → (¬ (v5_8 = v4_8)) → kF T x → cells + ((n22 + 1) * 2 + (n8 + 1) * 26) ≤ 260 → slots + ((n22 + 1) * 12 + (n8 + 1) * 156) ≤ 1560 → va_P D vwCl (wj [kW C ev u K x, stc C o (gS (kG K)) b]) H → va_D A (wj [kW C ev u K x, stc C o (gS (kG K)) b]) → va_S A s.heap H locs → lv_has ls 8 [(0, .ref (u 0)), (1, .ref o), (3, .int (nI j)), (4, .int v4_22), (5, .int v5_22), (6, .int (nI k22))] → W p l e ({ frames := 8, cells := 260, slots := 1560, locals := 124 } : Room) s m ([.ref (u 0), .ref o, .int (nI i), .int (nI j)] : List Value).toArray below meth c H locs cells slots (MQ below (eO (fun _ : KX => (some (.int (bI z)))) D (kF T) (fun x => wj [kW C ev u K x, stc C o (gS (kG K)) b]) A) ([.ref (u 0), .ref o, .int (nI i), .int (nI j)] : List Value).toArray s 260 1560 A) (F0 m 22 ls []) := by
        intro n22
        induction n22 with
        | zero =>
          intro k22 v4_22 v5_22 x H locs cells slots ls hk22 hz iv22_0 iv22_1 iv22_2 hF hc hs hP hD hS hl
          have hz : z8 = f_L_isJoined_l22x K b v4_22 v5_22 := hz
          refine lv_iload hx hb dL_isJoined_22 (lv_at hl 5 rfl) ?_
          refine lv_aload_n hx hb dL_isJoined_24 rfl (lv_at hl 1 rfl) ?_
          refine va_alen (v := nI (gS (kG K))) hx hb hK (wj_P (cs := [stc C o (gS (kG K)) b]) hP [1] rfl : va_P D vwCl (stc C o (gS (kG K)) b) _) 0 5 rfl rfl rfl dL_isJoined_25 ?_
          refine lv_icmp_ge (tgt := 80) hx hb dL_isJoined_26 (by decide) (fun c_26 => ?_) (fun c_26 => absurd (nI_le (by omega) (by omega)) c_26)
          refine lv_goto (tgt := 8) hx hb dL_isJoined_80 (by decide) ?_
          exact ih8 (v4_22) (v5_22) _ _ _ _ _ ls (by rw [iv22_1]; have q9 := jM_lt iv22_2 iv22_0; omega) (by rw [hq8, hz]; rfl)  hF (by omega) (by omega) hP hD hS (lv_sub hl [0, 1, 2, 3, 4] rfl)
        | succ n22 ih22 =>
          intro k22 v4_22 v5_22 x H locs cells slots ls hk22 hz22 iv22_0 iv22_1 iv22_2 hF hc hs hP hD hS hl
          obtain ⟨z22, hz⟩ : ∃ zz_, zz_ = f_L_isJoined_l22b K b k22 v4_22 v5_22 := ⟨_, rfl⟩
          have hq22 : z8 = sE id (fun q_ => lpF (f_L_isJoined_l22s K b) (f_L_isJoined_l22e K b) n22 (k22 + 1) q_) z22 := by rw [hz22, hz]; rfl
          have J71 : ∀ (v5_71 : Int32) (s0_71 : Int32) (s1_71 : Int32)  (x : KX) (H : Heap) (locs : List Loc) (cells slots : Nat) (ls : Array Slot), z22 = f_L_isJoined_j71 v5_71 s0_71 s1_71 → (jI v4_8 (s1_71 ||| s0_71)) → (v5_71 = v4_8) → kF T x → cells + ((n22 + 1) * 2 + (n8 + 1) * 26) ≤ 260 → slots + ((n22 + 1) * 12 + (n8 + 1) * 156) ≤ 1560 → va_P D vwCl (wj [kW C ev u K x, stc C o (gS (kG K)) b]) H → va_D A (wj [kW C ev u K x, stc C o (gS (kG K)) b]) → va_S A s.heap H locs → lv_has ls 8 [(0, .ref (u 0)), (1, .ref o), (3, .int (nI j)), (5, .int v5_71), (6, .int (nI k22))] → W p l e ({ frames := 8, cells := 260, slots := 1560, locals := 124 } : Room) s m ([.ref (u 0), .ref o, .int (nI i), .int (nI j)] : List Value).toArray below meth c H locs cells slots (MQ below (eO (fun _ : KX => (some (.int (bI z)))) D (kF T) (fun x => wj [kW C ev u K x, stc C o (gS (kG K)) b]) A) ([.ref (u 0), .ref o, .int (nI i), .int (nI j)] : List Value).toArray s 260 1560 A) (F0 m 71 ls [.int s0_71, .int s1_71]) := by
            intro v5_71 s0_71 s1_71 x H locs cells slots ls hz iv71_0 iv71_1 hF hc hs hP hD hS hl
            refine lv_ior hx hb dL_isJoined_71 ?_
            refine lv_istore (lv' := [(4, .int (s1_71 ||| s0_71)), (0, .ref (u 0)), (1, .ref o), (3, .int (nI j)), (5, .int v5_71), (6, .int (nI k22))]) hx hb dL_isJoined_72 hl (by decide) rfl (fun ls hl => ?_)
            refine lv_iinc (v := (nI (k22 + 1))) (lv' := [(6, .int (nI (k22 + 1))), (4, .int (s1_71 ||| s0_71)), (0, .ref (u 0)), (1, .ref o), (3, .int (nI j)), (5, .int v5_71)]) hx hb dL_isJoined_74 hl (k := 5) rfl (by exact nI_1 _) (by decide) rfl (fun ls hl => ?_)
            refine lv_goto (tgt := 22) hx hb dL_isJoined_77 (by decide) ?_
            exact ih22 (k22 + 1) ((s1_71 ||| s0_71)) (v5_71) _ _ _ _ _ ls (by omega) (by rw [hq22, hz]; rfl) (by first | assumption | exact jI_rf _ | exact jI_0 iv70_0 | exact jI_or iv22_0 (hlo _) (hhi _)) (by first | assumption | rfl) (by first | assumption | exact c_12) hF (by omega) (by omega) hP hD hS (lv_sub hl [2, 3, 4, 1, 5, 0] rfl)
          have J70 : ∀ (v5_70 : Int32) (s0_70 : Int32)  (x : KX) (H : Heap) (locs : List Loc) (cells slots : Nat) (ls : Array Slot), z22 = f_L_isJoined_j70 v5_70 s0_70 → (jI v4_8 s0_70) → (v5_70 = v4_8) → kF T x → cells + ((n22 + 1) * 2 + (n8 + 1) * 26) ≤ 260 → slots + ((n22 + 1) * 12 + (n8 + 1) * 156) ≤ 1560 → va_P D vwCl (wj [kW C ev u K x, stc C o (gS (kG K)) b]) H → va_D A (wj [kW C ev u K x, stc C o (gS (kG K)) b]) → va_S A s.heap H locs → lv_has ls 8 [(0, .ref (u 0)), (1, .ref o), (3, .int (nI j)), (5, .int v5_70), (6, .int (nI k22))] → W p l e ({ frames := 8, cells := 260, slots := 1560, locals := 124 } : Room) s m ([.ref (u 0), .ref o, .int (nI i), .int (nI j)] : List Value).toArray below meth c H locs cells slots (MQ below (eO (fun _ : KX => (some (.int (bI z)))) D (kF T) (fun x => wj [kW C ev u K x, stc C o (gS (kG K)) b]) A) ([.ref (u 0), .ref o, .int (nI i), .int (nI j)] : List Value).toArray s 260 1560 A) (F0 m 70 ls [.int s0_70]) := by
            intro v5_70 s0_70 x H locs cells slots ls hz iv70_0 iv70_1 hF hc hs hP hD hS hl
            refine lv_iconst (v := 0) hx hb dL_isJoined_70 (by decide) ?_
            exact J71 (v5_70) (0) (s0_70) _ _ _ _ _ ls hz (by first | assumption | exact jI_rf _ | exact jI_0 iv70_0 | exact jI_or iv22_0 (hlo _) (hhi _)) (by first | assumption | rfl) hF (by omega) (by omega) hP hD hS (lv_sub hl [0, 1, 2, 3, 4] rfl)
          refine lv_iload hx hb dL_isJoined_22 (lv_at hl 5 rfl) ?_
          refine lv_aload_n hx hb dL_isJoined_24 rfl (lv_at hl 1 rfl) ?_
          refine va_alen (v := nI (gS (kG K))) hx hb hK (wj_P (cs := [stc C o (gS (kG K)) b]) hP [1] rfl : va_P D vwCl (stc C o (gS (kG K)) b) _) 0 5 rfl rfl rfl dL_isJoined_25 ?_
          refine lv_icmp_ge (tgt := 80) hx hb dL_isJoined_26 (by decide) (fun c_26 => absurd c_26 (nI_ge (by omega) (by omega))) (fun c_26 => ?_)
          refine lv_iconst (v := 1) hx hb dL_isJoined_29 (by decide) ?_
          refine lv_aload_n hx hb dL_isJoined_30 rfl (lv_at hl 0 rfl) ?_
          refine lv_iload hx hb dL_isJoined_31 (lv_at hl 5 rfl) ?_
          refine callK (va_runV (As := [.int (nI k22)]) (rest := [.int 1]) ⟨hx, hb, hml, hown, hts⟩ (k_lowerIsland (l := l) (D := D) (C := C) (ev := ev) (u := u) (T := T) hl9 hI (k := k22) (by omega) x _ hF) (cwV 1 hts gL_isJoined_X7_lowerIsland rfl rfl rfl (by decide +kernel) ⟨Nat.le_of_ble_eq_true rfl, Nat.le_of_ble_eq_true rfl⟩) (hloP_v (kP hP) hK hE (kD hD) hR hX hT9 hV9 hDV hN hC hS (kFr hD hS hA) (kRc hK hP)) rfl rfl hl.1 rfl (lv_room (Nat.le_of_ble_eq_true rfl)) dL_isJoined_33 ⟨show _ ≤ 260 from by omega, show _ ≤ 1560 from by omega⟩) hP hD hS hA (fun x H locs hF hP hD hS => ?_)
          have hb_1 := hlo (k22)
          refine lv_ishl hx hb dL_isJoined_36 ?_
          refine lv_iconst (v := 1) hx hb dL_isJoined_37 (by decide) ?_
          refine lv_aload_n hx hb dL_isJoined_38 rfl (lv_at hl 0 rfl) ?_
          refine lv_iload hx hb dL_isJoined_39 (lv_at hl 5 rfl) ?_
          refine callK (va_runV (As := [.int (nI k22)]) (rest := [.int 1, .int (1 <<< ((nI (gLo (kG K) k22)) &&& 31))]) ⟨hx, hb, hml, hown, hts⟩ (k_higherIsland (l := l) (D := D) (C := C) (ev := ev) (u := u) (T := T) hl9 hI (k := k22) (by omega) x _ hF) (cwV 1 hts gL_isJoined_X7_higherIsland rfl rfl rfl (by decide +kernel) ⟨Nat.le_of_ble_eq_true rfl, Nat.le_of_ble_eq_true rfl⟩) (hloP_v (kP hP) hK hE (kD hD) hR hX hT9 hV9 hDV hN hC hS (kFr hD hS hA) (kRc hK hP)) rfl rfl hl.1 rfl (lv_room (Nat.le_of_ble_eq_true rfl)) dL_isJoined_41 ⟨show _ ≤ 260 from by omega, show _ ≤ 1560 from by omega⟩) hP hD hS hA (fun x H locs hF hP hD hS => ?_)
          have hb_2 := hhi (k22)
          refine lv_ishl hx hb dL_isJoined_44 ?_
          refine lv_ior hx hb dL_isJoined_45 ?_
          refine lv_istore (lv' := [(7, .int ((1 <<< ((nI (gLo (kG K) k22)) &&& 31)) ||| (1 <<< ((nI (gHi (kG K) k22)) &&& 31)))), (0, .ref (u 0)), (1, .ref o), (3, .int (nI j)), (4, .int v4_22), (5, .int v5_22), (6, .int (nI k22))]) hx hb dL_isJoined_46 hl (by decide) rfl (fun ls hl => ?_)
          refine lv_iload hx hb dL_isJoined_48 (lv_at hl 4 rfl) ?_
          refine lv_aload_n hx hb dL_isJoined_50 rfl (lv_at hl 2 rfl) ?_
          refine lv_iload hx hb dL_isJoined_51 (lv_at hl 6 rfl) ?_
          refine stGet hx hb hK hP hS12 (i := k22) (by omega) dL_isJoined_53 ?_
          refine bif_eq (tgt := 70) hx hb dL_isJoined_54 (by decide) (fun c_54 => ?_) (fun c_54 => ?_)
          · have hz := hz.trans (ifB_f c_54)
            exact J70 (v5_22) (v4_22) _ _ _ _ _ ls hz (by first | assumption | exact jI_rf _ | exact jI_0 iv70_0 | exact jI_or iv22_0 (hlo _) (hhi _)) (by first | assumption | rfl) hF (by omega) (by omega) hP hD hS (lv_sub hl [1, 2, 3, 5, 6] rfl)
          · have hz := hz.trans (ifB_t c_54)
            refine lv_iload hx hb dL_isJoined_57 (lv_at hl 4 rfl) ?_
            refine lv_iload hx hb dL_isJoined_59 (lv_at hl 0 rfl) ?_
            refine lv_iand hx hb dL_isJoined_61 ?_
            refine lv_if_eq (tgt := 70) hx hb dL_isJoined_62 (by decide) (fun c_62 => ?_) (fun c_62 => ?_)
            · have hz := hz.trans (if_pos c_62)
              exact J70 (v5_22) (v4_22) _ _ _ _ _ ls hz (by first | assumption | exact jI_rf _ | exact jI_0 iv70_0 | exact jI_or iv22_0 (hlo _) (hhi _)) (by first | assumption | rfl) hF (by omega) (by omega) hP hD hS (lv_sub hl [1, 2, 3, 5, 6] rfl)
            · have hz := hz.trans (if_neg c_62)
              refine lv_iload hx hb dL_isJoined_65 (lv_at hl 0 rfl) ?_
              refine lv_goto (tgt := 71) hx hb dL_isJoined_67 (by decide) ?_
              exact J71 (v5_22) (((1 <<< ((nI (gLo (kG K) k22)) &&& 31)) ||| (1 <<< ((nI (gHi (kG K) k22)) &&& 31)))) (v4_22) _ _ _ _ _ ls hz (by first | assumption | exact jI_rf _ | exact jI_0 iv70_0 | exact jI_or iv22_0 (hlo _) (hhi _)) (by first | assumption | rfl) hF (by omega) (by omega) hP hD hS (lv_sub hl [1, 2, 3, 5, 6] rfl)
      refine lv_iload hx hb dL_isJoined_8 (lv_at hl 4 rfl) ?_
      refine lv_iload hx hb dL_isJoined_10 (lv_at hl 3 rfl) ?_
      refine lv_icmp_eq (tgt := 83) hx hb dL_isJoined_12 (by decide) (fun c_12 => ?_) (fun c_12 => ?_)
      · have hz := hz.trans (if_pos c_12)
        refine lv_iload hx hb dL_isJoined_83 (lv_at hl 3 rfl) ?_
        refine lv_iload_n hx hb dL_isJoined_85 rfl (lv_at hl 2 rfl) ?_
        refine lv_ishr hx hb dL_isJoined_86 ?_
        refine lv_iconst (v := 1) hx hb dL_isJoined_87 (by decide) ?_
        refine lv_iand hx hb dL_isJoined_88 ?_
        refine lv_iconst (v := 1) hx hb dL_isJoined_89 (by decide) ?_
        refine lv_icmp_ne (tgt := 97) hx hb dL_isJoined_90 (by decide) (fun c_90 => ?_) (fun c_90 => ?_)
        · have hz := hz.trans (if_neg c_90)
          refine lv_iconst (v := 0) hx hb dL_isJoined_97 (by decide) ?_
          have hz := up1 hq8 hz
          exact J98 (false) _ _ _ _ _ ls hz  hF (by omega) (by omega) hP hD hS (lv_sub hl [] rfl)
        · have hz := hz.trans (if_pos c_90)
          refine lv_iconst (v := 1) hx hb dL_isJoined_93 (by decide) ?_
          refine lv_goto (tgt := 98) hx hb dL_isJoined_94 (by decide) ?_
          have hz := up1 hq8 hz
          exact J98 (true) _ _ _ _ _ ls hz  hF (by omega) (by omega) hP hD hS (lv_sub hl [] rfl)
      · have hz := hz.trans (if_neg c_12)
        refine lv_iload hx hb dL_isJoined_15 (lv_at hl 3 rfl) ?_
        refine lv_istore (lv' := [(5, .int v4_8), (0, .ref (u 0)), (1, .ref o), (3, .int (nI j)), (4, .int v4_8)]) hx hb dL_isJoined_17 hl (by decide) rfl (fun ls hl => ?_)
        refine lv_iconst (v := 0) hx hb dL_isJoined_19 (by decide) ?_
        refine lv_istore (lv' := [(6, .int 0), (5, .int v4_8), (0, .ref (u 0)), (1, .ref o), (3, .int (nI j)), (4, .int v4_8)]) hx hb dL_isJoined_20 hl (by decide) rfl (fun ls hl => ?_)
        exact J22 (gS (kG K)) 0 (v4_8) (v4_8) _ _ _ _ _ ls (by omega) hz (by first | assumption | exact jI_rf _ | exact jI_0 iv70_0 | exact jI_or iv22_0 (hlo _) (hhi _)) (by first | assumption | rfl) (by first | assumption | exact c_12) hF (by omega) (by omega) hP hD hS (lv_sub hl [2, 3, 4, 5, 1, 0] rfl)
  refine lv_iconst (v := 1) hx hb dL_isJoined_0 (by decide) ?_
  refine lv_iload_n hx hb dL_isJoined_1 rfl (lv_at hl 2 rfl) ?_
  refine lv_ishl hx hb dL_isJoined_2 ?_
  refine lv_istore (lv' := [(4, .int (1 <<< ((nI i) &&& 31))), (0, .ref (u 0)), (1, .ref o), (2, .int (nI i)), (3, .int (nI j))]) hx hb dL_isJoined_3 hl (by decide) rfl (fun ls hl => ?_)
  refine lv_iconst (v := 0) hx hb dL_isJoined_5 (by decide) ?_
  refine lv_istore (lv' := [(5, .int 0), (4, .int (1 <<< ((nI i) &&& 31))), (0, .ref (u 0)), (1, .ref o), (2, .int (nI i)), (3, .int (nI j))]) hx hb dL_isJoined_6 hl (by decide) rfl (fun ls hl => ?_)
  exact J8 (9) ((1 <<< ((nI i) &&& 31))) (0) _ _ _ _ _ ls (by exact jM_0 h_i) hz  hF (by omega) (by omega) hP hD hS (lv_sub hl [2, 3, 5, 1, 0] rfl)
