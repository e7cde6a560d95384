theorem dL_isForestRight_0 : decode cL_isForestRight 0 = .ok (.aload_n 0, 1) := by decide +kernel
theorem dL_isForestRight_1 : decode cL_isForestRight 1 = .ok (.invokevirtual 128, 3) := by decide +kernel
theorem dL_isForestRight_4 : decode cL_isForestRight 4 = .ok (.istore_n 1, 1) := by decide +kernel
theorem dL_isForestRight_5 : decode cL_isForestRight 5 = .ok (.iload_n 1, 1) := by decide +kernel
theorem dL_isForestRight_6 : decode cL_isForestRight 6 = .ok (.newarray .boolean, 2) := by decide +kernel
theorem dL_isForestRight_8 : decode cL_isForestRight 8 = .ok (.astore_n 2, 1) := by decide +kernel
theorem dL_isForestRight_9 : decode cL_isForestRight 9 = .ok (.iconst 0, 1) := by decide +kernel
theorem dL_isForestRight_10 : decode cL_isForestRight 10 = .ok (.istore_n 3, 1) := by decide +kernel
theorem dL_isForestRight_11 : decode cL_isForestRight 11 = .ok (.iconst 0, 1) := by decide +kernel
theorem dL_isForestRight_12 : decode cL_isForestRight 12 = .ok (.istore 4, 2) := by decide +kernel
theorem dL_isForestRight_14 : decode cL_isForestRight 14 = .ok (.iload 4, 2) := by decide +kernel
theorem dL_isForestRight_16 : decode cL_isForestRight 16 = .ok (.iload_n 1, 1) := by decide +kernel
theorem dL_isForestRight_17 : decode cL_isForestRight 17 = .ok (.if_icmp .ge 39, 3) := by decide +kernel
theorem dL_isForestRight_20 : decode cL_isForestRight 20 = .ok (.aload_n 2, 1) := by decide +kernel
theorem dL_isForestRight_21 : decode cL_isForestRight 21 = .ok (.iload 4, 2) := by decide +kernel
theorem dL_isForestRight_23 : decode cL_isForestRight 23 = .ok (.aload_n 0, 1) := by decide +kernel
theorem dL_isForestRight_24 : decode cL_isForestRight 24 = .ok (.iload 4, 2) := by decide +kernel
theorem dL_isForestRight_26 : decode cL_isForestRight 26 = .ok (.invokevirtual 159, 3) := by decide +kernel
theorem dL_isForestRight_29 : decode cL_isForestRight 29 = .ok (.bastore, 1) := by decide +kernel
theorem dL_isForestRight_30 : decode cL_isForestRight 30 = .ok (.iload_n 3, 1) := by decide +kernel
theorem dL_isForestRight_31 : decode cL_isForestRight 31 = .ok (.aload_n 2, 1) := by decide +kernel
theorem dL_isForestRight_32 : decode cL_isForestRight 32 = .ok (.iload 4, 2) := by decide +kernel
theorem dL_isForestRight_34 : decode cL_isForestRight 34 = .ok (.baload, 1) := by decide +kernel
theorem dL_isForestRight_35 : decode cL_isForestRight 35 = .ok (.ifCond .eq 12, 3) := by decide +kernel
theorem dL_isForestRight_38 : decode cL_isForestRight 38 = .ok (.aload_n 0, 1) := by decide +kernel
theorem dL_isForestRight_39 : decode cL_isForestRight 39 = .ok (.iload 4, 2) := by decide +kernel
theorem dL_isForestRight_41 : decode cL_isForestRight 41 = .ok (.invokevirtual 103, 3) := by decide +kernel
theorem dL_isForestRight_44 : decode cL_isForestRight 44 = .ok (.goto 4, 3) := by decide +kernel
theorem dL_isForestRight_47 : decode cL_isForestRight 47 = .ok (.iconst 0, 1) := by decide +kernel
theorem dL_isForestRight_48 : decode cL_isForestRight 48 = .ok (.iadd, 1) := by decide +kernel
theorem dL_isForestRight_49 : decode cL_isForestRight 49 = .ok (.istore_n 3, 1) := by decide +kernel
theorem dL_isForestRight_50 : decode cL_isForestRight 50 = .ok (.iinc 4 1, 3) := by decide +kernel
theorem dL_isForestRight_53 : decode cL_isForestRight 53 = .ok (.goto (-39), 3) := by decide +kernel
theorem dL_isForestRight_56 : decode cL_isForestRight 56 = .ok (.bipush 9, 2) := by decide +kernel
theorem dL_isForestRight_58 : decode cL_isForestRight 58 = .ok (.istore 4, 2) := by decide +kernel
theorem dL_isForestRight_60 : decode cL_isForestRight 60 = .ok (.iload 4, 2) := by decide +kernel
theorem dL_isForestRight_62 : decode cL_isForestRight 62 = .ok (.ifCond .le 94, 3) := by decide +kernel
theorem dL_isForestRight_65 : decode cL_isForestRight 65 = .ok (.iconst 0, 1) := by decide +kernel
theorem dL_isForestRight_66 : decode cL_isForestRight 66 = .ok (.istore 5, 2) := by decide +kernel
theorem dL_isForestRight_68 : decode cL_isForestRight 68 = .ok (.iload 5, 2) := by decide +kernel
theorem dL_isForestRight_70 : decode cL_isForestRight 70 = .ok (.iload_n 1, 1) := by decide +kernel
theorem dL_isForestRight_71 : decode cL_isForestRight 71 = .ok (.if_icmp .ge 79, 3) := by decide +kernel
theorem dL_isForestRight_74 : decode cL_isForestRight 74 = .ok (.aload_n 2, 1) := by decide +kernel
theorem dL_isForestRight_75 : decode cL_isForestRight 75 = .ok (.iload 5, 2) := by decide +kernel
theorem dL_isForestRight_77 : decode cL_isForestRight 77 = .ok (.baload, 1) := by decide +kernel
theorem dL_isForestRight_78 : decode cL_isForestRight 78 = .ok (.ifCond .eq 66, 3) := by decide +kernel
theorem dL_isForestRight_81 : decode cL_isForestRight 81 = .ok (.aload_n 0, 1) := by decide +kernel
theorem dL_isForestRight_82 : decode cL_isForestRight 82 = .ok (.iload 5, 2) := by decide +kernel
theorem dL_isForestRight_84 : decode cL_isForestRight 84 = .ok (.invokevirtual 103, 3) := by decide +kernel
theorem dL_isForestRight_87 : decode cL_isForestRight 87 = .ok (.iload 4, 2) := by decide +kernel
theorem dL_isForestRight_89 : decode cL_isForestRight 89 = .ok (.if_icmp .ne 55, 3) := by decide +kernel
theorem dL_isForestRight_92 : decode cL_isForestRight 92 = .ok (.aload_n 2, 1) := by decide +kernel
theorem dL_isForestRight_93 : decode cL_isForestRight 93 = .ok (.iload 5, 2) := by decide +kernel
theorem dL_isForestRight_95 : decode cL_isForestRight 95 = .ok (.iconst 0, 1) := by decide +kernel
theorem dL_isForestRight_96 : decode cL_isForestRight 96 = .ok (.bastore, 1) := by decide +kernel
theorem dL_isForestRight_97 : decode cL_isForestRight 97 = .ok (.aload_n 0, 1) := by decide +kernel
theorem dL_isForestRight_98 : decode cL_isForestRight 98 = .ok (.aload_n 2, 1) := by decide +kernel
theorem dL_isForestRight_99 : decode cL_isForestRight 99 = .ok (.aload_n 0, 1) := by decide +kernel
theorem dL_isForestRight_100 : decode cL_isForestRight 100 = .ok (.iload 5, 2) := by decide +kernel
theorem dL_isForestRight_102 : decode cL_isForestRight 102 = .ok (.invokevirtual 162, 3) := by decide +kernel
theorem dL_isForestRight_105 : decode cL_isForestRight 105 = .ok (.aload_n 0, 1) := by decide +kernel
theorem dL_isForestRight_106 : decode cL_isForestRight 106 = .ok (.iload 5, 2) := by decide +kernel
theorem dL_isForestRight_108 : decode cL_isForestRight 108 = .ok (.invokevirtual 165, 3) := by decide +kernel
theorem dL_isForestRight_111 : decode cL_isForestRight 111 = .ok (.invokestatic 180, 3) := by decide +kernel
theorem dL_isForestRight_114 : decode cL_isForestRight 114 = .ok (.istore 6, 2) := by decide +kernel
theorem dL_isForestRight_116 : decode cL_isForestRight 116 = .ok (.aload_n 2, 1) := by decide +kernel
theorem dL_isForestRight_117 : decode cL_isForestRight 117 = .ok (.iload 5, 2) := by decide +kernel
theorem dL_isForestRight_119 : decode cL_isForestRight 119 = .ok (.iload 6, 2) := by decide +kernel
theorem dL_isForestRight_121 : decode cL_isForestRight 121 = .ok (.ifCond .ne 7, 3) := by decide +kernel
theorem dL_isForestRight_124 : decode cL_isForestRight 124 = .ok (.iconst 1, 1) := by decide +kernel
theorem dL_isForestRight_125 : decode cL_isForestRight 125 = .ok (.goto 4, 3) := by decide +kernel
theorem dL_isForestRight_128 : decode cL_isForestRight 128 = .ok (.iconst 0, 1) := by decide +kernel
theorem dL_isForestRight_129 : decode cL_isForestRight 129 = .ok (.bastore, 1) := by decide +kernel
theorem dL_isForestRight_130 : decode cL_isForestRight 130 = .ok (.iload_n 3, 1) := by decide +kernel
theorem dL_isForestRight_131 : decode cL_isForestRight 131 = .ok (.iload 6, 2) := by decide +kernel
theorem dL_isForestRight_133 : decode cL_isForestRight 133 = .ok (.ifCond .eq 8, 3) := by decide +kernel
theorem dL_isForestRight_136 : decode cL_isForestRight 136 = .ok (.iload 4, 2) := by decide +kernel
theorem dL_isForestRight_138 : decode cL_isForestRight 138 = .ok (.goto 4, 3) := by decide +kernel
theorem dL_isForestRight_141 : decode cL_isForestRight 141 = .ok (.iconst 0, 1) := by decide +kernel
theorem dL_isForestRight_142 : decode cL_isForestRight 142 = .ok (.isub, 1) := by decide +kernel
theorem dL_isForestRight_143 : decode cL_isForestRight 143 = .ok (.istore_n 3, 1) := by decide +kernel
theorem dL_isForestRight_144 : decode cL_isForestRight 144 = .ok (.iinc 5 1, 3) := by decide +kernel
theorem dL_isForestRight_147 : decode cL_isForestRight 147 = .ok (.goto (-79), 3) := by decide +kernel
theorem dL_isForestRight_150 : decode cL_isForestRight 150 = .ok (.iinc 4 (-1), 3) := by decide +kernel
theorem dL_isForestRight_153 : decode cL_isForestRight 153 = .ok (.goto (-93), 3) := by decide +kernel
theorem dL_isForestRight_156 : decode cL_isForestRight 156 = .ok (.aload_n 0, 1) := by decide +kernel
theorem dL_isForestRight_157 : decode cL_isForestRight 157 = .ok (.invokevirtual 184, 3) := by decide +kernel
theorem dL_isForestRight_160 : decode cL_isForestRight 160 = .ok (.iload_n 3, 1) := by decide +kernel
theorem dL_isForestRight_161 : decode cL_isForestRight 161 = .ok (.if_icmp .ne 15, 3) := by decide +kernel
theorem dL_isForestRight_164 : decode cL_isForestRight 164 = .ok (.aload_n 0, 1) := by decide +kernel
theorem dL_isForestRight_165 : decode cL_isForestRight 165 = .ok (.invokevirtual 187, 3) := by decide +kernel
theorem dL_isForestRight_168 : decode cL_isForestRight 168 = .ok (.iload_n 3, 1) := by decide +kernel
theorem dL_isForestRight_169 : decode cL_isForestRight 169 = .ok (.if_icmp .ne 7, 3) := by decide +kernel
theorem dL_isForestRight_172 : decode cL_isForestRight 172 = .ok (.iconst 1, 1) := by decide +kernel
theorem dL_isForestRight_173 : decode cL_isForestRight 173 = .ok (.goto 4, 3) := by decide +kernel
theorem dL_isForestRight_176 : decode cL_isForestRight 176 = .ok (.iconst 0, 1) := by decide +kernel
theorem dL_isForestRight_177 : decode cL_isForestRight 177 = .ok (.ireturn, 1) := by decide +kernel
def f_L_isForestRight_j177  (s0_177 : Bool) (stays0_177 : (Nat → Bool)) : Bool := s0_177
def f_L_isForestRight_j176  (stays0_176 : (Nat → Bool)) : Bool := (f_L_isForestRight_j177 (false) (stays0_176))
def f_L_isForestRight_j144  (v3_144 : Int32) (stays0_144 : (Nat → Bool)) : Sum (Sum (Bool) (Int32 × (Nat → Bool))) (Int32 × (Nat → Bool)) := (Sum.inr (v3_144, stays0_144))
def f_L_isForestRight_j142  (s0_142 : Int32) (s1_142 : Int32) (stays0_142 : (Nat → Bool)) : Sum (Sum (Bool) (Int32 × (Nat → Bool))) (Int32 × (Nat → Bool)) := (f_L_isForestRight_j144 ((s1_142 - s0_142)) (stays0_142))
def f_L_isForestRight_j129 (k60 : Nat) (v3_129 : Int32) (v6_129 : Bool) (s0_129 : Bool) (s1_129 : Nat) (stays0_129 : (Nat → Bool)) : Sum (Sum (Bool) (Int32 × (Nat → Bool))) (Int32 × (Nat → Bool)) := (if v6_129 = true then (f_L_isForestRight_j142 ((nI (9 - k60))) (v3_129) ((updB stays0_129 s1_129 s0_129))) else (f_L_isForestRight_j142 (0) (v3_129) ((updB stays0_129 s1_129 s0_129))))
def f_L_isForestRight_l68b (K : CT) (k60 : Nat) (k68 : Nat) (v3_68 : Int32) (stays0_68 : (Nat → Bool)) : Sum (Sum (Bool) (Int32 × (Nat → Bool))) (Int32 × (Nat → Bool)) := (if (stays0_68 k68) = true then (if (gLen (kG K) k68) = (nI (9 - k60)) then (if (f_L_isJoined K (updB stays0_68 k68 false) (gLo (kG K) k68) (gHi (kG K) k68)) = true then (f_L_isForestRight_j129 k60 (v3_68) ((f_L_isJoined K (updB stays0_68 k68 false) (gLo (kG K) k68) (gHi (kG K) k68))) (false) (k68) ((updB stays0_68 k68 false))) else (f_L_isForestRight_j129 k60 (v3_68) ((f_L_isJoined K (updB stays0_68 k68 false) (gLo (kG K) k68) (gHi (kG K) k68))) (true) (k68) ((updB stays0_68 k68 false)))) else (f_L_isForestRight_j144 (v3_68) (stays0_68))) else (f_L_isForestRight_j144 (v3_68) (stays0_68)))
def f_L_isForestRight_l68x (K : CT) (k60 : Nat) (v3_68 : Int32) (stays0_68 : (Nat → Bool)) : Sum (Bool) (Int32 × (Nat → Bool)) := (Sum.inr (v3_68, stays0_68))
def f_L_isForestRight_l68s (K : CT) (k60 : Nat) (k68 : Nat) (q_ : Int32 × (Nat → Bool)) : Sum (Sum (Bool) (Int32 × (Nat → Bool))) (Int32 × (Nat → Bool)) := f_L_isForestRight_l68b K k60 k68 (q_.1) (q_.2)
def f_L_isForestRight_l68e (K : CT) (k60 : Nat) (q_ : Int32 × (Nat → Bool)) : Sum (Bool) (Int32 × (Nat → Bool)) := f_L_isForestRight_l68x K k60 (q_.1) (q_.2)
def f_L_isForestRight_l68 (K : CT) (k60 : Nat) (n68 k68 : Nat) (v3_68 : Int32) (stays0_68 : (Nat → Bool)) : Sum (Bool) (Int32 × (Nat → Bool)) := lpF (f_L_isForestRight_l68s K k60) (f_L_isForestRight_l68e K k60) n68 k68 (v3_68, stays0_68)
def f_L_isForestRight_l60b (K : CT) (k60 : Nat) (v3_60 : Int32) (stays0_60 : (Nat → Bool)) : Sum (Bool) (Int32 × (Nat → Bool)) := (f_L_isForestRight_l68 K k60 (gS (kG K)) 0 (v3_60) (stays0_60))
def f_L_isForestRight_l60x (K : CT) (v3_60 : Int32) (stays0_60 : (Nat → Bool)) : Bool := (if (f_X2_kruskalLength R0 (kG K)).1 = v3_60 then (if (f_X2_primLength R0 (kG K)) = v3_60 then (f_L_isForestRight_j177 (true) (stays0_60)) else (f_L_isForestRight_j176 (stays0_60))) else (f_L_isForestRight_j176 (stays0_60)))
def f_L_isForestRight_l60s (K : CT) (k60 : Nat) (q_ : Int32 × (Nat → Bool)) : Sum (Bool) (Int32 × (Nat → Bool)) := f_L_isForestRight_l60b K k60 (q_.1) (q_.2)
def f_L_isForestRight_l60e (K : CT) (q_ : Int32 × (Nat → Bool)) : Bool := f_L_isForestRight_l60x K (q_.1) (q_.2)
def f_L_isForestRight_l60 (K : CT) (n60 k60 : Nat) (v3_60 : Int32) (stays0_60 : (Nat → Bool)) : Bool := lpF (f_L_isForestRight_l60s K) (f_L_isForestRight_l60e K) n60 k60 (v3_60, stays0_60)
def f_L_isForestRight_j48  (s0_48 : Int32) (s1_48 : Int32) (stays0_48 : (Nat → Bool)) : Sum (Bool) (Int32 × (Nat → Bool)) := (Sum.inr ((s1_48 + s0_48), stays0_48))
def f_L_isForestRight_l14b (K : CT) (k14 : Nat) (v3_14 : Int32) (stays0_14 : (Nat → Bool)) : Sum (Bool) (Int32 × (Nat → Bool)) := (if ((updB stays0_14 k14 (f_X1_hasBridge (kG K) k14)) k14) = true then (f_L_isForestRight_j48 ((gLen (kG K) k14)) (v3_14) ((updB stays0_14 k14 (f_X1_hasBridge (kG K) k14)))) else (f_L_isForestRight_j48 (0) (v3_14) ((updB stays0_14 k14 (f_X1_hasBridge (kG K) k14)))))
def f_L_isForestRight_l14x (K : CT) (v3_14 : Int32) (stays0_14 : (Nat → Bool)) : Bool := (f_L_isForestRight_l60 K (9) 0 (v3_14) (stays0_14))
def f_L_isForestRight_l14s (K : CT) (k14 : Nat) (q_ : Int32 × (Nat → Bool)) : Sum (Bool) (Int32 × (Nat → Bool)) := f_L_isForestRight_l14b K k14 (q_.1) (q_.2)
def f_L_isForestRight_l14e (K : CT) (q_ : Int32 × (Nat → Bool)) : Bool := f_L_isForestRight_l14x K (q_.1) (q_.2)
def f_L_isForestRight_l14 (K : CT) (n14 k14 : Nat) (v3_14 : Int32) (stays0_14 : (Nat → Bool)) : Bool := lpF (f_L_isForestRight_l14s K) (f_L_isForestRight_l14e K) n14 k14 (v3_14, stays0_14)
def f_L_isForestRight (K : CT) : Bool := (f_L_isForestRight_l14 K (gS (kG K)) 0 (0) ((fun _ => false)))
set_option maxHeartbeats 40000000 in
set_option maxRecDepth 100000 in
theorem c_L_isForestRight (l : Launch) (D : va_G) (C : Nat → ClassId) (ev u : Nat → Nat) (K : CT) (T : TX) (hl9 : l.stackTraces = false) (hI : GI (kG K)) (hFe : FerOK (kG K)) : KM l yL_isForestRight wsL_isForestRight ({ frames := 9, cells := 34217, slots := 205308, locals := 151 } : Room) [.ref (u 0)] D C ev u K T T (some (.int (bI (f_L_isForestRight K)))) 34217 205308 := by
  intro x sz hF
  refine Met.ofW (cc := cL_isForestRight) (maxL := 7) (ret := (some .boolean)) (by decide) rfl ?_
  intro p e s m args below meth c s₁ B hml hv
  obtain ⟨⟨⟨rfl, hsz, hP, hK, hD0, hE, hR, hX, hT9, hV9⟩, hDV⟩, hN, hC⟩ := hv
  have hx := B.exec
  have hb := B.bytes
  have hr := B.returns
  have hts := atoms_spec (ws := wsL_isForestRight) B.pre
  have hown : s.vm.findClass RL = some m.cls := findClass_of_methodNamed B.named
  have hlocks := B.notSynchronized
  subst hsz
  have hD := hD0.self (sz := s.heap.size)
  generalize hAe : va_A (kW C ev u K x) s.heap.size = A at hD hX hV9 hDV ⊢
  have hA : ∀ q : Nat, s.heap.size ≤ q → A q := fun q h => by rw [← hAe]; exact Or.inr h
  have hS : va_S A s.heap s.heap [] := va_S.rf
  have hP : va_P D vwCl (wj [kW C ev u K x]) s.heap := hP
  have hD : va_D A (wj [kW C ev u K x]) := hD
  obtain ⟨hS12, hP4, hlo, hhi⟩ := GI_safe hI
  have hl := lv_entry ([.ref (u 0)]) (n := 7) (Nat.le_of_ble_eq_true rfl)
  rw [lg_entry_eq]
  generalize (lg_sl ([.ref (u 0)]) ++ List.replicate (7 - (lg_sl ([.ref (u 0)])).length) Slot.unset).toArray = ls at hl ⊢
  have hl : lv_has ls 7 [(0, .ref (u 0))] := hl
  obtain ⟨z, hz⟩ : ∃ z, z = f_L_isForestRight K := ⟨_, rfl⟩
  rw [← hz]
  suffices hh : ∀ cells slots : Nat, cells = 0 → slots = 0 → W p l e ({ frames := 9, cells := 34217, slots := 205308, locals := 151 } : Room) s m ([.ref (u 0)] : List Value).toArray below meth c s.heap [] cells slots (MQ below (eO (fun _ : KX => (some (.int (bI z)))) D (kF T) (kW C ev u K) A) ([.ref (u 0)] : List Value).toArray s 34217 205308 A) (F0 m 0 ls []) from hh 0 0 rfl rfl
  intro cells slots hc0 hs0
  have hc : cells + (34217) ≤ 34217 := by omega
  have hs : slots + (205308) ≤ 205308 := by omega
  clear hc0 hs0
  obtain ⟨q34190, hq34190⟩ : ∃ q : Nat, q = 34190 := ⟨_, rfl⟩
  obtain ⟨q205140, hq205140⟩ : ∃ q : Nat, q = 205140 := ⟨_, rfl⟩
  obtain ⟨b263, hb263, mb263⟩ : ∃ b : Nat → Nat, (∀ n, b (n + 1) = b n + 263) ∧ ∀ n, n ≤ 13 → b n ≤ 3419 := ⟨fun n => n * 263, fun n => Nat.succ_mul n 263, fun n h => Nat.le_trans (Nat.mul_le_mul_right 263 h) (Nat.le_of_ble_eq_true rfl)⟩
  obtain ⟨b1578, hb1578, mb1578⟩ : ∃ b : Nat → Nat, (∀ n, b (n + 1) = b n + 1578) ∧ ∀ n, n ≤ 13 → b n ≤ 20514 := ⟨fun n => n * 1578, fun n => Nat.succ_mul n 1578, fun n h => Nat.le_trans (Nat.mul_le_mul_right 1578 h) (Nat.le_of_ble_eq_true rfl)⟩
  obtain ⟨b2, hb2, mb2⟩ : ∃ b : Nat → Nat, (∀ n, b (n + 1) = b n + 2) ∧ ∀ n, n ≤ 13 → b n ≤ 26 := ⟨fun n => n * 2, fun n => Nat.succ_mul n 2, fun n h => Nat.le_trans (Nat.mul_le_mul_right 2 h) (Nat.le_of_ble_eq_true rfl)⟩
  obtain ⟨b12, hb12, mb12⟩ : ∃ b : Nat → Nat, (∀ n, b (n + 1) = b n + 12) ∧ ∀ n, n ≤ 13 → b n ≤ 156 := ⟨fun n => n * 12, fun n => Nat.succ_mul n 12, fun n h => Nat.le_trans (Nat.mul_le_mul_right 12 h) (Nat.le_of_ble_eq_true rfl)⟩
  obtain ⟨b3419, hb3419, mb3419⟩ : ∃ b : Nat → Nat, (∀ n, b (n + 1) = b n + 3419) ∧ b (9 + 1) = 34190 := ⟨fun n => n * 3419, fun n => Nat.succ_mul n 3419, Nat.eq_of_beq_eq_true rfl⟩
  obtain ⟨b20514, hb20514, mb20514⟩ : ∃ b : Nat → Nat, (∀ n, b (n + 1) = b n + 20514) ∧ b (9 + 1) = 205140 := ⟨fun n => n * 20514, fun n => Nat.succ_mul n 20514, Nat.eq_of_beq_eq_true rfl⟩
  have m2 := mb2 (gS (kG K) + 1) (by omega)
  have m12 := mb12 (gS (kG K) + 1) (by omega)
  have m263 := mb263 (gS (kG K) + 1) (by omega)
  have m1578 := mb1578 (gS (kG K) + 1) (by omega)
  refine lv_aload_n hx hb dL_isForestRight_0 rfl (lv_at hl 0 rfl) ?_
  refine callK (va_runV (As := []) (rest := []) ⟨hx, hb, hml, hown, hts⟩ (k_siteCount (l := l) (D := D) (C := C) (ev := ev) (u := u) (T := T) hl9 hI x _ hF) (cwV 0 hts gL_isForestRight_X7_siteCount rfl rfl rfl (by decide +kernel) ⟨Nat.le_of_ble_eq_true rfl, Nat.le_of_ble_eq_true rfl⟩) (hloP_v (kP hP) hK hE (kD hD) hR hX hT9 hV9 hDV hN hC hS (kFr hD hS hA) (kRc hK hP)) rfl rfl hl.1 rfl (lv_room (Nat.le_of_ble_eq_true rfl)) dL_isForestRight_1 ⟨show _ ≤ 34217 from by omega, show _ ≤ 205308 from by omega⟩) hP hD hS hA (fun x H locs hF hP hD hS => ?_)
  refine lv_istore_n (lv' := [(1, .int (nI (gS (kG K)))), (0, .ref (u 0))]) hx hb dL_isForestRight_4 rfl hl (by decide) rfl (fun ls hl => ?_)
  refine lv_iload_n hx hb dL_isForestRight_5 rfl (lv_at hl 0 rfl) ?_
  refine stNew (X := kW C ev u K x) (n := (gS (kG K))) (show (gS (kG K)) ≤ 12 from hS12) hx hb (hts (.arrayClass .boolean) (by decide +kernel)) hK hP hD hS hA (show _ ≤ 34217 from by omega) (show _ ≤ 205308 from by omega) dL_isForestRight_6 (fun o H hP hD hS => ?_)
  have J177 : ∀ (s0_177 : Bool) (stays0_177 : (Nat → Bool))  (x : KX) (H : Heap) (locs : List Loc) (cells slots : Nat) (ls : Array Slot), z = f_L_isForestRight_j177 s0_177 stays0_177 → kF T x → cells + (0) ≤ 34217 → slots + (0) ≤ 205308 → va_P D vwCl (wj [kW C ev u K x, stc C o (gS (kG K)) stays0_177]) H → va_D A (wj [kW C ev u K x, stc C o (gS (kG K)) stays0_177]) → va_S A s.heap H locs → lv_has ls 7 [] → W p l e ({ frames := 9, cells := 34217, slots := 205308, locals := 151 } : Room) s m ([.ref (u 0)] : List Value).toArray below meth c H locs cells slots (MQ below (eO (fun _ : KX => (some (.int (bI z)))) D (kF T) (kW C ev u K) A) ([.ref (u 0)] : List Value).toArray s 34217 205308 A) (F0 m 177 ls [.int (bI s0_177)]) := by
    intro s0_177 stays0_177 x H locs cells slots ls hz  hF hc hs hP hD hS hl
    exact k_retB hx hb hr hF hP hD hS (show _ = s0_177 from hz) (by omega) (by omega) dL_isForestRight_177 hlocks
  have J176 : ∀ (stays0_176 : (Nat → Bool))  (x : KX) (H : Heap) (locs : List Loc) (cells slots : Nat) (ls : Array Slot), z = f_L_isForestRight_j176 stays0_176 → kF T x → cells + (0) ≤ 34217 → slots + (0) ≤ 205308 → va_P D vwCl (wj [kW C ev u K x, stc C o (gS (kG K)) stays0_176]) H → va_D A (wj [kW C ev u K x, stc C o (gS (kG K)) stays0_176]) → va_S A s.heap H locs → lv_has ls 7 [] → W p l e ({ frames := 9, cells := 34217, slots := 205308, locals := 151 } : Room) s m ([.ref (u 0)] : List Value).toArray below meth c H locs cells slots (MQ below (eO (fun _ : KX => (some (.int (bI z)))) D (kF T) (kW C ev u K) A) ([.ref (u 0)] : List Value).toArray s 34217 205308 A) (F0 m 176 ls []) := by
    intro stays0_176 x H locs cells slots ls hz  hF hc hs hP hD hS hl
    refine lv_iconst (v := 0) hx hb dL_isForestRight_176 (by decide) ?_
    exact J177 (false) (stays0_176) _ _ _ _ _ ls hz  hF (by omega) (by omega) hP hD hS (lv_sub hl [] rfl)
  have J60 : ∀ (n60 k60 : Nat) (v3_60 : Int32) (stays0_60 : (Nat → Bool)) (x : KX) (H : Heap) (locs : List Loc) (cells slots : Nat) (ls : Array Slot), k60 + n60 = 9 → z = f_L_isForestRight_l60 K n60 k60 v3_60 stays0_60 → kF T x → cells + (b3419 (n60 + 1)) ≤ 34217 → slots + (b20514 (n60 + 1)) ≤ 205308 → va_P D vwCl (wj [kW C ev u K x, stc C o (gS (kG K)) stays0_60]) H → va_D A (wj [kW C ev u K x, stc C o (gS (kG K)) stays0_60]) → va_S A s.heap H locs → lv_has ls 7 [(0, .ref (u 0)), (1, .int (nI (gS (kG K)))), (2, .ref o), (3, .int v3_60), (4, .int (nI (9 - k60)))] → W p l e ({ frames := 9, cells := 34217, slots := 205308, locals := 151 } : Room) s m ([.ref (u 0)] : List Value).toArray below meth c H locs cells slots (MQ below (eO (fun _ : KX => (some (.int (bI z)))) D (kF T) (kW C ev u K) A) ([.ref (u 0)] : List Value).toArray s 34217 205308 A) (F0 m 60 ls []) := by
    intro n60
    induction n60 with
    | zero =>
      intro k60 v3_60 stays0_60 x H locs cells slots ls hk60 hz  hF hc hs hP hD hS hl
      have hz : z = f_L_isForestRight_l60x K v3_60 stays0_60 := hz
      refine lv_iload hx hb dL_isForestRight_60 (lv_at hl 4 rfl) ?_
      refine lv_if_le (tgt := 156) hx hb dL_isForestRight_62 (by decide) (fun c_62 => ?_) (fun c_62 => absurd (by rw [show 9 - k60 = 0 from by omega]; decide) c_62)
      refine lv_aload_n hx hb dL_isForestRight_156 rfl (lv_at hl 0 rfl) ?_
      refine callK (va_runV (As := []) (rest := []) ⟨hx, hb, hml, hown, hts⟩ (k_forestLength (l := l) (D := D) (C := C) (ev := ev) (u := u) (T := T) hl9 hI x _ hF) (cwV 0 hts gL_isForestRight_X7_forestLength rfl rfl rfl (by decide +kernel) ⟨Nat.le_of_ble_eq_true rfl, Nat.le_of_ble_eq_true rfl⟩) (hloP_v (kP hP) hK hE (kD hD) hR hX hT9 hV9 hDV hN hC hS (kFr hD hS hA) (kRc hK hP)) rfl rfl hl.1 rfl (lv_room (Nat.le_of_ble_eq_true rfl)) dL_isForestRight_157 ⟨show _ ≤ 34217 from by omega, show _ ≤ 205308 from by omega⟩) hP hD hS hA (fun x H locs hF hP hD hS => ?_)
      refine lv_iload_n hx hb dL_isForestRight_160 rfl (lv_at hl 3 rfl) ?_
      refine lv_icmp_ne (tgt := 176) hx hb dL_isForestRight_161 (by decide) (fun c_161 => ?_) (fun c_161 => ?_)
      · have hz := hz.trans (if_neg c_161)
        exact J176 (stays0_60) _ _ _ _ _ ls hz  hF (by omega) (by omega) hP hD hS (lv_sub hl [] rfl)
      · have hz := hz.trans (if_pos c_161)
        refine lv_aload_n hx hb dL_isForestRight_164 rfl (lv_at hl 0 rfl) ?_
        refine callK (va_runV (As := []) (rest := []) ⟨hx, hb, hml, hown, hts⟩ (k_forestLengthByPrim (l := l) (D := D) (C := C) (ev := ev) (u := u) (T := T) hl9 hI x _ hF) (cwV 0 hts gL_isForestRight_X7_forestLengthByPrim rfl rfl rfl (by decide +kernel) ⟨Nat.le_of_ble_eq_true rfl, Nat.le_of_ble_eq_true rfl⟩) (hloP_v (kP hP) hK hE (kD hD) hR hX hT9 hV9 hDV hN hC hS (kFr hD hS hA) (kRc hK hP)) rfl rfl hl.1 rfl (lv_room (Nat.le_of_ble_eq_true rfl)) dL_isForestRight_165 ⟨show _ ≤ 34217 from by omega, show _ ≤ 205308 from by omega⟩) hP hD hS hA (fun x H locs hF hP hD hS => ?_)
        refine lv_iload_n hx hb dL_isForestRight_168 rfl (lv_at hl 3 rfl) ?_
        refine lv_icmp_ne (tgt := 176) hx hb dL_isForestRight_169 (by decide) (fun c_169 => ?_) (fun c_169 => ?_)
        · have hz := hz.trans (if_neg c_169)
          exact J176 (stays0_60) _ _ _ _ _ ls hz  hF (by omega) (by omega) hP hD hS (lv_sub hl [] rfl)
        · have hz := hz.trans (if_pos c_169)
          refine lv_iconst (v := 1) hx hb dL_isForestRight_172 (by decide) ?_
          refine lv_goto (tgt := 177) hx hb dL_isForestRight_173 (by decide) ?_
          exact J177 (true) (stays0_60) _ _ _ _ _ ls hz  hF (by omega) (by omega) hP hD hS (lv_sub hl [] rfl)
    | succ n60 ih60 =>
      intro k60 v3_60 stays0_60 x H locs cells slots ls hk60 hz60  hF hc hs hP hD hS hl
      have e3419 := hb3419 (n60 + 1)
      have e20514 := hb20514 (n60 + 1)
      obtain ⟨z60, hz⟩ : ∃ zz_, zz_ = f_L_isForestRight_l60b K k60 v3_60 stays0_60 := ⟨_, rfl⟩
      have hq60 : z = sE id (fun q_ => lpF (f_L_isForestRight_l60s K) (f_L_isForestRight_l60e K) n60 (k60 + 1) q_) z60 := by rw [hz60, hz]; rfl
      have J68 : ∀ (n68 k68 : Nat) (v3_68 : Int32) (stays0_68 : (Nat → Bool)) (x : KX) (H : Heap) (locs : List Loc) (cells slots : Nat) (ls : Array Slot), k68 + n68 = gS (kG K) → z60 = f_L_isForestRight_l68 K k60 n68 k68 v3_68 stays0_68 → kF T x → cells + (b263 (n68 + 1) + b3419 (n60 + 1)) ≤ 34217 → slots + (b1578 (n68 + 1) + b20514 (n60 + 1)) ≤ 205308 → va_P D vwCl (wj [kW C ev u K x, stc C o (gS (kG K)) stays0_68]) H → va_D A (wj [kW C ev u K x, stc C o (gS (kG K)) stays0_68]) → va_S A s.heap H locs → lv_has ls 7 [(0, .ref (u 0)), (1, .int (nI (gS (kG K)))), (2, .ref o), (3, .int v3_68), (4, .int (nI (9 - k60))), (5, .int (nI k68))] → W p l e ({ frames := 9, cells := 34217, slots := 205308, locals := 151 } : Room) s m ([.ref (u 0)] : List Value).toArray below meth c H locs cells slots (MQ below (eO (fun _ : KX => (some (.int (bI z)))) D (kF T) (kW C ev u K) A) ([.ref (u 0)] : List Value).toArray s 34217 205308 A) (F0 m 68 ls []) := by
        intro n68
        induction n68 with
        | zero =>
          intro k68 v3_68 stays0_68 x H locs cells slots ls hk68 hz  hF hc hs hP hD hS hl
          have hz : z60 = f_L_isForestRight_l68x K k60 v3_68 stays0_68 := hz
          refine lv_iload hx hb dL_isForestRight_68 (lv_at hl 5 rfl) ?_
          refine lv_iload_n hx hb dL_isForestRight_70 rfl (lv_at hl 1 rfl) ?_
          refine lv_icmp_ge (tgt := 150) hx hb dL_isForestRight_71 (by decide) (fun c_71 => ?_) (fun c_71 => absurd (nI_le (by omega) (by omega)) c_71)
          refine lv_iinc (v := (nI (9 - (k60 + 1)))) (lv' := [(4, .int (nI (9 - (k60 + 1)))), (0, .ref (u 0)), (1, .int (nI (gS (kG K)))), (2, .ref o), (3, .int v3_68), (5, .int (nI k68))]) hx hb dL_isForestRight_150 hl (k := 4) rfl (by exact nI_dn9 k60 (by omega)) (by decide) rfl (fun ls hl => ?_)
          refine lv_goto (tgt := 60) hx hb dL_isForestRight_153 (by decide) ?_
          exact ih60 (k60 + 1) (v3_68) (stays0_68) _ _ _ _ _ ls (by omega) (by rw [hq60, hz]; rfl)  hF (by omega) (by omega) hP hD hS (lv_sub hl [1, 2, 3, 4, 0] rfl)
        | succ n68 ih68 =>
          intro k68 v3_68 stays0_68 x H locs cells slots ls hk68 hz68  hF hc hs hP hD hS hl
          have e263 := hb263 (n68 + 1)
          have e1578 := hb1578 (n68 + 1)
          obtain ⟨z68, hz⟩ : ∃ zz_, zz_ = f_L_isForestRight_l68b K k60 k68 v3_68 stays0_68 := ⟨_, rfl⟩
          have hq68 : z60 = sE id (fun q_ => lpF (f_L_isForestRight_l68s K k60) (f_L_isForestRight_l68e K k60) n68 (k68 + 1) q_) z68 := by rw [hz68, hz]; rfl
          have J144 : ∀ (v3_144 : Int32) (stays0_144 : (Nat → Bool))  (x : KX) (H : Heap) (locs : List Loc) (cells slots : Nat) (ls : Array Slot), z68 = f_L_isForestRight_j144 v3_144 stays0_144 → kF T x → cells + (b263 (n68 + 1) + b3419 (n60 + 1)) ≤ 34217 → slots + (b1578 (n68 + 1) + b20514 (n60 + 1)) ≤ 205308 → va_P D vwCl (wj [kW C ev u K x, stc C o (gS (kG K)) stays0_144]) H → va_D A (wj [kW C ev u K x, stc C o (gS (kG K)) stays0_144]) → va_S A s.heap H locs → lv_has ls 7 [(0, .ref (u 0)), (1, .int (nI (gS (kG K)))), (2, .ref o), (3, .int v3_144), (4, .int (nI (9 - k60))), (5, .int (nI k68))] → W p l e ({ frames := 9, cells := 34217, slots := 205308, locals := 151 } : Room) s m ([.ref (u 0)] : List Value).toArray below meth c H locs cells slots (MQ below (eO (fun _ : KX => (some (.int (bI z)))) D (kF T) (kW C ev u K) A) ([.ref (u 0)] : List Value).toArray s 34217 205308 A) (F0 m 144 ls []) := by
            intro v3_144 stays0_144 x H locs cells slots ls hz  hF hc hs hP hD hS hl
            refine lv_iinc (v := (nI (k68 + 1))) (lv' := [(5, .int (nI (k68 + 1))), (0, .ref (u 0)), (1, .int (nI (gS (kG K)))), (2, .ref o), (3, .int v3_144), (4, .int (nI (9 - k60)))]) hx hb dL_isForestRight_144 hl (k := 5) rfl (by exact nI_1 _) (by decide) rfl (fun ls hl => ?_)
            refine lv_goto (tgt := 68) hx hb dL_isForestRight_147 (by decide) ?_
            exact ih68 (k68 + 1) (v3_144) (stays0_144) _ _ _ _ _ ls (by omega) (by rw [hq68, hz]; rfl)  hF (by omega) (by omega) hP hD hS (lv_sub hl [1, 2, 3, 4, 5, 0] rfl)
          have J142 : ∀ (s0_142 : Int32) (s1_142 : Int32) (stays0_142 : (Nat → Bool))  (x : KX) (H : Heap) (locs : List Loc) (cells slots : Nat) (ls : Array Slot), z68 = f_L_isForestRight_j142 s0_142 s1_142 stays0_142 → kF T x → cells + (b263 (n68 + 1) + b3419 (n60 + 1)) ≤ 34217 → slots + (b1578 (n68 + 1) + b20514 (n60 + 1)) ≤ 205308 → va_P D vwCl (wj [kW C ev u K x, stc C o (gS (kG K)) stays0_142]) H → va_D A (wj [kW C ev u K x, stc C o (gS (kG K)) stays0_142]) → va_S A s.heap H locs → lv_has ls 7 [(0, .ref (u 0)), (1, .int (nI (gS (kG K)))), (2, .ref o), (4, .int (nI (9 - k60))), (5, .int (nI k68))] → W p l e ({ frames := 9, cells := 34217, slots := 205308, locals := 151 } : Room) s m ([.ref (u 0)] : List Value).toArray below meth c H locs cells slots (MQ below (eO (fun _ : KX => (some (.int (bI z)))) D (kF T) (kW C ev u K) A) ([.ref (u 0)] : List Value).toArray s 34217 205308 A) (F0 m 142 ls [.int s0_142, .int s1_142]) := by
            intro s0_142 s1_142 stays0_142 x H locs cells slots ls hz  hF hc hs hP hD hS hl
            refine lv_isub hx hb dL_isForestRight_142 ?_
            refine lv_istore_n (lv' := [(3, .int (s1_142 - s0_142)), (0, .ref (u 0)), (1, .int (nI (gS (kG K)))), (2, .ref o), (4, .int (nI (9 - k60))), (5, .int (nI k68))]) hx hb dL_isForestRight_143 rfl hl (by decide) rfl (fun ls hl => ?_)
            exact J144 ((s1_142 - s0_142)) (stays0_142) _ _ _ _ _ ls hz  hF (by omega) (by omega) hP hD hS (lv_sub hl [1, 2, 3, 0, 4, 5] rfl)
          have J129 : ∀ (v3_129 : Int32) (v6_129 : Bool) (s0_129 : Bool) (s1_129 : Nat) (stays0_129 : (Nat → Bool))  (x : KX) (H : Heap) (locs : List Loc) (cells slots : Nat) (ls : Array Slot), z68 = f_L_isForestRight_j129 k60 v3_129 v6_129 s0_129 s1_129 stays0_129 → (s1_129 < gS (kG K)) → kF T x → cells + (b263 (n68 + 1) + b3419 (n60 + 1)) ≤ 34217 → slots + (b1578 (n68 + 1) + b20514 (n60 + 1)) ≤ 205308 → va_P D vwCl (wj [kW C ev u K x, stc C o (gS (kG K)) stays0_129]) H → va_D A (wj [kW C ev u K x, stc C o (gS (kG K)) stays0_129]) → va_S A s.heap H locs → lv_has ls 7 [(0, .ref (u 0)), (1, .int (nI (gS (kG K)))), (2, .ref o), (3, .int v3_129), (4, .int (nI (9 - k60))), (5, .int (nI k68)), (6, .int (bI v6_129))] → W p l e ({ frames := 9, cells := 34217, slots := 205308, locals := 151 } : Room) s m ([.ref (u 0)] : List Value).toArray below meth c H locs cells slots (MQ below (eO (fun _ : KX => (some (.int (bI z)))) D (kF T) (kW C ev u K) A) ([.ref (u 0)] : List Value).toArray s 34217 205308 A) (F0 m 129 ls [.int (bI s0_129), .int (nI s1_129), .ref o]) := by
            intro v3_129 v6_129 s0_129 s1_129 stays0_129 x H locs cells slots ls hz iv129_0 hF hc hs hP hD hS hl
            refine stPut hx hb hK hP hD hS hS12 (i := s1_129) (x := s0_129) (by omega) dL_isForestRight_129 (fun H locs hP hD hS => ?_)
            refine lv_iload_n hx hb dL_isForestRight_130 rfl (lv_at hl 3 rfl) ?_
            refine lv_iload hx hb dL_isForestRight_131 (lv_at hl 6 rfl) ?_
            refine bif_eq (tgt := 141) hx hb dL_isForestRight_133 (by decide) (fun c_133 => ?_) (fun c_133 => ?_)
            · have hz := hz.trans (ifB_f c_133)
              refine lv_iconst (v := 0) hx hb dL_isForestRight_141 (by decide) ?_
              exact J142 (0) (v3_129) ((updB stays0_129 s1_129 s0_129)) _ _ _ _ _ ls hz  hF (by omega) (by omega) hP hD hS (lv_sub hl [0, 1, 2, 4, 5] rfl)
            · have hz := hz.trans (ifB_t c_133)
              refine lv_iload hx hb dL_isForestRight_136 (lv_at hl 4 rfl) ?_
              refine lv_goto (tgt := 142) hx hb dL_isForestRight_138 (by decide) ?_
              exact J142 ((nI (9 - k60))) (v3_129) ((updB stays0_129 s1_129 s0_129)) _ _ _ _ _ ls hz  hF (by omega) (by omega) hP hD hS (lv_sub hl [0, 1, 2, 4, 5] rfl)
          refine lv_iload hx hb dL_isForestRight_68 (lv_at hl 5 rfl) ?_
          refine lv_iload_n hx hb dL_isForestRight_70 rfl (lv_at hl 1 rfl) ?_
          refine lv_icmp_ge (tgt := 150) hx hb dL_isForestRight_71 (by decide) (fun c_71 => absurd c_71 (nI_ge (by omega) (by omega))) (fun c_71 => ?_)
          refine lv_aload_n hx hb dL_isForestRight_74 rfl (lv_at hl 2 rfl) ?_
          refine lv_iload hx hb dL_isForestRight_75 (lv_at hl 5 rfl) ?_
          refine stGet hx hb hK hP hS12 (i := k68) (by omega) dL_isForestRight_77 ?_
          refine bif_eq (tgt := 144) hx hb dL_isForestRight_78 (by decide) (fun c_78 => ?_) (fun c_78 => ?_)
          · have hz := hz.trans (ifB_f c_78)
            exact J144 (v3_68) (stays0_68) _ _ _ _ _ ls hz  hF (by omega) (by omega) hP hD hS (lv_sub hl [0, 1, 2, 3, 4, 5] rfl)
          · have hz := hz.trans (ifB_t c_78)
            refine lv_aload_n hx hb dL_isForestRight_81 rfl (lv_at hl 0 rfl) ?_
            refine lv_iload hx hb dL_isForestRight_82 (lv_at hl 5 rfl) ?_
            refine callK (va_runV (As := [.int (nI k68)]) (rest := []) ⟨hx, hb, hml, hown, hts⟩ (k_length (l := l) (D := D) (C := C) (ev := ev) (u := u) (T := T) hl9 hI (k := k68) (by omega) x _ hF) (cwV 1 hts gL_isForestRight_X7_length rfl rfl rfl (by decide +kernel) ⟨Nat.le_of_ble_eq_true rfl, Nat.le_of_ble_eq_true rfl⟩) (hloP_v (kP hP) hK hE (kD hD) hR hX hT9 hV9 hDV hN hC hS (kFr hD hS hA) (kRc hK hP)) rfl rfl hl.1 rfl (lv_room (Nat.le_of_ble_eq_true rfl)) dL_isForestRight_84 ⟨show _ ≤ 34217 from by omega, show _ ≤ 205308 from by omega⟩) hP hD hS hA (fun x H locs hF hP hD hS => ?_)
            refine lv_iload hx hb dL_isForestRight_87 (lv_at hl 4 rfl) ?_
            refine lv_icmp_ne (tgt := 144) hx hb dL_isForestRight_89 (by decide) (fun c_89 => ?_) (fun c_89 => ?_)
            · have hz := hz.trans (if_neg c_89)
              exact J144 (v3_68) (stays0_68) _ _ _ _ _ ls hz  hF (by omega) (by omega) hP hD hS (lv_sub hl [0, 1, 2, 3, 4, 5] rfl)
            · have hz := hz.trans (if_pos c_89)
              refine lv_aload_n hx hb dL_isForestRight_92 rfl (lv_at hl 2 rfl) ?_
              refine lv_iload hx hb dL_isForestRight_93 (lv_at hl 5 rfl) ?_
              refine lv_iconst (v := 0) hx hb dL_isForestRight_95 (by decide) ?_
              refine stPut hx hb hK hP hD hS hS12 (i := k68) (x := false) (by omega) dL_isForestRight_96 (fun H locs hP hD hS => ?_)
              refine lv_aload_n hx hb dL_isForestRight_97 rfl (lv_at hl 0 rfl) ?_
              refine lv_aload_n hx hb dL_isForestRight_98 rfl (lv_at hl 2 rfl) ?_
              refine lv_aload_n hx hb dL_isForestRight_99 rfl (lv_at hl 0 rfl) ?_
              refine lv_iload hx hb dL_isForestRight_100 (lv_at hl 5 rfl) ?_
              refine callK (va_runV (As := [.int (nI k68)]) (rest := [.ref o, .ref (u 0)]) ⟨hx, hb, hml, hown, hts⟩ (k_lowerIsland (l := l) (D := D) (C := C) (ev := ev) (u := u) (T := T) hl9 hI (k := k68) (by omega) x _ hF) (cwV 1 hts gL_isForestRight_X7_lowerIsland rfl rfl rfl (by decide +kernel) ⟨Nat.le_of_ble_eq_true rfl, Nat.le_of_ble_eq_true rfl⟩) (hloP_v (kP hP) hK hE (kD hD) hR hX hT9 hV9 hDV hN hC hS (kFr hD hS hA) (kRc hK hP)) rfl rfl hl.1 rfl (lv_room (Nat.le_of_ble_eq_true rfl)) dL_isForestRight_102 ⟨show _ ≤ 34217 from by omega, show _ ≤ 205308 from by omega⟩) hP hD hS hA (fun x H locs hF hP hD hS => ?_)
              have hb_1 := hlo (k68)
              refine lv_aload_n hx hb dL_isForestRight_105 rfl (lv_at hl 0 rfl) ?_
              refine lv_iload hx hb dL_isForestRight_106 (lv_at hl 5 rfl) ?_
              refine callK (va_runV (As := [.int (nI k68)]) (rest := [.int (nI (gLo (kG K) k68)), .ref o, .ref (u 0)]) ⟨hx, hb, hml, hown, hts⟩ (k_higherIsland (l := l) (D := D) (C := C) (ev := ev) (u := u) (T := T) hl9 hI (k := k68) (by omega) x _ hF) (cwV 1 hts gL_isForestRight_X7_higherIsland rfl rfl rfl (by decide +kernel) ⟨Nat.le_of_ble_eq_true rfl, Nat.le_of_ble_eq_true rfl⟩) (hloP_v (kP hP) hK hE (kD hD) hR hX hT9 hV9 hDV hN hC hS (kFr hD hS hA) (kRc hK hP)) rfl rfl hl.1 rfl (lv_room (Nat.le_of_ble_eq_true rfl)) dL_isForestRight_108 ⟨show _ ≤ 34217 from by omega, show _ ≤ 205308 from by omega⟩) hP hD hS hA (fun x H locs hF hP hD hS => ?_)
              have hb_2 := hhi (k68)
              refine callKo (ow := [stc C o (gS (kG K)) (updB stays0_68 k68 false)]) (va_runS (As := [.ref (u 0), .ref o, .int (nI (gLo (kG K) k68)), .int (nI (gHi (kG K) k68))]) (rest := []) ⟨hx, hb, hml, hown, hts⟩ (c_L_isJoined l D C ev u K T o (updB stays0_68 k68 false) (gLo (kG K) k68) (gHi (kG K) k68) hl9 hI hFe (by omega) (by omega) x _ hF) (va_cwS 4 hts gL_isForestRight_L_isJoined rfl rfl rfl (by decide +kernel) ⟨Nat.le_of_ble_eq_true rfl, Nat.le_of_ble_eq_true rfl⟩) (hloP_s hP hK hE hD hR hX hT9 hV9 hDV hN hC hS (all_F hD hS hA)) rfl rfl hl.1 rfl (lv_room (Nat.le_of_ble_eq_true rfl)) dL_isForestRight_111 ⟨show _ ≤ 34217 from by omega, show _ ≤ 205308 from by omega⟩) hD hS hA (fun x H locs hF hP hD hS => ?_)
              refine lv_istore (lv' := [(6, .int (bI (f_L_isJoined K (updB stays0_68 k68 false) (gLo (kG K) k68) (gHi (kG K) k68)))), (0, .ref (u 0)), (1, .int (nI (gS (kG K)))), (2, .ref o), (3, .int v3_68), (4, .int (nI (9 - k60))), (5, .int (nI k68))]) hx hb dL_isForestRight_114 hl (by decide) rfl (fun ls hl => ?_)
              refine lv_aload_n hx hb dL_isForestRight_116 rfl (lv_at hl 3 rfl) ?_
              refine lv_iload hx hb dL_isForestRight_117 (lv_at hl 6 rfl) ?_
              refine lv_iload hx hb dL_isForestRight_119 (lv_at hl 0 rfl) ?_
              refine bif_ne (tgt := 128) hx hb dL_isForestRight_121 (by decide) (fun c_121 => ?_) (fun c_121 => ?_)
              · have hz := hz.trans (ifB_t c_121)
                refine lv_iconst (v := 0) hx hb dL_isForestRight_128 (by decide) ?_
                exact J129 (v3_68) ((f_L_isJoined K (updB stays0_68 k68 false) (gLo (kG K) k68) (gHi (kG K) k68))) (false) (k68) ((updB stays0_68 k68 false)) _ _ _ _ _ ls hz (by omega) hF (by omega) (by omega) hP hD hS (lv_sub hl [1, 2, 3, 4, 5, 6, 0] rfl)
              · have hz := hz.trans (ifB_f c_121)
                refine lv_iconst (v := 1) hx hb dL_isForestRight_124 (by decide) ?_
                refine lv_goto (tgt := 129) hx hb dL_isForestRight_125 (by decide) ?_
                exact J129 (v3_68) ((f_L_isJoined K (updB stays0_68 k68 false) (gLo (kG K) k68) (gHi (kG K) k68))) (true) (k68) ((updB stays0_68 k68 false)) _ _ _ _ _ ls hz (by omega) hF (by omega) (by omega) hP hD hS (lv_sub hl [1, 2, 3, 4, 5, 6, 0] rfl)
      refine lv_iload hx hb dL_isForestRight_60 (lv_at hl 4 rfl) ?_
      refine lv_if_le (tgt := 156) hx hb dL_isForestRight_62 (by decide) (fun c_62 => absurd c_62 (nI_np9 (9 - k60) (by omega) (by omega))) (fun c_62 => ?_)
      refine lv_iconst (v := 0) hx hb dL_isForestRight_65 (by decide) ?_
      refine lv_istore (lv' := [(5, .int 0), (0, .ref (u 0)), (1, .int (nI (gS (kG K)))), (2, .ref o), (3, .int v3_60), (4, .int (nI (9 - k60)))]) hx hb dL_isForestRight_66 hl (by decide) rfl (fun ls hl => ?_)
      exact J68 (gS (kG K)) 0 (v3_60) (stays0_60) _ _ _ _ _ ls (by omega) hz  hF (by omega) (by omega) hP hD hS (lv_sub hl [1, 2, 3, 4, 5, 0] rfl)
  have J14 : ∀ (n14 k14 : Nat) (v3_14 : Int32) (stays0_14 : (Nat → Bool)) (x : KX) (H : Heap) (locs : List Loc) (cells slots : Nat) (ls : Array Slot), k14 + n14 = gS (kG K) → z = f_L_isForestRight_l14 K n14 k14 v3_14 stays0_14 → kF T x → cells + (b2 (n14 + 1) + q34190) ≤ 34217 → slots + (b12 (n14 + 1) + q205140) ≤ 205308 → va_P D vwCl (wj [kW C ev u K x, stc C o (gS (kG K)) stays0_14]) H → va_D A (wj [kW C ev u K x, stc C o (gS (kG K)) stays0_14]) → va_S A s.heap H locs → lv_has ls 7 [(0, .ref (u 0)), (1, .int (nI (gS (kG K)))), (2, .ref o), (3, .int v3_14), (4, .int (nI k14))] → W p l e ({ frames := 9, cells := 34217, slots := 205308, locals := 151 } : Room) s m ([.ref (u 0)] : List Value).toArray below meth c H locs cells slots (MQ below (eO (fun _ : KX => (some (.int (bI z)))) D (kF T) (kW C ev u K) A) ([.ref (u 0)] : List Value).toArray s 34217 205308 A) (F0 m 14 ls []) := by
    intro n14
    induction n14 with
    | zero =>
      intro k14 v3_14 stays0_14 x H locs cells slots ls hk14 hz  hF hc hs hP hD hS hl
      have hz : z = f_L_isForestRight_l14x K v3_14 stays0_14 := hz
      refine lv_iload hx hb dL_isForestRight_14 (lv_at hl 4 rfl) ?_
      refine lv_iload_n hx hb dL_isForestRight_16 rfl (lv_at hl 1 rfl) ?_
      refine lv_icmp_ge (tgt := 56) hx hb dL_isForestRight_17 (by decide) (fun c_17 => ?_) (fun c_17 => absurd (nI_le (by omega) (by omega)) c_17)
      refine lv_bipush (v := 9) hx hb dL_isForestRight_56 (by decide +kernel) ?_
      refine lv_istore (lv' := [(4, .int 9), (0, .ref (u 0)), (1, .int (nI (gS (kG K)))), (2, .ref o), (3, .int v3_14)]) hx hb dL_isForestRight_58 hl (by decide) rfl (fun ls hl => ?_)
      exact J60 (9) 0 (v3_14) (stays0_14) _ _ _ _ _ ls (by omega) hz  hF (by omega) (by omega) hP hD hS (lv_sub hl [1, 2, 3, 4, 0] rfl)
    | succ n14 ih14 =>
      intro k14 v3_14 stays0_14 x H locs cells slots ls hk14 hz14  hF hc hs hP hD hS hl
      have e2 := hb2 (n14 + 1)
      have e12 := hb12 (n14 + 1)
      obtain ⟨z14, hz⟩ : ∃ zz_, zz_ = f_L_isForestRight_l14b K k14 v3_14 stays0_14 := ⟨_, rfl⟩
      have hq14 : z = sE id (fun q_ => lpF (f_L_isForestRight_l14s K) (f_L_isForestRight_l14e K) n14 (k14 + 1) q_) z14 := by rw [hz14, hz]; rfl
      have J48 : ∀ (s0_48 : Int32) (s1_48 : Int32) (stays0_48 : (Nat → Bool))  (x : KX) (H : Heap) (locs : List Loc) (cells slots : Nat) (ls : Array Slot), z14 = f_L_isForestRight_j48 s0_48 s1_48 stays0_48 → kF T x → cells + (b2 (n14 + 1) + q34190) ≤ 34217 → slots + (b12 (n14 + 1) + q205140) ≤ 205308 → va_P D vwCl (wj [kW C ev u K x, stc C o (gS (kG K)) stays0_48]) H → va_D A (wj [kW C ev u K x, stc C o (gS (kG K)) stays0_48]) → va_S A s.heap H locs → lv_has ls 7 [(0, .ref (u 0)), (1, .int (nI (gS (kG K)))), (2, .ref o), (4, .int (nI k14))] → W p l e ({ frames := 9, cells := 34217, slots := 205308, locals := 151 } : Room) s m ([.ref (u 0)] : List Value).toArray below meth c H locs cells slots (MQ below (eO (fun _ : KX => (some (.int (bI z)))) D (kF T) (kW C ev u K) A) ([.ref (u 0)] : List Value).toArray s 34217 205308 A) (F0 m 48 ls [.int s0_48, .int s1_48]) := by
        intro s0_48 s1_48 stays0_48 x H locs cells slots ls hz  hF hc hs hP hD hS hl
        refine lv_iadd hx hb dL_isForestRight_48 ?_
        refine lv_istore_n (lv' := [(3, .int (s1_48 + s0_48)), (0, .ref (u 0)), (1, .int (nI (gS (kG K)))), (2, .ref o), (4, .int (nI k14))]) hx hb dL_isForestRight_49 rfl hl (by decide) rfl (fun ls hl => ?_)
        refine lv_iinc (v := (nI (k14 + 1))) (lv' := [(4, .int (nI (k14 + 1))), (3, .int (s1_48 + s0_48)), (0, .ref (u 0)), (1, .int (nI (gS (kG K)))), (2, .ref o)]) hx hb dL_isForestRight_50 hl (k := 4) rfl (by exact nI_1 _) (by decide) rfl (fun ls hl => ?_)
        refine lv_goto (tgt := 14) hx hb dL_isForestRight_53 (by decide) ?_
        exact ih14 (k14 + 1) ((s1_48 + s0_48)) (stays0_48) _ _ _ _ _ ls (by omega) (by rw [hq14, hz]; rfl)  hF (by omega) (by omega) hP hD hS (lv_sub hl [2, 3, 4, 1, 0] rfl)
      refine lv_iload hx hb dL_isForestRight_14 (lv_at hl 4 rfl) ?_
      refine lv_iload_n hx hb dL_isForestRight_16 rfl (lv_at hl 1 rfl) ?_
      refine lv_icmp_ge (tgt := 56) hx hb dL_isForestRight_17 (by decide) (fun c_17 => absurd c_17 (nI_ge (by omega) (by omega))) (fun c_17 => ?_)
      refine lv_aload_n hx hb dL_isForestRight_20 rfl (lv_at hl 2 rfl) ?_
      refine lv_iload hx hb dL_isForestRight_21 (lv_at hl 4 rfl) ?_
      refine lv_aload_n hx hb dL_isForestRight_23 rfl (lv_at hl 0 rfl) ?_
      refine lv_iload hx hb dL_isForestRight_24 (lv_at hl 4 rfl) ?_
      refine callK (va_runV (As := [.int (nI k14)]) (rest := [.int (nI k14), .ref o]) ⟨hx, hb, hml, hown, hts⟩ (k_isBuilt (l := l) (D := D) (C := C) (ev := ev) (u := u) (T := T) hl9 hI (k := k14) (by omega) x _ hF) (cwV 1 hts gL_isForestRight_X7_isBuilt rfl rfl rfl (by decide +kernel) ⟨Nat.le_of_ble_eq_true rfl, Nat.le_of_ble_eq_true rfl⟩) (hloP_v (kP hP) hK hE (kD hD) hR hX hT9 hV9 hDV hN hC hS (kFr hD hS hA) (kRc hK hP)) rfl rfl hl.1 rfl (lv_room (Nat.le_of_ble_eq_true rfl)) dL_isForestRight_26 ⟨show _ ≤ 34217 from by omega, show _ ≤ 205308 from by omega⟩) hP hD hS hA (fun x H locs hF hP hD hS => ?_)
      refine stPut hx hb hK hP hD hS hS12 (i := k14) (x := (f_X1_hasBridge (kG K) k14)) (by omega) dL_isForestRight_29 (fun H locs hP hD hS => ?_)
      refine lv_iload_n hx hb dL_isForestRight_30 rfl (lv_at hl 3 rfl) ?_
      refine lv_aload_n hx hb dL_isForestRight_31 rfl (lv_at hl 2 rfl) ?_
      refine lv_iload hx hb dL_isForestRight_32 (lv_at hl 4 rfl) ?_
      refine stGet hx hb hK hP hS12 (i := k14) (by omega) dL_isForestRight_34 ?_
      refine bif_eq (tgt := 47) hx hb dL_isForestRight_35 (by decide) (fun c_35 => ?_) (fun c_35 => ?_)
      · have hz := hz.trans (ifB_f c_35)
        refine lv_iconst (v := 0) hx hb dL_isForestRight_47 (by decide) ?_
        exact J48 (0) (v3_14) ((updB stays0_14 k14 (f_X1_hasBridge (kG K) k14))) _ _ _ _ _ ls hz  hF (by omega) (by omega) hP hD hS (lv_sub hl [0, 1, 2, 4] rfl)
      · have hz := hz.trans (ifB_t c_35)
        refine lv_aload_n hx hb dL_isForestRight_38 rfl (lv_at hl 0 rfl) ?_
        refine lv_iload hx hb dL_isForestRight_39 (lv_at hl 4 rfl) ?_
        refine callK (va_runV (As := [.int (nI k14)]) (rest := [.int v3_14]) ⟨hx, hb, hml, hown, hts⟩ (k_length (l := l) (D := D) (C := C) (ev := ev) (u := u) (T := T) hl9 hI (k := k14) (by omega) x _ hF) (cwV 1 hts gL_isForestRight_X7_length rfl rfl rfl (by decide +kernel) ⟨Nat.le_of_ble_eq_true rfl, Nat.le_of_ble_eq_true rfl⟩) (hloP_v (kP hP) hK hE (kD hD) hR hX hT9 hV9 hDV hN hC hS (kFr hD hS hA) (kRc hK hP)) rfl rfl hl.1 rfl (lv_room (Nat.le_of_ble_eq_true rfl)) dL_isForestRight_41 ⟨show _ ≤ 34217 from by omega, show _ ≤ 205308 from by omega⟩) hP hD hS hA (fun x H locs hF hP hD hS => ?_)
        refine lv_goto (tgt := 48) hx hb dL_isForestRight_44 (by decide) ?_
        exact J48 ((gLen (kG K) k14)) (v3_14) ((updB stays0_14 k14 (f_X1_hasBridge (kG K) k14))) _ _ _ _ _ ls hz  hF (by omega) (by omega) hP hD hS (lv_sub hl [0, 1, 2, 4] rfl)
  refine lv_astore_n (lv' := [(2, .ref o), (1, .int (nI (gS (kG K)))), (0, .ref (u 0))]) hx hb dL_isForestRight_8 rfl hl (by decide) rfl (fun ls hl => ?_)
  refine lv_iconst (v := 0) hx hb dL_isForestRight_9 (by decide) ?_
  refine lv_istore_n (lv' := [(3, .int 0), (2, .ref o), (1, .int (nI (gS (kG K)))), (0, .ref (u 0))]) hx hb dL_isForestRight_10 rfl hl (by decide) rfl (fun ls hl => ?_)
  refine lv_iconst (v := 0) hx hb dL_isForestRight_11 (by decide) ?_
  refine lv_istore (lv' := [(4, .int 0), (3, .int 0), (2, .ref o), (1, .int (nI (gS (kG K)))), (0, .ref (u 0))]) hx hb dL_isForestRight_12 hl (by decide) rfl (fun ls hl => ?_)
  exact J14 (gS (kG K)) 0 (0) ((fun _ => false)) _ _ _ _ _ ls (by omega) hz  hF (by omega) (by omega) hP hD hS (lv_sub hl [4, 3, 2, 1, 0] rfl)
