/-! the law's walk: what stands all the way, an argument, the end of a case -/
abbrev lbl (C : Nat → ClassId) (ev u bm : Nat → Nat) (o od : Nat) (Q : QS) (G G1 G2 : GS) (Rr : GR) (S : HS) (Sc : SS) (O : OS) (M : MS) (F : Nat → Int64) (Fd : Nat → UInt64) : List va_W := [acells C u Q, gcells C (uA u) G, gcells C (uB u) G1, gcells C (uC u) G2, grcells C (uG u) Rr, hcells C (uH u) S, scells C ev (uS u) Sc, ocells C (uO u) O, mcells C bm M, lcells C o F, dcells C od Fd]
abbrev LL (u bm : Nat → Nat) (o od b i : Nat) : List (Nat × Value) := [(5, .int (nI i)), (4, .ref od), (3, .ref o), (2, .ref (bm 0)), (1, .ref (u 0)), (0, .ref b)]
def LX (p : Program) (l : Launch) (s : State) (m : MethodId) (c : Code) (b L : Nat) (xs : Nat → Int32) (D : va_G) (C : Nat → ClassId) (ev : Nat → Nat) (A : Nat → Prop) : Prop :=
  p.tables.exec = Jvm.exec ∧ c.code = code ∧ c.maxLocals = 9 ∧ s.vm.findClass RL = some m.cls ∧ (∀ w ∈ wsL_law, w.before #[Value.ref b] s = true) ∧ va_K D vwCl (tyA C) s ∧ EN s ∧ RVs ev s ∧ EVs ev A s s.heap ∧ XR s ∧ XV A s s.heap ∧ DVs ev A s s.heap ∧ NCs s ∧ CLs s ∧ va_X b L xs s s.heap ∧ b < s.heap.size ∧ ¬ A b ∧ (∀ q, s.heap.size ≤ q → A q) ∧ l.stackTraces = false
theorem nI_tn {n : Nat} (h : n < 2 ^ 31) : (nI n).toNatClampNeg = n := by
  show (nI n).toInt.toNat = n
  rw [nI_toInt h]
  rfl
section
variable {p : Program} {l : Launch} {e : Env} {s : State} {m : MethodId} {below : List Frame} {meth : Method} {c : Code} {b L : Nat} {xs : Nat → Int32} {D : va_G} {C : Nat → ClassId} {ev u bm : Nat → Nat} {o od : Nat} {A : Nat → Prop} {Q9 : State → Prop}
/-- what stands behind a case: the loop goes on -/
def LK (p : Program) (l : Launch) (e : Env) (s : State) (m : MethodId) (below : List Frame) (meth : Method) (c : Code) (b : Nat) (D : va_G) (C : Nat → ClassId) (ev u bm : Nat → Nat) (o od : Nat) (A : Nat → Prop) (Q9 : State → Prop) (i c9 s9 : Nat) : Prop :=
  ∀ (Q : QS) (G G1 G2 : GS) (Rr : GR) (S : HS) (Sc : SS) (T : TX) (O : OS) (M : MS) (F : Nat → Int64) (Fd : Nat → UInt64) (H : Heap) (locs : List Loc) (ls : Array Slot), REL Q G S Sc G1 G2 T Rr M → OT T O → va_P D vwCl (wj (lbl C ev u bm o od Q G G1 G2 Rr S Sc O M F Fd)) H → va_D A (wj (lbl C ev u bm o od Q G G1 G2 Rr S Sc O M F Fd)) → va_S A s.heap H locs → lv_has ls 9 (LL u bm o od b i) → W p l e room_1 s m #[Value.ref b] below meth c H locs c9 s9 Q9 (F0 m 2943 ls [])
theorem arg_ld (X : LX p l s m c b L xs D C ev A) (hL : L ≤ 2048) {i : Nat} (hi : i + 4 ≤ L) {H : Heap} {locs : List Loc} {cells slots : Nat} {ls : Array Slot} {st : List Value} {pc : Nat} (j : Nat) {jz : Int} (hj : j < 4) (hz : Int32.ofInt jz = nI j) (h0 : ls[0]? = some (.val (.ref b))) (h5 : ls[5]? = some (.val (.int (nI i)))) (hS : va_S A s.heap H locs)
    (d0 : decode code pc = .ok (.aload_n 0, 1)) (d1 : decode code (pc + 1) = .ok (.iload 5, 2)) (d2 : decode code (pc + 3) = .ok (.iconst jz, 1)) (d3 : decode code (pc + 4) = .ok (.iadd, 1)) (d4 : decode code (pc + 5) = .ok (.iaload, 1))
    (kk : W p l e room_1 s m #[Value.ref b] below meth c H locs cells slots Q9 (F0 m (pc + 6) ls (.int (xs (i + j)) :: st))) : W p l e room_1 s m #[Value.ref b] below meth c H locs cells slots Q9 (F0 m pc ls st) := by
  obtain ⟨hx, hb, hml, hown, hts, hK, hE, hR, hX, hT, hV, hDV, hN, hC, hXs, hbl, hbA, hA, hl9⟩ := X
  refine lv_aload_n hx hb d0 rfl h0 ?_
  refine lv_iload hx hb d1 h5 ?_
  refine lv_iconst (v := nI j) hx hb d2 hz ?_
  refine lv_iadd hx hb d3 ?_
  rw [nI_add]
  refine va_sld hx hb hXs hbl hbA hS (vp_in_nI (by omega) (by omega)) d4 ?_
  rw [nI_tn (by omega)]
  exact kk
theorem lcmp_0 (x : Int64) : lg_cmp x x = 0 := by simp [lg_cmp]
/-- the end of a case: thrown() and the code agree, and the answers where nothing was thrown -/
theorem tail_h (X : LX p l s m c b L xs D C ev A) {i : Nat} {Q : QS} {G G1 G2 : GS} {Rr : GR} {S : HS} {Sc : SS} {T : TX} {O : OS} {M : MS} {F : Nat → Int64} {Fd : Nat → UInt64} {H : Heap} {locs : List Loc} {ls : Array Slot} {cells slots : Nat} {v : Value} {k : Int32} {t z : Nat} {dz : Int} (h : REL Q G S Sc G1 G2 T Rr M) (hk : mThr M = k) (hP : va_P D vwCl (wj (lbl C ev u bm o od Q G G1 G2 Rr S Sc O M F Fd)) H) (hl : lv_has ls 9 ((7, v) :: (6, .int k) :: LL u bm o od b i)) (hf : cells ≤ room_1.cells ∧ slots ≤ room_1.slots)
    (d0 : decode code t = .ok (.aload_n 2, 1)) (d1 : decode code (t + 1) = .ok (.invokevirtual 167, 3)) (d4 : decode code (t + 4) = .ok (.iload 6, 2)) (d6 : decode code (t + 6) = .ok (.if_icmp .eq 5, 3)) (d11 : decode code (t + 11) = .ok (.iload 6, 2)) (d13 : decode code (t + 13) = .ok (.ifCond .ne dz, 3)) (hz : ((t + 13 : Nat) : Int) + dz = (z : Int))
    (k0 : k = 0 → W p l e room_1 s m #[Value.ref b] below meth c H locs cells slots Q9 (F0 m (t + 16) ls []))
    (k1 : k ≠ 0 → W p l e room_1 s m #[Value.ref b] below meth c H locs cells slots Q9 (F0 m z ls [])) : W p l e room_1 s m #[Value.ref b] below meth c H locs cells slots Q9 (F0 m t ls []) := by
  obtain ⟨hx, hb, hml, hown, hts, hK, hE, hR, hX, hT, hV, hDV, hN, hC, hXs, hbl, hbA, hA, hl9⟩ := X
  refine lv_aload_n hx hb d0 rfl (lv_at hl 5 rfl) ?_
  have hPm : va_P D vwCl (mcells C bm M) _ := wj_P (cs := [mcells C bm M]) hP [8] rfl
  refine callRo (va_runV (As := []) (rest := []) ⟨hx, hb, hml, hown, hts⟩ (c_X8_thrown l D C bm M h.1.2.2.1) (cwV 0 hts gL_law_X8_thrown rfl rfl rfl (by decide +kernel) ⟨Nat.le_of_ble_eq_true rfl, Nat.le_of_ble_eq_true rfl⟩) (roP_v hPm hK hE (va_recv hK hPm (ci := 9) (q0 := 0) rfl rfl)) rfl rfl hl.1 rfl (lv_room (Nat.le_of_ble_eq_true rfl)) d1 hf) ?_
  show W p l e room_1 s m #[Value.ref b] below meth c H locs cells slots Q9 (F0 m (t + 4) ls [.int (mThr M)])
  rw [hk]
  refine lv_iload hx hb d4 (lv_at hl 1 rfl) ?_
  refine lv_icmp_eq (tgt := t + 11) hx hb d6 (by omega) (fun _ => ?_) (fun q => absurd rfl q)
  refine lv_iload hx hb d11 (lv_at hl 1 rfl) ?_
  exact lv_if_ne (tgt := z) hx hb d13 hz (fun q => k1 q) (fun q => k0 q)
theorem tail_i (X : LX p l s m c b L xs D C ev A) {i : Nat} {Q : QS} {G G1 G2 : GS} {Rr : GR} {S : HS} {Sc : SS} {T : TX} {O : OS} {M : MS} {F : Nat → Int64} {Fd : Nat → UInt64} {H : Heap} {locs : List Loc} {ls : Array Slot} {cells slots c9 s9 : Nat} {v k : Int32} (t : Nat) {dg : Int} (h : REL Q G S Sc G1 G2 T Rr M) (hO : OT T O) (hk : mThr M = k) (hv : k = 0 → F 0 = v.toInt64) (hP : va_P D vwCl (wj (lbl C ev u bm o od Q G G1 G2 Rr S Sc O M F Fd)) H) (hD : va_D A (wj (lbl C ev u bm o od Q G G1 G2 Rr S Sc O M F Fd))) (hS : va_S A s.heap H locs) (hl : lv_has ls 9 ((7, .int v) :: (6, .int k) :: LL u bm o od b i)) (hf : cells ≤ room_1.cells ∧ slots ≤ room_1.slots) (hc9 : cells ≤ c9) (hs9 : slots ≤ s9)
    (d0 : decode code t = .ok (.aload_n 2, 1)) (d1 : decode code (t + 1) = .ok (.invokevirtual 167, 3)) (d4 : decode code (t + 4) = .ok (.iload 6, 2)) (d6 : decode code (t + 6) = .ok (.if_icmp .eq 5, 3)) (d11 : decode code (t + 11) = .ok (.iload 6, 2)) (d13 : decode code (t + 13) = .ok (.ifCond .ne 15, 3))
    (d16 : decode code (t + 16) = .ok (.aload_n 3, 1)) (d17 : decode code (t + 17) = .ok (.iconst 0, 1)) (d18 : decode code (t + 18) = .ok (.laload, 1)) (d19 : decode code (t + 19) = .ok (.iload 7, 2)) (d21 : decode code (t + 21) = .ok (.i2l, 1)) (d22 : decode code (t + 22) = .ok (.lcmp, 1)) (d23 : decode code (t + 23) = .ok (.ifCond .eq 5, 3)) (d28 : decode code (t + 28) = .ok (.goto dg, 3)) (hg : ((t + 28 : Nat) : Int) + dg = ((2943 : Nat) : Int))
    (kk : LK p l e s m below meth c b D C ev u bm o od A Q9 i c9 s9) : W p l e room_1 s m #[Value.ref b] below meth c H locs cells slots Q9 (F0 m t ls []) := by
  obtain ⟨hx, hb, hml, hown, hts, hK, hE, hR, hX, hT, hV, hDV, hN, hC, hXs, hbl, hbA, hA, hl9⟩ := id X
  have K : W p l e room_1 s m #[Value.ref b] below meth c H locs cells slots Q9 (F0 m (t + 28) ls []) :=
    lv_goto (tgt := 2943) hx hb d28 hg (W.widen hc9 hs9 (kk Q G G1 G2 Rr S Sc T O M F Fd H locs ls h hO hP hD hS (lv_sub hl [2, 3, 4, 5, 6, 7] rfl)))
  refine tail_h X (z := t + 28) h hk hP hl hf d0 d1 d4 d6 d11 d13 (by omega) (fun q => ?_) (fun _ => K)
  refine lv_aload_n hx hb d16 rfl (lv_at hl 4 rfl) ?_
  refine lv_iconst (v := 0) hx hb d17 (by decide) ?_
  refine va_lald hx hb hK hP (wj [acells C u Q, gcells C (uA u) G, gcells C (uB u) G1, gcells C (uC u) G2, grcells C (uG u) Rr, hcells C (uH u) S, scells C ev (uS u) Sc, ocells C (uO u) O, mcells C bm M]).length 4 rfl rfl vp01 d18 ?_
  refine lv_iload hx hb d19 (lv_at hl 0 rfl) ?_
  refine lv_i2l hx hb d21 rfl ?_
  refine W.lcmp hx hb d22 ?_
  rw [show (0 : Int32).toNatClampNeg = 0 from rfl, hv q, lcmp_0]
  exact lv_if_eq (tgt := t + 28) hx hb d23 (by omega) (fun _ => K) (fun q => absurd rfl q)
theorem tail_b (X : LX p l s m c b L xs D C ev A) {i : Nat} {Q : QS} {G G1 G2 : GS} {Rr : GR} {S : HS} {Sc : SS} {T : TX} {O : OS} {M : MS} {F : Nat → Int64} {Fd : Nat → UInt64} {H : Heap} {locs : List Loc} {ls : Array Slot} {cells slots c9 s9 : Nat} {v : Bool} {k : Int32} (t : Nat) {dg : Int} (h : REL Q G S Sc G1 G2 T Rr M) (hO : OT T O) (hk : mThr M = k) (hv : k = 0 → F 0 = bL v) (hP : va_P D vwCl (wj (lbl C ev u bm o od Q G G1 G2 Rr S Sc O M F Fd)) H) (hD : va_D A (wj (lbl C ev u bm o od Q G G1 G2 Rr S Sc O M F Fd))) (hS : va_S A s.heap H locs) (hl : lv_has ls 9 ((7, .int (bI v)) :: (6, .int k) :: LL u bm o od b i)) (hf : cells ≤ room_1.cells ∧ slots ≤ room_1.slots) (hc9 : cells ≤ c9) (hs9 : slots ≤ s9)
    (d0 : decode code t = .ok (.aload_n 2, 1)) (d1 : decode code (t + 1) = .ok (.invokevirtual 167, 3)) (d4 : decode code (t + 4) = .ok (.iload 6, 2)) (d6 : decode code (t + 6) = .ok (.if_icmp .eq 5, 3)) (d11 : decode code (t + 11) = .ok (.iload 6, 2)) (d13 : decode code (t + 13) = .ok (.ifCond .ne 22, 3))
    (d16 : decode code (t + 16) = .ok (.aload_n 3, 1)) (d17 : decode code (t + 17) = .ok (.iconst 0, 1)) (d18 : decode code (t + 18) = .ok (.laload, 1)) (d19 : decode code (t + 19) = .ok (.iload 7, 2)) (d21 : decode code (t + 21) = .ok (.ifCond .eq 7, 3)) (d24 : decode code (t + 24) = .ok (.lconst 1, 1)) (d25 : decode code (t + 25) = .ok (.goto 4, 3)) (d28 : decode code (t + 28) = .ok (.lconst 0, 1)) (d29 : decode code (t + 29) = .ok (.lcmp, 1)) (d30 : decode code (t + 30) = .ok (.ifCond .eq 5, 3)) (d35 : decode code (t + 35) = .ok (.goto dg, 3)) (hg : ((t + 35 : Nat) : Int) + dg = ((2943 : Nat) : Int))
    (kk : LK p l e s m below meth c b D C ev u bm o od A Q9 i c9 s9) : W p l e room_1 s m #[Value.ref b] below meth c H locs cells slots Q9 (F0 m t ls []) := by
  obtain ⟨hx, hb, hml, hown, hts, hK, hE, hR, hX, hT, hV, hDV, hN, hC, hXs, hbl, hbA, hA, hl9⟩ := id X
  have K : W p l e room_1 s m #[Value.ref b] below meth c H locs cells slots Q9 (F0 m (t + 35) ls []) :=
    lv_goto (tgt := 2943) hx hb d35 hg (W.widen hc9 hs9 (kk Q G G1 G2 Rr S Sc T O M F Fd H locs ls h hO hP hD hS (lv_sub hl [2, 3, 4, 5, 6, 7] rfl)))
  refine tail_h X (z := t + 35) h hk hP hl hf d0 d1 d4 d6 d11 d13 (by omega) (fun q => ?_) (fun _ => K)
  refine lv_aload_n hx hb d16 rfl (lv_at hl 4 rfl) ?_
  refine lv_iconst (v := 0) hx hb d17 (by decide) ?_
  refine va_lald hx hb hK hP (wj [acells C u Q, gcells C (uA u) G, gcells C (uB u) G1, gcells C (uC u) G2, grcells C (uG u) Rr, hcells C (uH u) S, scells C ev (uS u) Sc, ocells C (uO u) O, mcells C bm M]).length 4 rfl rfl vp01 d18 ?_
  rw [show (0 : Int32).toNatClampNeg = 0 from rfl, hv q]
  refine lv_iload hx hb d19 (lv_at hl 0 rfl) ?_
  have K2 : ∀ x : Int64, W p l e room_1 s m #[Value.ref b] below meth c H locs cells slots Q9 (F0 m (t + 29) ls [.long x, .long x]) := fun x => by
    refine W.lcmp hx hb d29 ?_
    rw [lcmp_0]
    exact lv_if_eq (tgt := t + 35) hx hb d30 (by omega) (fun _ => K) (fun q => absurd rfl q)
  cases v with
  | true =>
    refine lv_if_eq (tgt := t + 28) hx hb d21 (by omega) (fun q => absurd q (by decide)) (fun _ => ?_)
    refine lv_lconst (v := 1) hx hb d24 (by decide) ?_
    exact lv_goto (tgt := t + 29) hx hb d25 (by omega) (K2 1)
  | false =>
    refine lv_if_eq (tgt := t + 28) hx hb d21 (by omega) (fun _ => ?_) (fun q => absurd rfl q)
    exact lv_lconst (v := 0) hx hb d28 (by decide) (K2 0)
end
