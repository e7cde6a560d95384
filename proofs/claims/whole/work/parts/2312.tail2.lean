/-! the ends of the two cases of doubles -/
theorem b64_nn {x : UInt64} (h : vf_n64 x) : FP.Core.decode FP.Core.b64 x.toNat ≠ .nan := by
  unfold vf_n64 at h
  have h1 : (x &&& 0x7fffffffffffffff).toNat = x.toNat % 2 ^ 63 := by
    rw [UInt64.toNat_and]
    exact Nat.and_two_pow_sub_one_eq_mod x.toNat 63
  have h2 : x.toNat % 2 ^ 63 ≤ 0x7ff0000000000000 := by
    rw [← h1]
    exact h
  unfold FP.Core.decode
  have e1 : FP.Core.fieldE FP.Core.b64 x.toNat = x.toNat / 4503599627370496 % 2048 := rfl
  have e2 : FP.Core.fieldT FP.Core.b64 x.toNat = x.toNat % 4503599627370496 := rfl
  have e3 : FP.Core.b64.exps - 1 = 2047 := rfl
  rw [e1, e2, e3]
  generalize x.toNat = n at h2 ⊢
  by_cases c1 : n / 4503599627370496 % 2048 = 2047
  · rw [if_pos c1]
    have c2 : n % 4503599627370496 = 0 := by omega
    rw [if_pos c2]
    exact fun q => by cases q
  · rw [if_neg c1]
    by_cases c2 : n / 4503599627370496 % 2048 = 0
    · rw [if_pos c2]; exact fun q => by cases q
    · rw [if_neg c2]; exact fun q => by cases q
theorem dcmp_0 {x : UInt64} (h : vf_n64 x) : Op.cmpValue (FP.dcmp x x) .l = 0 := by
  have hd := b64_nn h
  show Op.cmpValue (FP.Core.order (FP.Core.decode FP.Core.b64 x.toNat) (FP.Core.decode FP.Core.b64 x.toNat)) .l = 0
  generalize FP.Core.decode FP.Core.b64 x.toNat = d at hd ⊢
  have hc : ∀ z : Int, compare z z = .eq := fun z => by
    show compareOfLessAndEq z z = .eq
    unfold compareOfLessAndEq
    rw [if_neg (Int.lt_irrefl z), if_pos rfl]
  cases d with
  | nan => exact absurd rfl hd
  | inf t =>
    show Op.cmpValue (some (compare _ _)) .l = 0
    rw [hc]; rfl
  | fin t c q =>
    show Op.cmpValue (some (compare _ _)) .l = 0
    rw [hc]; rfl
section
variable {p : Program} {l : Launch} {e : Env} {s : State} {m : MethodId} {below : List Frame} {meth : Method} {c : Code} {b L : Nat} {xs : Nat → Int32} {D : va_G} {C : Nat → ClassId} {ev u bm : Nat → Nat} {o od : Nat} {A : Nat → Prop} {Q9 : State → Prop}
theorem tail_d (X : LX p l s m c b L xs D C ev A) {i : Nat} {Q : QS} {G G1 G2 : GS} {Rr : GR} {S : HS} {Sc : SS} {T : TX} {O : OS} {M : MS} {F : Nat → Int64} {Fd : Nat → UInt64} {H : Heap} {locs : List Loc} {ls : Array Slot} {cells slots c9 s9 : Nat} {v : UInt64} {k : Int32} (t : Nat) {dg : Int} (h : REL Q G S Sc G1 G2 T Rr M) (hO : OT T O) (hk : mThr M = k) (hv : k = 0 → Fd 0 = v) (hP : va_P D vwCl (wj (lbl C ev u bm o od Q G G1 G2 Rr S Sc O M F Fd)) H) (hD : va_D A (wj (lbl C ev u bm o od Q G G1 G2 Rr S Sc O M F Fd))) (hS : va_S A s.heap H locs) (hl : lv_has ls 9 ((7, .double v) :: (6, .int k) :: LL u bm o od b i)) (hf : cells ≤ room_1.cells ∧ slots ≤ room_1.slots) (hc9 : cells ≤ c9) (hs9 : slots ≤ s9)
    (d0 : decode code t = .ok (.aload_n 2, 1)) (d1 : decode code (t + 1) = .ok (.invokevirtual 167, 3)) (d4 : decode code (t + 4) = .ok (.iload 6, 2)) (d6 : decode code (t + 6) = .ok (.if_icmp .eq 5, 3)) (d11 : decode code (t + 11) = .ok (.iload 6, 2)) (d13 : decode code (t + 13) = .ok (.ifCond .ne 35, 3))
    (d16 : decode code (t + 16) = .ok (.aload 4, 2)) (d18 : decode code (t + 18) = .ok (.iconst 0, 1)) (d19 : decode code (t + 19) = .ok (.daload, 1)) (d20 : decode code (t + 20) = .ok (.dload 7, 2)) (d22 : decode code (t + 22) = .ok (.dcmp .l, 1)) (d23 : decode code (t + 23) = .ok (.ifCond .eq 25, 3))
    (d26 : decode code (t + 26) = .ok (.aload 4, 2)) (d28 : decode code (t + 28) = .ok (.iconst 0, 1)) (d29 : decode code (t + 29) = .ok (.daload, 1)) (d30 : decode code (t + 30) = .ok (.aload 4, 2)) (d32 : decode code (t + 32) = .ok (.iconst 0, 1)) (d33 : decode code (t + 33) = .ok (.daload, 1)) (d34 : decode code (t + 34) = .ok (.dcmp .l, 1)) (d35 : decode code (t + 35) = .ok (.ifCond .eq 11, 3))
    (d38 : decode code (t + 38) = .ok (.dload 7, 2)) (d40 : decode code (t + 40) = .ok (.dload 7, 2)) (d42 : decode code (t + 42) = .ok (.dcmp .l, 1)) (d43 : decode code (t + 43) = .ok (.ifCond .ne 5, 3)) (d48 : decode code (t + 48) = .ok (.goto dg, 3)) (hg : ((t + 48 : Nat) : Int) + dg = ((2943 : Nat) : Int))
    (kk : LK p l e s m below meth c b D C ev u bm o od A Q9 i c9 s9) : W p l e room_1 s m #[Value.ref b] below meth c H locs cells slots Q9 (F0 m t ls []) := by
  obtain ⟨hx, hb, hml, hown, hts, hK, hE, hR, hX, hT, hV, hDV, hN, hC, hXs, hbl, hbA, hA, hl9⟩ := id X
  have K : W p l e room_1 s m #[Value.ref b] below meth c H locs cells slots Q9 (F0 m (t + 48) ls []) :=
    lv_goto (tgt := 2943) hx hb d48 hg (W.widen hc9 hs9 (kk Q G G1 G2 Rr S Sc T O M F Fd H locs ls h hO hP hD hS (lv_sub hl [2, 3, 4, 5, 6, 7] rfl)))
  refine tail_h X (z := t + 48) h hk hP hl hf d0 d1 d4 d6 d11 d13 (by omega) (fun q => ?_) (fun _ => K)
  have hv := hv q
  refine lv_aload hx hb d16 (lv_at hl 3 rfl) ?_
  refine lv_iconst (v := 0) hx hb d18 (by decide) ?_
  refine va_dald hx hb hK hP (wj [acells C u Q, gcells C (uA u) G, gcells C (uB u) G1, gcells C (uC u) G2, grcells C (uG u) Rr, hcells C (uH u) S, scells C ev (uS u) Sc, ocells C (uO u) O, mcells C bm M, lcells C o F]).length 5 rfl rfl vp01 d19 ?_
  rw [show (0 : Int32).toNatClampNeg = 0 from rfl, hv]
  refine lv_dload hx hb d20 (lv_at hl 0 rfl) ?_
  refine lv_dcmp hx hb d22 ?_
  refine lv_if_eq (tgt := t + 48) hx hb d23 (by omega) (fun _ => K) (fun q1 => ?_)
  refine lv_aload hx hb d26 (lv_at hl 3 rfl) ?_
  refine lv_iconst (v := 0) hx hb d28 (by decide) ?_
  refine va_dald hx hb hK hP (wj [acells C u Q, gcells C (uA u) G, gcells C (uB u) G1, gcells C (uC u) G2, grcells C (uG u) Rr, hcells C (uH u) S, scells C ev (uS u) Sc, ocells C (uO u) O, mcells C bm M, lcells C o F]).length 5 rfl rfl vp01 d29 ?_
  rw [show (0 : Int32).toNatClampNeg = 0 from rfl, hv]
  refine lv_aload hx hb d30 (lv_at hl 3 rfl) ?_
  refine lv_iconst (v := 0) hx hb d32 (by decide) ?_
  refine va_dald hx hb hK hP (wj [acells C u Q, gcells C (uA u) G, gcells C (uB u) G1, gcells C (uC u) G2, grcells C (uG u) Rr, hcells C (uH u) S, scells C ev (uS u) Sc, ocells C (uO u) O, mcells C bm M, lcells C o F]).length 5 rfl rfl vp01 d33 ?_
  rw [show (0 : Int32).toNatClampNeg = 0 from rfl, hv]
  refine lv_dcmp hx hb d34 ?_
  refine lv_if_eq (tgt := t + 46) hx hb d35 (by omega) (fun q2 => absurd q2 q1) (fun _ => ?_)
  refine lv_dload hx hb d38 (lv_at hl 0 rfl) ?_
  refine lv_dload hx hb d40 (lv_at hl 0 rfl) ?_
  refine lv_dcmp hx hb d42 ?_
  exact lv_if_ne (tgt := t + 48) hx hb d43 (by omega) (fun _ => K) (fun q2 => absurd q2 q1)
theorem tail_f (X : LX p l s m c b L xs D C ev A) {i : Nat} {Q : QS} {G G1 G2 : GS} {Rr : GR} {S : HS} {Sc : SS} {T : TX} {O : OS} {M : MS} {F : Nat → Int64} {Fd : Nat → UInt64} {H : Heap} {locs : List Loc} {ls : Array Slot} {cells slots c9 s9 : Nat} {v : UInt32} {k : Int32} (t : Nat) {dg : Int} (h : REL Q G S Sc G1 G2 T Rr M) (hO : OT T O) (hk : mThr M = k) (hv : k = 0 → Fd 0 = FP.f2d v ∧ vf_n64 (FP.f2d v)) (hP : va_P D vwCl (wj (lbl C ev u bm o od Q G G1 G2 Rr S Sc O M F Fd)) H) (hD : va_D A (wj (lbl C ev u bm o od Q G G1 G2 Rr S Sc O M F Fd))) (hS : va_S A s.heap H locs) (hl : lv_has ls 9 ((7, .float v) :: (6, .int k) :: LL u bm o od b i)) (hf : cells ≤ room_1.cells ∧ slots ≤ room_1.slots) (hc9 : cells ≤ c9) (hs9 : slots ≤ s9)
    (d0 : decode code t = .ok (.aload_n 2, 1)) (d1 : decode code (t + 1) = .ok (.invokevirtual 167, 3)) (d4 : decode code (t + 4) = .ok (.iload 6, 2)) (d6 : decode code (t + 6) = .ok (.if_icmp .eq 5, 3)) (d11 : decode code (t + 11) = .ok (.iload 6, 2)) (d13 : decode code (t + 13) = .ok (.ifCond .ne 36, 3))
    (d16 : decode code (t + 16) = .ok (.aload 4, 2)) (d18 : decode code (t + 18) = .ok (.iconst 0, 1)) (d19 : decode code (t + 19) = .ok (.daload, 1)) (d20 : decode code (t + 20) = .ok (.fload 7, 2)) (d22 : decode code (t + 22) = .ok (.f2d, 1)) (d23 : decode code (t + 23) = .ok (.dcmp .l, 1)) (d24 : decode code (t + 24) = .ok (.ifCond .eq 25, 3)) (d49 : decode code (t + 49) = .ok (.goto dg, 3)) (hg : ((t + 49 : Nat) : Int) + dg = ((2943 : Nat) : Int))
    (kk : LK p l e s m below meth c b D C ev u bm o od A Q9 i c9 s9) : W p l e room_1 s m #[Value.ref b] below meth c H locs cells slots Q9 (F0 m t ls []) := by
  obtain ⟨hx, hb, hml, hown, hts, hK, hE, hR, hX, hT, hV, hDV, hN, hC, hXs, hbl, hbA, hA, hl9⟩ := id X
  have K : W p l e room_1 s m #[Value.ref b] below meth c H locs cells slots Q9 (F0 m (t + 49) ls []) :=
    lv_goto (tgt := 2943) hx hb d49 hg (W.widen hc9 hs9 (kk Q G G1 G2 Rr S Sc T O M F Fd H locs ls h hO hP hD hS (lv_sub hl [2, 3, 4, 5, 6, 7] rfl)))
  refine tail_h X (z := t + 49) h hk hP hl hf d0 d1 d4 d6 d11 d13 (by omega) (fun q => ?_) (fun _ => K)
  obtain ⟨hv, hn⟩ := hv q
  refine lv_aload hx hb d16 (lv_at hl 3 rfl) ?_
  refine lv_iconst (v := 0) hx hb d18 (by decide) ?_
  refine va_dald hx hb hK hP (wj [acells C u Q, gcells C (uA u) G, gcells C (uB u) G1, gcells C (uC u) G2, grcells C (uG u) Rr, hcells C (uH u) S, scells C ev (uS u) Sc, ocells C (uO u) O, mcells C bm M, lcells C o F]).length 5 rfl rfl vp01 d19 ?_
  rw [show (0 : Int32).toNatClampNeg = 0 from rfl, hv]
  refine lv_fload hx hb d20 (lv_at hl 0 rfl) ?_
  refine lv_f2d hx hb d22 hn ?_
  refine lv_dcmp hx hb d23 ?_
  exact lv_if_eq (tgt := t + 49) hx hb d24 (by omega) (fun _ => K) (fun q1 => absurd (dcmp_0 hn) q1)
end
