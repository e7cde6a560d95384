/-! the law's loop -/
theorem and63 (x : Int32) : ∃ k, k < 64 ∧ x &&& 63 = nI k := by
  refine ⟨(x &&& 63).toBitVec.toNat, ?_, ?_⟩
  · rw [Int32.toBitVec_and, BitVec.toNat_and]
    exact Nat.lt_of_le_of_lt Nat.and_le_right (by decide)
  · refine Int32.toBitVec_inj.mp ?_
    show (x &&& 63).toBitVec = BitVec.ofNat 32 (x &&& 63).toBitVec.toNat
    rw [BitVec.ofNat_toNat, BitVec.setWidth_eq]
theorem len4 {L i : Nat} (hL : L ≤ 2048) (hi : i ≤ 4096) : Int32.ofNat L - 4 < nI i ↔ L < i + 4 := by
  rw [Int32.lt_iff_toInt_lt, nI_toInt (by omega)]
  have h : (nI L - 4).toInt = (L : Int) - 4 := pk_sub_toInt (b := 4) (by omega) (by decide)
  rw [show (Int32.ofNat L - 4).toInt = (L : Int) - 4 from h]
  omega
set_option maxHeartbeats 4000000 in
set_option maxRecDepth 100000 in
theorem law_case0 {p : Program} {l : Launch} {e : Env} {s : State} {m : MethodId} {below : List Frame} {meth : Method} {c : Code} {b L : Nat} {xs : Nat → Int32} {D : va_G} {C : Nat → ClassId} {ev u bm : Nat → Nat} {o od : Nat} {A : Nat → Prop} {Q9 : State → Prop} (X : LX p l s m c b L xs D C ev A) (hL : L ≤ 2048) {i : Nat} (hi : i + 4 ≤ L) {Q : QS} {G G1 G2 : GS} {Rr : GR} {S : HS} {Sc : SS} {T : TX} {O : OS} {M : MS} {F : Nat → Int64} {Fd : Nat → UInt64} {H : Heap} {locs : List Loc} {ls : Array Slot} {cells slots : Nat} (h : REL Q G S Sc G1 G2 T Rr M) (hO : OT T O) (hP : va_P D vwCl (wj (lbl C ev u bm o od Q G G1 G2 Rr S Sc O M F Fd)) H) (hD : va_D A (wj (lbl C ev u bm o od Q G G1 G2 Rr S Sc O M F Fd))) (hS : va_S A s.heap H locs) (hl : lv_has ls 9 (LL u bm o od b i)) (hc : cells + 33 ≤ 603072) (hs : slots + 1094 ≤ 7202922) (kk : LK p l e s m below meth c b D C ev u bm o od A Q9 i (cells + 33) (slots + 1094)) (k : Nat) (h1 : 0 ≤ k) (h2 : k < 14) : W p l e room_1 s m #[Value.ref b] below meth c H locs cells slots Q9 (F0 m 44 ls [.int (nI k)]) := by
  have hx : p.tables.exec = Jvm.exec := X.1
  have hb : c.code = code := X.2.1
  by_cases e0 : k = 0
  · subst e0
    exact lv_tableIn (tgt := 276) (off := 232) hx hb dL_law_44 (by decide +kernel) (by decide +kernel) (by decide +kernel) (by decide) (case_addPlayer X hL hi h hO hP hD hS hl hc hs kk)
  by_cases e1 : k = 1
  · subst e1
    exact lv_tableIn (tgt := 332) (off := 288) hx hb dL_law_44 (by decide +kernel) (by decide +kernel) (by decide +kernel) (by decide) (case_addSite X hL hi h hO hP hD hS hl hc hs kk)
  by_cases e2 : k = 2
  · subst e2
    exact lv_tableIn (tgt := 412) (off := 368) hx hb dL_law_44 (by decide +kernel) (by decide +kernel) (by decide +kernel) (by decide) (case_setSuit X hL hi h hO hP hD hS hl hc hs kk)
  by_cases e3 : k = 3
  · subst e3
    exact lv_tableIn (tgt := 480) (off := 436) hx hb dL_law_44 (by decide +kernel) (by decide +kernel) (by decide +kernel) (by decide) (case_setTide X hL hi h hO hP hD hS hl hc hs kk)
  by_cases e4 : k = 4
  · subst e4
    exact lv_tableIn (tgt := 536) (off := 492) hx hb dL_law_44 (by decide +kernel) (by decide +kernel) (by decide +kernel) (by decide) (case_placeBid X hL hi h hO hP hD hS hl hc hs kk)
  by_cases e5 : k = 5
  · subst e5
    exact lv_tableIn (tgt := 616) (off := 572) hx hb dL_law_44 (by decide +kernel) (by decide +kernel) (by decide +kernel) (by decide) (case_placeBluff X hL hi h hO hP hD hS hl hc hs kk)
  by_cases e6 : k = 6
  · subst e6
    exact lv_tableIn (tgt := 696) (off := 652) hx hb dL_law_44 (by decide +kernel) (by decide +kernel) (by decide +kernel) (by decide) (case_withdrawBid X hL hi h hO hP hD hS hl hc hs kk)
  by_cases e7 : k = 7
  · subst e7
    exact lv_tableIn (tgt := 764) (off := 720) hx hb dL_law_44 (by decide +kernel) (by decide +kernel) (by decide +kernel) (by decide) (case_playFerry X hL hi h hO hP hD hS hl hc hs kk)
  by_cases e8 : k = 8
  · subst e8
    exact lv_tableIn (tgt := 832) (off := 788) hx hb dL_law_44 (by decide +kernel) (by decide +kernel) (by decide +kernel) (by decide) (case_settle X hL hi h hO hP hD hS hl hc hs kk)
  by_cases e9 : k = 9
  · subst e9
    exact lv_tableIn (tgt := 895) (off := 851) hx hb dL_law_44 (by decide +kernel) (by decide +kernel) (by decide +kernel) (by decide) (case_suit X hL hi h hO hP hD hS hl hc hs kk)
  by_cases e10 : k = 10
  · subst e10
    exact lv_tableIn (tgt := 951) (off := 907) hx hb dL_law_44 (by decide +kernel) (by decide +kernel) (by decide +kernel) (by decide) (case_tide X hL hi h hO hP hD hS hl hc hs kk)
  by_cases e11 : k = 11
  · subst e11
    exact lv_tableIn (tgt := 964) (off := 920) hx hb dL_law_44 (by decide +kernel) (by decide +kernel) (by decide +kernel) (by decide) (case_playerCount X hL hi h hO hP hD hS hl hc hs kk)
  by_cases e12 : k = 12
  · subst e12
    exact lv_tableIn (tgt := 977) (off := 933) hx hb dL_law_44 (by decide +kernel) (by decide +kernel) (by decide +kernel) (by decide) (case_money X hL hi h hO hP hD hS hl hc hs kk)
  by_cases e13 : k = 13
  · subst e13
    exact lv_tableIn (tgt := 1033) (off := 989) hx hb dL_law_44 (by decide +kernel) (by decide +kernel) (by decide +kernel) (by decide) (case_availableMoney X hL hi h hO hP hD hS hl hc hs kk)
  exact absurd h2 (by omega)
set_option maxHeartbeats 4000000 in
set_option maxRecDepth 100000 in
theorem law_case1 {p : Program} {l : Launch} {e : Env} {s : State} {m : MethodId} {below : List Frame} {meth : Method} {c : Code} {b L : Nat} {xs : Nat → Int32} {D : va_G} {C : Nat → ClassId} {ev u bm : Nat → Nat} {o od : Nat} {A : Nat → Prop} {Q9 : State → Prop} (X : LX p l s m c b L xs D C ev A) (hL : L ≤ 2048) {i : Nat} (hi : i + 4 ≤ L) {Q : QS} {G G1 G2 : GS} {Rr : GR} {S : HS} {Sc : SS} {T : TX} {O : OS} {M : MS} {F : Nat → Int64} {Fd : Nat → UInt64} {H : Heap} {locs : List Loc} {ls : Array Slot} {cells slots : Nat} (h : REL Q G S Sc G1 G2 T Rr M) (hO : OT T O) (hP : va_P D vwCl (wj (lbl C ev u bm o od Q G G1 G2 Rr S Sc O M F Fd)) H) (hD : va_D A (wj (lbl C ev u bm o od Q G G1 G2 Rr S Sc O M F Fd))) (hS : va_S A s.heap H locs) (hl : lv_has ls 9 (LL u bm o od b i)) (hc : cells + 33 ≤ 603072) (hs : slots + 1094 ≤ 7202922) (kk : LK p l e s m below meth c b D C ev u bm o od A Q9 i (cells + 33) (slots + 1094)) (k : Nat) (h1 : 14 ≤ k) (h2 : k < 28) : W p l e room_1 s m #[Value.ref b] below meth c H locs cells slots Q9 (F0 m 44 ls [.int (nI k)]) := by
  have hx : p.tables.exec = Jvm.exec := X.1
  have hb : c.code = code := X.2.1
  by_cases e14 : k = 14
  · subst e14
    exact lv_tableIn (tgt := 1089) (off := 1045) hx hb dL_law_44 (by decide +kernel) (by decide +kernel) (by decide +kernel) (by decide) (case_isFerryUsed X hL hi h hO hP hD hS hl hc hs kk)
  by_cases e15 : k = 15
  · subst e15
    exact lv_tableIn (tgt := 1152) (off := 1108) hx hb dL_law_44 (by decide +kernel) (by decide +kernel) (by decide +kernel) (by decide) (case_bridgeCount X hL hi h hO hP hD hS hl hc hs kk)
  by_cases e16 : k = 16
  · subst e16
    exact lv_tableIn (tgt := 1208) (off := 1164) hx hb dL_law_44 (by decide +kernel) (by decide +kernel) (by decide +kernel) (by decide) (case_score X hL hi h hO hP hD hS hl hc hs kk)
  by_cases e17 : k = 17
  · subst e17
    exact lv_tableIn (tgt := 1264) (off := 1220) hx hb dL_law_44 (by decide +kernel) (by decide +kernel) (by decide +kernel) (by decide) (case_siteCount X hL hi h hO hP hD hS hl hc hs kk)
  by_cases e18 : k = 18
  · subst e18
    exact lv_tableIn (tgt := 1277) (off := 1233) hx hb dL_law_44 (by decide +kernel) (by decide +kernel) (by decide +kernel) (by decide) (case_lowerIsland X hL hi h hO hP hD hS hl hc hs kk)
  by_cases e19 : k = 19
  · subst e19
    exact lv_tableIn (tgt := 1333) (off := 1289) hx hb dL_law_44 (by decide +kernel) (by decide +kernel) (by decide +kernel) (by decide) (case_higherIsland X hL hi h hO hP hD hS hl hc hs kk)
  by_cases e20 : k = 20
  · subst e20
    exact lv_tableIn (tgt := 1389) (off := 1345) hx hb dL_law_44 (by decide +kernel) (by decide +kernel) (by decide +kernel) (by decide) (case_length X hL hi h hO hP hD hS hl hc hs kk)
  by_cases e21 : k = 21
  · subst e21
    exact lv_tableIn (tgt := 1445) (off := 1401) hx hb dL_law_44 (by decide +kernel) (by decide +kernel) (by decide +kernel) (by decide) (case_buildingCost X hL hi h hO hP hD hS hl hc hs kk)
  by_cases e22 : k = 22
  · subst e22
    exact lv_tableIn (tgt := 1501) (off := 1457) hx hb dL_law_44 (by decide +kernel) (by decide +kernel) (by decide +kernel) (by decide) (case_isBuilt X hL hi h hO hP hD hS hl hc hs kk)
  by_cases e23 : k = 23
  · subst e23
    exact lv_tableIn (tgt := 1564) (off := 1520) hx hb dL_law_44 (by decide +kernel) (by decide +kernel) (by decide +kernel) (by decide) (case_builder X hL hi h hO hP hD hS hl hc hs kk)
  by_cases e24 : k = 24
  · subst e24
    exact lv_tableIn (tgt := 1620) (off := 1576) hx hb dL_law_44 (by decide +kernel) (by decide +kernel) (by decide +kernel) (by decide) (case_bidCount X hL hi h hO hP hD hS hl hc hs kk)
  by_cases e25 : k = 25
  · subst e25
    exact lv_tableIn (tgt := 1676) (off := 1632) hx hb dL_law_44 (by decide +kernel) (by decide +kernel) (by decide +kernel) (by decide) (case_bidAmount X hL hi h hO hP hD hS hl hc hs kk)
  by_cases e26 : k = 26
  · subst e26
    exact lv_tableIn (tgt := 1744) (off := 1700) hx hb dL_law_44 (by decide +kernel) (by decide +kernel) (by decide +kernel) (by decide) (case_isBluff X hL hi h hO hP hD hS hl hc hs kk)
  by_cases e27 : k = 27
  · subst e27
    exact lv_tableIn (tgt := 1819) (off := 1775) hx hb dL_law_44 (by decide +kernel) (by decide +kernel) (by decide +kernel) (by decide) (case_ferryOwner X hL hi h hO hP hD hS hl hc hs kk)
  exact absurd h2 (by omega)
set_option maxHeartbeats 4000000 in
set_option maxRecDepth 100000 in
theorem law_case2 {p : Program} {l : Launch} {e : Env} {s : State} {m : MethodId} {below : List Frame} {meth : Method} {c : Code} {b L : Nat} {xs : Nat → Int32} {D : va_G} {C : Nat → ClassId} {ev u bm : Nat → Nat} {o od : Nat} {A : Nat → Prop} {Q9 : State → Prop} (X : LX p l s m c b L xs D C ev A) (hL : L ≤ 2048) {i : Nat} (hi : i + 4 ≤ L) {Q : QS} {G G1 G2 : GS} {Rr : GR} {S : HS} {Sc : SS} {T : TX} {O : OS} {M : MS} {F : Nat → Int64} {Fd : Nat → UInt64} {H : Heap} {locs : List Loc} {ls : Array Slot} {cells slots : Nat} (h : REL Q G S Sc G1 G2 T Rr M) (hO : OT T O) (hP : va_P D vwCl (wj (lbl C ev u bm o od Q G G1 G2 Rr S Sc O M F Fd)) H) (hD : va_D A (wj (lbl C ev u bm o od Q G G1 G2 Rr S Sc O M F Fd))) (hS : va_S A s.heap H locs) (hl : lv_has ls 9 (LL u bm o od b i)) (hc : cells + 33 ≤ 603072) (hs : slots + 1094 ≤ 7202922) (kk : LK p l e s m below meth c b D C ev u bm o od A Q9 i (cells + 33) (slots + 1094)) (k : Nat) (h1 : 28 ≤ k) (h2 : k < 42) : W p l e room_1 s m #[Value.ref b] below meth c H locs cells slots Q9 (F0 m 44 ls [.int (nI k)]) := by
  have hx : p.tables.exec = Jvm.exec := X.1
  have hb : c.code = code := X.2.1
  by_cases e28 : k = 28
  · subst e28
    exact lv_tableIn (tgt := 1875) (off := 1831) hx hb dL_law_44 (by decide +kernel) (by decide +kernel) (by decide +kernel) (by decide) (case_winningBidder X hL hi h hO hP hD hS hl hc hs kk)
  by_cases e29 : k = 29
  · subst e29
    exact lv_tableIn (tgt := 1931) (off := 1887) hx hb dL_law_44 (by decide +kernel) (by decide +kernel) (by decide +kernel) (by decide) (case_wouldBuild X hL hi h hO hP hD hS hl hc hs kk)
  by_cases e30 : k = 30
  · subst e30
    exact lv_tableIn (tgt := 1994) (off := 1950) hx hb dL_law_44 (by decide +kernel) (by decide +kernel) (by decide +kernel) (by decide) (case_cheapestFreeSite X hL hi h hO hP hD hS hl hc hs kk)
  by_cases e31 : k = 31
  · subst e31
    exact lv_tableIn (tgt := 2038) (off := 1994) hx hb dL_law_44 (by decide +kernel) (by decide +kernel) (by decide +kernel) (by decide) (case_isConnected X hL hi h hO hP hD hS hl hc hs kk)
  by_cases e32 : k = 32
  · subst e32
    exact lv_tableIn (tgt := 2113) (off := 2069) hx hb dL_law_44 (by decide +kernel) (by decide +kernel) (by decide +kernel) (by decide) (case_distance X hL hi h hO hP hD hS hl hc hs kk)
  by_cases e33 : k = 33
  · subst e33
    exact lv_tableIn (tgt := 2181) (off := 2137) hx hb dL_law_44 (by decide +kernel) (by decide +kernel) (by decide +kernel) (by decide) (case_distanceByRelaxation X hL hi h hO hP hD hS hl hc hs kk)
  by_cases e34 : k = 34
  · subst e34
    exact lv_tableIn (tgt := 2249) (off := 2205) hx hb dL_law_44 (by decide +kernel) (by decide +kernel) (by decide +kernel) (by decide) (case_componentCount X hL hi h hO hP hD hS hl hc hs kk)
  by_cases e35 : k = 35
  · subst e35
    exact lv_tableIn (tgt := 2262) (off := 2218) hx hb dL_law_44 (by decide +kernel) (by decide +kernel) (by decide +kernel) (by decide) (case_componentCountByUnion X hL hi h hO hP hD hS hl hc hs kk)
  by_cases e36 : k = 36
  · subst e36
    exact lv_tableIn (tgt := 2275) (off := 2231) hx hb dL_law_44 (by decide +kernel) (by decide +kernel) (by decide +kernel) (by decide) (case_forestLength X hL hi h hO hP hD hS hl hc hs kk)
  by_cases e37 : k = 37
  · subst e37
    exact lv_tableIn (tgt := 2288) (off := 2244) hx hb dL_law_44 (by decide +kernel) (by decide +kernel) (by decide +kernel) (by decide) (case_forestLengthByPrim X hL hi h hO hP hD hS hl hc hs kk)
  by_cases e38 : k = 38
  · subst e38
    exact lv_tableIn (tgt := 2301) (off := 2257) hx hb dL_law_44 (by decide +kernel) (by decide +kernel) (by decide +kernel) (by decide) (case_playerByScore X hL hi h hO hP hD hS hl hc hs kk)
  by_cases e39 : k = 39
  · subst e39
    exact lv_tableIn (tgt := 2357) (off := 2313) hx hb dL_law_44 (by decide +kernel) (by decide +kernel) (by decide +kernel) (by decide) (case_bankMoney X hL hi h hO hP hD hS hl hc hs kk)
  by_cases e40 : k = 40
  · subst e40
    exact lv_tableIn (tgt := 2370) (off := 2326) hx hb dL_law_44 (by decide +kernel) (by decide +kernel) (by decide +kernel) (by decide) (case_settledTotal X hL hi h hO hP hD hS hl hc hs kk)
  by_cases e41 : k = 41
  · subst e41
    exact lv_tableIn (tgt := 2383) (off := 2339) hx hb dL_law_44 (by decide +kernel) (by decide +kernel) (by decide +kernel) (by decide) (case_bluffTotal X hL hi h hO hP hD hS hl hc hs kk)
  exact absurd h2 (by omega)
set_option maxHeartbeats 4000000 in
set_option maxRecDepth 100000 in
theorem law_case3 {p : Program} {l : Launch} {e : Env} {s : State} {m : MethodId} {below : List Frame} {meth : Method} {c : Code} {b L : Nat} {xs : Nat → Int32} {D : va_G} {C : Nat → ClassId} {ev u bm : Nat → Nat} {o od : Nat} {A : Nat → Prop} {Q9 : State → Prop} (X : LX p l s m c b L xs D C ev A) (hL : L ≤ 2048) {i : Nat} (hi : i + 4 ≤ L) {Q : QS} {G G1 G2 : GS} {Rr : GR} {S : HS} {Sc : SS} {T : TX} {O : OS} {M : MS} {F : Nat → Int64} {Fd : Nat → UInt64} {H : Heap} {locs : List Loc} {ls : Array Slot} {cells slots : Nat} (h : REL Q G S Sc G1 G2 T Rr M) (hO : OT T O) (hP : va_P D vwCl (wj (lbl C ev u bm o od Q G G1 G2 Rr S Sc O M F Fd)) H) (hD : va_D A (wj (lbl C ev u bm o od Q G G1 G2 Rr S Sc O M F Fd))) (hS : va_S A s.heap H locs) (hl : lv_has ls 9 (LL u bm o od b i)) (hc : cells + 33 ≤ 603072) (hs : slots + 1094 ≤ 7202922) (kk : LK p l e s m below meth c b D C ev u bm o od A Q9 i (cells + 33) (slots + 1094)) (k : Nat) (h1 : 42 ≤ k) (h2 : k < 54) : W p l e room_1 s m #[Value.ref b] below meth c H locs cells slots Q9 (F0 m 44 ls [.int (nI k)]) := by
  have hx : p.tables.exec = Jvm.exec := X.1
  have hb : c.code = code := X.2.1
  by_cases e42 : k = 42
  · subst e42
    exact lv_tableIn (tgt := 2396) (off := 2352) hx hb dL_law_44 (by decide +kernel) (by decide +kernel) (by decide +kernel) (by decide) (case_meanBridgeLength X hL hi h hO hP hD hS hl hc hs kk)
  by_cases e43 : k = 43
  · subst e43
    exact lv_tableIn (tgt := 2461) (off := 2417) hx hb dL_law_44 (by decide +kernel) (by decide +kernel) (by decide +kernel) (by decide) (case_builtShare X hL hi h hO hP hD hS hl hc hs kk)
  by_cases e44 : k = 44
  · subst e44
    exact lv_tableIn (tgt := 2527) (off := 2483) hx hb dL_law_44 (by decide +kernel) (by decide +kernel) (by decide +kernel) (by decide) (case_isConsistent X hL hi h hO hP hD hS hl hc hs kk)
  by_cases e45 : k = 45
  · subst e45
    exact lv_tableIn (tgt := 2540) (off := 2496) hx hb dL_law_44 (by decide +kernel) (by decide +kernel) (by decide +kernel) (by decide) (case_renderSite X hL hi h hO hP hD hS hl hc hs kk)
  by_cases e46 : k = 46
  · subst e46
    exact lv_tableIn (tgt := 2596) (off := 2552) hx hb dL_law_44 (by decide +kernel) (by decide +kernel) (by decide +kernel) (by decide) (case_outputAt X hL hi h hO hP hD hS hl hc hs kk)
  by_cases e47 : k = 47
  · subst e47
    exact lv_tableIn (tgt := 2652) (off := 2608) hx hb dL_law_44 (by decide +kernel) (by decide +kernel) (by decide +kernel) (by decide) (case_type X hL hi h hO hP hD hS hl hc hs kk)
  by_cases e48 : k = 48
  · subst e48
    exact lv_tableIn (tgt := 2710) (off := 2666) hx hb dL_law_44 (by decide +kernel) (by decide +kernel) (by decide +kernel) (by decide) (case_runScript X hL hi h hO hP hD hS hl hc hs kk)
  by_cases e49 : k = 49
  · subst e49
    exact lv_tableIn (tgt := 2754) (off := 2710) hx hb dL_law_44 (by decide +kernel) (by decide +kernel) (by decide +kernel) (by decide) (case_errorPosition X hL hi h hO hP hD hS hl hc hs kk)
  by_cases e50 : k = 50
  · subst e50
    exact lv_tableIn (tgt := 2798) (off := 2754) hx hb dL_law_44 (by decide +kernel) (by decide +kernel) (by decide +kernel) (by decide) (case_failedCommand X hL hi h hO hP hD hS hl hc hs kk)
  by_cases e51 : k = 51
  · subst e51
    exact lv_tableIn (tgt := 2842) (off := 2798) hx hb dL_law_44 (by decide +kernel) (by decide +kernel) (by decide +kernel) (by decide) (case_undo X hL hi h hO hP hD hS hl hc hs kk)
  by_cases e52 : k = 52
  · subst e52
    exact lv_tableIn (tgt := 2886) (off := 2842) hx hb dL_law_44 (by decide +kernel) (by decide +kernel) (by decide +kernel) (by decide) (case_save X hL hi h hO hP hD hS hl hc hs kk)
  by_cases e53 : k = 53
  · subst e53
    exact lv_tableIn (tgt := 2899) (off := 2855) hx hb dL_law_44 (by decide +kernel) (by decide +kernel) (by decide +kernel) (by decide) (case_restore X hL hi h hO hP hD hS hl hc hs kk)
  exact absurd h2 (by omega)
set_option maxHeartbeats 4000000 in
set_option maxRecDepth 100000 in
theorem law_loop {p : Program} {l : Launch} {e : Env} {s : State} {m : MethodId} {below : List Frame} {meth : Method} {c : Code} {b L : Nat} {xs : Nat → Int32} {D : va_G} {C : Nat → ClassId} {ev u bm : Nat → Nat} {o od : Nat} {A : Nat → Prop} {Q9 : State → Prop} (X : LX p l s m c b L xs D C ev A) (hL : L ≤ 2048) (hret : ∀ (H : Heap) (locs : List Loc) (cells slots : Nat) (ls : Array Slot), va_S A s.heap H locs → cells ≤ 603072 → slots ≤ 7202922 → W p l e room_1 s m #[Value.ref b] below meth c H locs cells slots Q9 (F0 m 2950 ls [.int 1])) :
    ∀ (n i : Nat) (Q : QS) (G G1 G2 : GS) (Rr : GR) (S : HS) (Sc : SS) (T : TX) (O : OS) (M : MS) (F : Nat → Int64) (Fd : Nat → UInt64) (H : Heap) (locs : List Loc) (ls : Array Slot) (cells slots : Nat), L ≤ i + 4 * n → i ≤ 4000 → REL Q G S Sc G1 G2 T Rr M → OT T O → va_P D vwCl (wj (lbl C ev u bm o od Q G G1 G2 Rr S Sc O M F Fd)) H → va_D A (wj (lbl C ev u bm o od Q G G1 G2 Rr S Sc O M F Fd)) → va_S A s.heap H locs → lv_has ls 9 (LL u bm o od b i) → cells + 33 * n ≤ 603072 → slots + 1094 * n ≤ 7202922 → W p l e room_1 s m #[Value.ref b] below meth c H locs cells slots Q9 (F0 m 28 ls []) := by
  obtain ⟨hx, hb, hml, hown, hts, hK, hE, hR, hX, hT, hV, hDV, hN, hC, hXs, hbl, hbA, hA, hl9⟩ := id X
  intro n
  induction n with
  | zero =>
    intro i Q G G1 G2 Rr S Sc T O M F Fd H locs ls cells slots hn hi0 h hO hP hD hS hl hc hs
    refine lv_iload hx hb dL_law_28 (lv_at hl 0 rfl) ?_
    refine lv_aload_n hx hb dL_law_30 rfl (lv_at hl 5 rfl) ?_
    refine va_slen hx hb hXs hbl hbA hS dL_law_31 ?_
    refine lv_iconst (v := 4) hx hb dL_law_32 (by decide) ?_
    refine lv_isub hx hb dL_law_33 ?_
    refine lv_icmp_gt (tgt := 2949) hx hb dL_law_34 (by decide) (fun _ => ?_) (fun q => absurd ((len4 hL (by omega)).mpr (by omega)) q)
    refine lv_iconst (v := 1) hx hb dL_law_2949 (by decide) ?_
    exact hret H locs cells slots ls hS (by omega) (by omega)
  | succ n ih =>
    intro i Q G G1 G2 Rr S Sc T O M F Fd H locs ls cells slots hn hi0 h hO hP hD hS hl hc hs
    refine lv_iload hx hb dL_law_28 (lv_at hl 0 rfl) ?_
    refine lv_aload_n hx hb dL_law_30 rfl (lv_at hl 5 rfl) ?_
    refine va_slen hx hb hXs hbl hbA hS dL_law_31 ?_
    refine lv_iconst (v := 4) hx hb dL_law_32 (by decide) ?_
    refine lv_isub hx hb dL_law_33 ?_
    refine lv_icmp_gt (tgt := 2949) hx hb dL_law_34 (by decide) (fun _ => ?_) (fun q => ?_)
    · refine lv_iconst (v := 1) hx hb dL_law_2949 (by decide) ?_
      exact hret H locs cells slots ls hS (by omega) (by omega)
    · have hi : i + 4 ≤ L := by
        have := mt (len4 hL (i := i) (by omega)).mpr q
        omega
      refine lv_aload_n hx hb dL_law_37 rfl (lv_at hl 5 rfl) ?_
      refine lv_iload hx hb dL_law_38 (lv_at hl 0 rfl) ?_
      refine va_sld hx hb hXs hbl hbA hS (vp_in_nI (by omega) (by omega)) dL_law_40 ?_
      refine lv_bipush (v := 63) hx hb dL_law_41 (by decide) ?_
      refine lv_iand hx hb dL_law_43 ?_
      obtain ⟨k, hk, ek⟩ := and63 (xs (nI i).toNatClampNeg)
      rw [ek]
      have kk : LK p l e s m below meth c b D C ev u bm o od A Q9 i (cells + 33) (slots + 1094) := by
        intro Q G G1 G2 Rr S Sc T O M F Fd H locs ls h hO hP hD hS hl
        refine lv_iinc (v := nI (i + 4)) (lv' := LL u bm o od b (i + 4)) hx hb dL_law_2943 hl (k := 0) rfl (nI_add i 4) (by decide) rfl (fun ls hl => ?_)
        refine lv_goto (tgt := 28) hx hb dL_law_2946 (by decide) ?_
        exact ih (i + 4) Q G G1 G2 Rr S Sc T O M F Fd H locs ls (cells + 33) (slots + 1094) (by omega) (by omega) h hO hP hD hS hl (by omega) (by omega)
      by_cases k1 : k < 14
      · exact law_case0 X hL hi h hO hP hD hS hl (by omega) (by omega) kk k (Nat.zero_le k) k1
      by_cases k2 : k < 28
      · exact law_case1 X hL hi h hO hP hD hS hl (by omega) (by omega) kk k (by omega) k2
      by_cases k3 : k < 42
      · exact law_case2 X hL hi h hO hP hD hS hl (by omega) (by omega) kk k (by omega) k3
      by_cases k4 : k < 54
      · exact law_case3 X hL hi h hO hP hD hS hl (by omega) (by omega) kk k (by omega) k4
      refine lv_tableOut (tgt := 2943) hx hb dL_law_44 (Or.inr ?_) (by decide) (W.widen (by omega) (by omega) (kk Q G G1 G2 Rr S Sc T O M F Fd H locs ls h hO hP hD hS hl))
      rw [nI_toInt (by omega)]
      omega
