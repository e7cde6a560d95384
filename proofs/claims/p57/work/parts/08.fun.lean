/-! the reference's answers -/
def c16 (x : Int32) : Int32 := x.toUInt32.toUInt16.toUInt32.toInt32
theorem c16_ok (x : Int32) : (x.toUInt32 % 65536).toInt32 = c16 x := by
  unfold c16
  congr 1
theorem nar_c16 (x : Int32) : narrow .char (.int (c16 x)) = .int (c16 x) := by
  show Value.int (c16 x).toUInt32.toUInt16.toUInt32.toInt32 = .int (c16 x)
  unfold c16
  have h : x.toUInt32 % 65536 % 65536 = x.toUInt32 % 65536 := UInt32.toNat_inj.mp (by rw [UInt32.toNat_mod, UInt32.toNat_mod]; exact Nat.mod_mod _ _)
  simp [h]
theorem tsw_out {x : Int32} {n lo : Nat} {b : Int} (hb : b + 1 = ((lo + n : Nat) : Int)) (h : ∀ i, lo ≤ i → i < lo + n → x ≠ nI i) : x.toInt < (lo : Int) ∨ b < x.toInt := by
  by_cases a : x.toInt < (lo : Int)
  · exact Or.inl a
  · refine Or.inr ?_
    by_cases c : b < x.toInt
    · exact c
    · exfalso
      have hm := x.toInt_lt
      have h2 : x = nI x.toInt.toNat := by
        apply Int32.toInt_inj.mp
        rw [nI_toInt (by omega)]
        omega
      exact h x.toInt.toNat (by omega) (by omega) h2
section
variable {p : Program} {l : Launch} {e : Env} {R : Room} {s : State} {m : MethodId} {args : Array Value} {below : List Frame} {meth : Method} {c : Code} {H : Heap} {locs : List Loc} {cells slots : Nat} {cc : ByteArray} {pc : Nat} {ls : Array Slot} {D : va_G} {ws' : va_W} {A0 : Nat → Prop}
theorem rw_retC {v z : Int32} (hx : p.tables.exec = Jvm.exec) (hb : c.code = cc) (hr : meth.sig.returnType = some .char) (hP : va_P D vwCl ws' H) (hS : va_S A0 s.heap H locs) (hz : z = v) (hn : narrow .char (.int v) = .int v) (hdg : decode cc pc = .ok (.ireturn, 1)) (hlocks : meth.locks = false) : W p l e R s m args below meth c H locs cells slots (MQ below (rwO (some (.int z)) D ws' A0) args s cells slots A0) (F0 m pc ls [.int v]) :=
  W.zret (v := v) hx hb hr hn (fun t ht hW => ⟨by rw [hz], by rw [ht]; exact hP, hS.F ht⟩) hS.2.2 hdg hlocks
end
def f_X8_thrown (th : Int32) : Int32 := th
def f_X8_suit_j24  (s0_24 : Int32) (thr0_24 : Int32) : Int32 × Int32 := (s0_24, thr0_24)
def f_X8_suit (nw : (Nat → Int32)) (x : Int32) : Int32 × Int32 := (if (f_X8_isIsland (x)) = true then (f_X8_suit_j24 ((nw (6 + x.toNatClampNeg))) ((gThr (f_X8_isIsland (x))))) else (f_X8_suit_j24 (0) ((gThr (f_X8_isIsland (x))))))
def f_X8_tide (nw : (Nat → Int32)) : Int32 × Int32 := ((nw 0), 0)
def f_X8_playerCount (nw : (Nat → Int32)) : Int32 × Int32 := ((nI (mP nw)), 0)
def f_X8_siteCount (nw : (Nat → Int32)) : Int32 × Int32 := ((nI (mS nw)), 0)
def f_X8_bankMoney (nw : (Nat → Int32)) : Int32 × Int32 := ((nw 3), 0)
def f_X8_settledTotal (nw : (Nat → Int32)) : Int32 × Int32 := ((nw 4), 0)
def f_X8_bluffTotal (nw : (Nat → Int32)) : Int32 × Int32 := ((nw 5), 0)
def f_X8_isConsistent  : Bool × Int32 := (true, 0)
def f_X8_money_j27  (s0_27 : Int32) (thr0_27 : Int32) : Int32 × Int32 := (s0_27, thr0_27)
def f_X8_money (nw : (Nat → Int32)) (x : Int32) : Int32 × Int32 := (if (f_X8_isPlayer nw (x)) = true then (f_X8_money_j27 ((nw ((14 + 2 * x.toNatClampNeg) + 0))) ((gThr (f_X8_isPlayer nw (x))))) else (f_X8_money_j27 (0) ((gThr (f_X8_isPlayer nw (x))))))
def f_X8_availableMoney_j21  (s0_21 : Int32) (thr0_21 : Int32) : Int32 × Int32 := (s0_21, thr0_21)
def f_X8_availableMoney (nw : (Nat → Int32)) (x : Int32) : Int32 × Int32 := (if (f_X8_isPlayer nw (x)) = true then (f_X8_availableMoney_j21 ((f_X8_available nw (x.toNatClampNeg))) ((gThr (f_X8_isPlayer nw (x))))) else (f_X8_availableMoney_j21 (0) ((gThr (f_X8_isPlayer nw (x))))))
def f_X8_isFerryUsed_j32  (s0_32 : Bool) (thr0_32 : Int32) : Bool × Int32 := (s0_32, thr0_32)
def f_X8_isFerryUsed_j31  (thr0_31 : Int32) : Bool × Int32 := (f_X8_isFerryUsed_j32 (false) (thr0_31))
def f_X8_isFerryUsed (nw : (Nat → Int32)) (x : Int32) : Bool × Int32 := (if (f_X8_isPlayer nw (x)) = true then (if (nw ((14 + 2 * x.toNatClampNeg) + 1)) = 1 then (f_X8_isFerryUsed_j32 (true) ((gThr (f_X8_isPlayer nw (x))))) else (f_X8_isFerryUsed_j31 ((gThr (f_X8_isPlayer nw (x)))))) else (f_X8_isFerryUsed_j31 ((gThr (f_X8_isPlayer nw (x))))))
def f_X8_bridgeCount_j44  (s0_44 : Bool) (s1_44 : Int32) (thr0_44 : Int32) : Sum (Int32 × Int32) (Int32 × Int32) := (Sum.inr ((s1_44 + (bI s0_44)), thr0_44))
def f_X8_bridgeCount_l18b (nw : (Nat → Int32)) (x : Int32) (k18 : Nat) (v2_18 : Int32) (thr0_18 : Int32) : Sum (Int32 × Int32) (Int32 × Int32) := (if (f_X8_of nw ((nI k18)) (3)) = x then (f_X8_bridgeCount_j44 (true) (v2_18) (thr0_18)) else (f_X8_bridgeCount_j44 (false) (v2_18) (thr0_18)))
def f_X8_bridgeCount_l18x (nw : (Nat → Int32)) (x : Int32) (v2_18 : Int32) (thr0_18 : Int32) : Int32 × Int32 := (v2_18, thr0_18)
def f_X8_bridgeCount_l18s (nw : (Nat → Int32)) (x : Int32) (k18 : Nat) (q_ : Int32 × Int32) : Sum (Int32 × Int32) (Int32 × Int32) := f_X8_bridgeCount_l18b nw x k18 (q_.1) (q_.2)
def f_X8_bridgeCount_l18e (nw : (Nat → Int32)) (x : Int32) (q_ : Int32 × Int32) : Int32 × Int32 := f_X8_bridgeCount_l18x nw x (q_.1) (q_.2)
def f_X8_bridgeCount_l18 (nw : (Nat → Int32)) (x : Int32) (n18 k18 : Nat) (v2_18 : Int32) (thr0_18 : Int32) : Int32 × Int32 := lpF (f_X8_bridgeCount_l18s nw x) (f_X8_bridgeCount_l18e nw x) n18 k18 (v2_18, thr0_18)
def f_X8_bridgeCount (nw : (Nat → Int32)) (x : Int32) : Int32 × Int32 := (if (f_X8_isPlayer nw (x)) = true then (f_X8_bridgeCount_l18 nw x (mS nw) 0 (0) ((gThr (f_X8_isPlayer nw (x))))) else (0, (gThr (f_X8_isPlayer nw (x)))))
def f_X8_score_j21  (s0_21 : Int32) (thr0_21 : Int32) : Int32 × Int32 := (s0_21, thr0_21)
def f_X8_score (nw : (Nat → Int32)) (x : Int32) : Int32 × Int32 := (if (f_X8_isPlayer nw (x)) = true then (f_X8_score_j21 ((f_X8_scoreOf nw (x))) ((gThr (f_X8_isPlayer nw (x))))) else (f_X8_score_j21 (0) ((gThr (f_X8_isPlayer nw (x))))))
def f_X8_lowerIsland_j22  (s0_22 : Int32) (thr0_22 : Int32) : Int32 × Int32 := (s0_22, thr0_22)
def f_X8_lowerIsland (nw : (Nat → Int32)) (x : Int32) : Int32 × Int32 := (if (f_X8_isSite nw (x)) = true then (f_X8_lowerIsland_j22 ((f_X8_of nw (x) (0))) ((gThr (f_X8_isSite nw (x))))) else (f_X8_lowerIsland_j22 (0) ((gThr (f_X8_isSite nw (x))))))
def f_X8_higherIsland_j22  (s0_22 : Int32) (thr0_22 : Int32) : Int32 × Int32 := (s0_22, thr0_22)
def f_X8_higherIsland (nw : (Nat → Int32)) (x : Int32) : Int32 × Int32 := (if (f_X8_isSite nw (x)) = true then (f_X8_higherIsland_j22 ((f_X8_of nw (x) (1))) ((gThr (f_X8_isSite nw (x))))) else (f_X8_higherIsland_j22 (0) ((gThr (f_X8_isSite nw (x))))))
def f_X8_length_j22  (s0_22 : Int32) (thr0_22 : Int32) : Int32 × Int32 := (s0_22, thr0_22)
def f_X8_length (nw : (Nat → Int32)) (x : Int32) : Int32 × Int32 := (if (f_X8_isSite nw (x)) = true then (f_X8_length_j22 ((f_X8_of nw (x) (2))) ((gThr (f_X8_isSite nw (x))))) else (f_X8_length_j22 (0) ((gThr (f_X8_isSite nw (x))))))
def f_X8_buildingCost_j21  (s0_21 : Int32) (thr0_21 : Int32) : Int32 × Int32 := (s0_21, thr0_21)
def f_X8_buildingCost (nw : (Nat → Int32)) (x : Int32) : Int32 × Int32 := (if (f_X8_isSite nw (x)) = true then (f_X8_buildingCost_j21 ((f_X8_costOf nw (x))) ((gThr (f_X8_isSite nw (x))))) else (f_X8_buildingCost_j21 (0) ((gThr (f_X8_isSite nw (x))))))
def f_X8_builder_j29  (s0_29 : Int32) (thr0_29 : Int32) : Int32 × Int32 := (s0_29, thr0_29)
def f_X8_builder (nw : (Nat → Int32)) (x : Int32) : Int32 × Int32 := (if (hOk (f_X8_isSite nw (x)) (f_X8_isDone nw (x)) true true) = true then (f_X8_builder_j29 ((f_X8_of nw (x) (3))) ((hThr (f_X8_isSite nw (x)) (f_X8_isDone nw (x)) true true))) else (f_X8_builder_j29 (0) ((hThr (f_X8_isSite nw (x)) (f_X8_isDone nw (x)) true true))))
def f_X8_bidCount_j21  (s0_21 : Int32) (thr0_21 : Int32) : Int32 × Int32 := (s0_21, thr0_21)
def f_X8_bidCount (nw : (Nat → Int32)) (x : Int32) : Int32 × Int32 := (if (f_X8_isSite nw (x)) = true then (f_X8_bidCount_j21 ((f_X8_bidsOn nw (x))) ((gThr (f_X8_isSite nw (x))))) else (f_X8_bidCount_j21 (0) ((gThr (f_X8_isSite nw (x))))))
def f_X8_ferryOwner_j39  (s0_39 : Int32) (thr0_39 : Int32) : Int32 × Int32 := (s0_39, thr0_39)
def f_X8_ferryOwner_j21 (nw : (Nat → Int32)) (x : Int32) (s0_21 : Bool) (s1_21 : Bool) : Int32 × Int32 := (if (hOk s1_21 s0_21 true true) = true then (f_X8_ferryOwner_j39 ((f_X8_of nw (x) (4))) ((hThr s1_21 s0_21 true true))) else (f_X8_ferryOwner_j39 (0) ((hThr s1_21 s0_21 true true))))
def f_X8_ferryOwner (nw : (Nat → Int32)) (x : Int32) : Int32 × Int32 := (if (f_X8_of nw (x) (4)) = (-1) then (f_X8_ferryOwner_j21 nw x (false) ((f_X8_isSite nw (x)))) else (f_X8_ferryOwner_j21 nw x (true) ((f_X8_isSite nw (x)))))
def f_X8_winningBidder_j44  (s0_44 : Int32) (thr0_44 : Int32) : Int32 × Int32 := (s0_44, thr0_44)
def f_X8_winningBidder_j27 (nw : (Nat → Int32)) (x : Int32) (s0_27 : Bool) (s1_27 : Bool) : Int32 × Int32 := (if (hOk s1_27 s0_27 true true) = true then (f_X8_winningBidder_j44 ((f_X8_winner nw (x))) ((hThr s1_27 s0_27 true true))) else (f_X8_winningBidder_j44 (0) ((hThr s1_27 s0_27 true true))))
def f_X8_winningBidder_j26 (nw : (Nat → Int32)) (x : Int32) (s0_26 : Bool) : Int32 × Int32 := (f_X8_winningBidder_j27 nw x (false) (s0_26))
def f_X8_winningBidder (nw : (Nat → Int32)) (x : Int32) : Int32 × Int32 := (if (f_X8_isSite nw (x)) = true then (if (f_X8_bidsOn nw (x)) ≤ 0 then (f_X8_winningBidder_j26 nw x ((f_X8_isSite nw (x)))) else (f_X8_winningBidder_j27 nw x (true) ((f_X8_isSite nw (x))))) else (f_X8_winningBidder_j26 nw x ((f_X8_isSite nw (x)))))
def f_X8_isBuilt_j25  (s0_25 : Bool) (thr0_25 : Int32) : Bool × Int32 := (s0_25, thr0_25)
def f_X8_isBuilt_j24  (thr0_24 : Int32) : Bool × Int32 := (f_X8_isBuilt_j25 (false) (thr0_24))
def f_X8_isBuilt (nw : (Nat → Int32)) (x : Int32) : Bool × Int32 := (if (f_X8_isSite nw (x)) = true then (if (f_X8_isDone nw (x)) = true then (f_X8_isBuilt_j25 (true) ((gThr (f_X8_isSite nw (x))))) else (f_X8_isBuilt_j24 ((gThr (f_X8_isSite nw (x)))))) else (f_X8_isBuilt_j24 ((gThr (f_X8_isSite nw (x))))))
def f_X8_wouldBuild_j60  (s0_60 : Bool) (thr0_60 : Int32) : Bool × Int32 := (s0_60, thr0_60)
def f_X8_wouldBuild_j59  (thr0_59 : Int32) : Bool × Int32 := (f_X8_wouldBuild_j60 (false) (thr0_59))
def f_X8_wouldBuild_j40 (nw : (Nat → Int32)) (x : Int32) (s0_40 : Bool) (s1_40 : Bool) (s2_40 : Bool) : Bool × Int32 := (if (hOk s2_40 s1_40 s0_40 true) = true then (if (f_X8_doesBuild nw (x)) = true then (f_X8_wouldBuild_j60 (true) ((hThr s2_40 s1_40 s0_40 true))) else (f_X8_wouldBuild_j59 ((hThr s2_40 s1_40 s0_40 true)))) else (f_X8_wouldBuild_j59 ((hThr s2_40 s1_40 s0_40 true))))
def f_X8_wouldBuild_j39 (nw : (Nat → Int32)) (x : Int32) (s0_39 : Bool) (s1_39 : Bool) : Bool × Int32 := (f_X8_wouldBuild_j40 nw x (false) (s0_39) (s1_39))
def f_X8_wouldBuild_j19 (nw : (Nat → Int32)) (x : Int32) (s0_19 : Bool) (s1_19 : Bool) : Bool × Int32 := (if (f_X8_isSite nw (x)) = true then (if (f_X8_bidsOn nw (x)) ≤ 0 then (f_X8_wouldBuild_j39 nw x (s0_19) (s1_19)) else (f_X8_wouldBuild_j40 nw x (true) (s0_19) (s1_19))) else (f_X8_wouldBuild_j39 nw x (s0_19) (s1_19)))
def f_X8_wouldBuild (nw : (Nat → Int32)) (x : Int32) : Bool × Int32 := (if (f_X8_isDone nw (x)) = true then (f_X8_wouldBuild_j19 nw x (false) ((f_X8_isSite nw (x)))) else (f_X8_wouldBuild_j19 nw x (true) ((f_X8_isSite nw (x)))))
def f_X8_hasBid_j36  (s0_36 : Bool) (s1_36 : Bool) : Bool × Int32 := ((hOk s1_36 s0_36 true true), (hThr s1_36 s0_36 true true))
def f_X8_hasBid_j22 (nw : (Nat → Int32)) (x : Int32) (y : Int32) (s0_22 : Bool) : Bool × Int32 := (if (f_X8_amountOf nw (x) (y)) ≤ 0 then (f_X8_hasBid_j36 (false) (s0_22)) else (f_X8_hasBid_j36 (true) (s0_22)))
def f_X8_hasBid_j21 (nw : (Nat → Int32)) (x : Int32) (y : Int32) : Bool × Int32 := (f_X8_hasBid_j22 nw x y (false))
def f_X8_hasBid (nw : (Nat → Int32)) (x : Int32) (y : Int32) : Bool × Int32 := (if (f_X8_isPlayer nw (x)) = true then (if (f_X8_isSite nw (y)) = true then (f_X8_hasBid_j22 nw x y (true)) else (f_X8_hasBid_j21 nw x y)) else (f_X8_hasBid_j21 nw x y))
theorem X8_hasBid_in {nw : Nat → Int32} (hM : NowOK nw) {x y : Int32} (h : (f_X8_hasBid nw x y).1 = true) : vp_in x (mP nw) ∧ vp_in y (mS nw) := by
  simp only [f_X8_hasBid, f_X8_hasBid_j21, f_X8_hasBid_j22, f_X8_hasBid_j36] at h
  split at h
  · rename_i c1
    split at h
    · rename_i c2
      exact ⟨X8_isPlayer_in hM c1, X8_isSite_in hM c2⟩
    · split at h
      all_goals exact absurd h (by decide)
  · split at h
    all_goals exact absurd h (by decide)
def f_X8_bidAmount_j19  (s0_19 : Int32) (thr0_19 : Int32) : Int32 × Int32 := (s0_19, thr0_19)
def f_X8_bidAmount (nw : (Nat → Int32)) (x : Int32) (y : Int32) : Int32 × Int32 := (lt_ (f_X8_hasBid nw (x) (y)) (fun y3 => (if y3.1 = true then (f_X8_bidAmount_j19 ((f_X8_amountOf nw (x) (y))) (y3.2)) else (f_X8_bidAmount_j19 (0) (y3.2)))))
def f_X8_isBluff_j27  (s0_27 : Bool) (thr0_27 : Int32) : Bool × Int32 := (s0_27, thr0_27)
def f_X8_isBluff_j26  (thr0_26 : Int32) : Bool × Int32 := (f_X8_isBluff_j27 (false) (thr0_26))
def f_X8_isBluff (nw : (Nat → Int32)) (x : Int32) (y : Int32) : Bool × Int32 := (lt_ (f_X8_hasBid nw (x) (y)) (fun y3 => (if y3.1 = true then (if (f_X8_of nw (y) ((9 + x.toNatClampNeg))) = 1 then (f_X8_isBluff_j27 (true) (y3.2)) else (f_X8_isBluff_j26 (y3.2))) else (f_X8_isBluff_j26 (y3.2)))))
def f_X8_cheapestFreeSite_j95  (s0_95 : Int32) (thr0_95 : Int32) : Int32 × Int32 := (s0_95, thr0_95)
def f_X8_cheapestFreeSite_j84  (v1_84 : Int32) (s0_84 : Bool) : Int32 × Int32 := (if s0_84 = true then (f_X8_cheapestFreeSite_j95 (v1_84) ((gThr s0_84))) else (f_X8_cheapestFreeSite_j95 (0) ((gThr s0_84))))
def f_X8_cheapestFreeSite_j66  (v1_66 : Int32) (s0_66 : Int32) : Sum (Int32 × Int32) (Int32 × Int32) := (Sum.inr (v1_66, s0_66))
def f_X8_cheapestFreeSite_j51 (nw : (Nat → Int32)) (k7 : Nat) (v2_51 : Int32) (v4_51 : Bool) (s0_51 : Int32) : Sum (Int32 × Int32) (Int32 × Int32) := (if v4_51 = true then (f_X8_cheapestFreeSite_j66 (s0_51) ((f_X8_costOf nw ((nI k7))))) else (f_X8_cheapestFreeSite_j66 (s0_51) (v2_51)))
def f_X8_cheapestFreeSite_j39 (nw : (Nat → Int32)) (k7 : Nat) (v1_39 : Int32) (v2_39 : Int32) (s0_39 : Bool) : Sum (Int32 × Int32) (Int32 × Int32) := (if s0_39 = true then (f_X8_cheapestFreeSite_j51 nw k7 (v2_39) (s0_39) ((nI k7))) else (f_X8_cheapestFreeSite_j51 nw k7 (v2_39) (s0_39) (v1_39)))
def f_X8_cheapestFreeSite_j38 (nw : (Nat → Int32)) (k7 : Nat) (v1_38 : Int32) (v2_38 : Int32) : Sum (Int32 × Int32) (Int32 × Int32) := (f_X8_cheapestFreeSite_j39 nw k7 (v1_38) (v2_38) (false))
def f_X8_cheapestFreeSite_l7b (nw : (Nat → Int32)) (k7 : Nat) (v1_7 : Int32) (v2_7 : Int32) : Sum (Int32 × Int32) (Int32 × Int32) := (if (f_X8_isDone nw ((nI k7))) = true then (f_X8_cheapestFreeSite_j38 nw k7 (v1_7) (v2_7)) else (if v2_7 ≤ (f_X8_costOf nw ((nI k7))) then (f_X8_cheapestFreeSite_j38 nw k7 (v1_7) (v2_7)) else (f_X8_cheapestFreeSite_j39 nw k7 (v1_7) (v2_7) (true))))
def f_X8_cheapestFreeSite_l7x (nw : (Nat → Int32)) (v1_7 : Int32) (v2_7 : Int32) : Int32 × Int32 := (if v1_7 = (-1) then (f_X8_cheapestFreeSite_j84 (v1_7) (false)) else (f_X8_cheapestFreeSite_j84 (v1_7) (true)))
def f_X8_cheapestFreeSite_l7s (nw : (Nat → Int32)) (k7 : Nat) (q_ : Int32 × Int32) : Sum (Int32 × Int32) (Int32 × Int32) := f_X8_cheapestFreeSite_l7b nw k7 (q_.1) (q_.2)
def f_X8_cheapestFreeSite_l7e (nw : (Nat → Int32)) (q_ : Int32 × Int32) : Int32 × Int32 := f_X8_cheapestFreeSite_l7x nw (q_.1) (q_.2)
def f_X8_cheapestFreeSite_l7 (nw : (Nat → Int32)) (n7 k7 : Nat) (v1_7 : Int32) (v2_7 : Int32) : Int32 × Int32 := lpF (f_X8_cheapestFreeSite_l7s nw) (f_X8_cheapestFreeSite_l7e nw) n7 k7 (v1_7, v2_7)
def f_X8_cheapestFreeSite (nw : (Nat → Int32)) : Int32 × Int32 := (f_X8_cheapestFreeSite_l7 nw (mS nw) 0 ((-1)) (1000000))
theorem mP7 {D : va_G} {C : Nat → ClassId} {b : Nat → Nat} {H : Heap} {x0 : Nat → Int32} {x1 : Nat → Int32} {x2 : Nat → Int32} {x3 : Nat → Int32} {x4 : Bool} {x5 : Nat} {x6 : Int32} {x7 : Int32} {x8 : Nat → Int32} {x9 : Nat} {x10 : Nat → Int32} {x11 : Nat} {x12 : Int32} {x13 : Nat → Int32} {x14 : Nat → Int32} {x15 : Nat} {x16 : Nat} {x17 : Int32} {x18 : Nat} {x19 : Nat → Int32} {f : Nat → Int32} (h : va_P D vwCl ((mcells C b (mkM x0 x1 x2 x3 x4 x5 x6 x7 x8 x9 x10 x11 x12 x13 x14 x15 x16 x17 x18 x19)).set 7 (b 7, .inl (C 0, 8, .inl f))) H) : va_P D vwCl (mcells C b (mkM x0 x1 x2 x3 x4 x5 x6 x7 x8 x9 x10 x11 x12 f x14 x15 x16 x17 x18 x19)) H := h
theorem mD7 {A : Nat → Prop} {C : Nat → ClassId} {b : Nat → Nat} {x0 : Nat → Int32} {x1 : Nat → Int32} {x2 : Nat → Int32} {x3 : Nat → Int32} {x4 : Bool} {x5 : Nat} {x6 : Int32} {x7 : Int32} {x8 : Nat → Int32} {x9 : Nat} {x10 : Nat → Int32} {x11 : Nat} {x12 : Int32} {x13 : Nat → Int32} {x14 : Nat → Int32} {x15 : Nat} {x16 : Nat} {x17 : Int32} {x18 : Nat} {x19 : Nat → Int32} {f : Nat → Int32} (h : va_D A ((mcells C b (mkM x0 x1 x2 x3 x4 x5 x6 x7 x8 x9 x10 x11 x12 x13 x14 x15 x16 x17 x18 x19)).set 7 (b 7, .inl (C 0, 8, .inl f)))) : va_D A (mcells C b (mkM x0 x1 x2 x3 x4 x5 x6 x7 x8 x9 x10 x11 x12 f x14 x15 x16 x17 x18 x19)) := h
def f_X8_measures_j137  (far0_137 : (Nat → Int32)) : Sum (Sum ((Nat → Int32)) ((Nat → Int32))) ((Nat → Int32)) := (Sum.inr far0_137)
def f_X8_measures_l41b (nw : (Nat → Int32)) (k41 : Nat) (far0_41 : (Nat → Int32)) : Sum (Sum ((Nat → Int32)) ((Nat → Int32))) ((Nat → Int32)) := (if (f_X8_isDone nw ((nI k41))) = true then (lt_ (f_X8_of nw (nI k41) 0).toNatClampNeg (fun n62 => (lt_ (f_X8_of nw (nI k41) 1).toNatClampNeg (fun n70 => (f_X8_measures_j137 ((upd (upd far0_41 n70 (imin (far0_41 n70) ((far0_41 n62) + (f_X8_of nw ((nI k41)) (2))))) n62 (imin ((upd far0_41 n70 (imin (far0_41 n70) ((far0_41 n62) + (f_X8_of nw ((nI k41)) (2))))) n62) (((upd far0_41 n70 (imin (far0_41 n70) ((far0_41 n62) + (f_X8_of nw ((nI k41)) (2))))) n70) + (f_X8_of nw ((nI k41)) (2))))))))))) else (f_X8_measures_j137 (far0_41)))
def f_X8_measures_l41x (nw : (Nat → Int32)) (far0_41 : (Nat → Int32)) : Sum ((Nat → Int32)) ((Nat → Int32)) := (Sum.inr far0_41)
def f_X8_measures_l41s (nw : (Nat → Int32)) (k41 : Nat) (q_ : (Nat → Int32)) : Sum (Sum ((Nat → Int32)) ((Nat → Int32))) ((Nat → Int32)) := f_X8_measures_l41b nw k41 (q_)
def f_X8_measures_l41e (nw : (Nat → Int32)) (q_ : (Nat → Int32)) : Sum ((Nat → Int32)) ((Nat → Int32)) := f_X8_measures_l41x nw (q_)
def f_X8_measures_l41 (nw : (Nat → Int32)) (n41 k41 : Nat) (far0_41 : (Nat → Int32)) : Sum ((Nat → Int32)) ((Nat → Int32)) := lpF (f_X8_measures_l41s nw) (f_X8_measures_l41e nw) n41 k41 far0_41
def f_X8_measures_l33b (nw : (Nat → Int32)) (k33 : Nat) (far0_33 : (Nat → Int32)) : Sum ((Nat → Int32)) ((Nat → Int32)) := (f_X8_measures_l41 nw (mS nw) 0 (far0_33))
def f_X8_measures_l33x (nw : (Nat → Int32)) (far0_33 : (Nat → Int32)) : (Nat → Int32) := far0_33
def f_X8_measures_l33s (nw : (Nat → Int32)) (k33 : Nat) (q_ : (Nat → Int32)) : Sum ((Nat → Int32)) ((Nat → Int32)) := f_X8_measures_l33b nw k33 (q_)
def f_X8_measures_l33e (nw : (Nat → Int32)) (q_ : (Nat → Int32)) : (Nat → Int32) := f_X8_measures_l33x nw (q_)
def f_X8_measures_l33 (nw : (Nat → Int32)) (n33 k33 : Nat) (far0_33 : (Nat → Int32)) : (Nat → Int32) := lpF (f_X8_measures_l33s nw) (f_X8_measures_l33e nw) n33 k33 far0_33
def f_X8_measures_j24  (s0_24 : Int32) (s1_24 : Nat) (far0_24 : (Nat → Int32)) : Sum ((Nat → Int32)) ((Nat → Int32)) := (Sum.inr (upd far0_24 s1_24 s0_24))
def f_X8_measures_l2b (nw : (Nat → Int32)) (x : Int32) (k2 : Nat) (far0_2 : (Nat → Int32)) : Sum ((Nat → Int32)) ((Nat → Int32)) := (if (nI k2) = x then (f_X8_measures_j24 (0) (k2) (far0_2)) else (f_X8_measures_j24 (1000000) (k2) (far0_2)))
def f_X8_measures_l2x (nw : (Nat → Int32)) (x : Int32) (far0_2 : (Nat → Int32)) : (Nat → Int32) := (f_X8_measures_l33 nw (8) 0 (far0_2))
def f_X8_measures_l2s (nw : (Nat → Int32)) (x : Int32) (k2 : Nat) (q_ : (Nat → Int32)) : Sum ((Nat → Int32)) ((Nat → Int32)) := f_X8_measures_l2b nw x k2 (q_)
def f_X8_measures_l2e (nw : (Nat → Int32)) (x : Int32) (q_ : (Nat → Int32)) : (Nat → Int32) := f_X8_measures_l2x nw x (q_)
def f_X8_measures_l2 (nw : (Nat → Int32)) (x : Int32) (n2 k2 : Nat) (far0_2 : (Nat → Int32)) : (Nat → Int32) := lpF (f_X8_measures_l2s nw x) (f_X8_measures_l2e nw x) n2 k2 far0_2
def f_X8_measures (nw : (Nat → Int32)) (fr : (Nat → Int32)) (x : Int32) : (Nat → Int32) := (f_X8_measures_l2 nw x (8) 0 (fr))
def f_X8_isConnected_j49  (s0_49 : Bool) (thr0_49 : Int32) (far0_49 : (Nat → Int32)) : Bool × Int32 × (Nat → Int32) := (s0_49, thr0_49, far0_49)
def f_X8_isConnected_j20 (nw : (Nat → Int32)) (fr : (Nat → Int32)) (x : Int32) (y : Int32) (s0_20 : Bool) : Bool × Int32 × (Nat → Int32) := (if s0_20 = true then (lt_ (f_X8_measures nw fr (x)) (fun y30 => (if 1000000 ≤ (y30 y.toNatClampNeg) then (f_X8_isConnected_j49 (false) ((gThr s0_20)) (y30)) else (f_X8_isConnected_j49 (true) ((gThr s0_20)) (y30))))) else (false, (gThr s0_20), fr))
def f_X8_isConnected_j19 (nw : (Nat → Int32)) (fr : (Nat → Int32)) (x : Int32) (y : Int32) : Bool × Int32 × (Nat → Int32) := (f_X8_isConnected_j20 nw fr x y (false))
def f_X8_isConnected (nw : (Nat → Int32)) (fr : (Nat → Int32)) (x : Int32) (y : Int32) : Bool × Int32 × (Nat → Int32) := (if (f_X8_isIsland (x)) = true then (if (f_X8_isIsland (y)) = true then (f_X8_isConnected_j20 nw fr x y (true)) else (f_X8_isConnected_j19 nw fr x y)) else (f_X8_isConnected_j19 nw fr x y))
def f_X8_distanceOf_j69  (s0_69 : Int32) (thr0_69 : Int32) (far0_69 : (Nat → Int32)) : Int32 × Int32 × (Nat → Int32) := (s0_69, thr0_69, far0_69)
def f_X8_distanceOf_j51 (y : Int32) (s0_51 : Bool) (thr0_51 : Int32) (far0_51 : (Nat → Int32)) : Int32 × Int32 × (Nat → Int32) := (if (hOk true s0_51 true true) = true then (f_X8_distanceOf_j69 ((far0_51 y.toNatClampNeg)) ((hThr true s0_51 true true)) (far0_51)) else (f_X8_distanceOf_j69 (0) ((hThr true s0_51 true true)) (far0_51)))
def f_X8_distanceOf_j20 (nw : (Nat → Int32)) (fr : (Nat → Int32)) (x : Int32) (y : Int32) (s0_20 : Bool) : Int32 × Int32 × (Nat → Int32) := (if s0_20 = true then (lt_ (f_X8_measures nw fr (x)) (fun y30 => (if 1000000 ≤ (y30 y.toNatClampNeg) then (f_X8_distanceOf_j51 y (false) ((gThr s0_20)) (y30)) else (f_X8_distanceOf_j51 y (true) ((gThr s0_20)) (y30))))) else (0, (gThr s0_20), fr))
def f_X8_distanceOf_j19 (nw : (Nat → Int32)) (fr : (Nat → Int32)) (x : Int32) (y : Int32) : Int32 × Int32 × (Nat → Int32) := (f_X8_distanceOf_j20 nw fr x y (false))
def f_X8_distanceOf (nw : (Nat → Int32)) (fr : (Nat → Int32)) (x : Int32) (y : Int32) : Int32 × Int32 × (Nat → Int32) := (if (f_X8_isIsland (x)) = true then (if (f_X8_isIsland (y)) = true then (f_X8_distanceOf_j20 nw fr x y (true)) else (f_X8_distanceOf_j19 nw fr x y)) else (f_X8_distanceOf_j19 nw fr x y))
def f_X8_distance (nw : (Nat → Int32)) (fr : (Nat → Int32)) (x : Int32) (y : Int32) : Int32 × Int32 × (Nat → Int32) := (lt_ (f_X8_distanceOf nw fr (x) (y)) (fun y3 => (y3.1, y3.2.1, y3.2.2)))
def f_X8_distanceByRelaxation (nw : (Nat → Int32)) (fr : (Nat → Int32)) (x : Int32) (y : Int32) : Int32 × Int32 × (Nat → Int32) := (lt_ (f_X8_distanceOf nw fr (x) (y)) (fun y3 => (y3.1, y3.2.1, y3.2.2)))
def f_X8_components_j69  (s0_69 : Bool) (s1_69 : Int32) (thr0_69 : Int32) (far0_69 : (Nat → Int32)) : Sum (Int32 × Int32 × (Nat → Int32)) (Int32 × Int32 × (Nat → Int32)) := (Sum.inr ((s1_69 + (bI s0_69)), thr0_69, far0_69))
def f_X8_components_j52  (v1_52 : Int32) (s0_52 : Bool) (thr0_52 : Int32) (far0_52 : (Nat → Int32)) : Sum (Sum (Int32 × Int32 × (Nat → Int32)) (Int32 × Int32 × (Nat → Int32))) (Int32 × Bool × Int32 × (Nat → Int32)) := (Sum.inr (v1_52, s0_52, thr0_52, far0_52))
def f_X8_components_j51  (v1_51 : Int32) (thr0_51 : Int32) (far0_51 : (Nat → Int32)) : Sum (Sum (Int32 × Int32 × (Nat → Int32)) (Int32 × Int32 × (Nat → Int32))) (Int32 × Bool × Int32 × (Nat → Int32)) := (f_X8_components_j52 (v1_51) (false) (thr0_51) (far0_51))
def f_X8_components_l25b  (k25 : Nat) (v1_25 : Int32) (v3_25 : Bool) (thr0_25 : Int32) (far0_25 : (Nat → Int32)) : Sum (Sum (Int32 × Int32 × (Nat → Int32)) (Int32 × Int32 × (Nat → Int32))) (Int32 × Bool × Int32 × (Nat → Int32)) := (if v3_25 = true then (if (far0_25 k25) < 1000000 then (f_X8_components_j51 (v1_25) (thr0_25) (far0_25)) else (f_X8_components_j52 (v1_25) (true) (thr0_25) (far0_25))) else (f_X8_components_j51 (v1_25) (thr0_25) (far0_25)))
def f_X8_components_l25x  (v1_25 : Int32) (v3_25 : Bool) (thr0_25 : Int32) (far0_25 : (Nat → Int32)) : Sum (Int32 × Int32 × (Nat → Int32)) (Int32 × Int32 × (Nat → Int32)) := (if v3_25 = true then (f_X8_components_j69 (true) (v1_25) (thr0_25) (far0_25)) else (f_X8_components_j69 (false) (v1_25) (thr0_25) (far0_25)))
def f_X8_components_l25s  (k25 : Nat) (q_ : Int32 × Bool × Int32 × (Nat → Int32)) : Sum (Sum (Int32 × Int32 × (Nat → Int32)) (Int32 × Int32 × (Nat → Int32))) (Int32 × Bool × Int32 × (Nat → Int32)) := f_X8_components_l25b  k25 (q_.1) (q_.2.1) (q_.2.2.1) (q_.2.2.2)
def f_X8_components_l25e  (q_ : Int32 × Bool × Int32 × (Nat → Int32)) : Sum (Int32 × Int32 × (Nat → Int32)) (Int32 × Int32 × (Nat → Int32)) := f_X8_components_l25x  (q_.1) (q_.2.1) (q_.2.2.1) (q_.2.2.2)
def f_X8_components_l25  (n25 k25 : Nat) (v1_25 : Int32) (v3_25 : Bool) (thr0_25 : Int32) (far0_25 : (Nat → Int32)) : Sum (Int32 × Int32 × (Nat → Int32)) (Int32 × Int32 × (Nat → Int32)) := lpF (f_X8_components_l25s ) (f_X8_components_l25e ) n25 k25 (v1_25, v3_25, thr0_25, far0_25)
def f_X8_components_l9b (nw : (Nat → Int32)) (k9 : Nat) (v1_9 : Int32) (thr0_9 : Int32) (far0_9 : (Nat → Int32)) : Sum (Int32 × Int32 × (Nat → Int32)) (Int32 × Int32 × (Nat → Int32)) := (lt_ (f_X8_measures nw far0_9 ((nI k9))) (fun y17 => (f_X8_components_l25 (k9) 0 (v1_9) (true) (thr0_9) (y17))))
def f_X8_components_l9x (nw : (Nat → Int32)) (v1_9 : Int32) (thr0_9 : Int32) (far0_9 : (Nat → Int32)) : Int32 × Int32 × (Nat → Int32) := (v1_9, thr0_9, far0_9)
def f_X8_components_l9s (nw : (Nat → Int32)) (k9 : Nat) (q_ : Int32 × Int32 × (Nat → Int32)) : Sum (Int32 × Int32 × (Nat → Int32)) (Int32 × Int32 × (Nat → Int32)) := f_X8_components_l9b nw k9 (q_.1) (q_.2.1) (q_.2.2)
def f_X8_components_l9e (nw : (Nat → Int32)) (q_ : Int32 × Int32 × (Nat → Int32)) : Int32 × Int32 × (Nat → Int32) := f_X8_components_l9x nw (q_.1) (q_.2.1) (q_.2.2)
def f_X8_components_l9 (nw : (Nat → Int32)) (n9 k9 : Nat) (v1_9 : Int32) (thr0_9 : Int32) (far0_9 : (Nat → Int32)) : Int32 × Int32 × (Nat → Int32) := lpF (f_X8_components_l9s nw) (f_X8_components_l9e nw) n9 k9 (v1_9, thr0_9, far0_9)
def f_X8_components (nw : (Nat → Int32)) (fr : (Nat → Int32)) : Int32 × Int32 × (Nat → Int32) := (f_X8_components_l9 nw (8) 0 (0) (0) (fr))
def f_X8_componentCount (nw : (Nat → Int32)) (fr : (Nat → Int32)) : Int32 × Int32 × (Nat → Int32) := (lt_ (f_X8_components nw fr) (fun y1 => (y1.1, y1.2.1, y1.2.2)))
def f_X8_componentCountByUnion (nw : (Nat → Int32)) (fr : (Nat → Int32)) : Int32 × Int32 × (Nat → Int32) := (lt_ (f_X8_components nw fr) (fun y1 => (y1.1, y1.2.1, y1.2.2)))
theorem mP8 {D : va_G} {C : Nat → ClassId} {b : Nat → Nat} {H : Heap} {x0 : Nat → Int32} {x1 : Nat → Int32} {x2 : Nat → Int32} {x3 : Nat → Int32} {x4 : Bool} {x5 : Nat} {x6 : Int32} {x7 : Int32} {x8 : Nat → Int32} {x9 : Nat} {x10 : Nat → Int32} {x11 : Nat} {x12 : Int32} {x13 : Nat → Int32} {x14 : Nat → Int32} {x15 : Nat} {x16 : Nat} {x17 : Int32} {x18 : Nat} {x19 : Nat → Int32} {f : Nat → Int32} (h : va_P D vwCl ((mcells C b (mkM x0 x1 x2 x3 x4 x5 x6 x7 x8 x9 x10 x11 x12 x13 x14 x15 x16 x17 x18 x19)).set 8 (b 8, .inl (C 0, 8, .inl f))) H) : va_P D vwCl (mcells C b (mkM x0 x1 x2 x3 x4 x5 x6 x7 x8 x9 x10 x11 x12 x13 f x15 x16 x17 x18 x19)) H := h
theorem mD8 {A : Nat → Prop} {C : Nat → ClassId} {b : Nat → Nat} {x0 : Nat → Int32} {x1 : Nat → Int32} {x2 : Nat → Int32} {x3 : Nat → Int32} {x4 : Bool} {x5 : Nat} {x6 : Int32} {x7 : Int32} {x8 : Nat → Int32} {x9 : Nat} {x10 : Nat → Int32} {x11 : Nat} {x12 : Int32} {x13 : Nat → Int32} {x14 : Nat → Int32} {x15 : Nat} {x16 : Nat} {x17 : Int32} {x18 : Nat} {x19 : Nat → Int32} {f : Nat → Int32} (h : va_D A ((mcells C b (mkM x0 x1 x2 x3 x4 x5 x6 x7 x8 x9 x10 x11 x12 x13 x14 x15 x16 x17 x18 x19)).set 8 (b 8, .inl (C 0, 8, .inl f)))) : va_D A (mcells C b (mkM x0 x1 x2 x3 x4 x5 x6 x7 x8 x9 x10 x11 x12 x13 f x15 x16 x17 x18 x19)) := h
def f_X8_joinsGroups_j72  (s0_72 : Bool) (grp0_72 : (Nat → Int32)) : Bool × (Nat → Int32) := (s0_72, grp0_72)
def f_X8_joinsGroups_j54  (v3_54 : Int32) (v4_54 : Int32) (s0_54 : Int32) (s1_54 : Nat) (grp0_54 : (Nat → Int32)) : Sum (Bool × (Nat → Int32)) (Int32 × Int32 × (Nat → Int32)) := (Sum.inr (v3_54, v4_54, (upd grp0_54 s1_54 s0_54)))
def f_X8_joinsGroups_l18b  (k18 : Nat) (v3_18 : Int32) (v4_18 : Int32) (grp0_18 : (Nat → Int32)) : Sum (Bool × (Nat → Int32)) (Int32 × Int32 × (Nat → Int32)) := (if (grp0_18 k18) = v3_18 then (f_X8_joinsGroups_j54 (v3_18) (v4_18) (v4_18) (k18) (grp0_18)) else (f_X8_joinsGroups_j54 (v3_18) (v4_18) ((grp0_18 k18)) (k18) (grp0_18)))
def f_X8_joinsGroups_l18x  (v3_18 : Int32) (v4_18 : Int32) (grp0_18 : (Nat → Int32)) : Bool × (Nat → Int32) := (if v3_18 = v4_18 then (f_X8_joinsGroups_j72 (false) (grp0_18)) else (f_X8_joinsGroups_j72 (true) (grp0_18)))
def f_X8_joinsGroups_l18s  (k18 : Nat) (q_ : Int32 × Int32 × (Nat → Int32)) : Sum (Bool × (Nat → Int32)) (Int32 × Int32 × (Nat → Int32)) := f_X8_joinsGroups_l18b  k18 (q_.1) (q_.2.1) (q_.2.2)
def f_X8_joinsGroups_l18e  (q_ : Int32 × Int32 × (Nat → Int32)) : Bool × (Nat → Int32) := f_X8_joinsGroups_l18x  (q_.1) (q_.2.1) (q_.2.2)
def f_X8_joinsGroups_l18  (n18 k18 : Nat) (v3_18 : Int32) (v4_18 : Int32) (grp0_18 : (Nat → Int32)) : Bool × (Nat → Int32) := lpF (f_X8_joinsGroups_l18s ) (f_X8_joinsGroups_l18e ) n18 k18 (v3_18, v4_18, grp0_18)
def f_X8_joinsGroups (gp : (Nat → Int32)) (x : Nat) (y : Nat) : Bool × (Nat → Int32) := (f_X8_joinsGroups_l18 (8) 0 ((gp y)) ((gp x)) (gp))
def f_X8_forest_j103  (s0_103 : Int32) (s1_103 : Int32) (thr0_103 : Int32) (grp0_103 : (Nat → Int32)) : Sum (Sum (Int32 × Int32 × (Nat → Int32)) (Int32 × Int32 × (Nat → Int32))) (Int32 × Int32 × (Nat → Int32)) := (Sum.inr ((s1_103 + s0_103), thr0_103, grp0_103))
def f_X8_forest_j90 (k30 : Nat) (v1_90 : Int32) (s0_90 : Bool) (thr0_90 : Int32) (grp0_90 : (Nat → Int32)) : Sum (Sum (Int32 × Int32 × (Nat → Int32)) (Int32 × Int32 × (Nat → Int32))) (Int32 × Int32 × (Nat → Int32)) := (if s0_90 = true then (f_X8_forest_j103 ((nI k30)) (v1_90) (thr0_90) (grp0_90)) else (f_X8_forest_j103 (0) (v1_90) (thr0_90) (grp0_90)))
def f_X8_forest_j89 (k30 : Nat) (v1_89 : Int32) (thr0_89 : Int32) (grp0_89 : (Nat → Int32)) : Sum (Sum (Int32 × Int32 × (Nat → Int32)) (Int32 × Int32 × (Nat → Int32))) (Int32 × Int32 × (Nat → Int32)) := (f_X8_forest_j90 k30 (v1_89) (false) (thr0_89) (grp0_89))
def f_X8_forest_l38b (nw : (Nat → Int32)) (k30 : Nat) (k38 : Nat) (v1_38 : Int32) (thr0_38 : Int32) (grp0_38 : (Nat → Int32)) : Sum (Sum (Int32 × Int32 × (Nat → Int32)) (Int32 × Int32 × (Nat → Int32))) (Int32 × Int32 × (Nat → Int32)) := (if (f_X8_isDone nw ((nI k38))) = true then (if (f_X8_of nw ((nI k38)) (2)) = (nI k30) then (lt_ (f_X8_joinsGroups grp0_38 (((f_X8_of nw ((nI k38)) (0))).toNatClampNeg) (((f_X8_of nw ((nI k38)) (1))).toNatClampNeg)) (fun y79 => (if y79.1 = true then (f_X8_forest_j90 k30 (v1_38) (true) (thr0_38) (y79.2)) else (f_X8_forest_j89 k30 (v1_38) (thr0_38) (y79.2))))) else (f_X8_forest_j89 k30 (v1_38) (thr0_38) (grp0_38))) else (f_X8_forest_j89 k30 (v1_38) (thr0_38) (grp0_38)))
def f_X8_forest_l38x (nw : (Nat → Int32)) (k30 : Nat) (v1_38 : Int32) (thr0_38 : Int32) (grp0_38 : (Nat → Int32)) : Sum (Int32 × Int32 × (Nat → Int32)) (Int32 × Int32 × (Nat → Int32)) := (Sum.inr (v1_38, thr0_38, grp0_38))
def f_X8_forest_l38s (nw : (Nat → Int32)) (k30 : Nat) (k38 : Nat) (q_ : Int32 × Int32 × (Nat → Int32)) : Sum (Sum (Int32 × Int32 × (Nat → Int32)) (Int32 × Int32 × (Nat → Int32))) (Int32 × Int32 × (Nat → Int32)) := f_X8_forest_l38b nw k30 k38 (q_.1) (q_.2.1) (q_.2.2)
def f_X8_forest_l38e (nw : (Nat → Int32)) (k30 : Nat) (q_ : Int32 × Int32 × (Nat → Int32)) : Sum (Int32 × Int32 × (Nat → Int32)) (Int32 × Int32 × (Nat → Int32)) := f_X8_forest_l38x nw k30 (q_.1) (q_.2.1) (q_.2.2)
def f_X8_forest_l38 (nw : (Nat → Int32)) (k30 : Nat) (n38 k38 : Nat) (v1_38 : Int32) (thr0_38 : Int32) (grp0_38 : (Nat → Int32)) : Sum (Int32 × Int32 × (Nat → Int32)) (Int32 × Int32 × (Nat → Int32)) := lpF (f_X8_forest_l38s nw k30) (f_X8_forest_l38e nw k30) n38 k38 (v1_38, thr0_38, grp0_38)
def f_X8_forest_l30b (nw : (Nat → Int32)) (k30 : Nat) (v1_30 : Int32) (thr0_30 : Int32) (grp0_30 : (Nat → Int32)) : Sum (Int32 × Int32 × (Nat → Int32)) (Int32 × Int32 × (Nat → Int32)) := (f_X8_forest_l38 nw k30 (mS nw) 0 (v1_30) (thr0_30) (grp0_30))
def f_X8_forest_l30x (nw : (Nat → Int32)) (v1_30 : Int32) (thr0_30 : Int32) (grp0_30 : (Nat → Int32)) : Int32 × Int32 × (Nat → Int32) := (v1_30, thr0_30, grp0_30)
def f_X8_forest_l30s (nw : (Nat → Int32)) (k30 : Nat) (q_ : Int32 × Int32 × (Nat → Int32)) : Sum (Int32 × Int32 × (Nat → Int32)) (Int32 × Int32 × (Nat → Int32)) := f_X8_forest_l30b nw k30 (q_.1) (q_.2.1) (q_.2.2)
def f_X8_forest_l30e (nw : (Nat → Int32)) (q_ : Int32 × Int32 × (Nat → Int32)) : Int32 × Int32 × (Nat → Int32) := f_X8_forest_l30x nw (q_.1) (q_.2.1) (q_.2.2)
def f_X8_forest_l30 (nw : (Nat → Int32)) (n30 k30 : Nat) (v1_30 : Int32) (thr0_30 : Int32) (grp0_30 : (Nat → Int32)) : Int32 × Int32 × (Nat → Int32) := lpF (f_X8_forest_l30s nw) (f_X8_forest_l30e nw) n30 k30 (v1_30, thr0_30, grp0_30)
def f_X8_forest_l7b (nw : (Nat → Int32)) (k7 : Nat) (thr0_7 : Int32) (grp0_7 : (Nat → Int32)) : Sum (Int32 × Int32 × (Nat → Int32)) (Int32 × (Nat → Int32)) := (Sum.inr (thr0_7, (upd grp0_7 k7 (nI k7))))
def f_X8_forest_l7x (nw : (Nat → Int32)) (thr0_7 : Int32) (grp0_7 : (Nat → Int32)) : Int32 × Int32 × (Nat → Int32) := (f_X8_forest_l30 nw (10 - 1) 1 (0) (thr0_7) (grp0_7))
def f_X8_forest_l7s (nw : (Nat → Int32)) (k7 : Nat) (q_ : Int32 × (Nat → Int32)) : Sum (Int32 × Int32 × (Nat → Int32)) (Int32 × (Nat → Int32)) := f_X8_forest_l7b nw k7 (q_.1) (q_.2)
def f_X8_forest_l7e (nw : (Nat → Int32)) (q_ : Int32 × (Nat → Int32)) : Int32 × Int32 × (Nat → Int32) := f_X8_forest_l7x nw (q_.1) (q_.2)
def f_X8_forest_l7 (nw : (Nat → Int32)) (n7 k7 : Nat) (thr0_7 : Int32) (grp0_7 : (Nat → Int32)) : Int32 × Int32 × (Nat → Int32) := lpF (f_X8_forest_l7s nw) (f_X8_forest_l7e nw) n7 k7 (thr0_7, grp0_7)
def f_X8_forest (nw : (Nat → Int32)) (gp : (Nat → Int32)) : Int32 × Int32 × (Nat → Int32) := (f_X8_forest_l7 nw (8) 0 (0) (gp))
def f_X8_forestLength (nw : (Nat → Int32)) (gp : (Nat → Int32)) : Int32 × Int32 × (Nat → Int32) := (lt_ (f_X8_forest nw gp) (fun y1 => (y1.1, y1.2.1, y1.2.2)))
def f_X8_forestLengthByPrim (nw : (Nat → Int32)) (gp : (Nat → Int32)) : Int32 × Int32 × (Nat → Int32) := (lt_ (f_X8_forest nw gp) (fun y1 => (y1.1, y1.2.1, y1.2.2)))
def f_X8_playerByScore_j153  (s0_153 : Int32) (thr0_153 : Int32) : Int32 × Int32 := (s0_153, thr0_153)
def f_X8_playerByScore_j142  (v2_142 : Int32) (s0_142 : Bool) : Int32 × Int32 := (if s0_142 = true then (f_X8_playerByScore_j153 (v2_142) ((gThr s0_142))) else (f_X8_playerByScore_j153 (0) ((gThr s0_142))))
def f_X8_playerByScore_j124  (s0_124 : Int32) : Sum (Int32 × Int32) (Int32) := (Sum.inr s0_124)
def f_X8_playerByScore_j104  (v2_104 : Int32) (s0_104 : Bool) (s1_104 : Int32) : Sum (Sum (Int32 × Int32) (Int32)) (Int32 × Int32) := (Sum.inr (v2_104, (s1_104 + (bI s0_104))))
def f_X8_playerByScore_j103  (v2_103 : Int32) (s0_103 : Int32) : Sum (Sum (Int32 × Int32) (Int32)) (Int32 × Int32) := (f_X8_playerByScore_j104 (v2_103) (false) (s0_103))
def f_X8_playerByScore_j99  (v2_99 : Int32) (s0_99 : Int32) : Sum (Sum (Int32 × Int32) (Int32)) (Int32 × Int32) := (f_X8_playerByScore_j104 (v2_99) (true) (s0_99))
def f_X8_playerByScore_l20b (nw : (Nat → Int32)) (x : Int32) (k4 : Nat) (k20 : Nat) (v2_20 : Int32) (v4_20 : Int32) : Sum (Sum (Int32 × Int32) (Int32)) (Int32 × Int32) := (if 0 < ((f_X8_scoreOf nw ((nI k20))) - (f_X8_scoreOf nw ((nI k4)))) then (f_X8_playerByScore_j99 (v2_20) (v4_20)) else (if ((f_X8_scoreOf nw ((nI k20))) - (f_X8_scoreOf nw ((nI k4)))) = 0 then (if 0 < ((nw ((14 + 2 * k20) + 0)) - (nw ((14 + 2 * k4) + 0))) then (f_X8_playerByScore_j99 (v2_20) (v4_20)) else (if ((nw ((14 + 2 * k20) + 0)) - (nw ((14 + 2 * k4) + 0))) = 0 then (if (nI k4) ≤ (nI k20) then (f_X8_playerByScore_j103 (v2_20) (v4_20)) else (f_X8_playerByScore_j99 (v2_20) (v4_20))) else (f_X8_playerByScore_j103 (v2_20) (v4_20)))) else (f_X8_playerByScore_j103 (v2_20) (v4_20))))
def f_X8_playerByScore_l20x (nw : (Nat → Int32)) (x : Int32) (k4 : Nat) (v2_20 : Int32) (v4_20 : Int32) : Sum (Int32 × Int32) (Int32) := (if v4_20 = x then (f_X8_playerByScore_j124 ((nI k4))) else (f_X8_playerByScore_j124 (v2_20)))
def f_X8_playerByScore_l20s (nw : (Nat → Int32)) (x : Int32) (k4 : Nat) (k20 : Nat) (q_ : Int32 × Int32) : Sum (Sum (Int32 × Int32) (Int32)) (Int32 × Int32) := f_X8_playerByScore_l20b nw x k4 k20 (q_.1) (q_.2)
def f_X8_playerByScore_l20e (nw : (Nat → Int32)) (x : Int32) (k4 : Nat) (q_ : Int32 × Int32) : Sum (Int32 × Int32) (Int32) := f_X8_playerByScore_l20x nw x k4 (q_.1) (q_.2)
def f_X8_playerByScore_l20 (nw : (Nat → Int32)) (x : Int32) (k4 : Nat) (n20 k20 : Nat) (v2_20 : Int32) (v4_20 : Int32) : Sum (Int32 × Int32) (Int32) := lpF (f_X8_playerByScore_l20s nw x k4) (f_X8_playerByScore_l20e nw x k4) n20 k20 (v2_20, v4_20)
def f_X8_playerByScore_l4b (nw : (Nat → Int32)) (x : Int32) (k4 : Nat) (v2_4 : Int32) : Sum (Int32 × Int32) (Int32) := (f_X8_playerByScore_l20 nw x k4 (mP nw) 0 (v2_4) (0))
def f_X8_playerByScore_l4x (nw : (Nat → Int32)) (x : Int32) (v2_4 : Int32) : Int32 × Int32 := (if v2_4 = (-1) then (f_X8_playerByScore_j142 (v2_4) (false)) else (f_X8_playerByScore_j142 (v2_4) (true)))
def f_X8_playerByScore_l4s (nw : (Nat → Int32)) (x : Int32) (k4 : Nat) (q_ : Int32) : Sum (Int32 × Int32) (Int32) := f_X8_playerByScore_l4b nw x k4 (q_)
def f_X8_playerByScore_l4e (nw : (Nat → Int32)) (x : Int32) (q_ : Int32) : Int32 × Int32 := f_X8_playerByScore_l4x nw x (q_)
def f_X8_playerByScore_l4 (nw : (Nat → Int32)) (x : Int32) (n4 k4 : Nat) (v2_4 : Int32) : Int32 × Int32 := lpF (f_X8_playerByScore_l4s nw x) (f_X8_playerByScore_l4e nw x) n4 k4 v2_4
def f_X8_playerByScore (nw : (Nat → Int32)) (x : Int32) : Int32 × Int32 := (f_X8_playerByScore_l4 nw x (mP nw) 0 ((-1)))
def f_X8_put (li : (Nat → Int32)) (x : Nat) (y : Int32) : Nat × (Nat → Int32) := ((x + 1), (upd li x y))

def f_X8_writesNumber_j22 (y : Int32) (s0_22 : Nat) (lin0_22 : (Nat → Int32)) : Nat × (Nat → Int32) := ((s0_22 + 1), (upd lin0_22 s0_22 (48 + (y - y / 10 * 10))))
def f_X8_writesNumber (li : (Nat → Int32)) (x : Nat) (y : Int32) : Nat × (Nat → Int32) := (if 10 ≤ y then (f_X8_writesNumber_j22 y ((x + 1)) ((upd li x (48 + (y / 10))))) else (f_X8_writesNumber_j22 y (x) (li)))
theorem X8_wN_le (li : Nat → Int32) (x : Nat) (y : Int32) : (f_X8_writesNumber li x y).1 ≤ x + 2 := by
  simp only [f_X8_writesNumber, f_X8_writesNumber_j22]
  split
  · show x + 1 + 1 ≤ x + 2; omega
  · show x + 1 ≤ x + 2; omega
def f_X8_writesBid_j87  (s0_87 : Nat) (lin0_87 : (Nat → Int32)) : Nat × (Nat → Int32) := (s0_87, lin0_87)
def f_X8_writesBid_j62 (nw : (Nat → Int32)) (q : Nat) (y : Int32) (s0_62 : Nat) (lin0_62 : (Nat → Int32)) : Nat × (Nat → Int32) := (if (f_X8_of nw (y) (4)) = (nI q) then (f_X8_writesBid_j87 ((s0_62 + 1)) ((upd lin0_62 s0_62 42))) else (f_X8_writesBid_j87 (s0_62) (lin0_62)))
def f_X8_writesBid (nw : (Nat → Int32)) (li : (Nat → Int32)) (x : Nat) (q : Nat) (y : Int32) : Nat × (Nat → Int32) := (lt_ (f_X8_writesNumber (upd li x 32) ((x + 1)) ((nI q))) (fun y10 => (lt_ (f_X8_writesNumber (upd y10.2 y10.1 58) ((y10.1 + 1)) ((f_X8_of nw (y) ((5 + q))))) (fun y31 => (if (f_X8_of nw (y) ((9 + q))) = 1 then (f_X8_writesBid_j62 nw q y ((y31.1 + 1)) ((upd y31.2 y31.1 63))) else (f_X8_writesBid_j62 nw q y (y31.1) (y31.2)))))))
theorem X8_wB_le (nw li : Nat → Int32) (x q : Nat) (y : Int32) : (f_X8_writesBid nw li x q y).1 ≤ x + 8 := by
  have h1 := X8_wN_le (upd li x 32) (x + 1) (nI q)
  simp only [f_X8_writesBid, lt_]
  generalize f_X8_writesNumber (upd li x 32) (x + 1) (nI q) = y10 at h1 ⊢
  have h2 := X8_wN_le (upd y10.2 y10.1 58) (y10.1 + 1) (f_X8_of nw y (5 + q))
  generalize f_X8_writesNumber (upd y10.2 y10.1 58) (y10.1 + 1) (f_X8_of nw y (5 + q)) = y31 at h2 ⊢
  simp only [f_X8_writesBid_j62, f_X8_writesBid_j87]
  split <;> split <;> (dsimp only; omega)
def f_X8_renderSite_j121  (s0_121 : Nat) (lin0_121 : (Nat → Int32)) (thr0_121 : Int32) : Sum (Nat × (Nat → Int32) × Nat × Int32) (Nat × (Nat → Int32) × Int32) := (Sum.inr (s0_121, lin0_121, thr0_121))
def f_X8_renderSite_l94b (nw : (Nat → Int32)) (x : Int32) (k94 : Nat) (v2_94 : Nat) (lin0_94 : (Nat → Int32)) (thr0_94 : Int32) : Sum (Nat × (Nat → Int32) × Nat × Int32) (Nat × (Nat → Int32) × Int32) := (if (f_X8_of nw (x) ((5 + k94))) ≤ 0 then (f_X8_renderSite_j121 (v2_94) (lin0_94) (thr0_94)) else (lt_ (f_X8_writesBid nw lin0_94 (v2_94) (k94) (x)) (fun y114 => (f_X8_renderSite_j121 (y114.1) (y114.2) (thr0_94)))))
def f_X8_renderSite_l94x (nw : (Nat → Int32)) (x : Int32) (v2_94 : Nat) (lin0_94 : (Nat → Int32)) (thr0_94 : Int32) : Nat × (Nat → Int32) × Nat × Int32 := (v2_94, lin0_94, v2_94, thr0_94)
def f_X8_renderSite_l94s (nw : (Nat → Int32)) (x : Int32) (k94 : Nat) (q_ : Nat × (Nat → Int32) × Int32) : Sum (Nat × (Nat → Int32) × Nat × Int32) (Nat × (Nat → Int32) × Int32) := f_X8_renderSite_l94b nw x k94 (q_.1) (q_.2.1) (q_.2.2)
def f_X8_renderSite_l94e (nw : (Nat → Int32)) (x : Int32) (q_ : Nat × (Nat → Int32) × Int32) : Nat × (Nat → Int32) × Nat × Int32 := f_X8_renderSite_l94x nw x (q_.1) (q_.2.1) (q_.2.2)
def f_X8_renderSite_l94 (nw : (Nat → Int32)) (x : Int32) (n94 k94 : Nat) (v2_94 : Nat) (lin0_94 : (Nat → Int32)) (thr0_94 : Int32) : Nat × (Nat → Int32) × Nat × Int32 := lpF (f_X8_renderSite_l94s nw x) (f_X8_renderSite_l94e nw x) n94 k94 (v2_94, lin0_94, thr0_94)
def f_X8_renderSite_j91 (nw : (Nat → Int32)) (x : Int32) (s0_91 : Nat) (lin0_91 : (Nat → Int32)) (thr0_91 : Int32) : Nat × (Nat → Int32) × Nat × Int32 := (f_X8_renderSite_l94 nw x (4) 0 (s0_91) (lin0_91) (thr0_91))
def f_X8_renderSite (nw : (Nat → Int32)) (li : (Nat → Int32)) (ld : Nat) (x : Int32) : Nat × (Nat → Int32) × Nat × Int32 := (if (f_X8_isSite nw (x)) = true then (lt_ (f_X8_writesNumber li (0) ((f_X8_of nw (x) (0)))) (fun y23 => (lt_ (f_X8_writesNumber (upd y23.2 y23.1 45) ((y23.1 + 1)) ((f_X8_of nw (x) (1)))) (fun y41 => (lt_ (f_X8_writesNumber (upd y41.2 y41.1 47) ((y41.1 + 1)) ((f_X8_of nw (x) (2)))) (fun y58 => (if (f_X8_isDone nw (x)) = true then (lt_ (f_X8_writesNumber (upd y58.2 y58.1 61) ((y58.1 + 1)) ((f_X8_of nw (x) (3)))) (fun y84 => (f_X8_renderSite_j91 nw x (y84.1) (y84.2) ((gThr (f_X8_isSite nw (x))))))) else (f_X8_renderSite_j91 nw x (y58.1) (y58.2) ((gThr (f_X8_isSite nw (x)))))))))))) else (0, li, ld, (gThr (f_X8_isSite nw (x)))))
def f_X8_outputAt_j29  (s0_29 : Int32) (thr0_29 : Int32) : Int32 × Int32 := (s0_29, thr0_29)
def f_X8_outputAt (li : (Nat → Int32)) (ld : Nat) (x : Int32) : Int32 × Int32 := (if (f_X8_isIn (x) (0) (((nI ld) - 1))) = true then (f_X8_outputAt_j29 ((c16 (li x.toNatClampNeg))) ((gThr (f_X8_isIn (x) (0) (((nI ld) - 1)))))) else (f_X8_outputAt_j29 (0) ((gThr (f_X8_isIn (x) (0) (((nI ld) - 1)))))))
def f_X8_type_j23 (tx : (Nat → Int32)) (ty : Nat) (x : Int32) (s0_23 : Bool) (s1_23 : Bool) : Int32 × (Nat → Int32) × Nat × Int32 := (if (hOk s1_23 s0_23 true true) = true then ((nI (ty + 1)), (upd tx ty x), (ty + 1), (hThr s1_23 s0_23 true true)) else (0, tx, ty, (hThr s1_23 s0_23 true true)))
def f_X8_type (tx : (Nat → Int32)) (ty : Nat) (x : Int32) : Int32 × (Nat → Int32) × Nat × Int32 := (if 60 ≤ (nI ty) then (f_X8_type_j23 tx ty x (false) ((f_X8_isIn (x) (32) (126)))) else (f_X8_type_j23 tx ty x (true) ((f_X8_isIn (x) (32) (126)))))
def f_X8_errorPosition_j28  (s0_28 : Int32) (thr0_28 : Int32) : Int32 × Int32 := (s0_28, thr0_28)
def f_X8_errorPosition_j14 (eA : Int32) (s0_14 : Bool) : Int32 × Int32 := (if s0_14 = true then (f_X8_errorPosition_j28 (eA) ((gThr s0_14))) else (f_X8_errorPosition_j28 (0) ((gThr s0_14))))
def f_X8_errorPosition (eA : Int32) : Int32 × Int32 := (if eA = (-1) then (f_X8_errorPosition_j14 eA (false)) else (f_X8_errorPosition_j14 eA (true)))
def f_X8_failedCommand_j28  (s0_28 : Int32) (thr0_28 : Int32) : Int32 × Int32 := (s0_28, thr0_28)
def f_X8_failedCommand_j14 (fA : Int32) (s0_14 : Bool) : Int32 × Int32 := (if s0_14 = true then (f_X8_failedCommand_j28 (fA) ((gThr s0_14))) else (f_X8_failedCommand_j28 (0) ((gThr s0_14))))
def f_X8_failedCommand (fA : Int32) : Int32 × Int32 := (if fA = (-1) then (f_X8_failedCommand_j14 fA (false)) else (f_X8_failedCommand_j14 fA (true)))
