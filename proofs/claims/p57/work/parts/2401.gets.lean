section
variable {l : Launch} {D : va_G} {C : Nat → ClassId} {ev u : Nat → Nat} {K : CT} {T : TX}
theorem k_siteCount (hl9 : l.stackTraces = false) (hI : GI (kG K)) : KM l yX7_siteCount wsX7_siteCount ({ frames := 0, cells := 0, slots := 0, locals := 0 } : Room) [.ref (u 0)] D C ev u K T T (some (.int (nI (gS (kG K))))) 0 0 := by
  have hG := GI_safe hI
  exact KM_ro (wl := fun x => (acells C u (kQ K) ++ gcells C (uA u) (kG K))) (cs := fun x => [acells C u (kQ K), gcells C (uA u) (kG K)]) (rs := fun x => [gcells C (uB u) (kG1 K), gcells C (uC u) (kG2 K), grcells C (uG u) x.1, hcells C (uH u) (kS K), scells C ev (uS u) (kSc K), ocells C (uO u) x.2]) (fun x hx => c_X7_siteCount l D C u (kQ K) (kG K)) (fun x => rfl) (fun x hx => rfl) (fun x => bsP 8 [0, 1, 2, 3, 4, 5, 6, 7] rfl (by decide) rfl)
theorem k_playerCount (hl9 : l.stackTraces = false) (hI : GI (kG K)) : KM l yX7_playerCount wsX7_playerCount ({ frames := 0, cells := 0, slots := 0, locals := 0 } : Room) [.ref (u 0)] D C ev u K T T (some (.int (nI (gP (kG K))))) 0 0 := by
  have hG := GI_safe hI
  exact KM_ro (wl := fun x => (acells C u (kQ K) ++ gcells C (uA u) (kG K))) (cs := fun x => [acells C u (kQ K), gcells C (uA u) (kG K)]) (rs := fun x => [gcells C (uB u) (kG1 K), gcells C (uC u) (kG2 K), grcells C (uG u) x.1, hcells C (uH u) (kS K), scells C ev (uS u) (kSc K), ocells C (uO u) x.2]) (fun x hx => c_X7_playerCount l D C u (kQ K) (kG K)) (fun x => rfl) (fun x hx => rfl) (fun x => bsP 8 [0, 1, 2, 3, 4, 5, 6, 7] rfl (by decide) rfl)
theorem k_tide (hl9 : l.stackTraces = false) (hI : GI (kG K)) : KM l yX7_tide wsX7_tide ({ frames := 0, cells := 0, slots := 0, locals := 0 } : Room) [.ref (u 0)] D C ev u K T T (some (.int (gTide (kG K)))) 0 0 := by
  have hG := GI_safe hI
  exact KM_ro (wl := fun x => (acells C u (kQ K) ++ gcells C (uA u) (kG K))) (cs := fun x => [acells C u (kQ K), gcells C (uA u) (kG K)]) (rs := fun x => [gcells C (uB u) (kG1 K), gcells C (uC u) (kG2 K), grcells C (uG u) x.1, hcells C (uH u) (kS K), scells C ev (uS u) (kSc K), ocells C (uO u) x.2]) (fun x hx => c_X7_tide l D C u (kQ K) (kG K)) (fun x => rfl) (fun x hx => rfl) (fun x => bsP 8 [0, 1, 2, 3, 4, 5, 6, 7] rfl (by decide) rfl)
theorem k_bankMoney (hl9 : l.stackTraces = false) (hI : GI (kG K)) : KM l yX7_bankMoney wsX7_bankMoney ({ frames := 0, cells := 0, slots := 0, locals := 0 } : Room) [.ref (u 0)] D C ev u K T T (some (.int (gBank (kG K)))) 0 0 := by
  have hG := GI_safe hI
  exact KM_ro (wl := fun x => (acells C u (kQ K) ++ gcells C (uA u) (kG K))) (cs := fun x => [acells C u (kQ K), gcells C (uA u) (kG K)]) (rs := fun x => [gcells C (uB u) (kG1 K), gcells C (uC u) (kG2 K), grcells C (uG u) x.1, hcells C (uH u) (kS K), scells C ev (uS u) (kSc K), ocells C (uO u) x.2]) (fun x hx => c_X7_bankMoney l D C u (kQ K) (kG K)) (fun x => rfl) (fun x hx => rfl) (fun x => bsP 8 [0, 1, 2, 3, 4, 5, 6, 7] rfl (by decide) rfl)
theorem k_isBuilt (hl9 : l.stackTraces = false) (hI : GI (kG K)) {k : Nat} (hk : k < gS (kG K)) : KM l yX7_isBuilt wsX7_isBuilt ({ frames := 7, cells := 1, slots := 6, locals := 103 } : Room) [.ref (u 0), .int (nI k)] D C ev u K T T (some (.int (bI (f_X1_hasBridge (kG K) k)))) 1 6 := by
  have hG := GI_safe hI
  have e1 : f_X1_isSite (kG K) (nI k) = true := isS_n hG hk
  have e2 := nI_clamp (show k < 2 ^ 31 from by have := hG.1; omega)
  refine KM_vx (cs := fun x => [acells C u (kQ K), gcells C (uA u) (kG K)]) (cs' := fun x => [acells C u (kQ K), gcells C (uA u) (kG K)]) (rs := fun x => [gcells C (uB u) (kG1 K), gcells C (uC u) (kG2 K), grcells C (uG u) x.1, hcells C (uH u) (kS K), scells C ev (uS u) (kSc K), ocells C (uO u) x.2]) (nx := fun x => x.1) (fun x sz hx => c_X7_isBuilt l D C ev u (kQ K) (kG K) (nI k) sz hG hl9) (fun x hx => ?_) (fun x => bsP 8 [0, 1, 2, 3, 4, 5, 6, 7] rfl (by decide) rfl) (fun x => bsP 8 [0, 1, 2, 3, 4, 5, 6, 7] rfl (by decide) rfl) (fun x h => h)
  have e : f_X7_isBuilt (kQ K) (kG K) (nI k) = (0, (f_X1_hasBridge (kG K) k)) := by simp only [f_X7_isBuilt, f_X7_requireSite, lt_, e1, e2, if_true]
  rw [e]; exact ⟨rfl, rfl⟩
theorem k_lowerIsland (hl9 : l.stackTraces = false) (hI : GI (kG K)) {k : Nat} (hk : k < gS (kG K)) : KM l yX7_lowerIsland wsX7_lowerIsland ({ frames := 7, cells := 1, slots := 6, locals := 103 } : Room) [.ref (u 0), .int (nI k)] D C ev u K T T (some (.int (nI (gLo (kG K) k)))) 1 6 := by
  have hG := GI_safe hI
  have e1 : f_X1_isSite (kG K) (nI k) = true := isS_n hG hk
  have e2 := nI_clamp (show k < 2 ^ 31 from by have := hG.1; omega)
  refine KM_vx (cs := fun x => [acells C u (kQ K), gcells C (uA u) (kG K)]) (cs' := fun x => [acells C u (kQ K), gcells C (uA u) (kG K)]) (rs := fun x => [gcells C (uB u) (kG1 K), gcells C (uC u) (kG2 K), grcells C (uG u) x.1, hcells C (uH u) (kS K), scells C ev (uS u) (kSc K), ocells C (uO u) x.2]) (nx := fun x => x.1) (fun x sz hx => c_X7_lowerIsland l D C ev u (kQ K) (kG K) (nI k) sz hG hl9) (fun x hx => ?_) (fun x => bsP 8 [0, 1, 2, 3, 4, 5, 6, 7] rfl (by decide) rfl) (fun x => bsP 8 [0, 1, 2, 3, 4, 5, 6, 7] rfl (by decide) rfl) (fun x h => h)
  have e : f_X7_lowerIsland (kQ K) (kG K) (nI k) = (0, (nI (gLo (kG K) k))) := by simp only [f_X7_lowerIsland, f_X7_requireSite, lt_, e1, e2, if_true]
  rw [e]; exact ⟨rfl, rfl⟩
theorem k_higherIsland (hl9 : l.stackTraces = false) (hI : GI (kG K)) {k : Nat} (hk : k < gS (kG K)) : KM l yX7_higherIsland wsX7_higherIsland ({ frames := 7, cells := 1, slots := 6, locals := 103 } : Room) [.ref (u 0), .int (nI k)] D C ev u K T T (some (.int (nI (gHi (kG K) k)))) 1 6 := by
  have hG := GI_safe hI
  have e1 : f_X1_isSite (kG K) (nI k) = true := isS_n hG hk
  have e2 := nI_clamp (show k < 2 ^ 31 from by have := hG.1; omega)
  refine KM_vx (cs := fun x => [acells C u (kQ K), gcells C (uA u) (kG K)]) (cs' := fun x => [acells C u (kQ K), gcells C (uA u) (kG K)]) (rs := fun x => [gcells C (uB u) (kG1 K), gcells C (uC u) (kG2 K), grcells C (uG u) x.1, hcells C (uH u) (kS K), scells C ev (uS u) (kSc K), ocells C (uO u) x.2]) (nx := fun x => x.1) (fun x sz hx => c_X7_higherIsland l D C ev u (kQ K) (kG K) (nI k) sz hG hl9) (fun x hx => ?_) (fun x => bsP 8 [0, 1, 2, 3, 4, 5, 6, 7] rfl (by decide) rfl) (fun x => bsP 8 [0, 1, 2, 3, 4, 5, 6, 7] rfl (by decide) rfl) (fun x h => h)
  have e : f_X7_higherIsland (kQ K) (kG K) (nI k) = (0, (nI (gHi (kG K) k))) := by simp only [f_X7_higherIsland, f_X7_requireSite, lt_, e1, e2, if_true]
  rw [e]; exact ⟨rfl, rfl⟩
theorem k_length (hl9 : l.stackTraces = false) (hI : GI (kG K)) {k : Nat} (hk : k < gS (kG K)) : KM l yX7_length wsX7_length ({ frames := 7, cells := 1, slots := 6, locals := 103 } : Room) [.ref (u 0), .int (nI k)] D C ev u K T T (some (.int (gLen (kG K) k))) 1 6 := by
  have hG := GI_safe hI
  have e1 : f_X1_isSite (kG K) (nI k) = true := isS_n hG hk
  have e2 := nI_clamp (show k < 2 ^ 31 from by have := hG.1; omega)
  refine KM_vx (cs := fun x => [acells C u (kQ K), gcells C (uA u) (kG K)]) (cs' := fun x => [acells C u (kQ K), gcells C (uA u) (kG K)]) (rs := fun x => [gcells C (uB u) (kG1 K), gcells C (uC u) (kG2 K), grcells C (uG u) x.1, hcells C (uH u) (kS K), scells C ev (uS u) (kSc K), ocells C (uO u) x.2]) (nx := fun x => x.1) (fun x sz hx => c_X7_length l D C ev u (kQ K) (kG K) (nI k) sz hG hl9) (fun x hx => ?_) (fun x => bsP 8 [0, 1, 2, 3, 4, 5, 6, 7] rfl (by decide) rfl) (fun x => bsP 8 [0, 1, 2, 3, 4, 5, 6, 7] rfl (by decide) rfl) (fun x h => h)
  have e : f_X7_length (kQ K) (kG K) (nI k) = (0, (gLen (kG K) k)) := by simp only [f_X7_length, f_X7_requireSite, lt_, e1, e2, if_true]
  rw [e]; exact ⟨rfl, rfl⟩
theorem k_suit (hl9 : l.stackTraces = false) (hI : GI (kG K)) {k : Nat} (hk : k < 8) : KM l yX7_suit wsX7_suit ({ frames := 7, cells := 1, slots := 6, locals := 102 } : Room) [.ref (u 0), .int (nI k)] D C ev u K T T (some (.int (gSuit (kG K) k))) 1 6 := by
  have hG := GI_safe hI
  have e1 : f_X1_isIsland (nI k) = true := X1_isIsland_t.mpr (vp_in_nI hk (by decide))
  have e2 := nI_clamp (show k < 2 ^ 31 from by omega)
  refine KM_vx (cs := fun x => [acells C u (kQ K), gcells C (uA u) (kG K)]) (cs' := fun x => [acells C u (kQ K), gcells C (uA u) (kG K)]) (rs := fun x => [gcells C (uB u) (kG1 K), gcells C (uC u) (kG2 K), grcells C (uG u) x.1, hcells C (uH u) (kS K), scells C ev (uS u) (kSc K), ocells C (uO u) x.2]) (nx := fun x => x.1) (fun x sz hx => c_X7_suit l D C ev u (kQ K) (kG K) (nI k) sz hG hl9) (fun x hx => ?_) (fun x => bsP 8 [0, 1, 2, 3, 4, 5, 6, 7] rfl (by decide) rfl) (fun x => bsP 8 [0, 1, 2, 3, 4, 5, 6, 7] rfl (by decide) rfl) (fun x h => h)
  have e : f_X7_suit (kQ K) (kG K) (nI k) = (0, (gSuit (kG K) k)) := by simp only [f_X7_suit, f_X7_requireIsland, lt_, e1, e2, if_true]
  rw [e]; exact ⟨rfl, rfl⟩
theorem k_buildingCost (hl9 : l.stackTraces = false) (hI : GI (kG K)) {k : Nat} (hk : k < gS (kG K)) : KM l yX7_buildingCost wsX7_buildingCost ({ frames := 7, cells := 1, slots := 6, locals := 103 } : Room) [.ref (u 0), .int (nI k)] D C ev u K T T (some (.int (f_X1_costOf (kG K) k))) 1 6 := by
  have hG := GI_safe hI
  have e1 : f_X1_isSite (kG K) (nI k) = true := isS_n hG hk
  have e2 := nI_clamp (show k < 2 ^ 31 from by have := hG.1; omega)
  refine KM_vx (cs := fun x => [acells C u (kQ K), gcells C (uA u) (kG K)]) (cs' := fun x => [acells C u (kQ K), gcells C (uA u) (kG K)]) (rs := fun x => [gcells C (uB u) (kG1 K), gcells C (uC u) (kG2 K), grcells C (uG u) x.1, hcells C (uH u) (kS K), scells C ev (uS u) (kSc K), ocells C (uO u) x.2]) (nx := fun x => x.1) (fun x sz hx => c_X7_buildingCost l D C ev u (kQ K) (kG K) (nI k) sz hG hl9) (fun x hx => ?_) (fun x => bsP 8 [0, 1, 2, 3, 4, 5, 6, 7] rfl (by decide) rfl) (fun x => bsP 8 [0, 1, 2, 3, 4, 5, 6, 7] rfl (by decide) rfl) (fun x h => h)
  have e : f_X7_buildingCost (kQ K) (kG K) (nI k) = (0, (f_X1_costOf (kG K) k)) := by simp only [f_X7_buildingCost, f_X7_requireSite, lt_, e1, e2, if_true]
  rw [e]; exact ⟨rfl, rfl⟩
theorem k_bidCount (hl9 : l.stackTraces = false) (hI : GI (kG K)) {k : Nat} (hk : k < gS (kG K)) : KM l yX7_bidCount wsX7_bidCount ({ frames := 7, cells := 1, slots := 6, locals := 103 } : Room) [.ref (u 0), .int (nI k)] D C ev u K T T (some (.int (f_X1_bidsAbove (kG K) k 0))) 1 6 := by
  have hG := GI_safe hI
  have e1 : f_X1_isSite (kG K) (nI k) = true := isS_n hG hk
  have e2 := nI_clamp (show k < 2 ^ 31 from by have := hG.1; omega)
  refine KM_vx (cs := fun x => [acells C u (kQ K), gcells C (uA u) (kG K)]) (cs' := fun x => [acells C u (kQ K), gcells C (uA u) (kG K)]) (rs := fun x => [gcells C (uB u) (kG1 K), gcells C (uC u) (kG2 K), grcells C (uG u) x.1, hcells C (uH u) (kS K), scells C ev (uS u) (kSc K), ocells C (uO u) x.2]) (nx := fun x => x.1) (fun x sz hx => c_X7_bidCount l D C ev u (kQ K) (kG K) (nI k) sz hG hl9) (fun x hx => ?_) (fun x => bsP 8 [0, 1, 2, 3, 4, 5, 6, 7] rfl (by decide) rfl) (fun x => bsP 8 [0, 1, 2, 3, 4, 5, 6, 7] rfl (by decide) rfl) (fun x h => h)
  have e : f_X7_bidCount (kQ K) (kG K) (nI k) = (0, (f_X1_bidsAbove (kG K) k 0)) := by simp only [f_X7_bidCount, f_X7_requireSite, lt_, e1, e2, if_true]
  rw [e]; exact ⟨rfl, rfl⟩
theorem k_availableMoney (hl9 : l.stackTraces = false) (hI : GI (kG K)) {k : Nat} (hk : k < gP (kG K)) : KM l yX7_availableMoney wsX7_availableMoney ({ frames := 7, cells := 1, slots := 6, locals := 103 } : Room) [.ref (u 0), .int (nI k)] D C ev u K T T (some (.int (f_X1_availableTo (kG K) k))) 1 6 := by
  have hG := GI_safe hI
  have e1 : f_X1_isPlayer (kG K) (nI k) = true := isP_n hG hk
  have e2 := nI_clamp (show k < 2 ^ 31 from by have := hG.2.1; omega)
  refine KM_vx (cs := fun x => [acells C u (kQ K), gcells C (uA u) (kG K)]) (cs' := fun x => [acells C u (kQ K), gcells C (uA u) (kG K)]) (rs := fun x => [gcells C (uB u) (kG1 K), gcells C (uC u) (kG2 K), grcells C (uG u) x.1, hcells C (uH u) (kS K), scells C ev (uS u) (kSc K), ocells C (uO u) x.2]) (nx := fun x => x.1) (fun x sz hx => c_X7_availableMoney l D C ev u (kQ K) (kG K) (nI k) sz hG hl9) (fun x hx => ?_) (fun x => bsP 8 [0, 1, 2, 3, 4, 5, 6, 7] rfl (by decide) rfl) (fun x => bsP 8 [0, 1, 2, 3, 4, 5, 6, 7] rfl (by decide) rfl) (fun x h => h)
  have e : f_X7_availableMoney (kQ K) (kG K) (nI k) = (0, (f_X1_availableTo (kG K) k)) := by simp only [f_X7_availableMoney, f_X7_requirePlayer, lt_, e1, e2, if_true]
  rw [e]; exact ⟨rfl, rfl⟩
theorem k_bridgeCount (hl9 : l.stackTraces = false) (hI : GI (kG K)) {k : Nat} (hk : k < gP (kG K)) : KM l yX7_bridgeCount wsX7_bridgeCount ({ frames := 7, cells := 1, slots := 6, locals := 103 } : Room) [.ref (u 0), .int (nI k)] D C ev u K T T (some (.int (f_X1_bridgesOf (kG K) (nI k)))) 1 6 := by
  have hG := GI_safe hI
  have e1 : f_X1_isPlayer (kG K) (nI k) = true := isP_n hG hk
  have e2 := nI_clamp (show k < 2 ^ 31 from by have := hG.2.1; omega)
  refine KM_vx (cs := fun x => [acells C u (kQ K), gcells C (uA u) (kG K)]) (cs' := fun x => [acells C u (kQ K), gcells C (uA u) (kG K)]) (rs := fun x => [gcells C (uB u) (kG1 K), gcells C (uC u) (kG2 K), grcells C (uG u) x.1, hcells C (uH u) (kS K), scells C ev (uS u) (kSc K), ocells C (uO u) x.2]) (nx := fun x => x.1) (fun x sz hx => c_X7_bridgeCount l D C ev u (kQ K) (kG K) (nI k) sz hG hl9) (fun x hx => ?_) (fun x => bsP 8 [0, 1, 2, 3, 4, 5, 6, 7] rfl (by decide) rfl) (fun x => bsP 8 [0, 1, 2, 3, 4, 5, 6, 7] rfl (by decide) rfl) (fun x h => h)
  have e : f_X7_bridgeCount (kQ K) (kG K) (nI k) = (0, (f_X1_bridgesOf (kG K) (nI k))) := by simp only [f_X7_bridgeCount, f_X7_requirePlayer, lt_, e1, e2, if_true]
  rw [e]; exact ⟨rfl, rfl⟩
theorem k_score (hl9 : l.stackTraces = false) (hI : GI (kG K)) {k : Nat} (hk : k < gP (kG K)) : KM l yX7_score wsX7_score ({ frames := 7, cells := 1, slots := 6, locals := 103 } : Room) [.ref (u 0), .int (nI k)] D C ev u K T T (some (.int (f_X1_scoreOf (kG K) (nI k)))) 1 6 := by
  have hG := GI_safe hI
  have e1 : f_X1_isPlayer (kG K) (nI k) = true := isP_n hG hk
  have e2 := nI_clamp (show k < 2 ^ 31 from by have := hG.2.1; omega)
  refine KM_vx (cs := fun x => [acells C u (kQ K), gcells C (uA u) (kG K)]) (cs' := fun x => [acells C u (kQ K), gcells C (uA u) (kG K)]) (rs := fun x => [gcells C (uB u) (kG1 K), gcells C (uC u) (kG2 K), grcells C (uG u) x.1, hcells C (uH u) (kS K), scells C ev (uS u) (kSc K), ocells C (uO u) x.2]) (nx := fun x => x.1) (fun x sz hx => c_X7_score l D C ev u (kQ K) (kG K) (nI k) sz hG hl9) (fun x hx => ?_) (fun x => bsP 8 [0, 1, 2, 3, 4, 5, 6, 7] rfl (by decide) rfl) (fun x => bsP 8 [0, 1, 2, 3, 4, 5, 6, 7] rfl (by decide) rfl) (fun x h => h)
  have e : f_X7_score (kQ K) (kG K) (nI k) = (0, (f_X1_scoreOf (kG K) (nI k))) := by simp only [f_X7_score, f_X7_requirePlayer, lt_, e1, e2, if_true]
  rw [e]; exact ⟨rfl, rfl⟩
theorem k_money (hl9 : l.stackTraces = false) (hI : GI (kG K)) {k : Nat} (hk : k < gP (kG K)) : KM l yX7_money wsX7_money ({ frames := 7, cells := 1, slots := 6, locals := 103 } : Room) [.ref (u 0), .int (nI k)] D C ev u K T T (some (.int (gMon (kG K) k))) 1 6 := by
  have hG := GI_safe hI
  have e1 : f_X1_isPlayer (kG K) (nI k) = true := isP_n hG hk
  have e2 := nI_clamp (show k < 2 ^ 31 from by have := hG.2.1; omega)
  refine KM_vx (cs := fun x => [acells C u (kQ K), gcells C (uA u) (kG K)]) (cs' := fun x => [acells C u (kQ K), gcells C (uA u) (kG K)]) (rs := fun x => [gcells C (uB u) (kG1 K), gcells C (uC u) (kG2 K), grcells C (uG u) x.1, hcells C (uH u) (kS K), scells C ev (uS u) (kSc K), ocells C (uO u) x.2]) (nx := fun x => x.1) (fun x sz hx => c_X7_money l D C ev u (kQ K) (kG K) (nI k) sz hG hl9) (fun x hx => ?_) (fun x => bsP 8 [0, 1, 2, 3, 4, 5, 6, 7] rfl (by decide) rfl) (fun x => bsP 8 [0, 1, 2, 3, 4, 5, 6, 7] rfl (by decide) rfl) (fun x h => h)
  have e : f_X7_money (kQ K) (kG K) (nI k) = (0, (gMon (kG K) k)) := by simp only [f_X7_money, f_X7_requirePlayer, lt_, e1, e2, if_true]
  rw [e]; exact ⟨rfl, rfl⟩
theorem k_builder (hl9 : l.stackTraces = false) (hI : GI (kG K)) {k : Nat} (hk : k < gS (kG K)) (hb : f_X1_hasBridge (kG K) k = true) : KM l yX7_builder wsX7_builder ({ frames := 7, cells := 2, slots := 12, locals := 103 } : Room) [.ref (u 0), .int (nI k)] D C ev u K T T (some (.int (gBld (kG K) k))) 2 12 := by
  have hG := GI_safe hI
  have e1 := isS_n hG hk
  have e2 := nI_clamp (show k < 2 ^ 31 from by have := hG.1; omega)
  have e3 : ¬ gBld (kG K) k = -1 := hasBridge_t.mp hb
  refine KM_vx (cs := fun x => [acells C u (kQ K), gcells C (uA u) (kG K)]) (cs' := fun x => [acells C u (kQ K), gcells C (uA u) (kG K)]) (rs := fun x => [gcells C (uB u) (kG1 K), gcells C (uC u) (kG2 K), grcells C (uG u) x.1, hcells C (uH u) (kS K), scells C ev (uS u) (kSc K), ocells C (uO u) x.2]) (nx := fun x => x.1) (fun x sz hx => c_X7_builder l D C ev u (kQ K) (kG K) (nI k) sz hG hl9) (fun x hx => ?_) (fun x => bsP 8 [0, 1, 2, 3, 4, 5, 6, 7] rfl (by decide) rfl) (fun x => bsP 8 [0, 1, 2, 3, 4, 5, 6, 7] rfl (by decide) rfl) (fun x h => h)
  have e : f_X7_builder (kQ K) (kG K) (nI k) = (0, gBld (kG K) k) := by simp only [f_X7_builder, f_X7_requireSite, f_X7_requireFound, lt_, e1, e2, e3, if_true, if_false]
  rw [e]; exact ⟨rfl, rfl⟩
theorem k_playerByScore (hl9 : l.stackTraces = false) (hI : GI (kG K)) {r j : Nat} (he : f_X1_playerAtRank (kG K) (nI r) = nI j) (hj : j < 4) : KM l yX7_playerByScore wsX7_playerByScore ({ frames := 7, cells := 1, slots := 6, locals := 102 } : Room) [.ref (u 0), .int (nI r)] D C ev u K T T (some (.int (nI j))) 1 6 := by
  have hG := GI_safe hI
  have e3 : ¬ nI j = -1 := (by decide +kernel : ∀ j, j < 4 → ¬ nI j = -1) j hj
  refine KM_vx (cs := fun x => [acells C u (kQ K), gcells C (uA u) (kG K)]) (cs' := fun x => [acells C u (kQ K), gcells C (uA u) (kG K)]) (rs := fun x => [gcells C (uB u) (kG1 K), gcells C (uC u) (kG2 K), grcells C (uG u) x.1, hcells C (uH u) (kS K), scells C ev (uS u) (kSc K), ocells C (uO u) x.2]) (nx := fun x => x.1) (fun x sz hx => c_X7_playerByScore l D C ev u (kQ K) (kG K) (nI r) sz hG hl9) (fun x hx => ?_) (fun x => bsP 8 [0, 1, 2, 3, 4, 5, 6, 7] rfl (by decide) rfl) (fun x => bsP 8 [0, 1, 2, 3, 4, 5, 6, 7] rfl (by decide) rfl) (fun x h => h)
  have e : f_X7_playerByScore (kQ K) (kG K) (nI r) = (0, nI j) := by simp only [f_X7_playerByScore, f_X7_requireFound, lt_, he, e3, if_true, if_false]
  rw [e]; exact ⟨rfl, rfl⟩
theorem k_isConnected (hl9 : l.stackTraces = false) (hI : GI (kG K)) {a b : Nat} (ha : a < 8) (hb : b < 8) : KM l yX7_isConnected wsX7_isConnected ({ frames := 11, cells := 2, slots := 12, locals := 265 } : Room) [.ref (u 0), .int (nI a), .int (nI b)] D C ev u K T T (some (.int (bI (f_X2_reaches R0 (kG K) (nI a) (nI b))))) 2 12 := by
  have hG := GI_safe hI
  have e1 : f_X1_isIsland (nI a) = true := X1_isIsland_t.mpr (vp_in_nI ha (by decide))
  have e2 : f_X1_isIsland (nI b) = true := X1_isIsland_t.mpr (vp_in_nI hb (by decide))
  refine KM_vx (cs := fun x => [acells C u (kQ K), gcells C (uA u) (kG K), grcells C (uG u) x.1]) (cs' := fun x => [acells C u (kQ K), gcells C (uA u) (kG K), grcells C (uG u) x.1]) (rs := fun x => [gcells C (uB u) (kG1 K), gcells C (uC u) (kG2 K), hcells C (uH u) (kS K), scells C ev (uS u) (kSc K), ocells C (uO u) x.2]) (nx := fun x => x.1) (fun x sz hx => c_X7_isConnected l D C ev u (kQ K) (kG K) x.1 (nI a) (nI b) sz hG hl9) (fun x hx => ?_) (fun x => bsP 8 [0, 1, 4, 2, 3, 5, 6, 7] rfl (by decide) rfl) (fun x => bsP 8 [0, 1, 3, 4, 2, 5, 6, 7] rfl (by decide) rfl) (fun x h => h)
  have e : f_X7_isConnected (kQ K) (kG K) x.1 (nI a) (nI b) = (0, f_X2_reaches R0 (kG K) (nI a) (nI b)) := by simp only [f_X7_isConnected, f_X7_requireIsland, lt_, e1, e2, if_true, f_X2_reaches]
  rw [e]; exact ⟨rfl, rfl⟩
theorem k_componentCount (hl9 : l.stackTraces = false) (hI : GI (kG K)) : KM l yX7_componentCount wsX7_componentCount ({ frames := 11, cells := 0, slots := 0, locals := 266 } : Room) [.ref (u 0)] D C ev u K T T (some (.int (f_X2_countBySearch R0 (kG K)))) 0 0 := by
  have hG := GI_safe hI
  exact KM_ro (wl := fun x => (acells C u (kQ K) ++ gcells C (uA u) (kG K) ++ grcells C (uG u) x.1)) (cs := fun x => [acells C u (kQ K), gcells C (uA u) (kG K), grcells C (uG u) x.1]) (rs := fun x => [gcells C (uB u) (kG1 K), gcells C (uC u) (kG2 K), hcells C (uH u) (kS K), scells C ev (uS u) (kSc K), ocells C (uO u) x.2]) (fun x hx => c_X7_componentCount l D C u (kQ K) (kG K) x.1 hG) (fun x => List.append_assoc ..) (fun x hx => rfl) (fun x => bsP 8 [0, 1, 4, 2, 3, 5, 6, 7] rfl (by decide) rfl)
theorem k_componentCountByUnion (hl9 : l.stackTraces = false) (hI : GI (kG K)) : KM l yX7_componentCountByUnion wsX7_componentCountByUnion ({ frames := 3, cells := 0, slots := 0, locals := 70 } : Room) [.ref (u 0)] D C ev u K T T (some (.int (f_X2_countByJoining R0 (kG K)).1)) 0 0 := by
  have hG := GI_safe hI
  refine KM_vx (cs := fun x => [acells C u (kQ K), gcells C (uA u) (kG K), grcells C (uG u) x.1]) (cs' := fun x => [acells C u (kQ K), gcells C (uA u) (kG K), grcells C (uG u) ((f_X7_componentCountByUnion (kQ K) (kG K) x.1).2.2)]) (rs := fun x => [gcells C (uB u) (kG1 K), gcells C (uC u) (kG2 K), hcells C (uH u) (kS K), scells C ev (uS u) (kSc K), ocells C (uO u) x.2]) (nx := fun x => (f_X7_componentCountByUnion (kQ K) (kG K) x.1).2.2) (fun x sz hx => c_X7_componentCountByUnion l D C ev u (kQ K) (kG K) x.1 sz hG hx.1 hl9) (fun x hx => ?_) (fun x => bsP 8 [0, 1, 4, 2, 3, 5, 6, 7] rfl (by decide) rfl) (fun x => bsP 8 [0, 1, 3, 4, 2, 5, 6, 7] rfl (by decide) rfl) (fun x h => ⟨r_componentCountByUnion hG (kQ K) h.1, h.2⟩)
  exact ⟨rfl, congrArg (fun z => some (Value.int z)) ((union_c hI x.1).trans (union_c hI R0).symm)⟩
theorem k_forestLength (hl9 : l.stackTraces = false) (hI : GI (kG K)) : KM l yX7_forestLength wsX7_forestLength ({ frames := 3, cells := 0, slots := 0, locals := 71 } : Room) [.ref (u 0)] D C ev u K T T (some (.int (f_X2_kruskalLength R0 (kG K)).1)) 0 0 := by
  have hG := GI_safe hI
  refine KM_vx (cs := fun x => [acells C u (kQ K), gcells C (uA u) (kG K), grcells C (uG u) x.1]) (cs' := fun x => [acells C u (kQ K), gcells C (uA u) (kG K), grcells C (uG u) ((f_X7_forestLength (kQ K) (kG K) x.1).2.2)]) (rs := fun x => [gcells C (uB u) (kG1 K), gcells C (uC u) (kG2 K), hcells C (uH u) (kS K), scells C ev (uS u) (kSc K), ocells C (uO u) x.2]) (nx := fun x => (f_X7_forestLength (kQ K) (kG K) x.1).2.2) (fun x sz hx => c_X7_forestLength l D C ev u (kQ K) (kG K) x.1 sz hG hx.1 hl9) (fun x hx => ?_) (fun x => bsP 8 [0, 1, 4, 2, 3, 5, 6, 7] rfl (by decide) rfl) (fun x => bsP 8 [0, 1, 3, 4, 2, 5, 6, 7] rfl (by decide) rfl) (fun x h => ⟨r_forestLength hG (kQ K) h.1, h.2⟩)
  exact ⟨rfl, congrArg (fun z => some (Value.int z)) ((kruskal_c hI x.1).trans (kruskal_c hI R0).symm)⟩
theorem k_forestLengthByPrim (hl9 : l.stackTraces = false) (hI : GI (kG K)) : KM l yX7_forestLengthByPrim wsX7_forestLengthByPrim ({ frames := 3, cells := 0, slots := 0, locals := 70 } : Room) [.ref (u 0)] D C ev u K T T (some (.int (f_X2_primLength R0 (kG K)))) 0 0 := by
  have hG := GI_safe hI
  refine KM_vx (cs := fun x => [acells C u (kQ K), gcells C (uA u) (kG K), grcells C (uG u) x.1]) (cs' := fun x => [acells C u (kQ K), gcells C (uA u) (kG K), grcells C (uG u) x.1]) (rs := fun x => [gcells C (uB u) (kG1 K), gcells C (uC u) (kG2 K), hcells C (uH u) (kS K), scells C ev (uS u) (kSc K), ocells C (uO u) x.2]) (nx := fun x => x.1) (fun x sz hx => c_X7_forestLengthByPrim l D C ev u (kQ K) (kG K) x.1 sz hG hl9) (fun x hx => ?_) (fun x => bsP 8 [0, 1, 4, 2, 3, 5, 6, 7] rfl (by decide) rfl) (fun x => bsP 8 [0, 1, 3, 4, 2, 5, 6, 7] rfl (by decide) rfl) (fun x h => h)
  exact ⟨rfl, congrArg (fun z => some (Value.int z)) ((prim_c hI x.1).trans (prim_c hI R0).symm)⟩
theorem k_isConsistent (hl9 : l.stackTraces = false) (hI : GI (kG K)) : KM l yX7_isConsistent wsX7_isConsistent ({ frames := 11, cells := 0, slots := 0, locals := 266 } : Room) [.ref (u 0)] D C ev u K T T (some (.int (bI true))) 0 0 := by
  have hG := GI_safe hI
  exact KM_rw (wl := fun x => (acells C u (kQ K) ++ gcells C (uA u) (kG K) ++ grcells C (uG u) x.1)) (wl' := fun x => (acells C u (kQ K) ++ gcells C (uA u) (kG K) ++ grcells C (uG u) ((f_X7_isConsistent (kQ K) (kG K) x.1).2))) (cs := fun x => [acells C u (kQ K), gcells C (uA u) (kG K), grcells C (uG u) x.1]) (cs' := fun x => [acells C u (kQ K), gcells C (uA u) (kG K), grcells C (uG u) ((f_X7_isConsistent (kQ K) (kG K) x.1).2)]) (rs := fun x => [gcells C (uB u) (kG1 K), gcells C (uC u) (kG2 K), hcells C (uH u) (kS K), scells C ev (uS u) (kSc K), ocells C (uO u) x.2]) (nx := fun x => (f_X7_isConsistent (kQ K) (kG K) x.1).2) (fun x sz hx => c_X7_isConsistent l D C u (kQ K) (kG K) x.1 sz hG hx.1) (fun x => List.append_assoc ..) (fun x => List.append_assoc ..) (fun x hx => by rw [(b_isConsistent hI (kQ K) x.1).1]; rfl) (fun x => bsP 8 [0, 1, 4, 2, 3, 5, 6, 7] rfl (by decide) rfl) (fun x => bsP 8 [0, 1, 3, 4, 2, 5, 6, 7] rfl (by decide) rfl) (fun x h => ⟨r_isConsistent hG (kQ K) h.1, h.2⟩)
theorem k_outputAt (hl9 : l.stackTraces = false) (hI : GI (kG K)) {i : Nat} (hi : i < T.2) : KM l yX7_outputAt wsX7_outputAt ({ frames := 6, cells := 1, slots := 6, locals := 88 } : Room) [.ref (u 0), .int (nI i)] D C ev u K T T (some (.int (nI (T.1 i)))) 1 6 := by
  have hG := GI_safe hI
  refine KM_vxo (cs := fun x => [acells C u (kQ K), ocells C (uO u) x.2]) (cs' := fun x => [acells C u (kQ K), ocells C (uO u) x.2]) (rs := fun x => [gcells C (uA u) (kG K), gcells C (uB u) (kG1 K), gcells C (uC u) (kG2 K), grcells C (uG u) x.1, hcells C (uH u) (kS K), scells C ev (uS u) (kSc K)]) (nx := fun x => x.1) (fun x sz hx => c_X7_outputAt l D C ev u (kQ K) T x.2 (nI i) hx.2 sz hl9) (fun x hx => ?_) (fun x => bsP 8 [0, 7, 1, 2, 3, 4, 5, 6] rfl (by decide) rfl) (fun x => bsP 8 [0, 2, 3, 4, 5, 6, 7, 1] rfl (by decide) rfl) (fun x h => h)
  have hT := hx.2.2.1
  have e1 : ¬ nI i < 0 := by rw [Int32.lt_iff_toInt_lt, nI_toInt (by omega)]; show ¬ (i : Int) < 0; omega
  have e2 : nI i < nI T.2 := nI_lt hi (by omega)
  have e3 := nI_clamp (show i < 2 ^ 31 from by omega)
  have e : f_X7_outputAt T (nI i) = (0, nI (T.1 i)) := by simp only [f_X7_outputAt, e1, e2, e3, if_false, if_true]
  rw [e]; exact ⟨rfl, rfl⟩
end
