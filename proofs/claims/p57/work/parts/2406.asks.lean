/-! what the law asks: the code of what is thrown (0: nothing), the answer -/
def aqs (K : CT) (n : Nat) (a b : Int32) : Nat × Int32 := match n with
  | 0 => ((f_X7_distance (kQ K) (kG K) R0 a b).1, (f_X7_distance (kQ K) (kG K) R0 a b).2.1)
  | 1 => ((f_X7_distanceByRelaxation (kQ K) (kG K) R0 a b).1, (f_X7_distanceByRelaxation (kQ K) (kG K) R0 a b).2.1)
  | 2 => f_X7_builder (kQ K) (kG K) a
  | 3 => f_X7_bidAmount (kQ K) (kG K) a b
  | 4 => ((f_X7_isBluff (kQ K) (kG K) a b).1, bI (f_X7_isBluff (kQ K) (kG K) a b).2)
  | 5 => f_X7_ferryOwner (kQ K) (kG K) a
  | 6 => f_X7_winningBidder (kQ K) (kG K) a
  | 7 => ((f_X7_wouldBuild (kQ K) (kG K) a).1, bI (f_X7_wouldBuild (kQ K) (kG K) a).2)
  | 8 => f_X7_cheapestFreeSite (kQ K) (kG K)
  | 9 => f_X7_playerByScore (kQ K) (kG K) a
  | 10 => f_X7_errorPosition (kQ K)
  | 11 => f_X7_failedCommand (kQ K)
  | 12 => f_X7_length (kQ K) (kG K) a
  | _ => f_X7_money (kQ K) (kG K) a
def aCode (r : Nat × Int32) : Int32 := if r.1 = 0 then r.2 else if r.1 = 1 then -2002 else if r.1 = 3 then -2005 else -2004
def askV (K : CT) (n : Nat) (a b : Int32) : Int32 := aCode (aqs K n a b)
theorem dis_v {G : GS} (h : GI G) (Q : QS) (Rr : GR) (x y : Int32) : (f_X7_distance Q G Rr x y).1 = (f_X7_distance Q G R0 x y).1 ∧ (f_X7_distance Q G Rr x y).2.1 = (f_X7_distance Q G R0 x y).2.1 := by
  rcases is_case x with e | ⟨i, hi, rfl, ci, e⟩
  · simp only [f_X7_distance, f_X7_requireIsland, lt_, e, Bool.false_eq_true, if_false, Nat.one_ne_zero, and_self]
  · rcases is_case y with e2 | ⟨j, hj, rfl, cj, e2⟩
    · simp only [f_X7_distance, f_X7_requireIsland, lt_, e, e2, Bool.false_eq_true, if_false, if_true, Nat.one_ne_zero, and_self]
    · have q : rNear (f_X2_searchNearest Rr G i) j = rNear (f_X2_searchNearest R0 G i) j := ((search_ok h Rr hi).1 j hj).trans ((search_ok h R0 hi).1 j hj).symm
      simp only [f_X7_distance, f_X7_requireIsland, lt_, e, e2, ci, cj, if_true, q]
      split <;> exact ⟨rfl, rfl⟩
theorem disR_v {G : GS} (h : GI G) (Q : QS) (Rr : GR) (x y : Int32) : (f_X7_distanceByRelaxation Q G Rr x y).1 = (f_X7_distanceByRelaxation Q G R0 x y).1 ∧ (f_X7_distanceByRelaxation Q G Rr x y).2.1 = (f_X7_distanceByRelaxation Q G R0 x y).2.1 := by
  rcases is_case x with e | ⟨i, hi, rfl, ci, e⟩
  · simp only [f_X7_distanceByRelaxation, f_X7_requireIsland, lt_, e, Bool.false_eq_true, if_false, Nat.one_ne_zero, and_self]
  · rcases is_case y with e2 | ⟨j, hj, rfl, cj, e2⟩
    · simp only [f_X7_distanceByRelaxation, f_X7_requireIsland, lt_, e, e2, Bool.false_eq_true, if_false, if_true, Nat.one_ne_zero, and_self]
    · have q : rRlx (f_X2_relaxFrom Rr G i) j = rRlx (f_X2_relaxFrom R0 G i) j := ((relax_ok h Rr hi).1 j hj).trans ((relax_ok h R0 hi).1 j hj).symm
      simp only [f_X7_distanceByRelaxation, f_X7_requireIsland, lt_, e, e2, ci, cj, if_true, q]
      split <;> exact ⟨rfl, rfl⟩
theorem disP {G : GS} (h : GI G) (Q : QS) (Rr : GR) (x y : Int32) : rPar (f_X7_distance Q G Rr x y).2.2 = rPar Rr := by
  rcases is_case x with e | ⟨i, hi, rfl, ci, e⟩
  · simp only [f_X7_distance, f_X7_requireIsland, lt_, e, Bool.false_eq_true, if_false, Nat.one_ne_zero]
  · rcases is_case y with e2 | ⟨j, hj, rfl, cj, e2⟩
    · simp only [f_X7_distance, f_X7_requireIsland, lt_, e, e2, Bool.false_eq_true, if_false, if_true, Nat.one_ne_zero]
    · have q := (search_ok h Rr hi).2.2
      simp only [f_X7_distance, f_X7_requireIsland, lt_, e, e2, ci, cj, if_true]
      split <;> exact q
theorem disRP {G : GS} (h : GI G) (Q : QS) (Rr : GR) (x y : Int32) : rPar (f_X7_distanceByRelaxation Q G Rr x y).2.2 = rPar Rr := by
  rcases is_case x with e | ⟨i, hi, rfl, ci, e⟩
  · simp only [f_X7_distanceByRelaxation, f_X7_requireIsland, lt_, e, Bool.false_eq_true, if_false, Nat.one_ne_zero]
  · rcases is_case y with e2 | ⟨j, hj, rfl, cj, e2⟩
    · simp only [f_X7_distanceByRelaxation, f_X7_requireIsland, lt_, e, e2, Bool.false_eq_true, if_false, if_true, Nat.one_ne_zero]
    · have q := (relax_ok h Rr hi).2.2
      simp only [f_X7_distanceByRelaxation, f_X7_requireIsland, lt_, e, e2, ci, cj, if_true]
      split <;> exact q
section
variable {l : Launch} {D : va_G} {C : Nat → ClassId} {ev u : Nat → Nat} {K : CT} {T : TX}
theorem kv_distance (hl9 : l.stackTraces = false) (hI : GI (kG K)) (hFe : FerOK (kG K)) (a b : Int32) : KV l yX7_distance wsX7_distance ({ frames := 7, cells := 3, slots := 18, locals := 102 } : Room) [.ref (u 0), .int a, .int b] D C ev u K T (aqs K 0 a b).1 (some (.int (aqs K 0 a b).2)) 3 18 := by
  have hG := GI_safe hI
  exact KV_vx (cs := fun x => [acells C u (kQ K), gcells C (uA u) (kG K), grcells C (uG u) x.1]) (cs' := fun x => [acells C u (kQ K), gcells C (uA u) (kG K), grcells C (uG u) ((f_X7_distance (kQ K) (kG K) x.1 a b).2.2)]) (rs := fun x => [gcells C (uB u) (kG1 K), gcells C (uC u) (kG2 K), hcells C (uH u) (kS K), scells C ev (uS u) (kSc K), ocells C (uO u) x.2]) (nx := fun x => (f_X7_distance (kQ K) (kG K) x.1 a b).2.2) (fun x sz hx => c_X7_distance l D C ev u (kQ K) (kG K) x.1 a b sz hG hl9) (fun x hx => ⟨(dis_v hI (kQ K) x.1 a b).1, congrArg (fun z => some (Value.int z)) (dis_v hI (kQ K) x.1 a b).2⟩) (fun x => bsP 8 [0, 1, 4, 2, 3, 5, 6, 7] rfl (by decide) rfl) (fun x => bsP 8 [0, 1, 3, 4, 2, 5, 6, 7] rfl (by decide) rfl) (fun x h => ⟨RSafe_of h.1 (disP hI (kQ K) x.1 a b), h.2⟩)
theorem kv_distanceByRelaxation (hl9 : l.stackTraces = false) (hI : GI (kG K)) (hFe : FerOK (kG K)) (a b : Int32) : KV l yX7_distanceByRelaxation wsX7_distanceByRelaxation ({ frames := 7, cells := 3, slots := 18, locals := 102 } : Room) [.ref (u 0), .int a, .int b] D C ev u K T (aqs K 1 a b).1 (some (.int (aqs K 1 a b).2)) 3 18 := by
  have hG := GI_safe hI
  exact KV_vx (cs := fun x => [acells C u (kQ K), gcells C (uA u) (kG K), grcells C (uG u) x.1]) (cs' := fun x => [acells C u (kQ K), gcells C (uA u) (kG K), grcells C (uG u) ((f_X7_distanceByRelaxation (kQ K) (kG K) x.1 a b).2.2)]) (rs := fun x => [gcells C (uB u) (kG1 K), gcells C (uC u) (kG2 K), hcells C (uH u) (kS K), scells C ev (uS u) (kSc K), ocells C (uO u) x.2]) (nx := fun x => (f_X7_distanceByRelaxation (kQ K) (kG K) x.1 a b).2.2) (fun x sz hx => c_X7_distanceByRelaxation l D C ev u (kQ K) (kG K) x.1 a b sz hG hl9) (fun x hx => ⟨(disR_v hI (kQ K) x.1 a b).1, congrArg (fun z => some (Value.int z)) (disR_v hI (kQ K) x.1 a b).2⟩) (fun x => bsP 8 [0, 1, 4, 2, 3, 5, 6, 7] rfl (by decide) rfl) (fun x => bsP 8 [0, 1, 3, 4, 2, 5, 6, 7] rfl (by decide) rfl) (fun x h => ⟨RSafe_of h.1 (disRP hI (kQ K) x.1 a b), h.2⟩)
theorem kv_builder (hl9 : l.stackTraces = false) (hI : GI (kG K)) (hFe : FerOK (kG K)) (a b : Int32) : KV l yX7_builder wsX7_builder ({ frames := 7, cells := 2, slots := 12, locals := 103 } : Room) [.ref (u 0), .int a] D C ev u K T (aqs K 2 a b).1 (some (.int (aqs K 2 a b).2)) 2 12 := by
  have hG := GI_safe hI
  exact KV_vx (cs := fun x => [acells C u (kQ K), gcells C (uA u) (kG K)]) (cs' := fun x => [acells C u (kQ K), gcells C (uA u) (kG K)]) (rs := fun x => [gcells C (uB u) (kG1 K), gcells C (uC u) (kG2 K), grcells C (uG u) x.1, hcells C (uH u) (kS K), scells C ev (uS u) (kSc K), ocells C (uO u) x.2]) (nx := fun x => x.1) (fun x sz hx => c_X7_builder l D C ev u (kQ K) (kG K) a sz hG hl9) (fun x hx => ⟨rfl, rfl⟩) (fun x => bsP 8 [0, 1, 2, 3, 4, 5, 6, 7] rfl (by decide) rfl) (fun x => bsP 8 [0, 1, 2, 3, 4, 5, 6, 7] rfl (by decide) rfl) (fun x h => h)
theorem kv_bidAmount (hl9 : l.stackTraces = false) (hI : GI (kG K)) (hFe : FerOK (kG K)) (a b : Int32) : KV l yX7_bidAmount wsX7_bidAmount ({ frames := 8, cells := 3, slots := 18, locals := 125 } : Room) [.ref (u 0), .int a, .int b] D C ev u K T (aqs K 3 a b).1 (some (.int (aqs K 3 a b).2)) 3 18 := by
  have hG := GI_safe hI
  exact KV_vx (cs := fun x => [acells C u (kQ K), gcells C (uA u) (kG K)]) (cs' := fun x => [acells C u (kQ K), gcells C (uA u) (kG K)]) (rs := fun x => [gcells C (uB u) (kG1 K), gcells C (uC u) (kG2 K), grcells C (uG u) x.1, hcells C (uH u) (kS K), scells C ev (uS u) (kSc K), ocells C (uO u) x.2]) (nx := fun x => x.1) (fun x sz hx => c_X7_bidAmount l D C ev u (kQ K) (kG K) a b sz hG hl9) (fun x hx => ⟨rfl, rfl⟩) (fun x => bsP 8 [0, 1, 2, 3, 4, 5, 6, 7] rfl (by decide) rfl) (fun x => bsP 8 [0, 1, 2, 3, 4, 5, 6, 7] rfl (by decide) rfl) (fun x h => h)
theorem kv_isBluff (hl9 : l.stackTraces = false) (hI : GI (kG K)) (hFe : FerOK (kG K)) (a b : Int32) : KV l yX7_isBluff wsX7_isBluff ({ frames := 8, cells := 3, slots := 18, locals := 125 } : Room) [.ref (u 0), .int a, .int b] D C ev u K T (aqs K 4 a b).1 (some (.int (aqs K 4 a b).2)) 3 18 := by
  have hG := GI_safe hI
  exact KV_vx (cs := fun x => [acells C u (kQ K), gcells C (uA u) (kG K)]) (cs' := fun x => [acells C u (kQ K), gcells C (uA u) (kG K)]) (rs := fun x => [gcells C (uB u) (kG1 K), gcells C (uC u) (kG2 K), grcells C (uG u) x.1, hcells C (uH u) (kS K), scells C ev (uS u) (kSc K), ocells C (uO u) x.2]) (nx := fun x => x.1) (fun x sz hx => c_X7_isBluff l D C ev u (kQ K) (kG K) a b sz hG hl9) (fun x hx => ⟨rfl, rfl⟩) (fun x => bsP 8 [0, 1, 2, 3, 4, 5, 6, 7] rfl (by decide) rfl) (fun x => bsP 8 [0, 1, 2, 3, 4, 5, 6, 7] rfl (by decide) rfl) (fun x h => h)
theorem kv_ferryOwner (hl9 : l.stackTraces = false) (hI : GI (kG K)) (hFe : FerOK (kG K)) (a b : Int32) : KV l yX7_ferryOwner wsX7_ferryOwner ({ frames := 7, cells := 2, slots := 12, locals := 103 } : Room) [.ref (u 0), .int a] D C ev u K T (aqs K 5 a b).1 (some (.int (aqs K 5 a b).2)) 2 12 := by
  have hG := GI_safe hI
  exact KV_vx (cs := fun x => [acells C u (kQ K), gcells C (uA u) (kG K)]) (cs' := fun x => [acells C u (kQ K), gcells C (uA u) (kG K)]) (rs := fun x => [gcells C (uB u) (kG1 K), gcells C (uC u) (kG2 K), grcells C (uG u) x.1, hcells C (uH u) (kS K), scells C ev (uS u) (kSc K), ocells C (uO u) x.2]) (nx := fun x => x.1) (fun x sz hx => c_X7_ferryOwner l D C ev u (kQ K) (kG K) a sz hG hl9) (fun x hx => ⟨rfl, rfl⟩) (fun x => bsP 8 [0, 1, 2, 3, 4, 5, 6, 7] rfl (by decide) rfl) (fun x => bsP 8 [0, 1, 2, 3, 4, 5, 6, 7] rfl (by decide) rfl) (fun x h => h)
theorem kv_winningBidder (hl9 : l.stackTraces = false) (hI : GI (kG K)) (hFe : FerOK (kG K)) (a b : Int32) : KV l yX7_winningBidder wsX7_winningBidder ({ frames := 7, cells := 2, slots := 12, locals := 103 } : Room) [.ref (u 0), .int a] D C ev u K T (aqs K 6 a b).1 (some (.int (aqs K 6 a b).2)) 2 12 := by
  have hG := GI_safe hI
  exact KV_vx (cs := fun x => [acells C u (kQ K), gcells C (uA u) (kG K)]) (cs' := fun x => [acells C u (kQ K), gcells C (uA u) (kG K)]) (rs := fun x => [gcells C (uB u) (kG1 K), gcells C (uC u) (kG2 K), grcells C (uG u) x.1, hcells C (uH u) (kS K), scells C ev (uS u) (kSc K), ocells C (uO u) x.2]) (nx := fun x => x.1) (fun x sz hx => c_X7_winningBidder l D C ev u (kQ K) (kG K) a sz hG hl9) (fun x hx => ⟨rfl, rfl⟩) (fun x => bsP 8 [0, 1, 2, 3, 4, 5, 6, 7] rfl (by decide) rfl) (fun x => bsP 8 [0, 1, 2, 3, 4, 5, 6, 7] rfl (by decide) rfl) (fun x h => h)
theorem kv_wouldBuild (hl9 : l.stackTraces = false) (hI : GI (kG K)) (hFe : FerOK (kG K)) (a b : Int32) : KV l yX7_wouldBuild wsX7_wouldBuild ({ frames := 7, cells := 1, slots := 6, locals := 139 } : Room) [.ref (u 0), .int a] D C ev u K T (aqs K 7 a b).1 (some (.int (aqs K 7 a b).2)) 1 6 := by
  have hG := GI_safe hI
  exact KV_vx (cs := fun x => [acells C u (kQ K), gcells C (uA u) (kG K)]) (cs' := fun x => [acells C u (kQ K), gcells C (uA u) (kG K)]) (rs := fun x => [gcells C (uB u) (kG1 K), gcells C (uC u) (kG2 K), grcells C (uG u) x.1, hcells C (uH u) (kS K), scells C ev (uS u) (kSc K), ocells C (uO u) x.2]) (nx := fun x => x.1) (fun x sz hx => c_X7_wouldBuild l D C ev u (kQ K) (kG K) a sz hG hFe hl9) (fun x hx => ⟨rfl, rfl⟩) (fun x => bsP 8 [0, 1, 2, 3, 4, 5, 6, 7] rfl (by decide) rfl) (fun x => bsP 8 [0, 1, 2, 3, 4, 5, 6, 7] rfl (by decide) rfl) (fun x h => h)
theorem kv_cheapestFreeSite (hl9 : l.stackTraces = false) (hI : GI (kG K)) (hFe : FerOK (kG K)) (a b : Int32) : KV l yX7_cheapestFreeSite wsX7_cheapestFreeSite ({ frames := 7, cells := 1, slots := 6, locals := 102 } : Room) [.ref (u 0)] D C ev u K T (aqs K 8 a b).1 (some (.int (aqs K 8 a b).2)) 1 6 := by
  have hG := GI_safe hI
  exact KV_vx (cs := fun x => [acells C u (kQ K), gcells C (uA u) (kG K)]) (cs' := fun x => [acells C u (kQ K), gcells C (uA u) (kG K)]) (rs := fun x => [gcells C (uB u) (kG1 K), gcells C (uC u) (kG2 K), grcells C (uG u) x.1, hcells C (uH u) (kS K), scells C ev (uS u) (kSc K), ocells C (uO u) x.2]) (nx := fun x => x.1) (fun x sz hx => c_X7_cheapestFreeSite l D C ev u (kQ K) (kG K)  sz hG hl9) (fun x hx => ⟨rfl, rfl⟩) (fun x => bsP 8 [0, 1, 2, 3, 4, 5, 6, 7] rfl (by decide) rfl) (fun x => bsP 8 [0, 1, 2, 3, 4, 5, 6, 7] rfl (by decide) rfl) (fun x h => h)
theorem kv_playerByScore (hl9 : l.stackTraces = false) (hI : GI (kG K)) (hFe : FerOK (kG K)) (a b : Int32) : KV l yX7_playerByScore wsX7_playerByScore ({ frames := 7, cells := 1, slots := 6, locals := 102 } : Room) [.ref (u 0), .int a] D C ev u K T (aqs K 9 a b).1 (some (.int (aqs K 9 a b).2)) 1 6 := by
  have hG := GI_safe hI
  exact KV_vx (cs := fun x => [acells C u (kQ K), gcells C (uA u) (kG K)]) (cs' := fun x => [acells C u (kQ K), gcells C (uA u) (kG K)]) (rs := fun x => [gcells C (uB u) (kG1 K), gcells C (uC u) (kG2 K), grcells C (uG u) x.1, hcells C (uH u) (kS K), scells C ev (uS u) (kSc K), ocells C (uO u) x.2]) (nx := fun x => x.1) (fun x sz hx => c_X7_playerByScore l D C ev u (kQ K) (kG K) a sz hG hl9) (fun x hx => ⟨rfl, rfl⟩) (fun x => bsP 8 [0, 1, 2, 3, 4, 5, 6, 7] rfl (by decide) rfl) (fun x => bsP 8 [0, 1, 2, 3, 4, 5, 6, 7] rfl (by decide) rfl) (fun x h => h)
theorem kv_errorPosition (hl9 : l.stackTraces = false) (hI : GI (kG K)) (hFe : FerOK (kG K)) (a b : Int32) : KV l yX7_errorPosition wsX7_errorPosition ({ frames := 7, cells := 1, slots := 6, locals := 102 } : Room) [.ref (u 0)] D C ev u K T (aqs K 10 a b).1 (some (.int (aqs K 10 a b).2)) 1 6 := by
  have hG := GI_safe hI
  exact KV_vx (cs := fun x => [acells C u (kQ K)]) (cs' := fun x => [acells C u (kQ K)]) (rs := fun x => [gcells C (uA u) (kG K), gcells C (uB u) (kG1 K), gcells C (uC u) (kG2 K), grcells C (uG u) x.1, hcells C (uH u) (kS K), scells C ev (uS u) (kSc K), ocells C (uO u) x.2]) (nx := fun x => x.1) (fun x sz hx => c_X7_errorPosition l D C ev u (kQ K) sz hl9) (fun x hx => ⟨rfl, rfl⟩) (fun x => bsP 8 [0, 1, 2, 3, 4, 5, 6, 7] rfl (by decide) rfl) (fun x => bsP 8 [0, 1, 2, 3, 4, 5, 6, 7] rfl (by decide) rfl) (fun x h => h)
theorem kv_failedCommand (hl9 : l.stackTraces = false) (hI : GI (kG K)) (hFe : FerOK (kG K)) (a b : Int32) : KV l yX7_failedCommand wsX7_failedCommand ({ frames := 7, cells := 1, slots := 6, locals := 102 } : Room) [.ref (u 0)] D C ev u K T (aqs K 11 a b).1 (some (.int (aqs K 11 a b).2)) 1 6 := by
  have hG := GI_safe hI
  exact KV_vx (cs := fun x => [acells C u (kQ K)]) (cs' := fun x => [acells C u (kQ K)]) (rs := fun x => [gcells C (uA u) (kG K), gcells C (uB u) (kG1 K), gcells C (uC u) (kG2 K), grcells C (uG u) x.1, hcells C (uH u) (kS K), scells C ev (uS u) (kSc K), ocells C (uO u) x.2]) (nx := fun x => x.1) (fun x sz hx => c_X7_failedCommand l D C ev u (kQ K) sz hl9) (fun x hx => ⟨rfl, rfl⟩) (fun x => bsP 8 [0, 1, 2, 3, 4, 5, 6, 7] rfl (by decide) rfl) (fun x => bsP 8 [0, 1, 2, 3, 4, 5, 6, 7] rfl (by decide) rfl) (fun x h => h)
theorem kv_length (hl9 : l.stackTraces = false) (hI : GI (kG K)) (hFe : FerOK (kG K)) (a b : Int32) : KV l yX7_length wsX7_length ({ frames := 7, cells := 1, slots := 6, locals := 103 } : Room) [.ref (u 0), .int a] D C ev u K T (aqs K 12 a b).1 (some (.int (aqs K 12 a b).2)) 1 6 := by
  have hG := GI_safe hI
  exact KV_vx (cs := fun x => [acells C u (kQ K), gcells C (uA u) (kG K)]) (cs' := fun x => [acells C u (kQ K), gcells C (uA u) (kG K)]) (rs := fun x => [gcells C (uB u) (kG1 K), gcells C (uC u) (kG2 K), grcells C (uG u) x.1, hcells C (uH u) (kS K), scells C ev (uS u) (kSc K), ocells C (uO u) x.2]) (nx := fun x => x.1) (fun x sz hx => c_X7_length l D C ev u (kQ K) (kG K) a sz hG hl9) (fun x hx => ⟨rfl, rfl⟩) (fun x => bsP 8 [0, 1, 2, 3, 4, 5, 6, 7] rfl (by decide) rfl) (fun x => bsP 8 [0, 1, 2, 3, 4, 5, 6, 7] rfl (by decide) rfl) (fun x h => h)
theorem kv_money (hl9 : l.stackTraces = false) (hI : GI (kG K)) (hFe : FerOK (kG K)) (a b : Int32) : KV l yX7_money wsX7_money ({ frames := 7, cells := 1, slots := 6, locals := 103 } : Room) [.ref (u 0), .int a] D C ev u K T (aqs K 13 a b).1 (some (.int (aqs K 13 a b).2)) 1 6 := by
  have hG := GI_safe hI
  exact KV_vx (cs := fun x => [acells C u (kQ K), gcells C (uA u) (kG K)]) (cs' := fun x => [acells C u (kQ K), gcells C (uA u) (kG K)]) (rs := fun x => [gcells C (uB u) (kG1 K), gcells C (uC u) (kG2 K), grcells C (uG u) x.1, hcells C (uH u) (kS K), scells C ev (uS u) (kSc K), ocells C (uO u) x.2]) (nx := fun x => x.1) (fun x sz hx => c_X7_money l D C ev u (kQ K) (kG K) a sz hG hl9) (fun x hx => ⟨rfl, rfl⟩) (fun x => bsP 8 [0, 1, 2, 3, 4, 5, 6, 7] rfl (by decide) rfl) (fun x => bsP 8 [0, 1, 2, 3, 4, 5, 6, 7] rfl (by decide) rfl) (fun x h => h)
end
