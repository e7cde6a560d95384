theorem vp_of {x : Int32} {n : Nat} (h1 : ¬ x < 0) (h2 : ¬ nI n ≤ x) (hn : n < 2 ^ 31) : vp_in x n := by
  rw [vp_in_iff]
  rw [Int32.lt_iff_toInt_lt, Int32.toInt_zero] at h1
  rw [Int32.le_iff_toInt_le, nI_toInt hn] at h2
  omega
theorem X1_isPlayer_in {G : GS} (hG : GSafe G) {x : Int32} (h : f_X1_isPlayer G x = true) : vp_in x (gP G) := by
  have h4 := hG.2.1
  revert h
  unfold f_X1_isPlayer
  split
  · intro h; exact absurd h (by decide)
  · split
    · intro h; exact absurd h (by decide)
    · intro _; exact vp_of (by assumption) (by assumption) (by omega)
theorem X1_isSite_in {G : GS} (hG : GSafe G) {x : Int32} (h : f_X1_isSite G x = true) : vp_in x (gS G) := by
  have h4 := hG.1
  revert h
  unfold f_X1_isSite
  split
  · intro h; exact absurd h (by decide)
  · split
    · intro h; exact absurd h (by decide)
    · intro _; exact vp_of (by assumption) (by assumption) (by omega)
theorem X1_isIsland_in {x : Int32} (h : f_X1_isIsland x = true) : vp_in x 8 := by
  revert h
  simp only [f_X1_isIsland, f_X1_isIsland_j14, f_X1_isIsland_j15]
  split
  · intro h; exact absurd h (by decide)
  · split
    · intro h; exact absurd h (by decide)
    · intro _; exact vp_of (n := 8) (by assumption) (by rw [show nI 8 = (8 : Int32) from by decide +kernel]; assumption) (by decide)
def f_X1_judgePlayer_j31  (s0_31 : Nat) : Nat := s0_31
def f_X1_judgePlayer_j10  : Nat := 2
def f_X1_judgePlayer (G : GS) (x : Int32) : Nat := (if x < 0 then (f_X1_judgePlayer_j10) else (if x ≤ 99 then (if (nI (gP G)) = 4 then (f_X1_judgePlayer_j31 (3)) else (f_X1_judgePlayer_j31 (0))) else (f_X1_judgePlayer_j10)))
set_option maxHeartbeats 4000000 in
set_option maxRecDepth 100000 in
theorem c_X1_judgePlayer (l : Launch) (D : va_G) (C : Nat → ClassId) (ev : Nat → Nat) (a : Nat → Nat) (G : GS) (x : Int32) (hG : GSafe G) : Met l yX1_judgePlayer wsX1_judgePlayer ({ frames := 0, cells := 0, slots := 0, locals := 0 } : Room) (roPE [.ref (a 0), .int x] D C ev (gcells C a G)) (roO (some (.ref (ev (f_X1_judgePlayer G x))))) 0 0 (fun _ => False) := by
  refine Met.ofW (cc := cX1_judgePlayer) (maxL := 2) (ret := (some (.object "BridgeAuction$Verdict"))) (by decide) rfl ?_
  intro p e s m args below meth c s₁ B hml hv
  obtain ⟨rfl, hP, hK, hE, hR, hX⟩ := hv
  have hx := B.exec
  have hb := B.bytes
  have hr := B.returns
  have hts := atoms_spec (ws := wsX1_judgePlayer) B.pre
  have hown : s.vm.findClass RX1 = some m.cls := findClass_of_methodNamed B.named
  have hlocks := B.notSynchronized
  have hS : va_S (fun _ => False) s.heap s.heap [] := va_S.rf
  obtain ⟨⟨hV, hB, hMV, hMB, hAL, hEk, hEa, hTX, hXZ⟩, hCS, hSF⟩ := id hX
  obtain ⟨hS12, hP4, hlo, hhi⟩ := id hG
  have hinX1 : ∀ w ∈ u_ws RX1 TX1 16, w ∈ wsX1_judgePlayer := by decide +kernel
  have hl := lv_entry ([.ref (a 0), .int x]) (n := 2) (Nat.le_of_ble_eq_true rfl)
  rw [lg_entry_eq]
  generalize (lg_sl ([.ref (a 0), .int x]) ++ List.replicate (2 - (lg_sl ([.ref (a 0), .int x])).length) Slot.unset).toArray = ls at hl ⊢
  have hl : lv_has ls 2 [(0, .ref (a 0)), (1, .int x)] := hl
  obtain ⟨z, hz⟩ : ∃ z, z = f_X1_judgePlayer G x := ⟨_, rfl⟩
  rw [← hz]
  have J31 : ∀ (s0_31 : Nat)  (ls : Array Slot), z = f_X1_judgePlayer_j31 s0_31 → lv_has ls 2 [] → W p l e ({ frames := 0, cells := 0, slots := 0, locals := 0 } : Room) s m ([.ref (a 0), .int x] : List Value).toArray below meth c s.heap [] 0 0 (MQ below (roO (some (.ref (ev z)))) ([.ref (a 0), .int x] : List Value).toArray s 0 0 (fun _ => False)) (F0 m 31 ls [.ref (ev s0_31)]) := by
    intro s0_31 ls hz  hl
    exact ro_retA hx hb hr (congrArg (fun q => ev q) (show _ = s0_31 from hz)) dX1_judgePlayer_31 hlocks
  have J10 : ∀  (ls : Array Slot), z = f_X1_judgePlayer_j10 → lv_has ls 2 [] → W p l e ({ frames := 0, cells := 0, slots := 0, locals := 0 } : Room) s m ([.ref (a 0), .int x] : List Value).toArray below meth c s.heap [] 0 0 (MQ below (roO (some (.ref (ev z)))) ([.ref (a 0), .int x] : List Value).toArray s 0 0 (fun _ => False)) (F0 m 10 ls []) := by
    intro  ls hz  hl
    refine va_gets (v := .ref (ev 2)) (C := "BridgeAuction$Verdict") (n := "BAD_ARGUMENT") (d := "LBridgeAuction$Verdict;") hx hb (hV.1 2 (by decide)).1 hS hown (hts (.fieldLink RX1 108 "BridgeAuction$Verdict" "BAD_ARGUMENT" "LBridgeAuction$Verdict;") (by decide +kernel)) (fun _ h9 => h9) dX1_judgePlayer_10 ?_
    exact ro_retA hx hb hr (congrArg (fun q => ev q) (show _ = 2 from hz)) dX1_judgePlayer_13 hlocks
  refine lv_iload_n hx hb dX1_judgePlayer_0 rfl (lv_at hl 1 rfl) ?_
  refine lv_if_lt (tgt := 10) hx hb dX1_judgePlayer_1 (by decide) (fun c_1 => ?_) (fun c_1 => ?_)
  · have hz := hz.trans (if_pos c_1)
    exact J10  ls hz  (lv_sub hl [] rfl)
  · have hz := hz.trans (if_neg c_1)
    refine lv_iload_n hx hb dX1_judgePlayer_4 rfl (lv_at hl 1 rfl) ?_
    refine lv_bipush (v := 99) hx hb dX1_judgePlayer_5 (by decide +kernel) ?_
    refine lv_icmp_le (tgt := 14) hx hb dX1_judgePlayer_7 (by decide) (fun c_7 => ?_) (fun c_7 => ?_)
    · have hz := hz.trans (if_pos c_7)
      refine lv_aload_n hx hb dX1_judgePlayer_14 rfl (lv_at hl 0 rfl) ?_
      refine va_get (D := D) (ci := 4) (v := .int (nI (gP G))) (C := RX1) (T := TX1) (N := 16) hx hb hts hinX1 hown hK hP 0 rfl rfl 2 (by decide) (hts (.fieldLink RX1 19 "BridgeAuction$Game" "players" "I") (by decide +kernel)) (fun _ h9 => h9) rfl dX1_judgePlayer_15 ?_
      refine lv_iconst (v := 4) hx hb dX1_judgePlayer_18 (by decide) ?_
      refine lv_icmp_ne (tgt := 28) hx hb dX1_judgePlayer_19 (by decide) (fun c_19 => ?_) (fun c_19 => ?_)
      · have hz := hz.trans (if_neg c_19)
        refine va_gets (v := .ref (ev 0)) (C := "BridgeAuction$Verdict") (n := "FINE") (d := "LBridgeAuction$Verdict;") hx hb (hV.1 0 (by decide)).1 hS hown (hts (.fieldLink RX1 117 "BridgeAuction$Verdict" "FINE" "LBridgeAuction$Verdict;") (by decide +kernel)) (fun _ h9 => h9) dX1_judgePlayer_28 ?_
        exact J31 (0) ls hz  (lv_sub hl [] rfl)
      · have hz := hz.trans (if_pos c_19)
        refine va_gets (v := .ref (ev 3)) (C := "BridgeAuction$Verdict") (n := "WRONG_STATE") (d := "LBridgeAuction$Verdict;") hx hb (hV.1 3 (by decide)).1 hS hown (hts (.fieldLink RX1 114 "BridgeAuction$Verdict" "WRONG_STATE" "LBridgeAuction$Verdict;") (by decide +kernel)) (fun _ h9 => h9) dX1_judgePlayer_22 ?_
        refine lv_goto (tgt := 31) hx hb dX1_judgePlayer_25 (by decide) ?_
        exact J31 (3) ls hz  (lv_sub hl [] rfl)
    · have hz := hz.trans (if_neg c_7)
      exact J10  ls hz  (lv_sub hl [] rfl)

