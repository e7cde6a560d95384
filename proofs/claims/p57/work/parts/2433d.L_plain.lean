set_option maxHeartbeats 4000000 in
set_option maxRecDepth 100000 in
theorem c_L_plain (l : Launch) (D : va_G) (C : Nat → ClassId) (ev u : Nat → Nat) (K : CT) (T : TX) (n : Nat) (a b w : Int32) (hl9 : l.stackTraces = false) (hd : DI K) (hn : n < 9) : KVD l yL_plain wsL_plain ({ frames := 9, cells := 1, slots := 6, locals := 186 } : Room) [.ref (u 0), .int (nI n), .int a, .int b, .int w] D C ev u K (plK K n a b w) T (plF K n a b w).1 (some (.int (plF K n a b w).2.1)) 1 6 := by
  intro x sz hF
  refine vx_ofW (cc := cL_plain) (maxL := 5) (ret := (some .int)) (by decide) rfl ?_
  intro p e s m args below meth c s₁ B hml htab hv
  obtain ⟨⟨⟨rfl, hsz, hP, hK, hD0, hE, hR, hX, hT9, hV9⟩, hDV⟩, hN, hC⟩ := hv
  have hx := B.exec
  have hb := B.bytes
  have hr := B.returns
  have hts := atoms_spec (ws := wsL_plain) B.pre
  have hown : s.vm.findClass RL = some m.cls := findClass_of_methodNamed B.named
  have hlocks := B.notSynchronized
  subst hsz
  have hD := hD0.self (sz := s.heap.size)
  generalize hAe : va_A (kW C ev u K x) s.heap.size = A at hD hX hV9 hDV ⊢
  have hA : ∀ q : Nat, s.heap.size ≤ q → A q := fun q h => by rw [← hAe]; exact Or.inr h
  have hS : va_S A s.heap s.heap [] := va_S.rf
  have hl := lv_entry ([.ref (u 0), .int (nI n), .int a, .int b, .int w]) (n := 5) (Nat.le_of_ble_eq_true rfl)
  rw [lg_entry_eq]
  generalize (lg_sl ([.ref (u 0), .int (nI n), .int a, .int b, .int w]) ++ List.replicate (5 - (lg_sl ([.ref (u 0), .int (nI n), .int a, .int b, .int w])).length) Slot.unset).toArray = ls at hl ⊢
  have hl : lv_has ls 5 [(0, .ref (u 0)), (1, .int (nI n)), (2, .int a), (3, .int b), (4, .int w)] := hl
  refine lv_iload_n hx hb dL_plain_0 rfl (lv_at hl 1 rfl) ?_
  rcases (by omega : n = 0 ∨ n = 1 ∨ n = 2 ∨ n = 3 ∨ n = 4 ∨ n = 5 ∨ n = 6 ∨ n = 7 ∨ n = 8) with r | r | r | r | r | r | r | r | r <;> subst r
  · refine lv_tableIn (off := 51) (tgt := 52) hx hb dL_plain_1 (by decide +kernel) (by decide +kernel) (by decide +kernel) (by decide) ?_
    refine lv_aload_n hx hb dL_plain_52 rfl (lv_at hl 0 rfl) ?_
    refine lv_iload_n hx hb dL_plain_53 rfl (lv_at hl 2 rfl) ?_
    refine callKVD (vx_runV (As := [.int a]) (rest := []) ⟨hx, hb, hml, hown, hts⟩ (kd_addPlayer (T := T) hl9 hd a b w x _ hF) (cwV 1 hts gL_plain_X7_addPlayer rfl rfl rfl (by decide +kernel) ⟨Nat.le_of_ble_eq_true rfl, Nat.le_of_ble_eq_true rfl⟩) (hloP_v hP hK hE hD hR hX hT9 hV9 hDV hN hC hS (all_F hD hS hA) (kRc (owns := []) hK hP)) rfl rfl hl.1 rfl (lv_room (Nat.le_of_ble_eq_true rfl)) dL_plain_54 ⟨Nat.le_of_ble_eq_true rfl, Nat.le_of_ble_eq_true rfl⟩) hD hS hA (fun hc0 hc7 x ce q9 H1 locs hF hP hD hS hcell hcv hcl => v_out htab hlocks hcell hcv hcl hF hP hD hS hc0 hc7 (Nat.le_of_ble_eq_true rfl) (Nat.le_of_ble_eq_true rfl)) (fun hc0 x H1 locs hF hP hD hS => ?_)
    exact v_retI hx hb hr hc0 hF hP hD hS rfl (Nat.le_of_ble_eq_true rfl) (Nat.le_of_ble_eq_true rfl) dL_plain_57 hlocks
  · refine lv_tableIn (off := 57) (tgt := 58) hx hb dL_plain_1 (by decide +kernel) (by decide +kernel) (by decide +kernel) (by decide) ?_
    refine lv_aload_n hx hb dL_plain_58 rfl (lv_at hl 0 rfl) ?_
    refine lv_iload_n hx hb dL_plain_59 rfl (lv_at hl 2 rfl) ?_
    refine lv_iload_n hx hb dL_plain_60 rfl (lv_at hl 3 rfl) ?_
    refine lv_iload hx hb dL_plain_61 (lv_at hl 4 rfl) ?_
    refine callKVD (vx_runV (As := [.int a, .int b, .int w]) (rest := []) ⟨hx, hb, hml, hown, hts⟩ (kd_addSite (T := T) hl9 hd a b w x _ hF) (cwV 3 hts gL_plain_X7_addSite rfl rfl rfl (by decide +kernel) ⟨Nat.le_of_ble_eq_true rfl, Nat.le_of_ble_eq_true rfl⟩) (hloP_v hP hK hE hD hR hX hT9 hV9 hDV hN hC hS (all_F hD hS hA) (kRc (owns := []) hK hP)) rfl rfl hl.1 rfl (lv_room (Nat.le_of_ble_eq_true rfl)) dL_plain_63 ⟨Nat.le_of_ble_eq_true rfl, Nat.le_of_ble_eq_true rfl⟩) hD hS hA (fun hc0 hc7 x ce q9 H1 locs hF hP hD hS hcell hcv hcl => v_out htab hlocks hcell hcv hcl hF hP hD hS hc0 hc7 (Nat.le_of_ble_eq_true rfl) (Nat.le_of_ble_eq_true rfl)) (fun hc0 x H1 locs hF hP hD hS => ?_)
    exact v_retI hx hb hr hc0 hF hP hD hS rfl (Nat.le_of_ble_eq_true rfl) (Nat.le_of_ble_eq_true rfl) dL_plain_66 hlocks
  · refine lv_tableIn (off := 66) (tgt := 67) hx hb dL_plain_1 (by decide +kernel) (by decide +kernel) (by decide +kernel) (by decide) ?_
    refine lv_aload_n hx hb dL_plain_67 rfl (lv_at hl 0 rfl) ?_
    refine lv_iload_n hx hb dL_plain_68 rfl (lv_at hl 2 rfl) ?_
    refine lv_iload_n hx hb dL_plain_69 rfl (lv_at hl 3 rfl) ?_
    refine callKVD (vx_runV (As := [.int a, .int b]) (rest := []) ⟨hx, hb, hml, hown, hts⟩ (kd_setSuit (T := T) hl9 hd a b w x _ hF) (cwV 2 hts gL_plain_X7_setSuit rfl rfl rfl (by decide +kernel) ⟨Nat.le_of_ble_eq_true rfl, Nat.le_of_ble_eq_true rfl⟩) (hloP_v hP hK hE hD hR hX hT9 hV9 hDV hN hC hS (all_F hD hS hA) (kRc (owns := []) hK hP)) rfl rfl hl.1 rfl (lv_room (Nat.le_of_ble_eq_true rfl)) dL_plain_70 ⟨Nat.le_of_ble_eq_true rfl, Nat.le_of_ble_eq_true rfl⟩) hD hS hA (fun hc0 hc7 x ce q9 H1 locs hF hP hD hS hcell hcv hcl => v_out htab hlocks hcell hcv hcl hF hP hD hS hc0 hc7 (Nat.le_of_ble_eq_true rfl) (Nat.le_of_ble_eq_true rfl)) (fun hc0 x H1 locs hF hP hD hS => ?_)
    exact v_retI hx hb hr hc0 hF hP hD hS rfl (Nat.le_of_ble_eq_true rfl) (Nat.le_of_ble_eq_true rfl) dL_plain_73 hlocks
  · refine lv_tableIn (off := 73) (tgt := 74) hx hb dL_plain_1 (by decide +kernel) (by decide +kernel) (by decide +kernel) (by decide) ?_
    refine lv_aload_n hx hb dL_plain_74 rfl (lv_at hl 0 rfl) ?_
    refine lv_iload_n hx hb dL_plain_75 rfl (lv_at hl 2 rfl) ?_
    refine callKVD (vx_runV (As := [.int a]) (rest := []) ⟨hx, hb, hml, hown, hts⟩ (kd_setTide (T := T) hl9 hd a b w x _ hF) (cwV 1 hts gL_plain_X7_setTide rfl rfl rfl (by decide +kernel) ⟨Nat.le_of_ble_eq_true rfl, Nat.le_of_ble_eq_true rfl⟩) (hloP_v hP hK hE hD hR hX hT9 hV9 hDV hN hC hS (all_F hD hS hA) (kRc (owns := []) hK hP)) rfl rfl hl.1 rfl (lv_room (Nat.le_of_ble_eq_true rfl)) dL_plain_76 ⟨Nat.le_of_ble_eq_true rfl, Nat.le_of_ble_eq_true rfl⟩) hD hS hA (fun hc0 hc7 x ce q9 H1 locs hF hP hD hS hcell hcv hcl => v_out htab hlocks hcell hcv hcl hF hP hD hS hc0 hc7 (Nat.le_of_ble_eq_true rfl) (Nat.le_of_ble_eq_true rfl)) (fun hc0 x H1 locs hF hP hD hS => ?_)
    exact v_retI hx hb hr hc0 hF hP hD hS rfl (Nat.le_of_ble_eq_true rfl) (Nat.le_of_ble_eq_true rfl) dL_plain_79 hlocks
  · refine lv_tableIn (off := 79) (tgt := 80) hx hb dL_plain_1 (by decide +kernel) (by decide +kernel) (by decide +kernel) (by decide) ?_
    refine lv_aload_n hx hb dL_plain_80 rfl (lv_at hl 0 rfl) ?_
    refine lv_iload_n hx hb dL_plain_81 rfl (lv_at hl 2 rfl) ?_
    refine lv_iload_n hx hb dL_plain_82 rfl (lv_at hl 3 rfl) ?_
    refine lv_iload hx hb dL_plain_83 (lv_at hl 4 rfl) ?_
    refine callKVD (vx_runV (As := [.int a, .int b, .int w]) (rest := []) ⟨hx, hb, hml, hown, hts⟩ (kd_placeBid (T := T) hl9 hd a b w x _ hF) (cwV 3 hts gL_plain_X7_placeBid rfl rfl rfl (by decide +kernel) ⟨Nat.le_of_ble_eq_true rfl, Nat.le_of_ble_eq_true rfl⟩) (hloP_v hP hK hE hD hR hX hT9 hV9 hDV hN hC hS (all_F hD hS hA) (kRc (owns := []) hK hP)) rfl rfl hl.1 rfl (lv_room (Nat.le_of_ble_eq_true rfl)) dL_plain_85 ⟨Nat.le_of_ble_eq_true rfl, Nat.le_of_ble_eq_true rfl⟩) hD hS hA (fun hc0 hc7 x ce q9 H1 locs hF hP hD hS hcell hcv hcl => v_out htab hlocks hcell hcv hcl hF hP hD hS hc0 hc7 (Nat.le_of_ble_eq_true rfl) (Nat.le_of_ble_eq_true rfl)) (fun hc0 x H1 locs hF hP hD hS => ?_)
    exact v_retI hx hb hr hc0 hF hP hD hS rfl (Nat.le_of_ble_eq_true rfl) (Nat.le_of_ble_eq_true rfl) dL_plain_88 hlocks
  · refine lv_tableIn (off := 88) (tgt := 89) hx hb dL_plain_1 (by decide +kernel) (by decide +kernel) (by decide +kernel) (by decide) ?_
    refine lv_aload_n hx hb dL_plain_89 rfl (lv_at hl 0 rfl) ?_
    refine lv_iload_n hx hb dL_plain_90 rfl (lv_at hl 2 rfl) ?_
    refine lv_iload_n hx hb dL_plain_91 rfl (lv_at hl 3 rfl) ?_
    refine lv_iload hx hb dL_plain_92 (lv_at hl 4 rfl) ?_
    refine callKVD (vx_runV (As := [.int a, .int b, .int w]) (rest := []) ⟨hx, hb, hml, hown, hts⟩ (kd_placeBluff (T := T) hl9 hd a b w x _ hF) (cwV 3 hts gL_plain_X7_placeBluff rfl rfl rfl (by decide +kernel) ⟨Nat.le_of_ble_eq_true rfl, Nat.le_of_ble_eq_true rfl⟩) (hloP_v hP hK hE hD hR hX hT9 hV9 hDV hN hC hS (all_F hD hS hA) (kRc (owns := []) hK hP)) rfl rfl hl.1 rfl (lv_room (Nat.le_of_ble_eq_true rfl)) dL_plain_94 ⟨Nat.le_of_ble_eq_true rfl, Nat.le_of_ble_eq_true rfl⟩) hD hS hA (fun hc0 hc7 x ce q9 H1 locs hF hP hD hS hcell hcv hcl => v_out htab hlocks hcell hcv hcl hF hP hD hS hc0 hc7 (Nat.le_of_ble_eq_true rfl) (Nat.le_of_ble_eq_true rfl)) (fun hc0 x H1 locs hF hP hD hS => ?_)
    exact v_retI hx hb hr hc0 hF hP hD hS rfl (Nat.le_of_ble_eq_true rfl) (Nat.le_of_ble_eq_true rfl) dL_plain_97 hlocks
  · refine lv_tableIn (off := 97) (tgt := 98) hx hb dL_plain_1 (by decide +kernel) (by decide +kernel) (by decide +kernel) (by decide) ?_
    refine lv_aload_n hx hb dL_plain_98 rfl (lv_at hl 0 rfl) ?_
    refine lv_iload_n hx hb dL_plain_99 rfl (lv_at hl 2 rfl) ?_
    refine lv_iload_n hx hb dL_plain_100 rfl (lv_at hl 3 rfl) ?_
    refine callKVD (vx_runV (As := [.int a, .int b]) (rest := []) ⟨hx, hb, hml, hown, hts⟩ (kd_withdrawBid (T := T) hl9 hd a b w x _ hF) (cwV 2 hts gL_plain_X7_withdrawBid rfl rfl rfl (by decide +kernel) ⟨Nat.le_of_ble_eq_true rfl, Nat.le_of_ble_eq_true rfl⟩) (hloP_v hP hK hE hD hR hX hT9 hV9 hDV hN hC hS (all_F hD hS hA) (kRc (owns := []) hK hP)) rfl rfl hl.1 rfl (lv_room (Nat.le_of_ble_eq_true rfl)) dL_plain_101 ⟨Nat.le_of_ble_eq_true rfl, Nat.le_of_ble_eq_true rfl⟩) hD hS hA (fun hc0 hc7 x ce q9 H1 locs hF hP hD hS hcell hcv hcl => v_out htab hlocks hcell hcv hcl hF hP hD hS hc0 hc7 (Nat.le_of_ble_eq_true rfl) (Nat.le_of_ble_eq_true rfl)) (fun hc0 x H1 locs hF hP hD hS => ?_)
    exact v_retI hx hb hr hc0 hF hP hD hS rfl (Nat.le_of_ble_eq_true rfl) (Nat.le_of_ble_eq_true rfl) dL_plain_104 hlocks
  · refine lv_tableIn (off := 104) (tgt := 105) hx hb dL_plain_1 (by decide +kernel) (by decide +kernel) (by decide +kernel) (by decide) ?_
    refine lv_aload_n hx hb dL_plain_105 rfl (lv_at hl 0 rfl) ?_
    refine lv_iload_n hx hb dL_plain_106 rfl (lv_at hl 2 rfl) ?_
    refine lv_iload_n hx hb dL_plain_107 rfl (lv_at hl 3 rfl) ?_
    refine callKVD (vx_runV (As := [.int a, .int b]) (rest := []) ⟨hx, hb, hml, hown, hts⟩ (kd_playFerry (T := T) hl9 hd a b w x _ hF) (cwV 2 hts gL_plain_X7_playFerry rfl rfl rfl (by decide +kernel) ⟨Nat.le_of_ble_eq_true rfl, Nat.le_of_ble_eq_true rfl⟩) (hloP_v hP hK hE hD hR hX hT9 hV9 hDV hN hC hS (all_F hD hS hA) (kRc (owns := []) hK hP)) rfl rfl hl.1 rfl (lv_room (Nat.le_of_ble_eq_true rfl)) dL_plain_108 ⟨Nat.le_of_ble_eq_true rfl, Nat.le_of_ble_eq_true rfl⟩) hD hS hA (fun hc0 hc7 x ce q9 H1 locs hF hP hD hS hcell hcv hcl => v_out htab hlocks hcell hcv hcl hF hP hD hS hc0 hc7 (Nat.le_of_ble_eq_true rfl) (Nat.le_of_ble_eq_true rfl)) (fun hc0 x H1 locs hF hP hD hS => ?_)
    exact v_retI hx hb hr hc0 hF hP hD hS rfl (Nat.le_of_ble_eq_true rfl) (Nat.le_of_ble_eq_true rfl) dL_plain_111 hlocks
  · refine lv_tableIn (off := 111) (tgt := 112) hx hb dL_plain_1 (by decide +kernel) (by decide +kernel) (by decide +kernel) (by decide) ?_
    refine lv_aload_n hx hb dL_plain_112 rfl (lv_at hl 0 rfl) ?_
    refine lv_iload_n hx hb dL_plain_113 rfl (lv_at hl 2 rfl) ?_
    refine callKVD (vx_runV (As := [.int a]) (rest := []) ⟨hx, hb, hml, hown, hts⟩ (kd_settle (T := T) hl9 hd a b w x _ hF) (cwV 1 hts gL_plain_X7_settle rfl rfl rfl (by decide +kernel) ⟨Nat.le_of_ble_eq_true rfl, Nat.le_of_ble_eq_true rfl⟩) (hloP_v hP hK hE hD hR hX hT9 hV9 hDV hN hC hS (all_F hD hS hA) (kRc (owns := []) hK hP)) rfl rfl hl.1 rfl (lv_room (Nat.le_of_ble_eq_true rfl)) dL_plain_114 ⟨Nat.le_of_ble_eq_true rfl, Nat.le_of_ble_eq_true rfl⟩) hD hS hA (fun hc0 hc7 x ce q9 H1 locs hF hP hD hS hcell hcv hcl => v_out htab hlocks hcell hcv hcl hF hP hD hS hc0 hc7 (Nat.le_of_ble_eq_true rfl) (Nat.le_of_ble_eq_true rfl)) (fun hc0 x H1 locs hF hP hD hS => ?_)
    obtain ⟨z9, hz9⟩ : ∃ z, z = (f_X7_settle (kQ K) (kG K) (kS K) a).2.1 := ⟨_, rfl⟩
    refine topI (y := bI z9) (congrArg bI hz9.symm) ?_
    refine bif_eq (tgt := 124) hx hb dL_plain_117 (by decide) (fun c9 => ?_) (fun c9 => ?_)
    · refine lv_iconst (v := 0) hx hb dL_plain_124 (by decide) ?_
      exact v_retI hx hb hr hc0 hF hP hD hS (show bI (f_X7_settle (kQ K) (kG K) (kS K) a).2.1 = 0 from by rw [← hz9, c9]; rfl) (Nat.le_of_ble_eq_true rfl) (Nat.le_of_ble_eq_true rfl) dL_plain_125 hlocks
    · refine lv_iconst (v := 1) hx hb dL_plain_120 (by decide) ?_
      refine lv_goto (tgt := 125) hx hb dL_plain_121 (by decide) ?_
      exact v_retI hx hb hr hc0 hF hP hD hS (show bI (f_X7_settle (kQ K) (kG K) (kS K) a).2.1 = 1 from by rw [← hz9, c9]; rfl) (Nat.le_of_ble_eq_true rfl) (Nat.le_of_ble_eq_true rfl) dL_plain_125 hlocks
