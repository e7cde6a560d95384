def f_X1_judge (G : GS) (n : Nat) (x : Int32) (y : Int32) (w : Int32) : Nat := (if (smB.getD n 0) = 1 then (f_X1_judgePlayer G (x)) else (if (smB.getD n 0) = 2 then (f_X1_judgeSite G (x) (y) (w)) else (if (smB.getD n 0) = 3 then (f_X1_judgeSuit G (x) (y)) else (if (smB.getD n 0) = 4 then (f_X1_judgeTide (x)) else (if (smB.getD n 0) = 5 then (f_X1_judgeBid G (x) (y) (w)) else (if (smB.getD n 0) = 6 then (f_X1_judgeBluff G (x) (y) (w)) else (if (smB.getD n 0) = 7 then (f_X1_judgeFerry G (x) (y)) else (if (smB.getD n 0) = 8 then (f_X1_judgeDrop G (x) (y)) else (f_X1_judgeSettling G (x))))))))))
set_option maxHeartbeats 4000000 in
set_option maxRecDepth 100000 in
theorem c_X1_judge (l : Launch) (D : va_G) (C : Nat → ClassId) (ev : Nat → Nat) (a : Nat → Nat) (G : GS) (n : Nat) (x : Int32) (y : Int32) (w : Int32) (hG : GSafe G) (h_n : n < 9) : Met l yX1_judge wsX1_judge ({ frames := 5, cells := 0, slots := 0, locals := 115 } : Room) (roPE [.ref (a 0), .ref (ev (10 + n)), .int x, .int y, .int w] D C ev (gcells C a G)) (roO (some (.ref (ev (f_X1_judge G n x y w))))) 0 0 (fun _ => False) := by
  refine Met.ofW (cc := cX1_judge) (maxL := 5) (ret := (some (.object "BridgeAuction$Verdict"))) (by decide) rfl ?_
  intro p e s m args below meth c s₁ B hml hv
  obtain ⟨rfl, hP, hK, hE, hR, hX⟩ := hv
  have hx := B.exec
  have hb := B.bytes
  have hr := B.returns
  have hts := atoms_spec (ws := wsX1_judge) B.pre
  have hown : s.vm.findClass RX1 = some m.cls := findClass_of_methodNamed B.named
  have hlocks := B.notSynchronized
  have hS : va_S (fun _ => False) s.heap s.heap [] := va_S.rf
  obtain ⟨⟨hV, hB, hMV, hMB, hAL, hEk, hEa, hTX, hXZ⟩, hCS, hSF⟩ := id hX
  obtain ⟨hS12, hP4, hlo, hhi⟩ := id hG
  have hl := lv_entry ([.ref (a 0), .ref (ev (10 + n)), .int x, .int y, .int w]) (n := 5) (Nat.le_of_ble_eq_true rfl)
  rw [lg_entry_eq]
  generalize (lg_sl ([.ref (a 0), .ref (ev (10 + n)), .int x, .int y, .int w]) ++ List.replicate (5 - (lg_sl ([.ref (a 0), .ref (ev (10 + n)), .int x, .int y, .int w])).length) Slot.unset).toArray = ls at hl ⊢
  have hl : lv_has ls 5 [(0, .ref (a 0)), (1, .ref (ev (10 + n))), (2, .int x), (3, .int y), (4, .int w)] := hl
  obtain ⟨z, hz⟩ : ∃ z, z = f_X1_judge G n x y w := ⟨_, rfl⟩
  rw [← hz]
  refine va_gets (v := .ref (ev 31)) (C := "BridgeAuction$1") (n := "$SwitchMap$BridgeAuction$Verb") (d := "[I") hx hb hMB.1 hS hown (hts (.fieldLink RX1 67 "BridgeAuction$1" "$SwitchMap$BridgeAuction$Verb" "[I") (by decide +kernel)) (fun _ h9 => h9) dX1_judge_0 ?_
  refine lv_aload_n hx hb dX1_judge_3 rfl (lv_at hl 1 rfl) ?_
  refine callRo (va_runU (As := []) (rest := [.ref (ev 31)]) ⟨hx, hb, hml, hown, hts⟩ (c_ordB l D C ev n (by omega)) (va_cwU 0 hts gX1_judge_Jx29ce0_ordinal_8abf5_u72X5 rfl rfl rfl rfl (by decide +kernel) ⟨Nat.le_of_ble_eq_true rfl, Nat.le_of_ble_eq_true rfl⟩) (roPE_v (hP.sub (ws' := ([] : va_W)) [] rfl) hK hE hR hX hS (va_Orecv (hB.1 n (by show n < 9; omega)).2.1 hS)) rfl rfl hl.1 rfl (lv_room (Nat.le_of_ble_eq_true rfl)) dX1_judge_4 ⟨Nat.le_refl _, Nat.le_refl _⟩) ?_
  refine topN (k := n) rfl ?_
  refine va_ti (v := .int (smB.getD n 0)) hx hb hMB.2 hS (vp_in_nI (by omega) (by decide)) (smB_at (by omega)) dX1_judge_7 ?_
  by_cases c_8_0 : (smB.getD n 0) = 1
  · have hz := hz.trans (if_pos c_8_0)
    refine lv_tableIn (tgt := 56) hx hb dX1_judge_8 (by rw [c_8_0]; decide) (by rw [c_8_0]; decide) (by rw [c_8_0]; rfl) (by decide) ?_
    refine lv_aload_n hx hb dX1_judge_56 rfl (lv_at hl 0 rfl) ?_
    refine lv_iload_n hx hb dX1_judge_57 rfl (lv_at hl 2 rfl) ?_
    refine callRo (va_runV (As := [.int x]) (rest := []) ⟨hx, hb, hml, hown, hts⟩ (c_X1_judgePlayer l D C ev a G (x) hG) (cwV 1 hts gX1_judge_X1_judgePlayer rfl rfl rfl (by decide +kernel) ⟨Nat.le_of_ble_eq_true rfl, Nat.le_of_ble_eq_true rfl⟩) (roPE_v hP hK hE hR hX hS (va_recv hK hP (ci := 4) (q0 := 0) rfl rfl)) rfl rfl hl.1 rfl (lv_room (Nat.le_of_ble_eq_true rfl)) dX1_judge_58 ⟨Nat.le_refl _, Nat.le_refl _⟩) ?_
    exact ro_retA hx hb hr (congrArg (fun q => ev q) (show _ = (f_X1_judgePlayer G (x)) from hz)) dX1_judge_61 hlocks
  have hz := hz.trans (if_neg c_8_0)
  by_cases c_8_1 : (smB.getD n 0) = 2
  · have hz := hz.trans (if_pos c_8_1)
    refine lv_tableIn (tgt := 62) hx hb dX1_judge_8 (by rw [c_8_1]; decide) (by rw [c_8_1]; decide) (by rw [c_8_1]; rfl) (by decide) ?_
    refine lv_aload_n hx hb dX1_judge_62 rfl (lv_at hl 0 rfl) ?_
    refine lv_iload_n hx hb dX1_judge_63 rfl (lv_at hl 2 rfl) ?_
    refine lv_iload_n hx hb dX1_judge_64 rfl (lv_at hl 3 rfl) ?_
    refine lv_iload hx hb dX1_judge_65 (lv_at hl 4 rfl) ?_
    refine callRo (va_runV (As := [.int x, .int y, .int w]) (rest := []) ⟨hx, hb, hml, hown, hts⟩ (c_X1_judgeSite l D C ev a G (x) (y) (w) hG) (cwV 3 hts gX1_judge_X1_judgeSite rfl rfl rfl (by decide +kernel) ⟨Nat.le_of_ble_eq_true rfl, Nat.le_of_ble_eq_true rfl⟩) (roPE_v hP hK hE hR hX hS (va_recv hK hP (ci := 4) (q0 := 0) rfl rfl)) rfl rfl hl.1 rfl (lv_room (Nat.le_of_ble_eq_true rfl)) dX1_judge_67 ⟨Nat.le_refl _, Nat.le_refl _⟩) ?_
    exact ro_retA hx hb hr (congrArg (fun q => ev q) (show _ = (f_X1_judgeSite G (x) (y) (w)) from hz)) dX1_judge_70 hlocks
  have hz := hz.trans (if_neg c_8_1)
  by_cases c_8_2 : (smB.getD n 0) = 3
  · have hz := hz.trans (if_pos c_8_2)
    refine lv_tableIn (tgt := 71) hx hb dX1_judge_8 (by rw [c_8_2]; decide) (by rw [c_8_2]; decide) (by rw [c_8_2]; rfl) (by decide) ?_
    refine lv_aload_n hx hb dX1_judge_71 rfl (lv_at hl 0 rfl) ?_
    refine lv_iload_n hx hb dX1_judge_72 rfl (lv_at hl 2 rfl) ?_
    refine lv_iload_n hx hb dX1_judge_73 rfl (lv_at hl 3 rfl) ?_
    refine callRo (va_runV (As := [.int x, .int y]) (rest := []) ⟨hx, hb, hml, hown, hts⟩ (c_X1_judgeSuit l D C ev a G (x) (y) hG) (cwV 2 hts gX1_judge_X1_judgeSuit rfl rfl rfl (by decide +kernel) ⟨Nat.le_of_ble_eq_true rfl, Nat.le_of_ble_eq_true rfl⟩) (roPE_v hP hK hE hR hX hS (va_recv hK hP (ci := 4) (q0 := 0) rfl rfl)) rfl rfl hl.1 rfl (lv_room (Nat.le_of_ble_eq_true rfl)) dX1_judge_74 ⟨Nat.le_refl _, Nat.le_refl _⟩) ?_
    exact ro_retA hx hb hr (congrArg (fun q => ev q) (show _ = (f_X1_judgeSuit G (x) (y)) from hz)) dX1_judge_77 hlocks
  have hz := hz.trans (if_neg c_8_2)
  by_cases c_8_3 : (smB.getD n 0) = 4
  · have hz := hz.trans (if_pos c_8_3)
    refine lv_tableIn (tgt := 78) hx hb dX1_judge_8 (by rw [c_8_3]; decide) (by rw [c_8_3]; decide) (by rw [c_8_3]; rfl) (by decide) ?_
    refine lv_iload_n hx hb dX1_judge_78 rfl (lv_at hl 2 rfl) ?_
    refine callRo (va_runS (As := [.int x]) (rest := []) ⟨hx, hb, hml, hown, hts⟩ (c_X1_judgeTide l D C ev (x)) (va_cwS 1 hts gX1_judge_X1_judgeTide rfl rfl rfl (by decide +kernel) ⟨Nat.le_of_ble_eq_true rfl, Nat.le_of_ble_eq_true rfl⟩) (roPE_s (hP.sub (ws' := ([] : va_W)) [] rfl) hK hE hR hX hS) rfl rfl hl.1 rfl (lv_room (Nat.le_of_ble_eq_true rfl)) dX1_judge_79 ⟨Nat.le_refl _, Nat.le_refl _⟩) ?_
    exact ro_retA hx hb hr (congrArg (fun q => ev q) (show _ = (f_X1_judgeTide (x)) from hz)) dX1_judge_82 hlocks
  have hz := hz.trans (if_neg c_8_3)
  by_cases c_8_4 : (smB.getD n 0) = 5
  · have hz := hz.trans (if_pos c_8_4)
    refine lv_tableIn (tgt := 83) hx hb dX1_judge_8 (by rw [c_8_4]; decide) (by rw [c_8_4]; decide) (by rw [c_8_4]; rfl) (by decide) ?_
    refine lv_aload_n hx hb dX1_judge_83 rfl (lv_at hl 0 rfl) ?_
    refine lv_iload_n hx hb dX1_judge_84 rfl (lv_at hl 2 rfl) ?_
    refine lv_iload_n hx hb dX1_judge_85 rfl (lv_at hl 3 rfl) ?_
    refine lv_iload hx hb dX1_judge_86 (lv_at hl 4 rfl) ?_
    refine callRo (va_runV (As := [.int x, .int y, .int w]) (rest := []) ⟨hx, hb, hml, hown, hts⟩ (c_X1_judgeBid l D C ev a G (x) (y) (w) hG) (cwV 3 hts gX1_judge_X1_judgeBid rfl rfl rfl (by decide +kernel) ⟨Nat.le_of_ble_eq_true rfl, Nat.le_of_ble_eq_true rfl⟩) (roPE_v hP hK hE hR hX hS (va_recv hK hP (ci := 4) (q0 := 0) rfl rfl)) rfl rfl hl.1 rfl (lv_room (Nat.le_of_ble_eq_true rfl)) dX1_judge_88 ⟨Nat.le_refl _, Nat.le_refl _⟩) ?_
    exact ro_retA hx hb hr (congrArg (fun q => ev q) (show _ = (f_X1_judgeBid G (x) (y) (w)) from hz)) dX1_judge_91 hlocks
  have hz := hz.trans (if_neg c_8_4)
  by_cases c_8_5 : (smB.getD n 0) = 6
  · have hz := hz.trans (if_pos c_8_5)
    refine lv_tableIn (tgt := 92) hx hb dX1_judge_8 (by rw [c_8_5]; decide) (by rw [c_8_5]; decide) (by rw [c_8_5]; rfl) (by decide) ?_
    refine lv_aload_n hx hb dX1_judge_92 rfl (lv_at hl 0 rfl) ?_
    refine lv_iload_n hx hb dX1_judge_93 rfl (lv_at hl 2 rfl) ?_
    refine lv_iload_n hx hb dX1_judge_94 rfl (lv_at hl 3 rfl) ?_
    refine lv_iload hx hb dX1_judge_95 (lv_at hl 4 rfl) ?_
    refine callRo (va_runV (As := [.int x, .int y, .int w]) (rest := []) ⟨hx, hb, hml, hown, hts⟩ (c_X1_judgeBluff l D C ev a G (x) (y) (w) hG) (cwV 3 hts gX1_judge_X1_judgeBluff rfl rfl rfl (by decide +kernel) ⟨Nat.le_of_ble_eq_true rfl, Nat.le_of_ble_eq_true rfl⟩) (roPE_v hP hK hE hR hX hS (va_recv hK hP (ci := 4) (q0 := 0) rfl rfl)) rfl rfl hl.1 rfl (lv_room (Nat.le_of_ble_eq_true rfl)) dX1_judge_97 ⟨Nat.le_refl _, Nat.le_refl _⟩) ?_
    exact ro_retA hx hb hr (congrArg (fun q => ev q) (show _ = (f_X1_judgeBluff G (x) (y) (w)) from hz)) dX1_judge_100 hlocks
  have hz := hz.trans (if_neg c_8_5)
  by_cases c_8_6 : (smB.getD n 0) = 7
  · have hz := hz.trans (if_pos c_8_6)
    refine lv_tableIn (tgt := 101) hx hb dX1_judge_8 (by rw [c_8_6]; decide) (by rw [c_8_6]; decide) (by rw [c_8_6]; rfl) (by decide) ?_
    refine lv_aload_n hx hb dX1_judge_101 rfl (lv_at hl 0 rfl) ?_
    refine lv_iload_n hx hb dX1_judge_102 rfl (lv_at hl 2 rfl) ?_
    refine lv_iload_n hx hb dX1_judge_103 rfl (lv_at hl 3 rfl) ?_
    refine callRo (va_runV (As := [.int x, .int y]) (rest := []) ⟨hx, hb, hml, hown, hts⟩ (c_X1_judgeFerry l D C ev a G (x) (y) hG) (cwV 2 hts gX1_judge_X1_judgeFerry rfl rfl rfl (by decide +kernel) ⟨Nat.le_of_ble_eq_true rfl, Nat.le_of_ble_eq_true rfl⟩) (roPE_v hP hK hE hR hX hS (va_recv hK hP (ci := 4) (q0 := 0) rfl rfl)) rfl rfl hl.1 rfl (lv_room (Nat.le_of_ble_eq_true rfl)) dX1_judge_104 ⟨Nat.le_refl _, Nat.le_refl _⟩) ?_
    exact ro_retA hx hb hr (congrArg (fun q => ev q) (show _ = (f_X1_judgeFerry G (x) (y)) from hz)) dX1_judge_107 hlocks
  have hz := hz.trans (if_neg c_8_6)
  by_cases c_8_7 : (smB.getD n 0) = 8
  · have hz := hz.trans (if_pos c_8_7)
    refine lv_tableIn (tgt := 108) hx hb dX1_judge_8 (by rw [c_8_7]; decide) (by rw [c_8_7]; decide) (by rw [c_8_7]; rfl) (by decide) ?_
    refine lv_aload_n hx hb dX1_judge_108 rfl (lv_at hl 0 rfl) ?_
    refine lv_iload_n hx hb dX1_judge_109 rfl (lv_at hl 2 rfl) ?_
    refine lv_iload_n hx hb dX1_judge_110 rfl (lv_at hl 3 rfl) ?_
    refine callRo (va_runV (As := [.int x, .int y]) (rest := []) ⟨hx, hb, hml, hown, hts⟩ (c_X1_judgeDrop l D C ev a G (x) (y) hG) (cwV 2 hts gX1_judge_X1_judgeDrop rfl rfl rfl (by decide +kernel) ⟨Nat.le_of_ble_eq_true rfl, Nat.le_of_ble_eq_true rfl⟩) (roPE_v hP hK hE hR hX hS (va_recv hK hP (ci := 4) (q0 := 0) rfl rfl)) rfl rfl hl.1 rfl (lv_room (Nat.le_of_ble_eq_true rfl)) dX1_judge_111 ⟨Nat.le_refl _, Nat.le_refl _⟩) ?_
    exact ro_retA hx hb hr (congrArg (fun q => ev q) (show _ = (f_X1_judgeDrop G (x) (y)) from hz)) dX1_judge_114 hlocks
  have hz := hz.trans (if_neg c_8_7)
  refine lv_tableOut (tgt := 115) hx hb dX1_judge_8 (tsw_out (lo := 1) (n := 8) (by decide) (by intro i hi hi2; rcases (by omega : i = 1 ∨ i = 2 ∨ i = 3 ∨ i = 4 ∨ i = 5 ∨ i = 6 ∨ i = 7 ∨ i = 8) with rfl | rfl | rfl | rfl | rfl | rfl | rfl | rfl <;> first | exact fun h => c_8_0 (h.trans (by decide +kernel)) | exact fun h => c_8_1 (h.trans (by decide +kernel)) | exact fun h => c_8_2 (h.trans (by decide +kernel)) | exact fun h => c_8_3 (h.trans (by decide +kernel)) | exact fun h => c_8_4 (h.trans (by decide +kernel)) | exact fun h => c_8_5 (h.trans (by decide +kernel)) | exact fun h => c_8_6 (h.trans (by decide +kernel)) | exact fun h => c_8_7 (h.trans (by decide +kernel)))) (by decide) ?_
  refine lv_aload_n hx hb dX1_judge_115 rfl (lv_at hl 0 rfl) ?_
  refine lv_iload_n hx hb dX1_judge_116 rfl (lv_at hl 2 rfl) ?_
  refine callRo (va_runV (As := [.int x]) (rest := []) ⟨hx, hb, hml, hown, hts⟩ (c_X1_judgeSettling l D C ev a G (x) hG) (cwV 1 hts gX1_judge_X1_judgeSettling rfl rfl rfl (by decide +kernel) ⟨Nat.le_of_ble_eq_true rfl, Nat.le_of_ble_eq_true rfl⟩) (roPE_v hP hK hE hR hX hS (va_recv hK hP (ci := 4) (q0 := 0) rfl rfl)) rfl rfl hl.1 rfl (lv_room (Nat.le_of_ble_eq_true rfl)) dX1_judge_117 ⟨Nat.le_refl _, Nat.le_refl _⟩) ?_
  exact ro_retA hx hb hr (congrArg (fun q => ev q) (show _ = (f_X1_judgeSettling G (x)) from hz)) dX1_judge_120 hlocks

